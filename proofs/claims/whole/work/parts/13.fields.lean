/-! FIELDS and new objects of the code (by program) -/
theorem lk_X11_10 : zLk RX11 10 TX11 0 := Or.inl ⟨_, ⟨tw_1 _ (List.mem_of_getElem? (i := 235) (by decide +kernel)), by decide +kernel⟩, Or.inl rfl⟩
theorem gf_X11_10 : zGF RX11 10 26 512 true := ⟨16, 0, RX11, TX11, 7, tyX11, rfl, rfl, cls_16, by decide, lk_X11_10, by decide +kernel⟩
theorem lk_X11_19 : zLk RX11 19 TX11 1 := Or.inl ⟨_, ⟨tw_1 _ (List.mem_of_getElem? (i := 236) (by decide +kernel)), by decide +kernel⟩, Or.inl rfl⟩
theorem gf_X11_19 : zGF RX11 19 26 513 true := ⟨16, 1, RX11, TX11, 7, tyX11, rfl, rfl, cls_16, by decide, lk_X11_19, by decide +kernel⟩
theorem lk_X11_26 : zLk RX11 26 TX11 2 := Or.inl ⟨_, ⟨tw_1 _ (List.mem_of_getElem? (i := 237) (by decide +kernel)), by decide +kernel⟩, Or.inl rfl⟩
theorem gf_X11_26 : zGF RX11 26 26 514 true := ⟨16, 2, RX11, TX11, 7, tyX11, rfl, rfl, cls_16, by decide, lk_X11_26, by decide +kernel⟩
theorem lk_X11_33 : zLk RX11 33 TX11 3 := Or.inl ⟨_, ⟨tw_1 _ (List.mem_of_getElem? (i := 238) (by decide +kernel)), by decide +kernel⟩, Or.inl rfl⟩
theorem gf_X11_33 : zGF RX11 33 26 515 true := ⟨16, 3, RX11, TX11, 7, tyX11, rfl, rfl, cls_16, by decide, lk_X11_33, by decide +kernel⟩
theorem lk_X11_40 : zLk RX11 40 TX11 4 := Or.inl ⟨_, ⟨tw_1 _ (List.mem_of_getElem? (i := 239) (by decide +kernel)), by decide +kernel⟩, Or.inl rfl⟩
theorem gf_X11_40 : zGF RX11 40 26 516 true := ⟨16, 4, RX11, TX11, 7, tyX11, rfl, rfl, cls_16, by decide, lk_X11_40, by decide +kernel⟩
theorem lk_X11_49 : zLk RX11 49 TX11 5 := Or.inl ⟨_, ⟨tw_2 _ (List.mem_of_getElem? (i := 0) (by decide +kernel)), by decide +kernel⟩, Or.inl rfl⟩
theorem gf_X11_49 : zGF RX11 49 26 517 true := ⟨16, 5, RX11, TX11, 7, tyX11, rfl, rfl, cls_16, by decide, lk_X11_49, by decide +kernel⟩
theorem lk_X11_56 : zLk RX11 56 TX11 6 := Or.inl ⟨_, ⟨tw_2 _ (List.mem_of_getElem? (i := 1) (by decide +kernel)), by decide +kernel⟩, Or.inl rfl⟩
theorem gf_X11_56 : zGF RX11 56 26 518 true := ⟨16, 6, RX11, TX11, 7, tyX11, rfl, rfl, cls_16, by decide, lk_X11_56, by decide +kernel⟩
theorem lk_X11_75 : zLk RX11 75 TX7 0 := Or.inl ⟨_, ⟨tw_1 _ (List.mem_of_getElem? (i := 89) (by decide +kernel)), by decide +kernel⟩, Or.inl rfl⟩
theorem gf_X11_75 : zGF RX11 75 22 384 true := ⟨12, 0, RX7, TX7, 2, tyX7, rfl, rfl, cls_12, by decide, lk_X11_75, by decide +kernel⟩
theorem lk_X11_107 : zLk RX11 107 TX6 3 := Or.inl ⟨_, ⟨tw_3 _ (List.mem_of_getElem? (i := 18) (by decide +kernel)), by decide +kernel⟩, Or.inl rfl⟩
theorem gf_X11_107 : zGF RX11 107 21 355 true := ⟨11, 3, RX6, TX6, 8, tyX6, rfl, rfl, cls_11, by decide, lk_X11_107, by decide +kernel⟩
theorem lk_X11_115 : zLk RX11 115 TX7 1 := Or.inl ⟨_, ⟨tw_1 _ (List.mem_of_getElem? (i := 92) (by decide +kernel)), by decide +kernel⟩, Or.inl rfl⟩
theorem gf_X11_115 : zGF RX11 115 22 385 true := ⟨12, 1, RX7, TX7, 2, tyX7, rfl, rfl, cls_12, by decide, lk_X11_115, by decide +kernel⟩
theorem lk_X11_128 : zLk RX11 128 TX0 5 := Or.inl ⟨_, ⟨tw_3 _ (List.mem_of_getElem? (i := 204) (by decide +kernel)), by decide +kernel⟩, Or.inl rfl⟩
theorem gf_X11_128 : zGF RX11 128 15 165 false := ⟨5, 5, RX0, TX0, 9, tyX0, rfl, rfl, cls_5, by decide, lk_X11_128, by decide +kernel⟩
theorem lk_X11_132 : zLk RX11 132 TX0 6 := Or.inl ⟨_, ⟨tw_3 _ (List.mem_of_getElem? (i := 207) (by decide +kernel)), by decide +kernel⟩, Or.inl rfl⟩
theorem gf_X11_132 : zGF RX11 132 15 166 false := ⟨5, 6, RX0, TX0, 9, tyX0, rfl, rfl, cls_5, by decide, lk_X11_132, by decide +kernel⟩
theorem lk_X11_173 : zLk RX11 173 TX5 3 := Or.inl ⟨_, ⟨tw_1 _ (List.mem_of_getElem? (i := 125) (by decide +kernel)), by decide +kernel⟩, Or.inl rfl⟩
theorem gf_X11_173 : zGF RX11 173 20 323 false := ⟨10, 3, RX5, TX5, 6, tyX5, rfl, rfl, cls_10, by decide, lk_X11_173, by decide +kernel⟩
theorem lk_X11_175 : zLk RX11 175 TX5 4 := Or.inl ⟨_, ⟨tw_1 _ (List.mem_of_getElem? (i := 127) (by decide +kernel)), by decide +kernel⟩, Or.inl rfl⟩
theorem gf_X11_175 : zGF RX11 175 20 324 false := ⟨10, 4, RX5, TX5, 6, tyX5, rfl, rfl, cls_10, by decide, lk_X11_175, by decide +kernel⟩
theorem lk_X11_180 : zLk RX11 180 TX5 0 := Or.inl ⟨_, ⟨tw_1 _ (List.mem_of_getElem? (i := 121) (by decide +kernel)), by decide +kernel⟩, Or.inl rfl⟩
theorem gf_X11_180 : zGF RX11 180 20 320 true := ⟨10, 0, RX5, TX5, 6, tyX5, rfl, rfl, cls_10, by decide, lk_X11_180, by decide +kernel⟩
theorem lk_X11_184 : zLk RX11 184 TX5 5 := Or.inl ⟨_, ⟨tw_1 _ (List.mem_of_getElem? (i := 129) (by decide +kernel)), by decide +kernel⟩, Or.inl rfl⟩
theorem gf_X11_184 : zGF RX11 184 20 325 false := ⟨10, 5, RX5, TX5, 6, tyX5, rfl, rfl, cls_10, by decide, lk_X11_184, by decide +kernel⟩
theorem lk_X11_190 : zLk RX11 190 TX6 4 := Or.inl ⟨_, ⟨tw_3 _ (List.mem_of_getElem? (i := 21) (by decide +kernel)), by decide +kernel⟩, Or.inl rfl⟩
theorem gf_X11_190 : zGF RX11 190 21 356 true := ⟨11, 4, RX6, TX6, 8, tyX6, rfl, rfl, cls_11, by decide, lk_X11_190, by decide +kernel⟩
theorem lk_X11_226 : zLk RX11 226 TX8 0 := Or.inl ⟨_, ⟨tw_4 _ (List.mem_of_getElem? (i := 119) (by decide +kernel)), by decide +kernel⟩, Or.inl rfl⟩
theorem gf_X11_226 : zGF RX11 226 23 416 true := ⟨13, 0, RX8, TX8, 9, tyX8, rfl, rfl, cls_13, by decide, lk_X11_226, by decide +kernel⟩
theorem lk_X11_230 : zLk RX11 230 TX0 0 := Or.inl ⟨_, ⟨tw_3 _ (List.mem_of_getElem? (i := 192) (by decide +kernel)), by decide +kernel⟩, Or.inl rfl⟩
theorem gf_X11_230 : zGF RX11 230 15 160 false := ⟨5, 0, RX0, TX0, 9, tyX0, rfl, rfl, cls_5, by decide, lk_X11_230, by decide +kernel⟩
theorem lk_X11_236 : zLk RX11 236 TX10 0 := Or.inl ⟨_, ⟨tw_1 _ (List.mem_of_getElem? (i := 150) (by decide +kernel)), by decide +kernel⟩, Or.inl rfl⟩
theorem gf_X11_236 : zGF RX11 236 25 480 false := ⟨15, 0, RX10, TX10, 3, tyX10, rfl, rfl, cls_15, by decide, lk_X11_236, by decide +kernel⟩
theorem lk_X11_239 : zLk RX11 239 TX10 1 := Or.inl ⟨_, ⟨tw_1 _ (List.mem_of_getElem? (i := 152) (by decide +kernel)), by decide +kernel⟩, Or.inl rfl⟩
theorem gf_X11_239 : zGF RX11 239 25 481 false := ⟨15, 1, RX10, TX10, 3, tyX10, rfl, rfl, cls_15, by decide, lk_X11_239, by decide +kernel⟩
theorem lk_X11_242 : zLk RX11 242 TX10 2 := Or.inl ⟨_, ⟨tw_1 _ (List.mem_of_getElem? (i := 154) (by decide +kernel)), by decide +kernel⟩, Or.inl rfl⟩
theorem gf_X11_242 : zGF RX11 242 25 482 false := ⟨15, 2, RX10, TX10, 3, tyX10, rfl, rfl, cls_15, by decide, lk_X11_242, by decide +kernel⟩
theorem lk_X11_245 : zLk RX11 245 TX4 0 := Or.inl ⟨_, ⟨tw_1 _ (List.mem_of_getElem? (i := 170) (by decide +kernel)), by decide +kernel⟩, Or.inl rfl⟩
theorem gf_X11_245 : zGF RX11 245 19 288 false := ⟨9, 0, RX4, TX4, 2, tyX4, rfl, rfl, cls_9, by decide, lk_X11_245, by decide +kernel⟩
theorem lk_X11_248 : zLk RX11 248 TX4 1 := Or.inl ⟨_, ⟨tw_1 _ (List.mem_of_getElem? (i := 172) (by decide +kernel)), by decide +kernel⟩, Or.inl rfl⟩
theorem gf_X11_248 : zGF RX11 248 19 289 false := ⟨9, 1, RX4, TX4, 2, tyX4, rfl, rfl, cls_9, by decide, lk_X11_248, by decide +kernel⟩
theorem lk_X11_251 : zLk RX11 251 TX2 3 := Or.inl ⟨_, ⟨tw_1 _ (List.mem_of_getElem? (i := 190) (by decide +kernel)), by decide +kernel⟩, Or.inl rfl⟩
theorem gf_X11_251 : zGF RX11 251 17 227 true := ⟨7, 3, RX2, TX2, 9, tyX2, rfl, rfl, cls_7, by decide, lk_X11_251, by decide +kernel⟩
theorem lk_X11_268 : zLk RX11 268 TX2 6 := Or.inl ⟨_, ⟨tw_1 _ (List.mem_of_getElem? (i := 196) (by decide +kernel)), by decide +kernel⟩, Or.inl rfl⟩
theorem gf_X11_268 : zGF RX11 268 17 230 false := ⟨7, 6, RX2, TX2, 9, tyX2, rfl, rfl, cls_7, by decide, lk_X11_268, by decide +kernel⟩
theorem lk_X11_285 : zLk RX11 285 TX8 8 := Or.inl ⟨_, ⟨tw_4 _ (List.mem_of_getElem? (i := 136) (by decide +kernel)), by decide +kernel⟩, Or.inl rfl⟩
theorem gf_X11_285 : zGF RX11 285 23 424 false := ⟨13, 8, RX8, TX8, 9, tyX8, rfl, rfl, cls_13, by decide, lk_X11_285, by decide +kernel⟩
theorem lk_X11_291 : zLk RX11 291 TX9 2 := Or.inl ⟨_, ⟨tw_5 _ (List.mem_of_getElem? (i := 3) (by decide +kernel)), by decide +kernel⟩, Or.inl rfl⟩
theorem gf_X11_291 : zGF RX11 291 24 450 false := ⟨14, 2, RX9, TX9, 4, tyX9, rfl, rfl, cls_14, by decide, lk_X11_291, by decide +kernel⟩
theorem lk_X11_295 : zLk RX11 295 TX9 3 := Or.inl ⟨_, ⟨tw_5 _ (List.mem_of_getElem? (i := 6) (by decide +kernel)), by decide +kernel⟩, Or.inl rfl⟩
theorem gf_X11_295 : zGF RX11 295 24 451 false := ⟨14, 3, RX9, TX9, 4, tyX9, rfl, rfl, cls_14, by decide, lk_X11_295, by decide +kernel⟩
theorem lk_X11_298 : zLk RX11 298 TX0 7 := Or.inl ⟨_, ⟨tw_3 _ (List.mem_of_getElem? (i := 210) (by decide +kernel)), by decide +kernel⟩, Or.inl rfl⟩
theorem gf_X11_298 : zGF RX11 298 15 167 false := ⟨5, 7, RX0, TX0, 9, tyX0, rfl, rfl, cls_5, by decide, lk_X11_298, by decide +kernel⟩
theorem lk_X11_301 : zLk RX11 301 TX2 8 := Or.inl ⟨_, ⟨tw_1 _ (List.mem_of_getElem? (i := 200) (by decide +kernel)), by decide +kernel⟩, Or.inl rfl⟩
theorem gf_X11_301 : zGF RX11 301 17 232 false := ⟨7, 8, RX2, TX2, 9, tyX2, rfl, rfl, cls_7, by decide, lk_X11_301, by decide +kernel⟩
theorem lk_X11_313 : zLk RX11 313 TX2 5 := Or.inl ⟨_, ⟨tw_1 _ (List.mem_of_getElem? (i := 194) (by decide +kernel)), by decide +kernel⟩, Or.inl rfl⟩
theorem gf_X11_313 : zGF RX11 313 17 229 false := ⟨7, 5, RX2, TX2, 9, tyX2, rfl, rfl, cls_7, by decide, lk_X11_313, by decide +kernel⟩
theorem lk_X11_314 : zLk RX11 314 TX3 1 := Or.inl ⟨_, ⟨tw_1 _ (List.mem_of_getElem? (i := 229) (by decide +kernel)), by decide +kernel⟩, Or.inl rfl⟩
theorem gf_X11_314 : zGF RX11 314 18 257 false := ⟨8, 1, RX3, TX3, 2, tyX3, rfl, rfl, cls_8, by decide, lk_X11_314, by decide +kernel⟩
theorem lk_X11_317 : zLk RX11 317 TX3 0 := Or.inl ⟨_, ⟨tw_1 _ (List.mem_of_getElem? (i := 227) (by decide +kernel)), by decide +kernel⟩, Or.inl rfl⟩
theorem gf_X11_317 : zGF RX11 317 18 256 true := ⟨8, 0, RX3, TX3, 2, tyX3, rfl, rfl, cls_8, by decide, lk_X11_317, by decide +kernel⟩
theorem lk_X11_323 : zLk RX11 323 TX6 0 := Or.inl ⟨_, ⟨tw_3 _ (List.mem_of_getElem? (i := 12) (by decide +kernel)), by decide +kernel⟩, Or.inl rfl⟩
theorem gf_X11_323 : zGF RX11 323 21 352 false := ⟨11, 0, RX6, TX6, 8, tyX6, rfl, rfl, cls_11, by decide, lk_X11_323, by decide +kernel⟩
theorem lk_X11_342 : zLk RX11 342 TX2 7 := Or.inl ⟨_, ⟨tw_1 _ (List.mem_of_getElem? (i := 198) (by decide +kernel)), by decide +kernel⟩, Or.inl rfl⟩
theorem gf_X11_342 : zGF RX11 342 17 231 false := ⟨7, 7, RX2, TX2, 9, tyX2, rfl, rfl, cls_7, by decide, lk_X11_342, by decide +kernel⟩
theorem lk_X11_368 : zLk RX11 368 TX2 4 := Or.inl ⟨_, ⟨tw_1 _ (List.mem_of_getElem? (i := 192) (by decide +kernel)), by decide +kernel⟩, Or.inl rfl⟩
theorem gf_X11_368 : zGF RX11 368 17 228 false := ⟨7, 4, RX2, TX2, 9, tyX2, rfl, rfl, cls_7, by decide, lk_X11_368, by decide +kernel⟩
theorem lk_X11_375 : zLk RX11 375 TX8 7 := Or.inl ⟨_, ⟨tw_4 _ (List.mem_of_getElem? (i := 134) (by decide +kernel)), by decide +kernel⟩, Or.inl rfl⟩
theorem gf_X11_375 : zGF RX11 375 23 423 false := ⟨13, 7, RX8, TX8, 9, tyX8, rfl, rfl, cls_13, by decide, lk_X11_375, by decide +kernel⟩
theorem lk_X11_385 : zLk RX11 385 TX1 0 := Or.inl ⟨_, ⟨tw_1 _ (List.mem_of_getElem? (i := 106) (by decide +kernel)), by decide +kernel⟩, Or.inl rfl⟩
theorem gf_X11_385 : zGF RX11 385 16 192 true := ⟨6, 0, RX1, TX1, 2, tyX1, rfl, rfl, cls_6, by decide, lk_X11_385, by decide +kernel⟩
theorem lk_X0_7 : zLk RX0 7 TX0 0 := Or.inl ⟨_, ⟨tw_3 _ (List.mem_of_getElem? (i := 190) (by decide +kernel)), by decide +kernel⟩, Or.inl rfl⟩
theorem gf_X0_7 : zGF RX0 7 15 160 false := ⟨5, 0, RX0, TX0, 9, tyX0, rfl, rfl, cls_5, by decide, lk_X0_7, by decide +kernel⟩
theorem lk_X0_13 : zLk RX0 13 TX0 1 := Or.inl ⟨_, ⟨tw_3 _ (List.mem_of_getElem? (i := 193) (by decide +kernel)), by decide +kernel⟩, Or.inl rfl⟩
theorem gf_X0_13 : zGF RX0 13 15 161 false := ⟨5, 1, RX0, TX0, 9, tyX0, rfl, rfl, cls_5, by decide, lk_X0_13, by decide +kernel⟩
theorem lk_X0_16 : zLk RX0 16 TX0 2 := Or.inl ⟨_, ⟨tw_3 _ (List.mem_of_getElem? (i := 195) (by decide +kernel)), by decide +kernel⟩, Or.inl rfl⟩
theorem gf_X0_16 : zGF RX0 16 15 162 false := ⟨5, 2, RX0, TX0, 9, tyX0, rfl, rfl, cls_5, by decide, lk_X0_16, by decide +kernel⟩
theorem lk_X0_19 : zLk RX0 19 TX0 3 := Or.inl ⟨_, ⟨tw_3 _ (List.mem_of_getElem? (i := 199) (by decide +kernel)), by decide +kernel⟩, Or.inl rfl⟩
theorem gf_X0_19 : zGF RX0 19 15 163 false := ⟨5, 3, RX0, TX0, 9, tyX0, rfl, rfl, cls_5, by decide, lk_X0_19, by decide +kernel⟩
theorem lk_X0_22 : zLk RX0 22 TX0 5 := Or.inl ⟨_, ⟨tw_3 _ (List.mem_of_getElem? (i := 203) (by decide +kernel)), by decide +kernel⟩, Or.inl rfl⟩
theorem gf_X0_22 : zGF RX0 22 15 165 false := ⟨5, 5, RX0, TX0, 9, tyX0, rfl, rfl, cls_5, by decide, lk_X0_22, by decide +kernel⟩
theorem lk_X0_25 : zLk RX0 25 TX0 4 := Or.inl ⟨_, ⟨tw_3 _ (List.mem_of_getElem? (i := 202) (by decide +kernel)), by decide +kernel⟩, Or.inl rfl⟩
theorem gf_X0_25 : zGF RX0 25 15 164 false := ⟨5, 4, RX0, TX0, 9, tyX0, rfl, rfl, cls_5, by decide, lk_X0_25, by decide +kernel⟩
theorem lk_X0_29 : zLk RX0 29 TX0 8 := Or.inl ⟨_, ⟨tw_3 _ (List.mem_of_getElem? (i := 211) (by decide +kernel)), by decide +kernel⟩, Or.inl rfl⟩
theorem gf_X0_29 : zGF RX0 29 15 168 false := ⟨5, 8, RX0, TX0, 9, tyX0, rfl, rfl, cls_5, by decide, lk_X0_29, by decide +kernel⟩
theorem lk_X0_32 : zLk RX0 32 TX0 6 := Or.inl ⟨_, ⟨tw_3 _ (List.mem_of_getElem? (i := 206) (by decide +kernel)), by decide +kernel⟩, Or.inl rfl⟩
theorem gf_X0_32 : zGF RX0 32 15 166 false := ⟨5, 6, RX0, TX0, 9, tyX0, rfl, rfl, cls_5, by decide, lk_X0_32, by decide +kernel⟩
theorem lk_X1_9 : zLk RX1 9 TX1 0 := Or.inl ⟨_, ⟨tw_1 _ (List.mem_of_getElem? (i := 104) (by decide +kernel)), by decide +kernel⟩, Or.inl rfl⟩
theorem gf_X1_9 : zGF RX1 9 16 192 true := ⟨6, 0, RX1, TX1, 2, tyX1, rfl, rfl, cls_6, by decide, lk_X1_9, by decide +kernel⟩
theorem lk_X1_15 : zLk RX1 15 TX1 1 := Or.inl ⟨_, ⟨tw_1 _ (List.mem_of_getElem? (i := 107) (by decide +kernel)), by decide +kernel⟩, Or.inl rfl⟩
theorem gf_X1_15 : zGF RX1 15 16 193 true := ⟨6, 1, RX1, TX1, 2, tyX1, rfl, rfl, cls_6, by decide, lk_X1_15, by decide +kernel⟩
theorem lk_X2_9 : zLk RX2 9 TX2 0 := Or.inl ⟨_, ⟨tw_1 _ (List.mem_of_getElem? (i := 186) (by decide +kernel)), by decide +kernel⟩, Or.inl rfl⟩
theorem gf_X2_9 : zGF RX2 9 17 224 true := ⟨7, 0, RX2, TX2, 9, tyX2, rfl, rfl, cls_7, by decide, lk_X2_9, by decide +kernel⟩
theorem lk_X2_15 : zLk RX2 15 TX2 1 := Or.inl ⟨_, ⟨tw_1 _ (List.mem_of_getElem? (i := 187) (by decide +kernel)), by decide +kernel⟩, Or.inl rfl⟩
theorem gf_X2_15 : zGF RX2 15 17 225 true := ⟨7, 1, RX2, TX2, 9, tyX2, rfl, rfl, cls_7, by decide, lk_X2_15, by decide +kernel⟩
theorem lk_X2_19 : zLk RX2 19 TX2 2 := Or.inl ⟨_, ⟨tw_1 _ (List.mem_of_getElem? (i := 188) (by decide +kernel)), by decide +kernel⟩, Or.inl rfl⟩
theorem gf_X2_19 : zGF RX2 19 17 226 true := ⟨7, 2, RX2, TX2, 9, tyX2, rfl, rfl, cls_7, by decide, lk_X2_19, by decide +kernel⟩
theorem lk_X2_26 : zLk RX2 26 TX2 3 := Or.inl ⟨_, ⟨tw_1 _ (List.mem_of_getElem? (i := 189) (by decide +kernel)), by decide +kernel⟩, Or.inl rfl⟩
theorem gf_X2_26 : zGF RX2 26 17 227 true := ⟨7, 3, RX2, TX2, 9, tyX2, rfl, rfl, cls_7, by decide, lk_X2_26, by decide +kernel⟩
theorem lk_X2_33 : zLk RX2 33 TX2 4 := Or.inl ⟨_, ⟨tw_1 _ (List.mem_of_getElem? (i := 191) (by decide +kernel)), by decide +kernel⟩, Or.inl rfl⟩
theorem gf_X2_33 : zGF RX2 33 17 228 false := ⟨7, 4, RX2, TX2, 9, tyX2, rfl, rfl, cls_7, by decide, lk_X2_33, by decide +kernel⟩
theorem lk_X2_37 : zLk RX2 37 TX2 6 := Or.inl ⟨_, ⟨tw_1 _ (List.mem_of_getElem? (i := 195) (by decide +kernel)), by decide +kernel⟩, Or.inl rfl⟩
theorem gf_X2_37 : zGF RX2 37 17 230 false := ⟨7, 6, RX2, TX2, 9, tyX2, rfl, rfl, cls_7, by decide, lk_X2_37, by decide +kernel⟩
theorem lk_X2_41 : zLk RX2 41 TX2 5 := Or.inl ⟨_, ⟨tw_1 _ (List.mem_of_getElem? (i := 193) (by decide +kernel)), by decide +kernel⟩, Or.inl rfl⟩
theorem gf_X2_41 : zGF RX2 41 17 229 false := ⟨7, 5, RX2, TX2, 9, tyX2, rfl, rfl, cls_7, by decide, lk_X2_41, by decide +kernel⟩
theorem lk_X2_73 : zLk RX2 73 TX9 0 := Or.inl ⟨_, ⟨tw_4 _ (List.mem_of_getElem? (i := 239) (by decide +kernel)), by decide +kernel⟩, Or.inl rfl⟩
theorem gf_X2_73 : zGF RX2 73 24 448 true := ⟨14, 0, RX9, TX9, 4, tyX9, rfl, rfl, cls_14, by decide, lk_X2_73, by decide +kernel⟩
theorem lk_X2_77 : zLk RX2 77 TX6 7 := Or.inl ⟨_, ⟨tw_3 _ (List.mem_of_getElem? (i := 24) (by decide +kernel)), by decide +kernel⟩, Or.inl rfl⟩
theorem gf_X2_77 : zGF RX2 77 21 359 true := ⟨11, 7, RX6, TX6, 8, tyX6, rfl, rfl, cls_11, by decide, lk_X2_77, by decide +kernel⟩
theorem lk_X2_83 : zLk RX2 83 TX9 1 := Or.inl ⟨_, ⟨tw_5 _ (List.mem_of_getElem? (i := 1) (by decide +kernel)), by decide +kernel⟩, Or.inl rfl⟩
theorem gf_X2_83 : zGF RX2 83 24 449 false := ⟨14, 1, RX9, TX9, 4, tyX9, rfl, rfl, cls_14, by decide, lk_X2_83, by decide +kernel⟩
theorem lk_X2_86 : zLk RX2 86 TX8 0 := Or.inl ⟨_, ⟨tw_4 _ (List.mem_of_getElem? (i := 116) (by decide +kernel)), by decide +kernel⟩, Or.inl rfl⟩
theorem gf_X2_86 : zGF RX2 86 23 416 true := ⟨13, 0, RX8, TX8, 9, tyX8, rfl, rfl, cls_13, by decide, lk_X2_86, by decide +kernel⟩
theorem lk_X2_105 : zLk RX2 105 TX0 2 := Or.inl ⟨_, ⟨tw_3 _ (List.mem_of_getElem? (i := 197) (by decide +kernel)), by decide +kernel⟩, Or.inl rfl⟩
theorem gf_X2_105 : zGF RX2 105 15 162 false := ⟨5, 2, RX0, TX0, 9, tyX0, rfl, rfl, cls_5, by decide, lk_X2_105, by decide +kernel⟩
theorem lk_X2_108 : zLk RX2 108 TX6 1 := Or.inl ⟨_, ⟨tw_3 _ (List.mem_of_getElem? (i := 14) (by decide +kernel)), by decide +kernel⟩, Or.inl rfl⟩
theorem gf_X2_108 : zGF RX2 108 21 353 false := ⟨11, 1, RX6, TX6, 8, tyX6, rfl, rfl, cls_11, by decide, lk_X2_108, by decide +kernel⟩
theorem lk_X2_111 : zLk RX2 111 TX4 0 := Or.inl ⟨_, ⟨tw_1 _ (List.mem_of_getElem? (i := 169) (by decide +kernel)), by decide +kernel⟩, Or.inl rfl⟩
theorem gf_X2_111 : zGF RX2 111 19 288 false := ⟨9, 0, RX4, TX4, 2, tyX4, rfl, rfl, cls_9, by decide, lk_X2_111, by decide +kernel⟩
theorem lk_X2_116 : zLk RX2 116 TX4 1 := Or.inl ⟨_, ⟨tw_1 _ (List.mem_of_getElem? (i := 171) (by decide +kernel)), by decide +kernel⟩, Or.inl rfl⟩
theorem gf_X2_116 : zGF RX2 116 19 289 false := ⟨9, 1, RX4, TX4, 2, tyX4, rfl, rfl, cls_9, by decide, lk_X2_116, by decide +kernel⟩
theorem lk_X2_123 : zLk RX2 123 TX0 7 := Or.inl ⟨_, ⟨tw_3 _ (List.mem_of_getElem? (i := 208) (by decide +kernel)), by decide +kernel⟩, Or.inl rfl⟩
theorem gf_X2_123 : zGF RX2 123 15 167 false := ⟨5, 7, RX0, TX0, 9, tyX0, rfl, rfl, cls_5, by decide, lk_X2_123, by decide +kernel⟩
theorem lk_X2_126 : zLk RX2 126 TX9 3 := Or.inl ⟨_, ⟨tw_5 _ (List.mem_of_getElem? (i := 5) (by decide +kernel)), by decide +kernel⟩, Or.inl rfl⟩
theorem gf_X2_126 : zGF RX2 126 24 451 false := ⟨14, 3, RX9, TX9, 4, tyX9, rfl, rfl, cls_14, by decide, lk_X2_126, by decide +kernel⟩
theorem lk_X2_129 : zLk RX2 129 TX2 8 := Or.inl ⟨_, ⟨tw_1 _ (List.mem_of_getElem? (i := 199) (by decide +kernel)), by decide +kernel⟩, Or.inl rfl⟩
theorem gf_X2_129 : zGF RX2 129 17 232 false := ⟨7, 8, RX2, TX2, 9, tyX2, rfl, rfl, cls_7, by decide, lk_X2_129, by decide +kernel⟩
theorem lk_X2_132 : zLk RX2 132 TX7 0 := Or.inl ⟨_, ⟨tw_1 _ (List.mem_of_getElem? (i := 90) (by decide +kernel)), by decide +kernel⟩, Or.inl rfl⟩
theorem gf_X2_132 : zGF RX2 132 22 384 true := ⟨12, 0, RX7, TX7, 2, tyX7, rfl, rfl, cls_12, by decide, lk_X2_132, by decide +kernel⟩
theorem lk_X2_149 : zLk RX2 149 TX6 2 := Or.inl ⟨_, ⟨tw_3 _ (List.mem_of_getElem? (i := 16) (by decide +kernel)), by decide +kernel⟩, Or.inl rfl⟩
theorem gf_X2_149 : zGF RX2 149 21 354 false := ⟨11, 2, RX6, TX6, 8, tyX6, rfl, rfl, cls_11, by decide, lk_X2_149, by decide +kernel⟩
theorem lk_X2_156 : zLk RX2 156 TX0 3 := Or.inl ⟨_, ⟨tw_3 _ (List.mem_of_getElem? (i := 201) (by decide +kernel)), by decide +kernel⟩, Or.inl rfl⟩
theorem gf_X2_156 : zGF RX2 156 15 163 false := ⟨5, 3, RX0, TX0, 9, tyX0, rfl, rfl, cls_5, by decide, lk_X2_156, by decide +kernel⟩
theorem lk_X2_159 : zLk RX2 159 TX8 3 := Or.inl ⟨_, ⟨tw_4 _ (List.mem_of_getElem? (i := 126) (by decide +kernel)), by decide +kernel⟩, Or.inl rfl⟩
theorem gf_X2_159 : zGF RX2 159 23 419 false := ⟨13, 3, RX8, TX8, 9, tyX8, rfl, rfl, cls_13, by decide, lk_X2_159, by decide +kernel⟩
theorem lk_X2_172 : zLk RX2 172 TX10 2 := Or.inl ⟨_, ⟨tw_1 _ (List.mem_of_getElem? (i := 153) (by decide +kernel)), by decide +kernel⟩, Or.inl rfl⟩
theorem gf_X2_172 : zGF RX2 172 25 482 false := ⟨15, 2, RX10, TX10, 3, tyX10, rfl, rfl, cls_15, by decide, lk_X2_172, by decide +kernel⟩
theorem lk_X2_175 : zLk RX2 175 TX8 6 := Or.inl ⟨_, ⟨tw_4 _ (List.mem_of_getElem? (i := 130) (by decide +kernel)), by decide +kernel⟩, Or.inl rfl⟩
theorem gf_X2_175 : zGF RX2 175 23 422 false := ⟨13, 6, RX8, TX8, 9, tyX8, rfl, rfl, cls_13, by decide, lk_X2_175, by decide +kernel⟩
theorem lk_X2_188 : zLk RX2 188 TX8 2 := Or.inl ⟨_, ⟨tw_4 _ (List.mem_of_getElem? (i := 124) (by decide +kernel)), by decide +kernel⟩, Or.inl rfl⟩
theorem gf_X2_188 : zGF RX2 188 23 418 false := ⟨13, 2, RX8, TX8, 9, tyX8, rfl, rfl, cls_13, by decide, lk_X2_188, by decide +kernel⟩
theorem lk_X2_195 : zLk RX2 195 TX8 5 := Or.inl ⟨_, ⟨tw_4 _ (List.mem_of_getElem? (i := 129) (by decide +kernel)), by decide +kernel⟩, Or.inl rfl⟩
theorem gf_X2_195 : zGF RX2 195 23 421 false := ⟨13, 5, RX8, TX8, 9, tyX8, rfl, rfl, cls_13, by decide, lk_X2_195, by decide +kernel⟩
theorem lk_X2_200 : zLk RX2 200 TX2 7 := Or.inl ⟨_, ⟨tw_1 _ (List.mem_of_getElem? (i := 197) (by decide +kernel)), by decide +kernel⟩, Or.inl rfl⟩
theorem gf_X2_200 : zGF RX2 200 17 231 false := ⟨7, 7, RX2, TX2, 9, tyX2, rfl, rfl, cls_7, by decide, lk_X2_200, by decide +kernel⟩
theorem lk_X3_9 : zLk RX3 9 TX3 0 := Or.inl ⟨_, ⟨tw_1 _ (List.mem_of_getElem? (i := 226) (by decide +kernel)), by decide +kernel⟩, Or.inl rfl⟩
theorem gf_X3_9 : zGF RX3 9 18 256 true := ⟨8, 0, RX3, TX3, 2, tyX3, rfl, rfl, cls_8, by decide, lk_X3_9, by decide +kernel⟩
theorem lk_X3_21 : zLk RX3 21 TX3 1 := Or.inl ⟨_, ⟨tw_1 _ (List.mem_of_getElem? (i := 228) (by decide +kernel)), by decide +kernel⟩, Or.inl rfl⟩
theorem gf_X3_21 : zGF RX3 21 18 257 false := ⟨8, 1, RX3, TX3, 2, tyX3, rfl, rfl, cls_8, by decide, lk_X3_21, by decide +kernel⟩
theorem lk_X4_9 : zLk RX4 9 TX4 0 := Or.inl ⟨_, ⟨tw_1 _ (List.mem_of_getElem? (i := 168) (by decide +kernel)), by decide +kernel⟩, Or.inl rfl⟩
theorem gf_X4_9 : zGF RX4 9 19 288 false := ⟨9, 0, RX4, TX4, 2, tyX4, rfl, rfl, cls_9, by decide, lk_X4_9, by decide +kernel⟩
theorem lk_X5_9 : zLk RX5 9 TX5 0 := Or.inl ⟨_, ⟨tw_1 _ (List.mem_of_getElem? (i := 120) (by decide +kernel)), by decide +kernel⟩, Or.inl rfl⟩
theorem gf_X5_9 : zGF RX5 9 20 320 true := ⟨10, 0, RX5, TX5, 6, tyX5, rfl, rfl, cls_10, by decide, lk_X5_9, by decide +kernel⟩
theorem lk_X5_15 : zLk RX5 15 TX5 1 := Or.inl ⟨_, ⟨tw_1 _ (List.mem_of_getElem? (i := 122) (by decide +kernel)), by decide +kernel⟩, Or.inl rfl⟩
theorem gf_X5_15 : zGF RX5 15 20 321 true := ⟨10, 1, RX5, TX5, 6, tyX5, rfl, rfl, cls_10, by decide, lk_X5_15, by decide +kernel⟩
theorem lk_X5_18 : zLk RX5 18 TX5 2 := Or.inl ⟨_, ⟨tw_1 _ (List.mem_of_getElem? (i := 123) (by decide +kernel)), by decide +kernel⟩, Or.inl rfl⟩
theorem gf_X5_18 : zGF RX5 18 20 322 true := ⟨10, 2, RX5, TX5, 6, tyX5, rfl, rfl, cls_10, by decide, lk_X5_18, by decide +kernel⟩
theorem lk_X5_21 : zLk RX5 21 TX5 5 := Or.inl ⟨_, ⟨tw_1 _ (List.mem_of_getElem? (i := 128) (by decide +kernel)), by decide +kernel⟩, Or.inl rfl⟩
theorem gf_X5_21 : zGF RX5 21 20 325 false := ⟨10, 5, RX5, TX5, 6, tyX5, rfl, rfl, cls_10, by decide, lk_X5_21, by decide +kernel⟩
theorem lk_X5_25 : zLk RX5 25 TX1 0 := Or.inl ⟨_, ⟨tw_1 _ (List.mem_of_getElem? (i := 105) (by decide +kernel)), by decide +kernel⟩, Or.inl rfl⟩
theorem gf_X5_25 : zGF RX5 25 16 192 true := ⟨6, 0, RX1, TX1, 2, tyX1, rfl, rfl, cls_6, by decide, lk_X5_25, by decide +kernel⟩
theorem lk_X5_40 : zLk RX5 40 TX5 3 := Or.inl ⟨_, ⟨tw_1 _ (List.mem_of_getElem? (i := 124) (by decide +kernel)), by decide +kernel⟩, Or.inl rfl⟩
theorem gf_X5_40 : zGF RX5 40 20 323 false := ⟨10, 3, RX5, TX5, 6, tyX5, rfl, rfl, cls_10, by decide, lk_X5_40, by decide +kernel⟩
theorem lk_X5_43 : zLk RX5 43 TX5 4 := Or.inl ⟨_, ⟨tw_1 _ (List.mem_of_getElem? (i := 126) (by decide +kernel)), by decide +kernel⟩, Or.inl rfl⟩
theorem gf_X5_43 : zGF RX5 43 20 324 false := ⟨10, 4, RX5, TX5, 6, tyX5, rfl, rfl, cls_10, by decide, lk_X5_43, by decide +kernel⟩
theorem lk_X6_9 : zLk RX6 9 TX6 0 := Or.inl ⟨_, ⟨tw_3 _ (List.mem_of_getElem? (i := 10) (by decide +kernel)), by decide +kernel⟩, Or.inl rfl⟩
theorem gf_X6_9 : zGF RX6 9 21 352 false := ⟨11, 0, RX6, TX6, 8, tyX6, rfl, rfl, cls_11, by decide, lk_X6_9, by decide +kernel⟩
theorem lk_X6_15 : zLk RX6 15 TX6 1 := Or.inl ⟨_, ⟨tw_3 _ (List.mem_of_getElem? (i := 13) (by decide +kernel)), by decide +kernel⟩, Or.inl rfl⟩
theorem gf_X6_15 : zGF RX6 15 21 353 false := ⟨11, 1, RX6, TX6, 8, tyX6, rfl, rfl, cls_11, by decide, lk_X6_15, by decide +kernel⟩
theorem lk_X6_18 : zLk RX6 18 TX6 2 := Or.inl ⟨_, ⟨tw_3 _ (List.mem_of_getElem? (i := 15) (by decide +kernel)), by decide +kernel⟩, Or.inl rfl⟩
theorem gf_X6_18 : zGF RX6 18 21 354 false := ⟨11, 2, RX6, TX6, 8, tyX6, rfl, rfl, cls_11, by decide, lk_X6_18, by decide +kernel⟩
theorem lk_X6_22 : zLk RX6 22 TX6 3 := Or.inl ⟨_, ⟨tw_3 _ (List.mem_of_getElem? (i := 17) (by decide +kernel)), by decide +kernel⟩, Or.inl rfl⟩
theorem gf_X6_22 : zGF RX6 22 21 355 true := ⟨11, 3, RX6, TX6, 8, tyX6, rfl, rfl, cls_11, by decide, lk_X6_22, by decide +kernel⟩
theorem lk_X6_29 : zLk RX6 29 TX6 4 := Or.inl ⟨_, ⟨tw_3 _ (List.mem_of_getElem? (i := 19) (by decide +kernel)), by decide +kernel⟩, Or.inl rfl⟩
theorem gf_X6_29 : zGF RX6 29 21 356 true := ⟨11, 4, RX6, TX6, 8, tyX6, rfl, rfl, cls_11, by decide, lk_X6_29, by decide +kernel⟩
theorem lk_X6_43 : zLk RX6 43 TX0 2 := Or.inl ⟨_, ⟨tw_3 _ (List.mem_of_getElem? (i := 196) (by decide +kernel)), by decide +kernel⟩, Or.inl rfl⟩
theorem gf_X6_43 : zGF RX6 43 15 162 false := ⟨5, 2, RX0, TX0, 9, tyX0, rfl, rfl, cls_5, by decide, lk_X6_43, by decide +kernel⟩
theorem lk_X6_52 : zLk RX6 52 TX6 5 := Or.inl ⟨_, ⟨tw_3 _ (List.mem_of_getElem? (i := 22) (by decide +kernel)), by decide +kernel⟩, Or.inl rfl⟩
theorem gf_X6_52 : zGF RX6 52 21 357 false := ⟨11, 5, RX6, TX6, 8, tyX6, rfl, rfl, cls_11, by decide, lk_X6_52, by decide +kernel⟩
theorem lk_X6_55 : zLk RX6 55 TX6 6 := Or.inl ⟨_, ⟨tw_3 _ (List.mem_of_getElem? (i := 23) (by decide +kernel)), by decide +kernel⟩, Or.inl rfl⟩
theorem gf_X6_55 : zGF RX6 55 21 358 false := ⟨11, 6, RX6, TX6, 8, tyX6, rfl, rfl, cls_11, by decide, lk_X6_55, by decide +kernel⟩
theorem lk_X6_58 : zLk RX6 58 TX6 7 := Or.inl ⟨_, ⟨tw_3 _ (List.mem_of_getElem? (i := 25) (by decide +kernel)), by decide +kernel⟩, Or.inl rfl⟩
theorem gf_X6_58 : zGF RX6 58 21 359 true := ⟨11, 7, RX6, TX6, 8, tyX6, rfl, rfl, cls_11, by decide, lk_X6_58, by decide +kernel⟩
theorem lk_X6_62 : zLk RX6 62 TX8 2 := Or.inl ⟨_, ⟨tw_4 _ (List.mem_of_getElem? (i := 123) (by decide +kernel)), by decide +kernel⟩, Or.inl rfl⟩
theorem gf_X6_62 : zGF RX6 62 23 418 false := ⟨13, 2, RX8, TX8, 9, tyX8, rfl, rfl, cls_13, by decide, lk_X6_62, by decide +kernel⟩
theorem lk_X6_85 : zLk RX6 85 TX8 0 := Or.inl ⟨_, ⟨tw_4 _ (List.mem_of_getElem? (i := 117) (by decide +kernel)), by decide +kernel⟩, Or.inl rfl⟩
theorem gf_X6_85 : zGF RX6 85 23 416 true := ⟨13, 0, RX8, TX8, 9, tyX8, rfl, rfl, cls_13, by decide, lk_X6_85, by decide +kernel⟩
theorem lk_X6_89 : zLk RX6 89 TX0 0 := Or.inl ⟨_, ⟨tw_3 _ (List.mem_of_getElem? (i := 191) (by decide +kernel)), by decide +kernel⟩, Or.inl rfl⟩
theorem gf_X6_89 : zGF RX6 89 15 160 false := ⟨5, 0, RX0, TX0, 9, tyX0, rfl, rfl, cls_5, by decide, lk_X6_89, by decide +kernel⟩
theorem lk_X6_92 : zLk RX6 92 TX8 7 := Or.inl ⟨_, ⟨tw_4 _ (List.mem_of_getElem? (i := 133) (by decide +kernel)), by decide +kernel⟩, Or.inl rfl⟩
theorem gf_X6_92 : zGF RX6 92 23 423 false := ⟨13, 7, RX8, TX8, 9, tyX8, rfl, rfl, cls_13, by decide, lk_X6_92, by decide +kernel⟩
theorem lk_X6_95 : zLk RX6 95 TX8 1 := Or.inl ⟨_, ⟨tw_4 _ (List.mem_of_getElem? (i := 121) (by decide +kernel)), by decide +kernel⟩, Or.inl rfl⟩
theorem gf_X6_95 : zGF RX6 95 23 417 false := ⟨13, 1, RX8, TX8, 9, tyX8, rfl, rfl, cls_13, by decide, lk_X6_95, by decide +kernel⟩
theorem lk_X7_10 : zLk RX7 10 TX7 0 := Or.inl ⟨_, ⟨tw_1 _ (List.mem_of_getElem? (i := 88) (by decide +kernel)), by decide +kernel⟩, Or.inl rfl⟩
theorem gf_X7_10 : zGF RX7 10 22 384 true := ⟨12, 0, RX7, TX7, 2, tyX7, rfl, rfl, cls_12, by decide, lk_X7_10, by decide +kernel⟩
theorem lk_X7_16 : zLk RX7 16 TX7 1 := Or.inl ⟨_, ⟨tw_1 _ (List.mem_of_getElem? (i := 91) (by decide +kernel)), by decide +kernel⟩, Or.inl rfl⟩
theorem gf_X7_16 : zGF RX7 16 22 385 true := ⟨12, 1, RX7, TX7, 2, tyX7, rfl, rfl, cls_12, by decide, lk_X7_16, by decide +kernel⟩
theorem lk_X7_29 : zLk RX7 29 TX6 0 := Or.inl ⟨_, ⟨tw_3 _ (List.mem_of_getElem? (i := 11) (by decide +kernel)), by decide +kernel⟩, Or.inl rfl⟩
theorem gf_X7_29 : zGF RX7 29 21 352 false := ⟨11, 0, RX6, TX6, 8, tyX6, rfl, rfl, cls_11, by decide, lk_X7_29, by decide +kernel⟩
theorem lk_X7_36 : zLk RX7 36 TX6 4 := Or.inl ⟨_, ⟨tw_3 _ (List.mem_of_getElem? (i := 20) (by decide +kernel)), by decide +kernel⟩, Or.inl rfl⟩
theorem gf_X7_36 : zGF RX7 36 21 356 true := ⟨11, 4, RX6, TX6, 8, tyX6, rfl, rfl, cls_11, by decide, lk_X7_36, by decide +kernel⟩
theorem lk_X7_42 : zLk RX7 42 TX0 8 := Or.inl ⟨_, ⟨tw_3 _ (List.mem_of_getElem? (i := 212) (by decide +kernel)), by decide +kernel⟩, Or.inl rfl⟩
theorem gf_X7_42 : zGF RX7 42 15 168 false := ⟨5, 8, RX0, TX0, 9, tyX0, rfl, rfl, cls_5, by decide, lk_X7_42, by decide +kernel⟩
theorem lk_X7_53 : zLk RX7 53 TX0 7 := Or.inl ⟨_, ⟨tw_3 _ (List.mem_of_getElem? (i := 209) (by decide +kernel)), by decide +kernel⟩, Or.inl rfl⟩
theorem gf_X7_53 : zGF RX7 53 15 167 false := ⟨5, 7, RX0, TX0, 9, tyX0, rfl, rfl, cls_5, by decide, lk_X7_53, by decide +kernel⟩
theorem lk_X7_67 : zLk RX7 67 TX6 7 := Or.inl ⟨_, ⟨tw_3 _ (List.mem_of_getElem? (i := 26) (by decide +kernel)), by decide +kernel⟩, Or.inl rfl⟩
theorem gf_X7_67 : zGF RX7 67 21 359 true := ⟨11, 7, RX6, TX6, 8, tyX6, rfl, rfl, cls_11, by decide, lk_X7_67, by decide +kernel⟩
theorem lk_X7_71 : zLk RX7 71 TX8 0 := Or.inl ⟨_, ⟨tw_4 _ (List.mem_of_getElem? (i := 118) (by decide +kernel)), by decide +kernel⟩, Or.inl rfl⟩
theorem gf_X7_71 : zGF RX7 71 23 416 true := ⟨13, 0, RX8, TX8, 9, tyX8, rfl, rfl, cls_13, by decide, lk_X7_71, by decide +kernel⟩
theorem lk_X7_81 : zLk RX7 81 TX0 2 := Or.inl ⟨_, ⟨tw_3 _ (List.mem_of_getElem? (i := 198) (by decide +kernel)), by decide +kernel⟩, Or.inl rfl⟩
theorem gf_X7_81 : zGF RX7 81 15 162 false := ⟨5, 2, RX0, TX0, 9, tyX0, rfl, rfl, cls_5, by decide, lk_X7_81, by decide +kernel⟩
theorem lk_X8_9 : zLk RX8 9 TX8 0 := Or.inl ⟨_, ⟨tw_4 _ (List.mem_of_getElem? (i := 115) (by decide +kernel)), by decide +kernel⟩, Or.inl rfl⟩
theorem gf_X8_9 : zGF RX8 9 23 416 true := ⟨13, 0, RX8, TX8, 9, tyX8, rfl, rfl, cls_13, by decide, lk_X8_9, by decide +kernel⟩
theorem lk_X8_15 : zLk RX8 15 TX8 1 := Or.inl ⟨_, ⟨tw_4 _ (List.mem_of_getElem? (i := 120) (by decide +kernel)), by decide +kernel⟩, Or.inl rfl⟩
theorem gf_X8_15 : zGF RX8 15 23 417 false := ⟨13, 1, RX8, TX8, 9, tyX8, rfl, rfl, cls_13, by decide, lk_X8_15, by decide +kernel⟩
theorem lk_X8_23 : zLk RX8 23 TX8 2 := Or.inl ⟨_, ⟨tw_4 _ (List.mem_of_getElem? (i := 122) (by decide +kernel)), by decide +kernel⟩, Or.inl rfl⟩
theorem gf_X8_23 : zGF RX8 23 23 418 false := ⟨13, 2, RX8, TX8, 9, tyX8, rfl, rfl, cls_13, by decide, lk_X8_23, by decide +kernel⟩
theorem lk_X8_26 : zLk RX8 26 TX8 7 := Or.inl ⟨_, ⟨tw_4 _ (List.mem_of_getElem? (i := 132) (by decide +kernel)), by decide +kernel⟩, Or.inl rfl⟩
theorem gf_X8_26 : zGF RX8 26 23 423 false := ⟨13, 7, RX8, TX8, 9, tyX8, rfl, rfl, cls_13, by decide, lk_X8_26, by decide +kernel⟩
theorem lk_X8_30 : zLk RX8 30 TX0 1 := Or.inl ⟨_, ⟨tw_3 _ (List.mem_of_getElem? (i := 194) (by decide +kernel)), by decide +kernel⟩, Or.inl rfl⟩
theorem gf_X8_30 : zGF RX8 30 15 161 false := ⟨5, 1, RX0, TX0, 9, tyX0, rfl, rfl, cls_5, by decide, lk_X8_30, by decide +kernel⟩
theorem lk_X8_35 : zLk RX8 35 TX8 3 := Or.inl ⟨_, ⟨tw_4 _ (List.mem_of_getElem? (i := 125) (by decide +kernel)), by decide +kernel⟩, Or.inl rfl⟩
theorem gf_X8_35 : zGF RX8 35 23 419 false := ⟨13, 3, RX8, TX8, 9, tyX8, rfl, rfl, cls_13, by decide, lk_X8_35, by decide +kernel⟩
theorem lk_X8_38 : zLk RX8 38 TX8 4 := Or.inl ⟨_, ⟨tw_4 _ (List.mem_of_getElem? (i := 127) (by decide +kernel)), by decide +kernel⟩, Or.inl rfl⟩
theorem gf_X8_38 : zGF RX8 38 23 420 false := ⟨13, 4, RX8, TX8, 9, tyX8, rfl, rfl, cls_13, by decide, lk_X8_38, by decide +kernel⟩
theorem lk_X8_47 : zLk RX8 47 TX8 8 := Or.inl ⟨_, ⟨tw_4 _ (List.mem_of_getElem? (i := 135) (by decide +kernel)), by decide +kernel⟩, Or.inl rfl⟩
theorem gf_X8_47 : zGF RX8 47 23 424 false := ⟨13, 8, RX8, TX8, 9, tyX8, rfl, rfl, cls_13, by decide, lk_X8_47, by decide +kernel⟩
theorem lk_X8_50 : zLk RX8 50 TX0 5 := Or.inl ⟨_, ⟨tw_3 _ (List.mem_of_getElem? (i := 205) (by decide +kernel)), by decide +kernel⟩, Or.inl rfl⟩
theorem gf_X8_50 : zGF RX8 50 15 165 false := ⟨5, 5, RX0, TX0, 9, tyX0, rfl, rfl, cls_5, by decide, lk_X8_50, by decide +kernel⟩
theorem lk_X8_53 : zLk RX8 53 TX0 3 := Or.inl ⟨_, ⟨tw_3 _ (List.mem_of_getElem? (i := 200) (by decide +kernel)), by decide +kernel⟩, Or.inl rfl⟩
theorem gf_X8_53 : zGF RX8 53 15 163 false := ⟨5, 3, RX0, TX0, 9, tyX0, rfl, rfl, cls_5, by decide, lk_X8_53, by decide +kernel⟩
theorem lk_X8_56 : zLk RX8 56 TX8 5 := Or.inl ⟨_, ⟨tw_4 _ (List.mem_of_getElem? (i := 128) (by decide +kernel)), by decide +kernel⟩, Or.inl rfl⟩
theorem gf_X8_56 : zGF RX8 56 23 421 false := ⟨13, 5, RX8, TX8, 9, tyX8, rfl, rfl, cls_13, by decide, lk_X8_56, by decide +kernel⟩
theorem lk_X8_59 : zLk RX8 59 TX8 6 := Or.inl ⟨_, ⟨tw_4 _ (List.mem_of_getElem? (i := 131) (by decide +kernel)), by decide +kernel⟩, Or.inl rfl⟩
theorem gf_X8_59 : zGF RX8 59 23 422 false := ⟨13, 6, RX8, TX8, 9, tyX8, rfl, rfl, cls_13, by decide, lk_X8_59, by decide +kernel⟩
theorem lk_X9_7 : zLk RX9 7 TX9 0 := Or.inl ⟨_, ⟨tw_4 _ (List.mem_of_getElem? (i := 238) (by decide +kernel)), by decide +kernel⟩, Or.inl rfl⟩
theorem gf_X9_7 : zGF RX9 7 24 448 true := ⟨14, 0, RX9, TX9, 4, tyX9, rfl, rfl, cls_14, by decide, lk_X9_7, by decide +kernel⟩
theorem lk_X9_13 : zLk RX9 13 TX9 1 := Or.inl ⟨_, ⟨tw_5 _ (List.mem_of_getElem? (i := 0) (by decide +kernel)), by decide +kernel⟩, Or.inl rfl⟩
theorem gf_X9_13 : zGF RX9 13 24 449 false := ⟨14, 1, RX9, TX9, 4, tyX9, rfl, rfl, cls_14, by decide, lk_X9_13, by decide +kernel⟩
theorem lk_X9_17 : zLk RX9 17 TX9 2 := Or.inl ⟨_, ⟨tw_5 _ (List.mem_of_getElem? (i := 2) (by decide +kernel)), by decide +kernel⟩, Or.inl rfl⟩
theorem gf_X9_17 : zGF RX9 17 24 450 false := ⟨14, 2, RX9, TX9, 4, tyX9, rfl, rfl, cls_14, by decide, lk_X9_17, by decide +kernel⟩
theorem lk_X9_21 : zLk RX9 21 TX9 3 := Or.inl ⟨_, ⟨tw_5 _ (List.mem_of_getElem? (i := 4) (by decide +kernel)), by decide +kernel⟩, Or.inl rfl⟩
theorem gf_X9_21 : zGF RX9 21 24 451 false := ⟨14, 3, RX9, TX9, 4, tyX9, rfl, rfl, cls_14, by decide, lk_X9_21, by decide +kernel⟩
theorem lk_X10_7 : zLk RX10 7 TX10 1 := Or.inl ⟨_, ⟨tw_1 _ (List.mem_of_getElem? (i := 151) (by decide +kernel)), by decide +kernel⟩, Or.inl rfl⟩
theorem gf_X10_7 : zGF RX10 7 25 481 false := ⟨15, 1, RX10, TX10, 3, tyX10, rfl, rfl, cls_15, by decide, lk_X10_7, by decide +kernel⟩
theorem lk_X10_13 : zLk RX10 13 TX10 0 := Or.inl ⟨_, ⟨tw_1 _ (List.mem_of_getElem? (i := 149) (by decide +kernel)), by decide +kernel⟩, Or.inl rfl⟩
theorem gf_X10_13 : zGF RX10 13 25 480 false := ⟨15, 0, RX10, TX10, 3, tyX10, rfl, rfl, cls_15, by decide, lk_X10_13, by decide +kernel⟩
theorem lk_X16_10 : zLk RX16 10 TX16 1 := Or.inl ⟨_, ⟨tw_6 _ (List.mem_of_getElem? (i := 64) (by decide +kernel)), by decide +kernel⟩, Or.inl rfl⟩
theorem gf_X16_10 : zGF RX16 10 31 673 true := ⟨21, 1, RX16, TX16, 18, tyX16, rfl, rfl, cls_21, by decide, lk_X16_10, by decide +kernel⟩
theorem lk_X16_16 : zLk RX16 16 TX16 2 := Or.inl ⟨_, ⟨tw_6 _ (List.mem_of_getElem? (i := 65) (by decide +kernel)), by decide +kernel⟩, Or.inl rfl⟩
theorem gf_X16_16 : zGF RX16 16 31 674 true := ⟨21, 2, RX16, TX16, 18, tyX16, rfl, rfl, cls_21, by decide, lk_X16_16, by decide +kernel⟩
theorem lk_X16_19 : zLk RX16 19 TX16 3 := Or.inl ⟨_, ⟨tw_6 _ (List.mem_of_getElem? (i := 66) (by decide +kernel)), by decide +kernel⟩, Or.inl rfl⟩
theorem gf_X16_19 : zGF RX16 19 31 675 true := ⟨21, 3, RX16, TX16, 18, tyX16, rfl, rfl, cls_21, by decide, lk_X16_19, by decide +kernel⟩
theorem lk_X16_22 : zLk RX16 22 TX16 4 := Or.inl ⟨_, ⟨tw_6 _ (List.mem_of_getElem? (i := 67) (by decide +kernel)), by decide +kernel⟩, Or.inl rfl⟩
theorem gf_X16_22 : zGF RX16 22 31 676 true := ⟨21, 4, RX16, TX16, 18, tyX16, rfl, rfl, cls_21, by decide, lk_X16_22, by decide +kernel⟩
theorem lk_X16_25 : zLk RX16 25 TX16 5 := Or.inl ⟨_, ⟨tw_6 _ (List.mem_of_getElem? (i := 68) (by decide +kernel)), by decide +kernel⟩, Or.inl rfl⟩
theorem gf_X16_25 : zGF RX16 25 31 677 true := ⟨21, 5, RX16, TX16, 18, tyX16, rfl, rfl, cls_21, by decide, lk_X16_25, by decide +kernel⟩
theorem lk_X16_30 : zLk RX16 30 TX16 6 := Or.inl ⟨_, ⟨tw_6 _ (List.mem_of_getElem? (i := 69) (by decide +kernel)), by decide +kernel⟩, Or.inl rfl⟩
theorem gf_X16_30 : zGF RX16 30 31 678 true := ⟨21, 6, RX16, TX16, 18, tyX16, rfl, rfl, cls_21, by decide, lk_X16_30, by decide +kernel⟩
theorem lk_X16_33 : zLk RX16 33 TX16 9 := Or.inl ⟨_, ⟨tw_6 _ (List.mem_of_getElem? (i := 72) (by decide +kernel)), by decide +kernel⟩, Or.inl rfl⟩
theorem gf_X16_33 : zGF RX16 33 31 681 false := ⟨21, 9, RX16, TX16, 18, tyX16, rfl, rfl, cls_21, by decide, lk_X16_33, by decide +kernel⟩
theorem lk_X16_37 : zLk RX16 37 TX16 11 := Or.inl ⟨_, ⟨tw_6 _ (List.mem_of_getElem? (i := 74) (by decide +kernel)), by decide +kernel⟩, Or.inl rfl⟩
theorem gf_X16_37 : zGF RX16 37 31 683 false := ⟨21, 11, RX16, TX16, 18, tyX16, rfl, rfl, cls_21, by decide, lk_X16_37, by decide +kernel⟩
theorem lk_X16_40 : zLk RX16 40 TX16 13 := Or.inl ⟨_, ⟨tw_6 _ (List.mem_of_getElem? (i := 76) (by decide +kernel)), by decide +kernel⟩, Or.inl rfl⟩
theorem gf_X16_40 : zGF RX16 40 31 685 false := ⟨21, 13, RX16, TX16, 18, tyX16, rfl, rfl, cls_21, by decide, lk_X16_40, by decide +kernel⟩
theorem lk_X16_43 : zLk RX16 43 TX16 0 := Or.inl ⟨_, ⟨tw_6 _ (List.mem_of_getElem? (i := 63) (by decide +kernel)), by decide +kernel⟩, Or.inl rfl⟩
theorem gf_X16_43 : zGF RX16 43 31 672 false := ⟨21, 0, RX16, TX16, 18, tyX16, rfl, rfl, cls_21, by decide, lk_X16_43, by decide +kernel⟩
theorem lk_X16_70 : zLk RX16 70 TX13 0 := Or.inr ⟨RX16, ⟨tw_6 _ (List.mem_of_getElem? (i := 199) (by decide +kernel)), by decide +kernel⟩⟩
theorem gf_X16_70 : zGF RX16 70 28 576 false := ⟨18, 0, RX13, TX13, 5, tyX13, rfl, rfl, cls_18, by decide, lk_X16_70, by decide +kernel⟩
theorem lk_X16_98 : zLk RX16 98 TX13 3 := Or.inr ⟨RX16, ⟨tw_6 _ (List.mem_of_getElem? (i := 205) (by decide +kernel)), by decide +kernel⟩⟩
theorem gf_X16_98 : zGF RX16 98 28 579 true := ⟨18, 3, RX13, TX13, 5, tyX13, rfl, rfl, cls_18, by decide, lk_X16_98, by decide +kernel⟩
theorem lk_X16_122 : zLk RX16 122 TX12 3 := Or.inr ⟨RX16, ⟨tw_7 _ (List.mem_of_getElem? (i := 20) (by decide +kernel)), by decide +kernel⟩⟩
theorem gf_X16_122 : zGF RX16 122 27 547 false := ⟨17, 3, RX12, TX12, 8, tyX12, rfl, rfl, cls_17, by decide, lk_X16_122, by decide +kernel⟩
theorem lk_X16_125 : zLk RX16 125 TX12 5 := Or.inr ⟨RX16, ⟨tw_7 _ (List.mem_of_getElem? (i := 23) (by decide +kernel)), by decide +kernel⟩⟩
theorem gf_X16_125 : zGF RX16 125 27 549 false := ⟨17, 5, RX12, TX12, 8, tyX12, rfl, rfl, cls_17, by decide, lk_X16_125, by decide +kernel⟩
theorem lk_X16_143 : zLk RX16 143 TX16 7 := Or.inl ⟨_, ⟨tw_6 _ (List.mem_of_getElem? (i := 70) (by decide +kernel)), by decide +kernel⟩, Or.inl rfl⟩
theorem gf_X16_143 : zGF RX16 143 31 679 false := ⟨21, 7, RX16, TX16, 18, tyX16, rfl, rfl, cls_21, by decide, lk_X16_143, by decide +kernel⟩
theorem lk_X16_161 : zLk RX16 161 TX16 8 := Or.inl ⟨_, ⟨tw_6 _ (List.mem_of_getElem? (i := 71) (by decide +kernel)), by decide +kernel⟩, Or.inl rfl⟩
theorem gf_X16_161 : zGF RX16 161 31 680 false := ⟨21, 8, RX16, TX16, 18, tyX16, rfl, rfl, cls_21, by decide, lk_X16_161, by decide +kernel⟩
theorem lk_X16_164 : zLk RX16 164 TX13 4 := Or.inr ⟨RX16, ⟨tw_6 _ (List.mem_of_getElem? (i := 207) (by decide +kernel)), by decide +kernel⟩⟩
theorem gf_X16_164 : zGF RX16 164 28 580 true := ⟨18, 4, RX13, TX13, 5, tyX13, rfl, rfl, cls_18, by decide, lk_X16_164, by decide +kernel⟩
theorem lk_X16_169 : zLk RX16 169 TX14 0 := Or.inr ⟨RX16, ⟨tw_7 _ (List.mem_of_getElem? (i := 140) (by decide +kernel)), by decide +kernel⟩⟩
theorem gf_X16_169 : zGF RX16 169 29 608 false := ⟨19, 0, RX14, TX14, 8, tyX14, rfl, rfl, cls_19, by decide, lk_X16_169, by decide +kernel⟩
theorem lk_X16_189 : zLk RX16 189 TX16 10 := Or.inl ⟨_, ⟨tw_6 _ (List.mem_of_getElem? (i := 73) (by decide +kernel)), by decide +kernel⟩, Or.inl rfl⟩
theorem gf_X16_189 : zGF RX16 189 31 682 false := ⟨21, 10, RX16, TX16, 18, tyX16, rfl, rfl, cls_21, by decide, lk_X16_189, by decide +kernel⟩
theorem lk_X16_194 : zLk RX16 194 TX16 12 := Or.inl ⟨_, ⟨tw_6 _ (List.mem_of_getElem? (i := 75) (by decide +kernel)), by decide +kernel⟩, Or.inl rfl⟩
theorem gf_X16_194 : zGF RX16 194 31 684 false := ⟨21, 12, RX16, TX16, 18, tyX16, rfl, rfl, cls_21, by decide, lk_X16_194, by decide +kernel⟩
theorem lk_X16_197 : zLk RX16 197 TX16 14 := Or.inl ⟨_, ⟨tw_6 _ (List.mem_of_getElem? (i := 77) (by decide +kernel)), by decide +kernel⟩, Or.inl rfl⟩
theorem gf_X16_197 : zGF RX16 197 31 686 false := ⟨21, 14, RX16, TX16, 18, tyX16, rfl, rfl, cls_21, by decide, lk_X16_197, by decide +kernel⟩
theorem lk_X16_205 : zLk RX16 205 TX12 7 := Or.inr ⟨RX16, ⟨tw_7 _ (List.mem_of_getElem? (i := 26) (by decide +kernel)), by decide +kernel⟩⟩
theorem gf_X16_205 : zGF RX16 205 27 551 false := ⟨17, 7, RX12, TX12, 8, tyX12, rfl, rfl, cls_17, by decide, lk_X16_205, by decide +kernel⟩
theorem lk_X16_211 : zLk RX16 211 TX14 1 := Or.inr ⟨RX16, ⟨tw_7 _ (List.mem_of_getElem? (i := 143) (by decide +kernel)), by decide +kernel⟩⟩
theorem gf_X16_211 : zGF RX16 211 29 609 false := ⟨19, 1, RX14, TX14, 8, tyX14, rfl, rfl, cls_19, by decide, lk_X16_211, by decide +kernel⟩
theorem lk_X16_214 : zLk RX16 214 TX12 0 := Or.inr ⟨RX16, ⟨tw_7 _ (List.mem_of_getElem? (i := 14) (by decide +kernel)), by decide +kernel⟩⟩
theorem gf_X16_214 : zGF RX16 214 27 544 false := ⟨17, 0, RX12, TX12, 8, tyX12, rfl, rfl, cls_17, by decide, lk_X16_214, by decide +kernel⟩
theorem lk_X16_217 : zLk RX16 217 TX14 2 := Or.inr ⟨RX16, ⟨tw_7 _ (List.mem_of_getElem? (i := 145) (by decide +kernel)), by decide +kernel⟩⟩
theorem gf_X16_217 : zGF RX16 217 29 610 false := ⟨19, 2, RX14, TX14, 8, tyX14, rfl, rfl, cls_19, by decide, lk_X16_217, by decide +kernel⟩
theorem lk_X16_220 : zLk RX16 220 TX15 1 := Or.inr ⟨RX16, ⟨tw_8 _ (List.mem_of_getElem? (i := 0) (by decide +kernel)), by decide +kernel⟩⟩
theorem gf_X16_220 : zGF RX16 220 30 641 false := ⟨20, 1, RX15, TX15, 4, tyX15, rfl, rfl, cls_20, by decide, lk_X16_220, by decide +kernel⟩
theorem lk_X16_223 : zLk RX16 223 TX15 0 := Or.inr ⟨RX16, ⟨tw_7 _ (List.mem_of_getElem? (i := 238) (by decide +kernel)), by decide +kernel⟩⟩
theorem gf_X16_223 : zGF RX16 223 30 640 false := ⟨20, 0, RX15, TX15, 4, tyX15, rfl, rfl, cls_20, by decide, lk_X16_223, by decide +kernel⟩
theorem lk_X16_235 : zLk RX16 235 TX12 4 := Or.inr ⟨RX16, ⟨tw_7 _ (List.mem_of_getElem? (i := 22) (by decide +kernel)), by decide +kernel⟩⟩
theorem gf_X16_235 : zGF RX16 235 27 548 false := ⟨17, 4, RX12, TX12, 8, tyX12, rfl, rfl, cls_17, by decide, lk_X16_235, by decide +kernel⟩
theorem lk_X16_238 : zLk RX16 238 TX12 1 := Or.inr ⟨RX16, ⟨tw_7 _ (List.mem_of_getElem? (i := 16) (by decide +kernel)), by decide +kernel⟩⟩
theorem gf_X16_238 : zGF RX16 238 27 545 false := ⟨17, 1, RX12, TX12, 8, tyX12, rfl, rfl, cls_17, by decide, lk_X16_238, by decide +kernel⟩
theorem lk_X16_241 : zLk RX16 241 TX13 1 := Or.inr ⟨RX16, ⟨tw_6 _ (List.mem_of_getElem? (i := 201) (by decide +kernel)), by decide +kernel⟩⟩
theorem gf_X16_241 : zGF RX16 241 28 577 false := ⟨18, 1, RX13, TX13, 5, tyX13, rfl, rfl, cls_18, by decide, lk_X16_241, by decide +kernel⟩
theorem lk_X16_244 : zLk RX16 244 TX15 3 := Or.inr ⟨RX16, ⟨tw_8 _ (List.mem_of_getElem? (i := 3) (by decide +kernel)), by decide +kernel⟩⟩
theorem gf_X16_244 : zGF RX16 244 30 643 false := ⟨20, 3, RX15, TX15, 4, tyX15, rfl, rfl, cls_20, by decide, lk_X16_244, by decide +kernel⟩
theorem lk_X16_247 : zLk RX16 247 TX15 2 := Or.inr ⟨RX16, ⟨tw_8 _ (List.mem_of_getElem? (i := 2) (by decide +kernel)), by decide +kernel⟩⟩
theorem gf_X16_247 : zGF RX16 247 30 642 false := ⟨20, 2, RX15, TX15, 4, tyX15, rfl, rfl, cls_20, by decide, lk_X16_247, by decide +kernel⟩
theorem lk_X16_251 : zLk RX16 251 TX12 6 := Or.inr ⟨RX16, ⟨tw_7 _ (List.mem_of_getElem? (i := 24) (by decide +kernel)), by decide +kernel⟩⟩
theorem gf_X16_251 : zGF RX16 251 27 550 false := ⟨17, 6, RX12, TX12, 8, tyX12, rfl, rfl, cls_17, by decide, lk_X16_251, by decide +kernel⟩
theorem lk_X16_254 : zLk RX16 254 TX16 17 := Or.inl ⟨_, ⟨tw_6 _ (List.mem_of_getElem? (i := 80) (by decide +kernel)), by decide +kernel⟩, Or.inl rfl⟩
theorem gf_X16_254 : zGF RX16 254 31 689 false := ⟨21, 17, RX16, TX16, 18, tyX16, rfl, rfl, cls_21, by decide, lk_X16_254, by decide +kernel⟩
theorem lk_X16_257 : zLk RX16 257 TX14 3 := Or.inr ⟨RX16, ⟨tw_7 _ (List.mem_of_getElem? (i := 146) (by decide +kernel)), by decide +kernel⟩⟩
theorem gf_X16_257 : zGF RX16 257 29 611 false := ⟨19, 3, RX14, TX14, 8, tyX14, rfl, rfl, cls_19, by decide, lk_X16_257, by decide +kernel⟩
theorem lk_X16_260 : zLk RX16 260 TX12 2 := Or.inr ⟨RX16, ⟨tw_7 _ (List.mem_of_getElem? (i := 18) (by decide +kernel)), by decide +kernel⟩⟩
theorem gf_X16_260 : zGF RX16 260 27 546 false := ⟨17, 2, RX12, TX12, 8, tyX12, rfl, rfl, cls_17, by decide, lk_X16_260, by decide +kernel⟩
theorem lk_X16_266 : zLk RX16 266 TX14 5 := Or.inr ⟨RX16, ⟨tw_7 _ (List.mem_of_getElem? (i := 148) (by decide +kernel)), by decide +kernel⟩⟩
theorem gf_X16_266 : zGF RX16 266 29 613 false := ⟨19, 5, RX14, TX14, 8, tyX14, rfl, rfl, cls_19, by decide, lk_X16_266, by decide +kernel⟩
theorem lk_X16_269 : zLk RX16 269 TX16 16 := Or.inl ⟨_, ⟨tw_6 _ (List.mem_of_getElem? (i := 79) (by decide +kernel)), by decide +kernel⟩, Or.inl rfl⟩
theorem gf_X16_269 : zGF RX16 269 31 688 false := ⟨21, 16, RX16, TX16, 18, tyX16, rfl, rfl, cls_21, by decide, lk_X16_269, by decide +kernel⟩
theorem lk_X16_270 : zLk RX16 270 TX13 2 := Or.inr ⟨RX16, ⟨tw_6 _ (List.mem_of_getElem? (i := 203) (by decide +kernel)), by decide +kernel⟩⟩
theorem gf_X16_270 : zGF RX16 270 28 578 false := ⟨18, 2, RX13, TX13, 5, tyX13, rfl, rfl, cls_18, by decide, lk_X16_270, by decide +kernel⟩
theorem lk_X16_277 : zLk RX16 277 TX14 4 := Or.inr ⟨RX16, ⟨tw_7 _ (List.mem_of_getElem? (i := 147) (by decide +kernel)), by decide +kernel⟩⟩
theorem gf_X16_277 : zGF RX16 277 29 612 false := ⟨19, 4, RX14, TX14, 8, tyX14, rfl, rfl, cls_19, by decide, lk_X16_277, by decide +kernel⟩
theorem lk_X16_283 : zLk RX16 283 TX14 6 := Or.inr ⟨RX16, ⟨tw_7 _ (List.mem_of_getElem? (i := 149) (by decide +kernel)), by decide +kernel⟩⟩
theorem gf_X16_283 : zGF RX16 283 29 614 false := ⟨19, 6, RX14, TX14, 8, tyX14, rfl, rfl, cls_19, by decide, lk_X16_283, by decide +kernel⟩
theorem lk_X16_286 : zLk RX16 286 TX14 7 := Or.inr ⟨RX16, ⟨tw_7 _ (List.mem_of_getElem? (i := 150) (by decide +kernel)), by decide +kernel⟩⟩
theorem gf_X16_286 : zGF RX16 286 29 615 false := ⟨19, 7, RX14, TX14, 8, tyX14, rfl, rfl, cls_19, by decide, lk_X16_286, by decide +kernel⟩
theorem lk_X16_324 : zLk RX16 324 TX16 15 := Or.inl ⟨_, ⟨tw_6 _ (List.mem_of_getElem? (i := 78) (by decide +kernel)), by decide +kernel⟩, Or.inl rfl⟩
theorem gf_X16_324 : zGF RX16 324 31 687 false := ⟨21, 15, RX16, TX16, 18, tyX16, rfl, rfl, cls_21, by decide, lk_X16_324, by decide +kernel⟩
theorem lk_X12_7 : zLk RX12 7 TX12 0 := Or.inl ⟨_, ⟨tw_7 _ (List.mem_of_getElem? (i := 13) (by decide +kernel)), by decide +kernel⟩, Or.inl rfl⟩
theorem gf_X12_7 : zGF RX12 7 27 544 false := ⟨17, 0, RX12, TX12, 8, tyX12, rfl, rfl, cls_17, by decide, lk_X12_7, by decide +kernel⟩
theorem lk_X12_13 : zLk RX12 13 TX12 1 := Or.inl ⟨_, ⟨tw_7 _ (List.mem_of_getElem? (i := 15) (by decide +kernel)), by decide +kernel⟩, Or.inl rfl⟩
theorem gf_X12_13 : zGF RX12 13 27 545 false := ⟨17, 1, RX12, TX12, 8, tyX12, rfl, rfl, cls_17, by decide, lk_X12_13, by decide +kernel⟩
theorem lk_X12_16 : zLk RX12 16 TX12 2 := Or.inl ⟨_, ⟨tw_7 _ (List.mem_of_getElem? (i := 17) (by decide +kernel)), by decide +kernel⟩, Or.inl rfl⟩
theorem gf_X12_16 : zGF RX12 16 27 546 false := ⟨17, 2, RX12, TX12, 8, tyX12, rfl, rfl, cls_17, by decide, lk_X12_16, by decide +kernel⟩
theorem lk_X12_19 : zLk RX12 19 TX12 3 := Or.inl ⟨_, ⟨tw_7 _ (List.mem_of_getElem? (i := 19) (by decide +kernel)), by decide +kernel⟩, Or.inl rfl⟩
theorem gf_X12_19 : zGF RX12 19 27 547 false := ⟨17, 3, RX12, TX12, 8, tyX12, rfl, rfl, cls_17, by decide, lk_X12_19, by decide +kernel⟩
theorem lk_X12_22 : zLk RX12 22 TX12 4 := Or.inl ⟨_, ⟨tw_7 _ (List.mem_of_getElem? (i := 21) (by decide +kernel)), by decide +kernel⟩, Or.inl rfl⟩
theorem gf_X12_22 : zGF RX12 22 27 548 false := ⟨17, 4, RX12, TX12, 8, tyX12, rfl, rfl, cls_17, by decide, lk_X12_22, by decide +kernel⟩
theorem lk_X12_26 : zLk RX12 26 TX12 7 := Or.inl ⟨_, ⟨tw_7 _ (List.mem_of_getElem? (i := 25) (by decide +kernel)), by decide +kernel⟩, Or.inl rfl⟩
theorem gf_X12_26 : zGF RX12 26 27 551 false := ⟨17, 7, RX12, TX12, 8, tyX12, rfl, rfl, cls_17, by decide, lk_X12_26, by decide +kernel⟩
theorem lk_X13_9 : zLk RX13 9 TX13 3 := Or.inl ⟨_, ⟨tw_6 _ (List.mem_of_getElem? (i := 204) (by decide +kernel)), by decide +kernel⟩, Or.inl rfl⟩
theorem gf_X13_9 : zGF RX13 9 28 579 true := ⟨18, 3, RX13, TX13, 5, tyX13, rfl, rfl, cls_18, by decide, lk_X13_9, by decide +kernel⟩
theorem lk_X13_18 : zLk RX13 18 TX13 4 := Or.inl ⟨_, ⟨tw_6 _ (List.mem_of_getElem? (i := 206) (by decide +kernel)), by decide +kernel⟩, Or.inl rfl⟩
theorem gf_X13_18 : zGF RX13 18 28 580 true := ⟨18, 4, RX13, TX13, 5, tyX13, rfl, rfl, cls_18, by decide, lk_X13_18, by decide +kernel⟩
theorem lk_X13_22 : zLk RX13 22 TX13 0 := Or.inl ⟨_, ⟨tw_6 _ (List.mem_of_getElem? (i := 198) (by decide +kernel)), by decide +kernel⟩, Or.inl rfl⟩
theorem gf_X13_22 : zGF RX13 22 28 576 false := ⟨18, 0, RX13, TX13, 5, tyX13, rfl, rfl, cls_18, by decide, lk_X13_22, by decide +kernel⟩
theorem lk_X13_26 : zLk RX13 26 TX13 1 := Or.inl ⟨_, ⟨tw_6 _ (List.mem_of_getElem? (i := 200) (by decide +kernel)), by decide +kernel⟩, Or.inl rfl⟩
theorem gf_X13_26 : zGF RX13 26 28 577 false := ⟨18, 1, RX13, TX13, 5, tyX13, rfl, rfl, cls_18, by decide, lk_X13_26, by decide +kernel⟩
theorem lk_X13_29 : zLk RX13 29 TX13 2 := Or.inl ⟨_, ⟨tw_6 _ (List.mem_of_getElem? (i := 202) (by decide +kernel)), by decide +kernel⟩, Or.inl rfl⟩
theorem gf_X13_29 : zGF RX13 29 28 578 false := ⟨18, 2, RX13, TX13, 5, tyX13, rfl, rfl, cls_18, by decide, lk_X13_29, by decide +kernel⟩
theorem lk_X13_43 : zLk RX13 43 TX14 1 := Or.inr ⟨RX16, ⟨tw_7 _ (List.mem_of_getElem? (i := 142) (by decide +kernel)), by decide +kernel⟩⟩
theorem gf_X13_43 : zGF RX13 43 29 609 false := ⟨19, 1, RX14, TX14, 8, tyX14, rfl, rfl, cls_19, by decide, lk_X13_43, by decide +kernel⟩
theorem lk_X13_46 : zLk RX13 46 TX14 2 := Or.inr ⟨RX16, ⟨tw_7 _ (List.mem_of_getElem? (i := 144) (by decide +kernel)), by decide +kernel⟩⟩
theorem gf_X13_46 : zGF RX13 46 29 610 false := ⟨19, 2, RX14, TX14, 8, tyX14, rfl, rfl, cls_19, by decide, lk_X13_46, by decide +kernel⟩
theorem lk_X14_9 : zLk RX14 9 TX14 1 := Or.inl ⟨_, ⟨tw_7 _ (List.mem_of_getElem? (i := 141) (by decide +kernel)), by decide +kernel⟩, Or.inl rfl⟩
theorem gf_X14_9 : zGF RX14 9 29 609 false := ⟨19, 1, RX14, TX14, 8, tyX14, rfl, rfl, cls_19, by decide, lk_X14_9, by decide +kernel⟩
theorem lk_X14_15 : zLk RX14 15 TX14 0 := Or.inl ⟨_, ⟨tw_7 _ (List.mem_of_getElem? (i := 139) (by decide +kernel)), by decide +kernel⟩, Or.inl rfl⟩
theorem gf_X14_15 : zGF RX14 15 29 608 false := ⟨19, 0, RX14, TX14, 8, tyX14, rfl, rfl, cls_19, by decide, lk_X14_15, by decide +kernel⟩
theorem lk_X15_7 : zLk RX15 7 TX15 2 := Or.inl ⟨_, ⟨tw_8 _ (List.mem_of_getElem? (i := 1) (by decide +kernel)), by decide +kernel⟩, Or.inl rfl⟩
theorem gf_X15_7 : zGF RX15 7 30 642 false := ⟨20, 2, RX15, TX15, 4, tyX15, rfl, rfl, cls_20, by decide, lk_X15_7, by decide +kernel⟩
theorem lk_X15_13 : zLk RX15 13 TX15 0 := Or.inl ⟨_, ⟨tw_7 _ (List.mem_of_getElem? (i := 237) (by decide +kernel)), by decide +kernel⟩, Or.inl rfl⟩
theorem gf_X15_13 : zGF RX15 13 30 640 false := ⟨20, 0, RX15, TX15, 4, tyX15, rfl, rfl, cls_20, by decide, lk_X15_13, by decide +kernel⟩
theorem lk_X15_17 : zLk RX15 17 TX15 1 := Or.inl ⟨_, ⟨tw_7 _ (List.mem_of_getElem? (i := 239) (by decide +kernel)), by decide +kernel⟩, Or.inl rfl⟩
theorem gf_X15_17 : zGF RX15 17 30 641 false := ⟨20, 1, RX15, TX15, 4, tyX15, rfl, rfl, cls_20, by decide, lk_X15_17, by decide +kernel⟩
theorem lk_J6_205 : zLk RJ6 205 TJ6 0 := Or.inl ⟨_, ⟨tw_7 _ (List.mem_of_getElem? (i := 109) (by decide +kernel)), by decide +kernel⟩, Or.inl rfl⟩
theorem gf_J6_205 : zGF RJ6 205 11 32 false := ⟨1, 0, RJ6, TJ6, 1, tyJ6, rfl, rfl, cls_1, by decide, lk_J6_205, by decide +kernel⟩
theorem lk_Jx4a65c_9 : zLk RJx4a65c 9 TJx4a65c 1 := Or.inl ⟨_, ⟨tw_1 _ (List.mem_of_getElem? (i := 73) (by decide +kernel)), by decide +kernel⟩, Or.inl rfl⟩
theorem gf_Jx4a65c_9 : zGF RJx4a65c 9 14 129 true := ⟨4, 1, RJx4a65c, TJx4a65c, 3, tyJx4a65c, rfl, rfl, cls_4, by decide, lk_Jx4a65c_9, by decide +kernel⟩
theorem lk_Jx4a65c_48 : zLk RJx4a65c 48 TJx4a65c 2 := Or.inl ⟨_, ⟨tw_1 _ (List.mem_of_getElem? (i := 76) (by decide +kernel)), by decide +kernel⟩, Or.inl rfl⟩
theorem gf_Jx4a65c_48 : zGF RJx4a65c 48 14 130 false := ⟨4, 2, RJx4a65c, TJx4a65c, 3, tyJx4a65c, rfl, rfl, cls_4, by decide, lk_Jx4a65c_48, by decide +kernel⟩
theorem lk_Jx4a65c_63 : zLk RJx4a65c 63 TJx4a65c 0 := Or.inl ⟨RJx4a65c, ⟨tw_1 _ (List.mem_of_getElem? (i := 80) (by decide +kernel)), by decide +kernel⟩, Or.inr ⟨tw_1 _ (List.mem_of_getElem? (i := 79) (by decide +kernel)), by decide +kernel⟩⟩
theorem gf_Jx4a65c_63 : zGF RJx4a65c 63 14 128 false := ⟨4, 0, RJx4a65c, TJx4a65c, 3, tyJx4a65c, rfl, rfl, cls_4, by decide, lk_Jx4a65c_63, by decide +kernel⟩
theorem lk_Jx35411_1 : zLk RJx35411 1 TJx35411 3 := Or.inl ⟨_, ⟨tw_6 _ (List.mem_of_getElem? (i := 140) (by decide +kernel)), by decide +kernel⟩, Or.inl rfl⟩
theorem gf_Jx35411_1 : zGF RJx35411 1 13 99 true := ⟨3, 3, RJx35411, TJx35411, 4, tyJx35411, rfl, rfl, cls_3, by decide, lk_Jx35411_1, by decide +kernel⟩
theorem lk_Jx35411_13 : zLk RJx35411 13 TJx35411 1 := Or.inl ⟨_, ⟨tw_6 _ (List.mem_of_getElem? (i := 138) (by decide +kernel)), by decide +kernel⟩, Or.inl rfl⟩
theorem gf_Jx35411_13 : zGF RJx35411 13 13 97 false := ⟨3, 1, RJx35411, TJx35411, 4, tyJx35411, rfl, rfl, cls_3, by decide, lk_Jx35411_13, by decide +kernel⟩
theorem lk_Jx35411_17 : zLk RJx35411 17 TJx4a65c 0 := Or.inl ⟨RJx4a65c, ⟨tw_1 _ (List.mem_of_getElem? (i := 78) (by decide +kernel)), by decide +kernel⟩, Or.inr ⟨tw_1 _ (List.mem_of_getElem? (i := 79) (by decide +kernel)), by decide +kernel⟩⟩
theorem gf_Jx35411_17 : zGF RJx35411 17 14 128 false := ⟨4, 0, RJx4a65c, TJx4a65c, 3, tyJx4a65c, rfl, rfl, cls_4, by decide, lk_Jx35411_17, by decide +kernel⟩
theorem lk_Jx35411_22 : zLk RJx35411 22 TJx35411 2 := Or.inl ⟨_, ⟨tw_6 _ (List.mem_of_getElem? (i := 139) (by decide +kernel)), by decide +kernel⟩, Or.inl rfl⟩
theorem gf_Jx35411_22 : zGF RJx35411 22 13 98 false := ⟨3, 2, RJx35411, TJx35411, 4, tyJx35411, rfl, rfl, cls_3, by decide, lk_Jx35411_22, by decide +kernel⟩
theorem lk_Jx35411_25 : zLk RJx35411 25 TJx35411 0 := Or.inl ⟨_, ⟨tw_6 _ (List.mem_of_getElem? (i := 137) (by decide +kernel)), by decide +kernel⟩, Or.inl rfl⟩
theorem gf_Jx35411_25 : zGF RJx35411 25 13 96 false := ⟨3, 0, RJx35411, TJx35411, 4, tyJx35411, rfl, rfl, cls_3, by decide, lk_Jx35411_25, by decide +kernel⟩
theorem lk_Jx35411_28 : zLk RJx35411 28 TJx4a65c 2 := Or.inr ⟨RJx4a65c, ⟨tw_1 _ (List.mem_of_getElem? (i := 75) (by decide +kernel)), by decide +kernel⟩⟩
theorem gf_Jx35411_28 : zGF RJx35411 28 14 130 false := ⟨4, 2, RJx4a65c, TJx4a65c, 3, tyJx4a65c, rfl, rfl, cls_4, by decide, lk_Jx35411_28, by decide +kernel⟩
theorem lk_Jx35411_37 : zLk RJx35411 37 TJx4a65c 1 := Or.inl ⟨_, ⟨tw_1 _ (List.mem_of_getElem? (i := 74) (by decide +kernel)), by decide +kernel⟩, Or.inl rfl⟩
theorem gf_Jx35411_37 : zGF RJx35411 37 14 129 true := ⟨4, 1, RJx4a65c, TJx4a65c, 3, tyJx4a65c, rfl, rfl, cls_4, by decide, lk_Jx35411_37, by decide +kernel⟩
theorem pf_X0_init_7 : zPF mth_X0_init 7 15 160 .int false := ⟨5, 0, RX0, TX0, 9, tyX0, rfl, rfl, cls_5, by decide, lk_X0_7, by decide +kernel, rfl, Or.inr ⟨rfl, rfl, rfl, ⟨tw_3 _ (List.mem_of_getElem? (i := 190) (by decide +kernel)), by decide +kernel⟩⟩⟩
theorem pf_X0_init_13 : zPF mth_X0_init 13 15 161 .int false := ⟨5, 1, RX0, TX0, 9, tyX0, rfl, rfl, cls_5, by decide, lk_X0_13, by decide +kernel, rfl, Or.inr ⟨rfl, rfl, rfl, ⟨tw_3 _ (List.mem_of_getElem? (i := 193) (by decide +kernel)), by decide +kernel⟩⟩⟩
theorem pf_X0_init_16 : zPF mth_X0_init 16 15 162 .int false := ⟨5, 2, RX0, TX0, 9, tyX0, rfl, rfl, cls_5, by decide, lk_X0_16, by decide +kernel, rfl, Or.inr ⟨rfl, rfl, rfl, ⟨tw_3 _ (List.mem_of_getElem? (i := 195) (by decide +kernel)), by decide +kernel⟩⟩⟩
theorem pf_X0_init_19 : zPF mth_X0_init 19 15 163 .int false := ⟨5, 3, RX0, TX0, 9, tyX0, rfl, rfl, cls_5, by decide, lk_X0_19, by decide +kernel, rfl, Or.inr ⟨rfl, rfl, rfl, ⟨tw_3 _ (List.mem_of_getElem? (i := 199) (by decide +kernel)), by decide +kernel⟩⟩⟩
theorem pf_X0_init_22 : zPF mth_X0_init 22 15 165 .int false := ⟨5, 5, RX0, TX0, 9, tyX0, rfl, rfl, cls_5, by decide, lk_X0_22, by decide +kernel, rfl, Or.inl rfl⟩
theorem pf_X0_init_25 : zPF mth_X0_init 25 15 164 .boolean false := ⟨5, 4, RX0, TX0, 9, tyX0, rfl, rfl, cls_5, by decide, lk_X0_25, by decide +kernel, rfl, Or.inr ⟨rfl, rfl, rfl, ⟨tw_3 _ (List.mem_of_getElem? (i := 202) (by decide +kernel)), by decide +kernel⟩⟩⟩
theorem pf_X0_init_29 : zPF mth_X0_init 29 15 168 .int false := ⟨5, 8, RX0, TX0, 9, tyX0, rfl, rfl, cls_5, by decide, lk_X0_29, by decide +kernel, rfl, Or.inl rfl⟩
theorem pf_X1_init_9 : zPF mth_X1_init 9 16 192 (.array .int) true := ⟨6, 0, RX1, TX1, 2, tyX1, rfl, rfl, cls_6, by decide, lk_X1_9, by decide +kernel, rfl, Or.inr ⟨rfl, rfl, rfl, ⟨tw_1 _ (List.mem_of_getElem? (i := 104) (by decide +kernel)), by decide +kernel⟩⟩⟩
theorem pf_X1_init_15 : zPF mth_X1_init 15 16 193 (.array .int) true := ⟨6, 1, RX1, TX1, 2, tyX1, rfl, rfl, cls_6, by decide, lk_X1_15, by decide +kernel, rfl, Or.inr ⟨rfl, rfl, rfl, ⟨tw_1 _ (List.mem_of_getElem? (i := 107) (by decide +kernel)), by decide +kernel⟩⟩⟩
theorem pf_X2_init_9 : zPF mth_X2_init 9 17 224 (.object "Hatpitch$Street") true := ⟨7, 0, RX2, TX2, 9, tyX2, rfl, rfl, cls_7, by decide, lk_X2_9, by decide +kernel, rfl, Or.inr ⟨rfl, rfl, rfl, ⟨tw_1 _ (List.mem_of_getElem? (i := 186) (by decide +kernel)), by decide +kernel⟩⟩⟩
theorem pf_X2_init_15 : zPF mth_X2_init 15 17 225 (.object "Hatpitch$Weather") true := ⟨7, 1, RX2, TX2, 9, tyX2, rfl, rfl, cls_7, by decide, lk_X2_15, by decide +kernel, rfl, Or.inr ⟨rfl, rfl, rfl, ⟨tw_1 _ (List.mem_of_getElem? (i := 187) (by decide +kernel)), by decide +kernel⟩⟩⟩
theorem pf_X2_init_19 : zPF mth_X2_init 19 17 226 (.object "Hatpitch$Law") true := ⟨7, 2, RX2, TX2, 9, tyX2, rfl, rfl, cls_7, by decide, lk_X2_19, by decide +kernel, rfl, Or.inr ⟨rfl, rfl, rfl, ⟨tw_1 _ (List.mem_of_getElem? (i := 188) (by decide +kernel)), by decide +kernel⟩⟩⟩
theorem nc_X2_23 : zNC RX2 23 14 3 := ⟨4, RJx4a65c, TJx4a65c, tyJx4a65c, rfl, cls_4, ⟨tw_1 _ (List.mem_of_getElem? (i := 184) (by decide +kernel)), by decide +kernel⟩, ⟨tw_1 _ (List.mem_of_getElem? (i := 60) (by decide +kernel)), by decide +kernel⟩, ⟨tw_1 _ (List.mem_of_getElem? (i := 5) (by decide +kernel)), by decide +kernel⟩, by decide +kernel⟩
theorem pf_X2_init_26 : zPF mth_X2_init 26 17 227 (.object "java/util/ArrayList") true := ⟨7, 3, RX2, TX2, 9, tyX2, rfl, rfl, cls_7, by decide, lk_X2_26, by decide +kernel, rfl, Or.inr ⟨rfl, rfl, rfl, ⟨tw_1 _ (List.mem_of_getElem? (i := 189) (by decide +kernel)), by decide +kernel⟩⟩⟩
theorem pf_X2_begin_33 : zPF mth_X2_begin 33 17 228 .boolean false := ⟨7, 4, RX2, TX2, 9, tyX2, rfl, rfl, cls_7, by decide, lk_X2_33, by decide +kernel, rfl, Or.inl rfl⟩
theorem pf_X2_begin_37 : zPF mth_X2_begin 37 17 230 .int false := ⟨7, 6, RX2, TX2, 9, tyX2, rfl, rfl, cls_7, by decide, lk_X2_37, by decide +kernel, rfl, Or.inl rfl⟩
theorem pf_X2_begin_41 : zPF mth_X2_begin 41 17 229 .int false := ⟨7, 5, RX2, TX2, 9, tyX2, rfl, rfl, cls_7, by decide, lk_X2_41, by decide +kernel, rfl, Or.inl rfl⟩
theorem pf_X2_run_33 : zPF mth_X2_run 33 17 228 .boolean false := ⟨7, 4, RX2, TX2, 9, tyX2, rfl, rfl, cls_7, by decide, lk_X2_33, by decide +kernel, rfl, Or.inl rfl⟩
theorem pf_X2_judge_123 : zPF mth_X2_judge 123 15 167 .int false := ⟨5, 7, RX0, TX0, 9, tyX0, rfl, rfl, cls_5, by decide, lk_X2_123, by decide +kernel, rfl, Or.inl rfl⟩
theorem pf_X2_judge_129 : zPF mth_X2_judge 129 17 232 .int false := ⟨7, 8, RX2, TX2, 9, tyX2, rfl, rfl, cls_7, by decide, lk_X2_129, by decide +kernel, rfl, Or.inl rfl⟩
theorem pf_X2_gather_175 : zPF mth_X2_gather 175 23 422 .int false := ⟨13, 6, RX8, TX8, 9, tyX8, rfl, rfl, cls_13, by decide, lk_X2_175, by decide +kernel, rfl, Or.inl rfl⟩
theorem pf_X2_endIfDue_37 : zPF mth_X2_endIfDue 37 17 230 .int false := ⟨7, 6, RX2, TX2, 9, tyX2, rfl, rfl, cls_7, by decide, lk_X2_37, by decide +kernel, rfl, Or.inl rfl⟩
theorem pf_X2_endIfDue_200 : zPF mth_X2_endIfDue 200 17 231 .int false := ⟨7, 7, RX2, TX2, 9, tyX2, rfl, rfl, cls_7, by decide, lk_X2_200, by decide +kernel, rfl, Or.inl rfl⟩
theorem pf_X3_init_9 : zPF mth_X3_init 9 18 256 (.array .int) true := ⟨8, 0, RX3, TX3, 2, tyX3, rfl, rfl, cls_8, by decide, lk_X3_9, by decide +kernel, rfl, Or.inr ⟨rfl, rfl, rfl, ⟨tw_1 _ (List.mem_of_getElem? (i := 226) (by decide +kernel)), by decide +kernel⟩⟩⟩
theorem pf_X3_write_21 : zPF mth_X3_write 21 18 257 .int false := ⟨8, 1, RX3, TX3, 2, tyX3, rfl, rfl, cls_8, by decide, lk_X3_21, by decide +kernel, rfl, Or.inl rfl⟩
theorem pf_X4_init_9 : zPF mth_X4_init 9 19 288 .int false := ⟨9, 0, RX4, TX4, 2, tyX4, rfl, rfl, cls_9, by decide, lk_X4_9, by decide +kernel, rfl, Or.inl rfl⟩
theorem pf_X5_init_9 : zPF mth_X5_init 9 20 320 (.array .int) true := ⟨10, 0, RX5, TX5, 6, tyX5, rfl, rfl, cls_10, by decide, lk_X5_9, by decide +kernel, rfl, Or.inr ⟨rfl, rfl, rfl, ⟨tw_1 _ (List.mem_of_getElem? (i := 120) (by decide +kernel)), by decide +kernel⟩⟩⟩
theorem pf_X5_init_15 : zPF mth_X5_init 15 20 321 (.array .int) true := ⟨10, 1, RX5, TX5, 6, tyX5, rfl, rfl, cls_10, by decide, lk_X5_15, by decide +kernel, rfl, Or.inr ⟨rfl, rfl, rfl, ⟨tw_1 _ (List.mem_of_getElem? (i := 122) (by decide +kernel)), by decide +kernel⟩⟩⟩
theorem pf_X5_init_18 : zPF mth_X5_init 18 20 322 (.array .int) true := ⟨10, 2, RX5, TX5, 6, tyX5, rfl, rfl, cls_10, by decide, lk_X5_18, by decide +kernel, rfl, Or.inr ⟨rfl, rfl, rfl, ⟨tw_1 _ (List.mem_of_getElem? (i := 123) (by decide +kernel)), by decide +kernel⟩⟩⟩
theorem pf_X5_init_21 : zPF mth_X5_init 21 20 325 .int false := ⟨10, 5, RX5, TX5, 6, tyX5, rfl, rfl, cls_10, by decide, lk_X5_21, by decide +kernel, rfl, Or.inl rfl⟩
theorem pf_X5_draw_40 : zPF mth_X5_draw 40 20 323 .int false := ⟨10, 3, RX5, TX5, 6, tyX5, rfl, rfl, cls_10, by decide, lk_X5_40, by decide +kernel, rfl, Or.inl rfl⟩
theorem pf_X5_draw_43 : zPF mth_X5_draw 43 20 324 .boolean false := ⟨10, 4, RX5, TX5, 6, tyX5, rfl, rfl, cls_10, by decide, lk_X5_43, by decide +kernel, rfl, Or.inl rfl⟩
theorem pf_X5_drawOne_21 : zPF mth_X5_drawOne 21 20 325 .int false := ⟨10, 5, RX5, TX5, 6, tyX5, rfl, rfl, cls_10, by decide, lk_X5_21, by decide +kernel, rfl, Or.inl rfl⟩
theorem pf_X6_init_9 : zPF mth_X6_init 9 21 352 .int false := ⟨11, 0, RX6, TX6, 8, tyX6, rfl, rfl, cls_11, by decide, lk_X6_9, by decide +kernel, rfl, Or.inr ⟨rfl, rfl, rfl, ⟨tw_3 _ (List.mem_of_getElem? (i := 10) (by decide +kernel)), by decide +kernel⟩⟩⟩
theorem pf_X6_init_15 : zPF mth_X6_init 15 21 353 .int false := ⟨11, 1, RX6, TX6, 8, tyX6, rfl, rfl, cls_11, by decide, lk_X6_15, by decide +kernel, rfl, Or.inr ⟨rfl, rfl, rfl, ⟨tw_3 _ (List.mem_of_getElem? (i := 13) (by decide +kernel)), by decide +kernel⟩⟩⟩
theorem pf_X6_init_18 : zPF mth_X6_init 18 21 354 .boolean false := ⟨11, 2, RX6, TX6, 8, tyX6, rfl, rfl, cls_11, by decide, lk_X6_18, by decide +kernel, rfl, Or.inr ⟨rfl, rfl, rfl, ⟨tw_3 _ (List.mem_of_getElem? (i := 15) (by decide +kernel)), by decide +kernel⟩⟩⟩
theorem pf_X6_init_22 : zPF mth_X6_init 22 21 355 (.array .int) true := ⟨11, 3, RX6, TX6, 8, tyX6, rfl, rfl, cls_11, by decide, lk_X6_22, by decide +kernel, rfl, Or.inr ⟨rfl, rfl, rfl, ⟨tw_3 _ (List.mem_of_getElem? (i := 17) (by decide +kernel)), by decide +kernel⟩⟩⟩
theorem nc_X6_26 : zNC RX6 26 14 3 := ⟨4, RJx4a65c, TJx4a65c, tyJx4a65c, rfl, cls_4, ⟨tw_3 _ (List.mem_of_getElem? (i := 8) (by decide +kernel)), by decide +kernel⟩, ⟨tw_1 _ (List.mem_of_getElem? (i := 60) (by decide +kernel)), by decide +kernel⟩, ⟨tw_1 _ (List.mem_of_getElem? (i := 5) (by decide +kernel)), by decide +kernel⟩, by decide +kernel⟩
theorem pf_X6_init_29 : zPF mth_X6_init 29 21 356 (.object "java/util/ArrayList") true := ⟨11, 4, RX6, TX6, 8, tyX6, rfl, rfl, cls_11, by decide, lk_X6_29, by decide +kernel, rfl, Or.inr ⟨rfl, rfl, rfl, ⟨tw_3 _ (List.mem_of_getElem? (i := 19) (by decide +kernel)), by decide +kernel⟩⟩⟩
theorem pf_X6_openDay_52 : zPF mth_X6_openDay 52 21 357 .int false := ⟨11, 5, RX6, TX6, 8, tyX6, rfl, rfl, cls_11, by decide, lk_X6_52, by decide +kernel, rfl, Or.inl rfl⟩
theorem pf_X6_openDay_55 : zPF mth_X6_openDay 55 21 358 .int false := ⟨11, 6, RX6, TX6, 8, tyX6, rfl, rfl, cls_11, by decide, lk_X6_55, by decide +kernel, rfl, Or.inl rfl⟩
theorem pf_X6_openDay_58 : zPF mth_X6_openDay 58 21 359 (.object "Hatpitch$Turn") true := ⟨11, 7, RX6, TX6, 8, tyX6, rfl, rfl, cls_11, by decide, lk_X6_58, by decide +kernel, rfl, Or.inl rfl⟩
theorem pf_X6_openMinute_55 : zPF mth_X6_openMinute 55 21 358 .int false := ⟨11, 6, RX6, TX6, 8, tyX6, rfl, rfl, cls_11, by decide, lk_X6_55, by decide +kernel, rfl, Or.inl rfl⟩
theorem pf_X6_openMinute_58 : zPF mth_X6_openMinute 58 21 359 (.object "Hatpitch$Turn") true := ⟨11, 7, RX6, TX6, 8, tyX6, rfl, rfl, cls_11, by decide, lk_X6_58, by decide +kernel, rfl, Or.inl rfl⟩
theorem pf_X6_beginNext_52 : zPF mth_X6_beginNext 52 21 357 .int false := ⟨11, 5, RX6, TX6, 8, tyX6, rfl, rfl, cls_11, by decide, lk_X6_52, by decide +kernel, rfl, Or.inl rfl⟩
theorem pf_X6_beginNext_58 : zPF mth_X6_beginNext 58 21 359 (.object "Hatpitch$Turn") true := ⟨11, 7, RX6, TX6, 8, tyX6, rfl, rfl, cls_11, by decide, lk_X6_58, by decide +kernel, rfl, Or.inl rfl⟩
theorem nc_X7_7 : zNC RX7 7 14 3 := ⟨4, RJx4a65c, TJx4a65c, tyJx4a65c, rfl, cls_4, ⟨tw_1 _ (List.mem_of_getElem? (i := 59) (by decide +kernel)), by decide +kernel⟩, ⟨tw_1 _ (List.mem_of_getElem? (i := 60) (by decide +kernel)), by decide +kernel⟩, ⟨tw_1 _ (List.mem_of_getElem? (i := 5) (by decide +kernel)), by decide +kernel⟩, by decide +kernel⟩
theorem pf_X7_init_10 : zPF mth_X7_init 10 22 384 (.object "java/util/ArrayList") true := ⟨12, 0, RX7, TX7, 2, tyX7, rfl, rfl, cls_12, by decide, lk_X7_10, by decide +kernel, rfl, Or.inr ⟨rfl, rfl, rfl, ⟨tw_1 _ (List.mem_of_getElem? (i := 88) (by decide +kernel)), by decide +kernel⟩⟩⟩
theorem pf_X7_init_16 : zPF mth_X7_init 16 22 385 (.object "java/util/ArrayList") true := ⟨12, 1, RX7, TX7, 2, tyX7, rfl, rfl, cls_12, by decide, lk_X7_16, by decide +kernel, rfl, Or.inr ⟨rfl, rfl, rfl, ⟨tw_1 _ (List.mem_of_getElem? (i := 91) (by decide +kernel)), by decide +kernel⟩⟩⟩
theorem pf_X7_makePartners_42 : zPF mth_X7_makePartners 42 15 168 .int false := ⟨5, 8, RX0, TX0, 9, tyX0, rfl, rfl, cls_5, by decide, lk_X7_42, by decide +kernel, rfl, Or.inl rfl⟩
theorem pf_X7_share_53 : zPF mth_X7_share 53 15 167 .int false := ⟨5, 7, RX0, TX0, 9, tyX0, rfl, rfl, cls_5, by decide, lk_X7_53, by decide +kernel, rfl, Or.inl rfl⟩
theorem pf_X8_init_9 : zPF mth_X8_init 9 23 416 (.object "Hatpitch$Act") true := ⟨13, 0, RX8, TX8, 9, tyX8, rfl, rfl, cls_13, by decide, lk_X8_9, by decide +kernel, rfl, Or.inr ⟨rfl, rfl, rfl, ⟨tw_4 _ (List.mem_of_getElem? (i := 115) (by decide +kernel)), by decide +kernel⟩⟩⟩
theorem pf_X8_open_15 : zPF mth_X8_open 15 23 417 .int false := ⟨13, 1, RX8, TX8, 9, tyX8, rfl, rfl, cls_13, by decide, lk_X8_15, by decide +kernel, rfl, Or.inl rfl⟩
theorem pf_X8_open_23 : zPF mth_X8_open 23 23 418 .int false := ⟨13, 2, RX8, TX8, 9, tyX8, rfl, rfl, cls_13, by decide, lk_X8_23, by decide +kernel, rfl, Or.inl rfl⟩
theorem pf_X8_open_26 : zPF mth_X8_open 26 23 423 .boolean false := ⟨13, 7, RX8, TX8, 9, tyX8, rfl, rfl, cls_13, by decide, lk_X8_26, by decide +kernel, rfl, Or.inl rfl⟩
theorem pf_X8_move_35 : zPF mth_X8_move 35 23 419 .int false := ⟨13, 3, RX8, TX8, 9, tyX8, rfl, rfl, cls_13, by decide, lk_X8_35, by decide +kernel, rfl, Or.inl rfl⟩
theorem pf_X8_move_38 : zPF mth_X8_move 38 23 420 .int false := ⟨13, 4, RX8, TX8, 9, tyX8, rfl, rfl, cls_13, by decide, lk_X8_38, by decide +kernel, rfl, Or.inl rfl⟩
theorem pf_X8_breakAt_47 : zPF mth_X8_breakAt 47 23 424 .boolean false := ⟨13, 8, RX8, TX8, 9, tyX8, rfl, rfl, cls_13, by decide, lk_X8_47, by decide +kernel, rfl, Or.inl rfl⟩
theorem pf_X8_breakAt_23 : zPF mth_X8_breakAt 23 23 418 .int false := ⟨13, 2, RX8, TX8, 9, tyX8, rfl, rfl, cls_13, by decide, lk_X8_23, by decide +kernel, rfl, Or.inl rfl⟩
theorem pf_X8_passHat_56 : zPF mth_X8_passHat 56 23 421 .int false := ⟨13, 5, RX8, TX8, 9, tyX8, rfl, rfl, cls_13, by decide, lk_X8_56, by decide +kernel, rfl, Or.inl rfl⟩
theorem pf_X9_init_7 : zPF mth_X9_init 7 24 448 (.object "Hatpitch$Pitch") true := ⟨14, 0, RX9, TX9, 4, tyX9, rfl, rfl, cls_14, by decide, lk_X9_7, by decide +kernel, rfl, Or.inr ⟨rfl, rfl, rfl, ⟨tw_4 _ (List.mem_of_getElem? (i := 238) (by decide +kernel)), by decide +kernel⟩⟩⟩
theorem pf_X9_init_13 : zPF mth_X9_init 13 24 449 .int false := ⟨14, 1, RX9, TX9, 4, tyX9, rfl, rfl, cls_14, by decide, lk_X9_13, by decide +kernel, rfl, Or.inr ⟨rfl, rfl, rfl, ⟨tw_5 _ (List.mem_of_getElem? (i := 0) (by decide +kernel)), by decide +kernel⟩⟩⟩
theorem pf_X9_init_17 : zPF mth_X9_init 17 24 450 .char false := ⟨14, 2, RX9, TX9, 4, tyX9, rfl, rfl, cls_14, by decide, lk_X9_17, by decide +kernel, rfl, Or.inl rfl⟩
theorem pf_X9_fine_17 : zPF mth_X9_fine 17 24 450 .char false := ⟨14, 2, RX9, TX9, 4, tyX9, rfl, rfl, cls_14, by decide, lk_X9_17, by decide +kernel, rfl, Or.inl rfl⟩
theorem pf_X9_fine_21 : zPF mth_X9_fine 21 24 451 .int false := ⟨14, 3, RX9, TX9, 4, tyX9, rfl, rfl, cls_14, by decide, lk_X9_21, by decide +kernel, rfl, Or.inl rfl⟩
theorem pf_X10_init_7 : zPF mth_X10_init 7 25 481 .int false := ⟨15, 1, RX10, TX10, 3, tyX10, rfl, rfl, cls_15, by decide, lk_X10_7, by decide +kernel, rfl, Or.inl rfl⟩
theorem pf_X10_endRain_13 : zPF mth_X10_endRain 13 25 480 .int false := ⟨15, 0, RX10, TX10, 3, tyX10, rfl, rfl, cls_15, by decide, lk_X10_13, by decide +kernel, rfl, Or.inl rfl⟩
theorem pf_X10_endRain_7 : zPF mth_X10_endRain 7 25 481 .int false := ⟨15, 1, RX10, TX10, 3, tyX10, rfl, rfl, cls_15, by decide, lk_X10_7, by decide +kernel, rfl, Or.inl rfl⟩
theorem nc_X11_7 : zNC RX11 7 22 2 := ⟨12, RX7, TX7, tyX7, rfl, cls_12, ⟨tw_1 _ (List.mem_of_getElem? (i := 53) (by decide +kernel)), by decide +kernel⟩, ⟨tw_1 _ (List.mem_of_getElem? (i := 54) (by decide +kernel)), by decide +kernel⟩, ⟨tw_1 _ (List.mem_of_getElem? (i := 2) (by decide +kernel)), by decide +kernel⟩, by decide +kernel⟩
theorem pf_X11_init_10 : zPF mth_X11_init 10 26 512 (.object "Hatpitch$Street") true := ⟨16, 0, RX11, TX11, 7, tyX11, rfl, rfl, cls_16, by decide, lk_X11_10, by decide +kernel, rfl, Or.inr ⟨rfl, rfl, rfl, ⟨tw_1 _ (List.mem_of_getElem? (i := 235) (by decide +kernel)), by decide +kernel⟩⟩⟩
theorem nc_X11_16 : zNC RX11 16 16 2 := ⟨6, RX1, TX1, tyX1, rfl, cls_6, ⟨tw_1 _ (List.mem_of_getElem? (i := 98) (by decide +kernel)), by decide +kernel⟩, ⟨tw_1 _ (List.mem_of_getElem? (i := 99) (by decide +kernel)), by decide +kernel⟩, ⟨tw_1 _ (List.mem_of_getElem? (i := 6) (by decide +kernel)), by decide +kernel⟩, by decide +kernel⟩
theorem pf_X11_init_19 : zPF mth_X11_init 19 26 513 (.object "Hatpitch$Customs") true := ⟨16, 1, RX11, TX11, 7, tyX11, rfl, rfl, cls_16, by decide, lk_X11_19, by decide +kernel, rfl, Or.inr ⟨rfl, rfl, rfl, ⟨tw_1 _ (List.mem_of_getElem? (i := 236) (by decide +kernel)), by decide +kernel⟩⟩⟩
theorem nc_X11_23 : zNC RX11 23 20 6 := ⟨10, RX5, TX5, tyX5, rfl, cls_10, ⟨tw_1 _ (List.mem_of_getElem? (i := 114) (by decide +kernel)), by decide +kernel⟩, ⟨tw_1 _ (List.mem_of_getElem? (i := 115) (by decide +kernel)), by decide +kernel⟩, ⟨tw_1 _ (List.mem_of_getElem? (i := 7) (by decide +kernel)), by decide +kernel⟩, by decide +kernel⟩
theorem pf_X11_init_26 : zPF mth_X11_init 26 26 514 (.object "Hatpitch$Lots") true := ⟨16, 2, RX11, TX11, 7, tyX11, rfl, rfl, cls_16, by decide, lk_X11_26, by decide +kernel, rfl, Or.inr ⟨rfl, rfl, rfl, ⟨tw_1 _ (List.mem_of_getElem? (i := 237) (by decide +kernel)), by decide +kernel⟩⟩⟩
theorem nc_X11_30 : zNC RX11 30 25 3 := ⟨15, RX10, TX10, tyX10, rfl, cls_15, ⟨tw_1 _ (List.mem_of_getElem? (i := 143) (by decide +kernel)), by decide +kernel⟩, ⟨tw_1 _ (List.mem_of_getElem? (i := 144) (by decide +kernel)), by decide +kernel⟩, ⟨tw_1 _ (List.mem_of_getElem? (i := 8) (by decide +kernel)), by decide +kernel⟩, by decide +kernel⟩
theorem pf_X11_init_33 : zPF mth_X11_init 33 26 515 (.object "Hatpitch$Weather") true := ⟨16, 3, RX11, TX11, 7, tyX11, rfl, rfl, cls_16, by decide, lk_X11_33, by decide +kernel, rfl, Or.inr ⟨rfl, rfl, rfl, ⟨tw_1 _ (List.mem_of_getElem? (i := 238) (by decide +kernel)), by decide +kernel⟩⟩⟩
theorem nc_X11_37 : zNC RX11 37 19 2 := ⟨9, RX4, TX4, tyX4, rfl, cls_9, ⟨tw_1 _ (List.mem_of_getElem? (i := 162) (by decide +kernel)), by decide +kernel⟩, ⟨tw_1 _ (List.mem_of_getElem? (i := 163) (by decide +kernel)), by decide +kernel⟩, ⟨tw_1 _ (List.mem_of_getElem? (i := 9) (by decide +kernel)), by decide +kernel⟩, by decide +kernel⟩
theorem pf_X11_init_40 : zPF mth_X11_init 40 26 516 (.object "Hatpitch$Law") true := ⟨16, 4, RX11, TX11, 7, tyX11, rfl, rfl, cls_16, by decide, lk_X11_40, by decide +kernel, rfl, Or.inr ⟨rfl, rfl, rfl, ⟨tw_1 _ (List.mem_of_getElem? (i := 239) (by decide +kernel)), by decide +kernel⟩⟩⟩
theorem nc_X11_44 : zNC RX11 44 17 9 := ⟨7, RX2, TX2, tyX2, rfl, cls_7, ⟨tw_1 _ (List.mem_of_getElem? (i := 178) (by decide +kernel)), by decide +kernel⟩, ⟨tw_1 _ (List.mem_of_getElem? (i := 179) (by decide +kernel)), by decide +kernel⟩, ⟨tw_1 _ (List.mem_of_getElem? (i := 10) (by decide +kernel)), by decide +kernel⟩, by decide +kernel⟩
theorem pf_X11_init_49 : zPF mth_X11_init 49 26 517 (.object "Hatpitch$Day") true := ⟨16, 5, RX11, TX11, 7, tyX11, rfl, rfl, cls_16, by decide, lk_X11_49, by decide +kernel, rfl, Or.inr ⟨rfl, rfl, rfl, ⟨tw_2 _ (List.mem_of_getElem? (i := 0) (by decide +kernel)), by decide +kernel⟩⟩⟩
theorem nc_X11_53 : zNC RX11 53 18 2 := ⟨8, RX3, TX3, tyX3, rfl, cls_8, ⟨tw_1 _ (List.mem_of_getElem? (i := 220) (by decide +kernel)), by decide +kernel⟩, ⟨tw_1 _ (List.mem_of_getElem? (i := 221) (by decide +kernel)), by decide +kernel⟩, ⟨tw_1 _ (List.mem_of_getElem? (i := 11) (by decide +kernel)), by decide +kernel⟩, by decide +kernel⟩
theorem pf_X11_init_56 : zPF mth_X11_init 56 26 518 (.object "Hatpitch$Diary") true := ⟨16, 6, RX11, TX11, 7, tyX11, rfl, rfl, cls_16, by decide, lk_X11_56, by decide +kernel, rfl, Or.inr ⟨rfl, rfl, rfl, ⟨tw_2 _ (List.mem_of_getElem? (i := 1) (by decide +kernel)), by decide +kernel⟩⟩⟩
theorem nc_X11_90 : zNC RX11 90 21 8 := ⟨11, RX6, TX6, tyX6, rfl, cls_11, ⟨tw_2 _ (List.mem_of_getElem? (i := 83) (by decide +kernel)), by decide +kernel⟩, ⟨tw_3 _ (List.mem_of_getElem? (i := 3) (by decide +kernel)), by decide +kernel⟩, ⟨tw_1 _ (List.mem_of_getElem? (i := 21) (by decide +kernel)), by decide +kernel⟩, by decide +kernel⟩
theorem nc_X11_120 : zNC RX11 120 15 9 := ⟨5, RX0, TX0, tyX0, rfl, cls_5, ⟨tw_2 _ (List.mem_of_getElem? (i := 81) (by decide +kernel)), by decide +kernel⟩, ⟨tw_3 _ (List.mem_of_getElem? (i := 185) (by decide +kernel)), by decide +kernel⟩, ⟨tw_1 _ (List.mem_of_getElem? (i := 32) (by decide +kernel)), by decide +kernel⟩, by decide +kernel⟩
theorem pf_X11_setLine_128 : zPF mth_X11_setLine 128 15 165 .int false := ⟨5, 5, RX0, TX0, 9, tyX0, rfl, rfl, cls_5, by decide, lk_X11_128, by decide +kernel, rfl, Or.inl rfl⟩
theorem pf_X11_setPermit_132 : zPF mth_X11_setPermit 132 15 166 .boolean false := ⟨5, 6, RX0, TX0, 9, tyX0, rfl, rfl, cls_5, by decide, lk_X11_132, by decide +kernel, rfl, Or.inl rfl⟩
theorem pf_X11_seed_184 : zPF mth_X11_seed 184 20 325 .int false := ⟨10, 5, RX5, TX5, 6, tyX5, rfl, rfl, cls_10, by decide, lk_X11_184, by decide +kernel, rfl, Or.inl rfl⟩
theorem nc_X11_198 : zNC RX11 198 23 9 := ⟨13, RX8, TX8, tyX8, rfl, cls_13, ⟨tw_4 _ (List.mem_of_getElem? (i := 109) (by decide +kernel)), by decide +kernel⟩, ⟨tw_4 _ (List.mem_of_getElem? (i := 110) (by decide +kernel)), by decide +kernel⟩, ⟨tw_1 _ (List.mem_of_getElem? (i := 37) (by decide +kernel)), by decide +kernel⟩, by decide +kernel⟩
theorem pf_X11_setRain_236 : zPF mth_X11_setRain 236 25 480 .int false := ⟨15, 0, RX10, TX10, 3, tyX10, rfl, rfl, cls_15, by decide, lk_X11_236, by decide +kernel, rfl, Or.inl rfl⟩
theorem pf_X11_setRain_239 : zPF mth_X11_setRain 239 25 481 .int false := ⟨15, 1, RX10, TX10, 3, tyX10, rfl, rfl, cls_15, by decide, lk_X11_239, by decide +kernel, rfl, Or.inl rfl⟩
theorem pf_X11_setCold_242 : zPF mth_X11_setCold 242 25 482 .int false := ⟨15, 2, RX10, TX10, 3, tyX10, rfl, rfl, cls_15, by decide, lk_X11_242, by decide +kernel, rfl, Or.inl rfl⟩
theorem pf_X11_setLaw_245 : zPF mth_X11_setLaw 245 19 288 .int false := ⟨9, 0, RX4, TX4, 2, tyX4, rfl, rfl, cls_9, by decide, lk_X11_245, by decide +kernel, rfl, Or.inl rfl⟩
theorem pf_X11_setLaw_248 : zPF mth_X11_setLaw 248 19 289 .int false := ⟨9, 1, RX4, TX4, 2, tyX4, rfl, rfl, cls_9, by decide, lk_X11_248, by decide +kernel, rfl, Or.inl rfl⟩
theorem nc_X11_256 : zNC RX11 256 24 4 := ⟨14, RX9, TX9, tyX9, rfl, cls_14, ⟨tw_4 _ (List.mem_of_getElem? (i := 232) (by decide +kernel)), by decide +kernel⟩, ⟨tw_4 _ (List.mem_of_getElem? (i := 233) (by decide +kernel)), by decide +kernel⟩, ⟨tw_1 _ (List.mem_of_getElem? (i := 39) (by decide +kernel)), by decide +kernel⟩, by decide +kernel⟩
theorem pf_X12_init_7 : zPF mth_X12_init 7 27 544 .int false := ⟨17, 0, RX12, TX12, 8, tyX12, rfl, rfl, cls_17, by decide, lk_X12_7, by decide +kernel, rfl, Or.inr ⟨rfl, rfl, rfl, ⟨tw_7 _ (List.mem_of_getElem? (i := 13) (by decide +kernel)), by decide +kernel⟩⟩⟩
theorem pf_X12_init_13 : zPF mth_X12_init 13 27 545 .int false := ⟨17, 1, RX12, TX12, 8, tyX12, rfl, rfl, cls_17, by decide, lk_X12_13, by decide +kernel, rfl, Or.inr ⟨rfl, rfl, rfl, ⟨tw_7 _ (List.mem_of_getElem? (i := 15) (by decide +kernel)), by decide +kernel⟩⟩⟩
theorem pf_X12_init_16 : zPF mth_X12_init 16 27 546 .int false := ⟨17, 2, RX12, TX12, 8, tyX12, rfl, rfl, cls_17, by decide, lk_X12_16, by decide +kernel, rfl, Or.inr ⟨rfl, rfl, rfl, ⟨tw_7 _ (List.mem_of_getElem? (i := 17) (by decide +kernel)), by decide +kernel⟩⟩⟩
theorem pf_X12_init_19 : zPF mth_X12_init 19 27 547 .int false := ⟨17, 3, RX12, TX12, 8, tyX12, rfl, rfl, cls_17, by decide, lk_X12_19, by decide +kernel, rfl, Or.inl rfl⟩
theorem pf_X12_init_22 : zPF mth_X12_init 22 27 548 .boolean false := ⟨17, 4, RX12, TX12, 8, tyX12, rfl, rfl, cls_17, by decide, lk_X12_22, by decide +kernel, rfl, Or.inr ⟨rfl, rfl, rfl, ⟨tw_7 _ (List.mem_of_getElem? (i := 21) (by decide +kernel)), by decide +kernel⟩⟩⟩
theorem pf_X12_init_26 : zPF mth_X12_init 26 27 551 .int false := ⟨17, 7, RX12, TX12, 8, tyX12, rfl, rfl, cls_17, by decide, lk_X12_26, by decide +kernel, rfl, Or.inl rfl⟩
theorem pf_X13_init_9 : zPF mth_X13_init 9 28 579 (.array .int) true := ⟨18, 3, RX13, TX13, 5, tyX13, rfl, rfl, cls_18, by decide, lk_X13_9, by decide +kernel, rfl, Or.inr ⟨rfl, rfl, rfl, ⟨tw_6 _ (List.mem_of_getElem? (i := 204) (by decide +kernel)), by decide +kernel⟩⟩⟩
theorem nc_X13_15 : zNC RX13 15 14 3 := ⟨4, RJx4a65c, TJx4a65c, tyJx4a65c, rfl, cls_4, ⟨tw_6 _ (List.mem_of_getElem? (i := 196) (by decide +kernel)), by decide +kernel⟩, ⟨tw_1 _ (List.mem_of_getElem? (i := 60) (by decide +kernel)), by decide +kernel⟩, ⟨tw_1 _ (List.mem_of_getElem? (i := 5) (by decide +kernel)), by decide +kernel⟩, by decide +kernel⟩
theorem pf_X13_init_18 : zPF mth_X13_init 18 28 580 (.object "java/util/ArrayList") true := ⟨18, 4, RX13, TX13, 5, tyX13, rfl, rfl, cls_18, by decide, lk_X13_18, by decide +kernel, rfl, Or.inr ⟨rfl, rfl, rfl, ⟨tw_6 _ (List.mem_of_getElem? (i := 206) (by decide +kernel)), by decide +kernel⟩⟩⟩
theorem pf_X13_init_22 : zPF mth_X13_init 22 28 576 .int false := ⟨18, 0, RX13, TX13, 5, tyX13, rfl, rfl, cls_18, by decide, lk_X13_22, by decide +kernel, rfl, Or.inr ⟨rfl, rfl, rfl, ⟨tw_6 _ (List.mem_of_getElem? (i := 198) (by decide +kernel)), by decide +kernel⟩⟩⟩
theorem pf_X13_init_26 : zPF mth_X13_init 26 28 577 .int false := ⟨18, 1, RX13, TX13, 5, tyX13, rfl, rfl, cls_18, by decide, lk_X13_26, by decide +kernel, rfl, Or.inr ⟨rfl, rfl, rfl, ⟨tw_6 _ (List.mem_of_getElem? (i := 200) (by decide +kernel)), by decide +kernel⟩⟩⟩
theorem pf_X13_init_29 : zPF mth_X13_init 29 28 578 .boolean false := ⟨18, 2, RX13, TX13, 5, tyX13, rfl, rfl, cls_18, by decide, lk_X13_29, by decide +kernel, rfl, Or.inr ⟨rfl, rfl, rfl, ⟨tw_6 _ (List.mem_of_getElem? (i := 202) (by decide +kernel)), by decide +kernel⟩⟩⟩
theorem pf_X14_init_9 : zPF mth_X14_init 9 29 609 .int false := ⟨19, 1, RX14, TX14, 8, tyX14, rfl, rfl, cls_19, by decide, lk_X14_9, by decide +kernel, rfl, Or.inl rfl⟩
theorem pf_X14_init_15 : zPF mth_X14_init 15 29 608 .int false := ⟨19, 0, RX14, TX14, 8, tyX14, rfl, rfl, cls_19, by decide, lk_X14_15, by decide +kernel, rfl, Or.inr ⟨rfl, rfl, rfl, ⟨tw_7 _ (List.mem_of_getElem? (i := 139) (by decide +kernel)), by decide +kernel⟩⟩⟩
theorem pf_X15_init_7 : zPF mth_X15_init 7 30 642 .char false := ⟨20, 2, RX15, TX15, 4, tyX15, rfl, rfl, cls_20, by decide, lk_X15_7, by decide +kernel, rfl, Or.inl rfl⟩
theorem pf_X15_init_13 : zPF mth_X15_init 13 30 640 .int false := ⟨20, 0, RX15, TX15, 4, tyX15, rfl, rfl, cls_20, by decide, lk_X15_13, by decide +kernel, rfl, Or.inr ⟨rfl, rfl, rfl, ⟨tw_7 _ (List.mem_of_getElem? (i := 237) (by decide +kernel)), by decide +kernel⟩⟩⟩
theorem pf_X15_init_17 : zPF mth_X15_init 17 30 641 .int false := ⟨20, 1, RX15, TX15, 4, tyX15, rfl, rfl, cls_20, by decide, lk_X15_17, by decide +kernel, rfl, Or.inr ⟨rfl, rfl, rfl, ⟨tw_7 _ (List.mem_of_getElem? (i := 239) (by decide +kernel)), by decide +kernel⟩⟩⟩
theorem nc_X16_7 : zNC RX16 7 14 3 := ⟨4, RJx4a65c, TJx4a65c, tyJx4a65c, rfl, cls_4, ⟨tw_6 _ (List.mem_of_getElem? (i := 59) (by decide +kernel)), by decide +kernel⟩, ⟨tw_1 _ (List.mem_of_getElem? (i := 60) (by decide +kernel)), by decide +kernel⟩, ⟨tw_1 _ (List.mem_of_getElem? (i := 5) (by decide +kernel)), by decide +kernel⟩, by decide +kernel⟩
theorem pf_X16_init_10 : zPF mth_X16_init 10 31 673 (.object "java/util/ArrayList") true := ⟨21, 1, RX16, TX16, 18, tyX16, rfl, rfl, cls_21, by decide, lk_X16_10, by decide +kernel, rfl, Or.inr ⟨rfl, rfl, rfl, ⟨tw_6 _ (List.mem_of_getElem? (i := 64) (by decide +kernel)), by decide +kernel⟩⟩⟩
theorem pf_X16_init_16 : zPF mth_X16_init 16 31 674 (.object "java/util/ArrayList") true := ⟨21, 2, RX16, TX16, 18, tyX16, rfl, rfl, cls_21, by decide, lk_X16_16, by decide +kernel, rfl, Or.inr ⟨rfl, rfl, rfl, ⟨tw_6 _ (List.mem_of_getElem? (i := 65) (by decide +kernel)), by decide +kernel⟩⟩⟩
theorem pf_X16_init_19 : zPF mth_X16_init 19 31 675 (.object "java/util/ArrayList") true := ⟨21, 3, RX16, TX16, 18, tyX16, rfl, rfl, cls_21, by decide, lk_X16_19, by decide +kernel, rfl, Or.inr ⟨rfl, rfl, rfl, ⟨tw_6 _ (List.mem_of_getElem? (i := 66) (by decide +kernel)), by decide +kernel⟩⟩⟩
theorem pf_X16_init_22 : zPF mth_X16_init 22 31 676 (.object "java/util/ArrayList") true := ⟨21, 4, RX16, TX16, 18, tyX16, rfl, rfl, cls_21, by decide, lk_X16_22, by decide +kernel, rfl, Or.inr ⟨rfl, rfl, rfl, ⟨tw_6 _ (List.mem_of_getElem? (i := 67) (by decide +kernel)), by decide +kernel⟩⟩⟩
theorem pf_X16_init_25 : zPF mth_X16_init 25 31 677 (.object "java/util/ArrayList") true := ⟨21, 5, RX16, TX16, 18, tyX16, rfl, rfl, cls_21, by decide, lk_X16_25, by decide +kernel, rfl, Or.inr ⟨rfl, rfl, rfl, ⟨tw_6 _ (List.mem_of_getElem? (i := 68) (by decide +kernel)), by decide +kernel⟩⟩⟩
theorem pf_X16_init_30 : zPF mth_X16_init 30 31 678 (.array (.array .boolean)) true := ⟨21, 6, RX16, TX16, 18, tyX16, rfl, rfl, cls_21, by decide, lk_X16_30, by decide +kernel, rfl, Or.inr ⟨rfl, rfl, rfl, ⟨tw_6 _ (List.mem_of_getElem? (i := 69) (by decide +kernel)), by decide +kernel⟩⟩⟩
theorem pf_X16_init_33 : zPF mth_X16_init 33 31 681 .int false := ⟨21, 9, RX16, TX16, 18, tyX16, rfl, rfl, cls_21, by decide, lk_X16_33, by decide +kernel, rfl, Or.inl rfl⟩
theorem pf_X16_init_37 : zPF mth_X16_init 37 31 683 .int false := ⟨21, 11, RX16, TX16, 18, tyX16, rfl, rfl, cls_21, by decide, lk_X16_37, by decide +kernel, rfl, Or.inl rfl⟩
theorem pf_X16_init_40 : zPF mth_X16_init 40 31 685 .int false := ⟨21, 13, RX16, TX16, 18, tyX16, rfl, rfl, cls_21, by decide, lk_X16_40, by decide +kernel, rfl, Or.inl rfl⟩
theorem pf_X16_init_43 : zPF mth_X16_init 43 31 672 .int false := ⟨21, 0, RX16, TX16, 18, tyX16, rfl, rfl, cls_21, by decide, lk_X16_43, by decide +kernel, rfl, Or.inl rfl⟩
theorem pf_X16_addPitch_43 : zPF mth_X16_addPitch 43 31 672 .int false := ⟨21, 0, RX16, TX16, 18, tyX16, rfl, rfl, cls_21, by decide, lk_X16_43, by decide +kernel, rfl, Or.inl rfl⟩
theorem nc_X16_68 : zNC RX16 68 28 5 := ⟨18, RX13, TX13, tyX13, rfl, cls_18, ⟨tw_6 _ (List.mem_of_getElem? (i := 184) (by decide +kernel)), by decide +kernel⟩, ⟨tw_6 _ (List.mem_of_getElem? (i := 191) (by decide +kernel)), by decide +kernel⟩, ⟨tw_1 _ (List.mem_of_getElem? (i := 28) (by decide +kernel)), by decide +kernel⟩, by decide +kernel⟩
theorem pf_X16_setPassers_43 : zPF mth_X16_setPassers 43 31 672 .int false := ⟨21, 0, RX16, TX16, 18, tyX16, rfl, rfl, cls_21, by decide, lk_X16_43, by decide +kernel, rfl, Or.inl rfl⟩
theorem pf_X16_passersAt_43 : zPF mth_X16_passersAt 43 31 672 .int false := ⟨21, 0, RX16, TX16, 18, tyX16, rfl, rfl, cls_21, by decide, lk_X16_43, by decide +kernel, rfl, Or.inl rfl⟩
theorem pf_X16_addAct_43 : zPF mth_X16_addAct 43 31 672 .int false := ⟨21, 0, RX16, TX16, 18, tyX16, rfl, rfl, cls_21, by decide, lk_X16_43, by decide +kernel, rfl, Or.inl rfl⟩
theorem nc_X16_111 : zNC RX16 111 27 8 := ⟨17, RX12, TX12, tyX12, rfl, cls_17, ⟨tw_7 _ (List.mem_of_getElem? (i := 7) (by decide +kernel)), by decide +kernel⟩, ⟨tw_7 _ (List.mem_of_getElem? (i := 8) (by decide +kernel)), by decide +kernel⟩, ⟨tw_1 _ (List.mem_of_getElem? (i := 33) (by decide +kernel)), by decide +kernel⟩, by decide +kernel⟩
theorem pf_X16_noAct_43 : zPF mth_X16_noAct 43 31 672 .int false := ⟨21, 0, RX16, TX16, 18, tyX16, rfl, rfl, cls_21, by decide, lk_X16_43, by decide +kernel, rfl, Or.inl rfl⟩
theorem pf_X16_setLine_43 : zPF mth_X16_setLine 43 31 672 .int false := ⟨21, 0, RX16, TX16, 18, tyX16, rfl, rfl, cls_21, by decide, lk_X16_43, by decide +kernel, rfl, Or.inl rfl⟩
theorem pf_X16_setLine_122 : zPF mth_X16_setLine 122 27 547 .int false := ⟨17, 3, RX12, TX12, 8, tyX12, rfl, rfl, cls_17, by decide, lk_X16_122, by decide +kernel, rfl, Or.inl rfl⟩
theorem pf_X16_setPermit_125 : zPF mth_X16_setPermit 125 27 549 .boolean false := ⟨17, 5, RX12, TX12, 8, tyX12, rfl, rfl, cls_17, by decide, lk_X16_125, by decide +kernel, rfl, Or.inl rfl⟩
theorem pf_X16_addCustom_43 : zPF mth_X16_addCustom 43 31 672 .int false := ⟨21, 0, RX16, TX16, 18, tyX16, rfl, rfl, cls_21, by decide, lk_X16_43, by decide +kernel, rfl, Or.inl rfl⟩
theorem pf_X16_endCustom_43 : zPF mth_X16_endCustom 43 31 672 .int false := ⟨21, 0, RX16, TX16, 18, tyX16, rfl, rfl, cls_21, by decide, lk_X16_43, by decide +kernel, rfl, Or.inl rfl⟩
theorem pf_X16_orders_43 : zPF mth_X16_orders 43 31 672 .int false := ⟨21, 0, RX16, TX16, 18, tyX16, rfl, rfl, cls_21, by decide, lk_X16_43, by decide +kernel, rfl, Or.inl rfl⟩
theorem pf_X16_orderAt_43 : zPF mth_X16_orderAt 43 31 672 .int false := ⟨21, 0, RX16, TX16, 18, tyX16, rfl, rfl, cls_21, by decide, lk_X16_43, by decide +kernel, rfl, Or.inl rfl⟩
theorem pf_X16_drawLots_43 : zPF mth_X16_drawLots 43 31 672 .int false := ⟨21, 0, RX16, TX16, 18, tyX16, rfl, rfl, cls_21, by decide, lk_X16_43, by decide +kernel, rfl, Or.inl rfl⟩
theorem pf_X16_drawLots_143 : zPF mth_X16_drawLots 143 31 679 .boolean false := ⟨21, 7, RX16, TX16, 18, tyX16, rfl, rfl, cls_21, by decide, lk_X16_143, by decide +kernel, rfl, Or.inl rfl⟩
theorem pf_X16_drawLots_33 : zPF mth_X16_drawLots 33 31 681 .int false := ⟨21, 9, RX16, TX16, 18, tyX16, rfl, rfl, cls_21, by decide, lk_X16_33, by decide +kernel, rfl, Or.inl rfl⟩
theorem pf_X16_lotAt_43 : zPF mth_X16_lotAt 43 31 672 .int false := ⟨21, 0, RX16, TX16, 18, tyX16, rfl, rfl, cls_21, by decide, lk_X16_43, by decide +kernel, rfl, Or.inl rfl⟩
theorem pf_X16_seed_43 : zPF mth_X16_seed 43 31 672 .int false := ⟨21, 0, RX16, TX16, 18, tyX16, rfl, rfl, cls_21, by decide, lk_X16_43, by decide +kernel, rfl, Or.inl rfl⟩
theorem pf_X16_seed_33 : zPF mth_X16_seed 33 31 681 .int false := ⟨21, 9, RX16, TX16, 18, tyX16, rfl, rfl, cls_21, by decide, lk_X16_33, by decide +kernel, rfl, Or.inl rfl⟩
theorem pf_X16_addTurn_43 : zPF mth_X16_addTurn 43 31 672 .int false := ⟨21, 0, RX16, TX16, 18, tyX16, rfl, rfl, cls_21, by decide, lk_X16_43, by decide +kernel, rfl, Or.inl rfl⟩
theorem nc_X16_167 : zNC RX16 167 29 8 := ⟨19, RX14, TX14, tyX14, rfl, cls_19, ⟨tw_7 _ (List.mem_of_getElem? (i := 133) (by decide +kernel)), by decide +kernel⟩, ⟨tw_7 _ (List.mem_of_getElem? (i := 134) (by decide +kernel)), by decide +kernel⟩, ⟨tw_1 _ (List.mem_of_getElem? (i := 38) (by decide +kernel)), by decide +kernel⟩, by decide +kernel⟩
theorem pf_X16_turnsByLots_43 : zPF mth_X16_turnsByLots 43 31 672 .int false := ⟨21, 0, RX16, TX16, 18, tyX16, rfl, rfl, cls_21, by decide, lk_X16_43, by decide +kernel, rfl, Or.inl rfl⟩
theorem pf_X16_exchange_43 : zPF mth_X16_exchange 43 31 672 .int false := ⟨21, 0, RX16, TX16, 18, tyX16, rfl, rfl, cls_21, by decide, lk_X16_43, by decide +kernel, rfl, Or.inl rfl⟩
theorem pf_X16_turnAt_43 : zPF mth_X16_turnAt 43 31 672 .int false := ⟨21, 0, RX16, TX16, 18, tyX16, rfl, rfl, cls_21, by decide, lk_X16_43, by decide +kernel, rfl, Or.inl rfl⟩
theorem pf_X16_setRain_43 : zPF mth_X16_setRain 43 31 672 .int false := ⟨21, 0, RX16, TX16, 18, tyX16, rfl, rfl, cls_21, by decide, lk_X16_43, by decide +kernel, rfl, Or.inl rfl⟩
theorem pf_X16_setRain_189 : zPF mth_X16_setRain 189 31 682 .int false := ⟨21, 10, RX16, TX16, 18, tyX16, rfl, rfl, cls_21, by decide, lk_X16_189, by decide +kernel, rfl, Or.inl rfl⟩
theorem pf_X16_setRain_37 : zPF mth_X16_setRain 37 31 683 .int false := ⟨21, 11, RX16, TX16, 18, tyX16, rfl, rfl, cls_21, by decide, lk_X16_37, by decide +kernel, rfl, Or.inl rfl⟩
theorem pf_X16_setCold_43 : zPF mth_X16_setCold 43 31 672 .int false := ⟨21, 0, RX16, TX16, 18, tyX16, rfl, rfl, cls_21, by decide, lk_X16_43, by decide +kernel, rfl, Or.inl rfl⟩
theorem pf_X16_setCold_194 : zPF mth_X16_setCold 194 31 684 .int false := ⟨21, 12, RX16, TX16, 18, tyX16, rfl, rfl, cls_21, by decide, lk_X16_194, by decide +kernel, rfl, Or.inl rfl⟩
theorem pf_X16_setLaw_43 : zPF mth_X16_setLaw 43 31 672 .int false := ⟨21, 0, RX16, TX16, 18, tyX16, rfl, rfl, cls_21, by decide, lk_X16_43, by decide +kernel, rfl, Or.inl rfl⟩
theorem pf_X16_setLaw_40 : zPF mth_X16_setLaw 40 31 685 .int false := ⟨21, 13, RX16, TX16, 18, tyX16, rfl, rfl, cls_21, by decide, lk_X16_40, by decide +kernel, rfl, Or.inl rfl⟩
theorem pf_X16_setLaw_197 : zPF mth_X16_setLaw 197 31 686 .int false := ⟨21, 14, RX16, TX16, 18, tyX16, rfl, rfl, cls_21, by decide, lk_X16_197, by decide +kernel, rfl, Or.inl rfl⟩
theorem pf_X16_addVisit_43 : zPF mth_X16_addVisit 43 31 672 .int false := ⟨21, 0, RX16, TX16, 18, tyX16, rfl, rfl, cls_21, by decide, lk_X16_43, by decide +kernel, rfl, Or.inl rfl⟩
theorem nc_X16_200 : zNC RX16 200 30 4 := ⟨20, RX15, TX15, tyX15, rfl, cls_20, ⟨tw_7 _ (List.mem_of_getElem? (i := 231) (by decide +kernel)), by decide +kernel⟩, ⟨tw_7 _ (List.mem_of_getElem? (i := 232) (by decide +kernel)), by decide +kernel⟩, ⟨tw_1 _ (List.mem_of_getElem? (i := 40) (by decide +kernel)), by decide +kernel⟩, by decide +kernel⟩
theorem pf_X16_join_43 : zPF mth_X16_join 43 31 672 .int false := ⟨21, 0, RX16, TX16, 18, tyX16, rfl, rfl, cls_21, by decide, lk_X16_43, by decide +kernel, rfl, Or.inl rfl⟩
theorem pf_X16_join_205 : zPF mth_X16_join 205 27 551 .int false := ⟨17, 7, RX12, TX12, 8, tyX12, rfl, rfl, cls_17, by decide, lk_X16_205, by decide +kernel, rfl, Or.inl rfl⟩
theorem pf_X16_begins_211 : zPF mth_X16_begins 211 29 609 .int false := ⟨19, 1, RX14, TX14, 8, tyX14, rfl, rfl, cls_19, by decide, lk_X16_211, by decide +kernel, rfl, Or.inl rfl⟩
theorem pf_X16_begins_217 : zPF mth_X16_begins 217 29 610 .int false := ⟨19, 2, RX14, TX14, 8, tyX14, rfl, rfl, cls_19, by decide, lk_X16_217, by decide +kernel, rfl, Or.inl rfl⟩
theorem pf_X16_visits_244 : zPF mth_X16_visits 244 30 643 .int false := ⟨20, 3, RX15, TX15, 4, tyX15, rfl, rfl, cls_20, by decide, lk_X16_244, by decide +kernel, rfl, Or.inl rfl⟩
theorem pf_X16_visits_247 : zPF mth_X16_visits 247 30 642 .char false := ⟨20, 2, RX15, TX15, 4, tyX15, rfl, rfl, cls_20, by decide, lk_X16_247, by decide +kernel, rfl, Or.inl rfl⟩
theorem pf_X16_visits_251 : zPF mth_X16_visits 251 27 550 .int false := ⟨17, 6, RX12, TX12, 8, tyX12, rfl, rfl, cls_17, by decide, lk_X16_251, by decide +kernel, rfl, Or.inl rfl⟩
theorem pf_X16_visits_254 : zPF mth_X16_visits 254 31 689 .int false := ⟨21, 17, RX16, TX16, 18, tyX16, rfl, rfl, cls_21, by decide, lk_X16_254, by decide +kernel, rfl, Or.inl rfl⟩
theorem pf_X16_gives_266 : zPF mth_X16_gives 266 29 613 .int false := ⟨19, 5, RX14, TX14, 8, tyX14, rfl, rfl, cls_19, by decide, lk_X16_266, by decide +kernel, rfl, Or.inl rfl⟩
theorem pf_X16_gives_269 : zPF mth_X16_gives 269 31 688 .int false := ⟨21, 16, RX16, TX16, 18, tyX16, rfl, rfl, cls_21, by decide, lk_X16_269, by decide +kernel, rfl, Or.inl rfl⟩
theorem pf_X16_gives_251 : zPF mth_X16_gives 251 27 550 .int false := ⟨17, 6, RX12, TX12, 8, tyX12, rfl, rfl, cls_17, by decide, lk_X16_251, by decide +kernel, rfl, Or.inl rfl⟩
theorem pf_X16_goesOn_257 : zPF mth_X16_goesOn 257 29 611 .int false := ⟨19, 3, RX14, TX14, 8, tyX14, rfl, rfl, cls_19, by decide, lk_X16_257, by decide +kernel, rfl, Or.inl rfl⟩
theorem pf_X16_goesOn_277 : zPF mth_X16_goesOn 277 29 612 .int false := ⟨19, 4, RX14, TX14, 8, tyX14, rfl, rfl, cls_19, by decide, lk_X16_277, by decide +kernel, rfl, Or.inl rfl⟩
theorem pf_X16_goesOn_283 : zPF mth_X16_goesOn 283 29 614 .int false := ⟨19, 6, RX14, TX14, 8, tyX14, rfl, rfl, cls_19, by decide, lk_X16_283, by decide +kernel, rfl, Or.inl rfl⟩
theorem pf_X16_goesOn_286 : zPF mth_X16_goesOn 286 29 615 .boolean false := ⟨19, 7, RX14, TX14, 8, tyX14, rfl, rfl, cls_19, by decide, lk_X16_286, by decide +kernel, rfl, Or.inl rfl⟩
theorem pf_X16_goesOn_217 : zPF mth_X16_goesOn 217 29 610 .int false := ⟨19, 2, RX14, TX14, 8, tyX14, rfl, rfl, cls_19, by decide, lk_X16_217, by decide +kernel, rfl, Or.inl rfl⟩
theorem pf_X16_play_43 : zPF mth_X16_play 43 31 672 .int false := ⟨21, 0, RX16, TX16, 18, tyX16, rfl, rfl, cls_21, by decide, lk_X16_43, by decide +kernel, rfl, Or.inl rfl⟩
theorem pf_X16_play_269 : zPF mth_X16_play 269 31 688 .int false := ⟨21, 16, RX16, TX16, 18, tyX16, rfl, rfl, cls_21, by decide, lk_X16_269, by decide +kernel, rfl, Or.inl rfl⟩
theorem pf_X16_play_161 : zPF mth_X16_play 161 31 680 .boolean false := ⟨21, 8, RX16, TX16, 18, tyX16, rfl, rfl, cls_21, by decide, lk_X16_161, by decide +kernel, rfl, Or.inl rfl⟩
theorem pf_X16_played_43 : zPF mth_X16_played 43 31 672 .int false := ⟨21, 0, RX16, TX16, 18, tyX16, rfl, rfl, cls_21, by decide, lk_X16_43, by decide +kernel, rfl, Or.inl rfl⟩
theorem pf_X16_isBroken_43 : zPF mth_X16_isBroken 43 31 672 .int false := ⟨21, 0, RX16, TX16, 18, tyX16, rfl, rfl, cls_21, by decide, lk_X16_43, by decide +kernel, rfl, Or.inl rfl⟩
theorem pf_X16_noVisit_43 : zPF mth_X16_noVisit 43 31 672 .int false := ⟨21, 0, RX16, TX16, 18, tyX16, rfl, rfl, cls_21, by decide, lk_X16_43, by decide +kernel, rfl, Or.inl rfl⟩
theorem pf_X16_fines_43 : zPF mth_X16_fines 43 31 672 .int false := ⟨21, 0, RX16, TX16, 18, tyX16, rfl, rfl, cls_21, by decide, lk_X16_43, by decide +kernel, rfl, Or.inl rfl⟩
theorem pf_X16_nextDay_43 : zPF mth_X16_nextDay 43 31 672 .int false := ⟨21, 0, RX16, TX16, 18, tyX16, rfl, rfl, cls_21, by decide, lk_X16_43, by decide +kernel, rfl, Or.inl rfl⟩
theorem pf_X16_nextDay_189 : zPF mth_X16_nextDay 189 31 682 .int false := ⟨21, 10, RX16, TX16, 18, tyX16, rfl, rfl, cls_21, by decide, lk_X16_189, by decide +kernel, rfl, Or.inl rfl⟩
theorem pf_X16_nextDay_37 : zPF mth_X16_nextDay 37 31 683 .int false := ⟨21, 11, RX16, TX16, 18, tyX16, rfl, rfl, cls_21, by decide, lk_X16_37, by decide +kernel, rfl, Or.inl rfl⟩
theorem pf_X16_nextDay_161 : zPF mth_X16_nextDay 161 31 680 .boolean false := ⟨21, 8, RX16, TX16, 18, tyX16, rfl, rfl, cls_21, by decide, lk_X16_161, by decide +kernel, rfl, Or.inl rfl⟩
theorem pf_X16_nextDay_324 : zPF mth_X16_nextDay 324 31 687 .int false := ⟨21, 15, RX16, TX16, 18, tyX16, rfl, rfl, cls_21, by decide, lk_X16_324, by decide +kernel, rfl, Or.inl rfl⟩
theorem pf_X16_diary_43 : zPF mth_X16_diary 43 31 672 .int false := ⟨21, 0, RX16, TX16, 18, tyX16, rfl, rfl, cls_21, by decide, lk_X16_43, by decide +kernel, rfl, Or.inl rfl⟩
theorem pf_X16_checksum_43 : zPF mth_X16_checksum 43 31 672 .int false := ⟨21, 0, RX16, TX16, 18, tyX16, rfl, rfl, cls_21, by decide, lk_X16_43, by decide +kernel, rfl, Or.inl rfl⟩
theorem pf_X16_goodShare_43 : zPF mth_X16_goodShare 43 31 672 .int false := ⟨21, 0, RX16, TX16, 18, tyX16, rfl, rfl, cls_21, by decide, lk_X16_43, by decide +kernel, rfl, Or.inl rfl⟩
theorem pf_X16_meanMoney_43 : zPF mth_X16_meanMoney 43 31 672 .int false := ⟨21, 0, RX16, TX16, 18, tyX16, rfl, rfl, cls_21, by decide, lk_X16_43, by decide +kernel, rfl, Or.inl rfl⟩
theorem pf_X16_isSound_43 : zPF mth_X16_isSound 43 31 672 .int false := ⟨21, 0, RX16, TX16, 18, tyX16, rfl, rfl, cls_21, by decide, lk_X16_43, by decide +kernel, rfl, Or.inl rfl⟩
theorem nc_J6_1 : zNC RJ6 1 11 1 := ⟨1, RJ6, TJ6, tyJ6, rfl, cls_1, ⟨tw_7 _ (List.mem_of_getElem? (i := 100) (by decide +kernel)), by decide +kernel⟩, ⟨tw_7 _ (List.mem_of_getElem? (i := 101) (by decide +kernel)), by decide +kernel⟩, ⟨tw_1 _ (List.mem_of_getElem? (i := 35) (by decide +kernel)), by decide +kernel⟩, by decide +kernel⟩
theorem pf_J6_init_d00df_205 : zPF mth_J6_init_d00df 205 11 32 .int false := ⟨1, 0, RJ6, TJ6, 1, tyJ6, rfl, rfl, cls_1, by decide, lk_J6_205, by decide +kernel, rfl, Or.inr ⟨rfl, rfl, rfl, ⟨tw_7 _ (List.mem_of_getElem? (i := 109) (by decide +kernel)), by decide +kernel⟩⟩⟩
theorem pf_Jx35411_init_45d68_1 : zPF mth_Jx35411_init_45d68 1 13 99 (.object "java/util/ArrayList") true := ⟨3, 3, RJx35411, TJx35411, 4, tyJx35411, rfl, rfl, cls_3, by decide, lk_Jx35411_1, by decide +kernel, rfl, Or.inr ⟨rfl, rfl, rfl, ⟨tw_6 _ (List.mem_of_getElem? (i := 140) (by decide +kernel)), by decide +kernel⟩⟩⟩
theorem pf_Jx35411_init_45d68_13 : zPF mth_Jx35411_init_45d68 13 13 97 .int false := ⟨3, 1, RJx35411, TJx35411, 4, tyJx35411, rfl, rfl, cls_3, by decide, lk_Jx35411_13, by decide +kernel, rfl, Or.inl rfl⟩
theorem pf_Jx35411_init_45d68_22 : zPF mth_Jx35411_init_45d68 22 13 98 .int false := ⟨3, 2, RJx35411, TJx35411, 4, tyJx35411, rfl, rfl, cls_3, by decide, lk_Jx35411_22, by decide +kernel, rfl, Or.inl rfl⟩
theorem pf_Jx35411_next_0502b_25 : zPF mth_Jx35411_next_0502b 25 13 96 .int false := ⟨3, 0, RJx35411, TJx35411, 4, tyJx35411, rfl, rfl, cls_3, by decide, lk_Jx35411_25, by decide +kernel, rfl, Or.inl rfl⟩
theorem pf_Jx35411_next_0502b_13 : zPF mth_Jx35411_next_0502b 13 13 97 .int false := ⟨3, 1, RJx35411, TJx35411, 4, tyJx35411, rfl, rfl, cls_3, by decide, lk_Jx35411_13, by decide +kernel, rfl, Or.inl rfl⟩
theorem pf_Jx4a65c_init_da8c8_9 : zPF mth_Jx4a65c_init_da8c8 9 14 129 (.array (.object "java/lang/Object")) true := ⟨4, 1, RJx4a65c, TJx4a65c, 3, tyJx4a65c, rfl, rfl, cls_4, by decide, lk_Jx4a65c_9, by decide +kernel, rfl, Or.inl rfl⟩
theorem pf_Jx4a65c_init_4bcb3_48 : zPF mth_Jx4a65c_init_4bcb3 48 14 130 .int false := ⟨4, 2, RJx4a65c, TJx4a65c, 3, tyJx4a65c, rfl, rfl, cls_4, by decide, lk_Jx4a65c_48, by decide +kernel, rfl, Or.inl rfl⟩
theorem pf_Jx4a65c_init_4bcb3_9 : zPF mth_Jx4a65c_init_4bcb3 9 14 129 (.array (.object "java/lang/Object")) true := ⟨4, 1, RJx4a65c, TJx4a65c, 3, tyJx4a65c, rfl, rfl, cls_4, by decide, lk_Jx4a65c_9, by decide +kernel, rfl, Or.inl rfl⟩
theorem pf_Jx4a65c_grow_92f84_9 : zPF mth_Jx4a65c_grow_92f84 9 14 129 (.array (.object "java/lang/Object")) true := ⟨4, 1, RJx4a65c, TJx4a65c, 3, tyJx4a65c, rfl, rfl, cls_4, by decide, lk_Jx4a65c_9, by decide +kernel, rfl, Or.inl rfl⟩
theorem pf_Jx4a65c_add_72be8_48 : zPF mth_Jx4a65c_add_72be8 48 14 130 .int false := ⟨4, 2, RJx4a65c, TJx4a65c, 3, tyJx4a65c, rfl, rfl, cls_4, by decide, lk_Jx4a65c_48, by decide +kernel, rfl, Or.inl rfl⟩
theorem pf_Jx4a65c_add_9ea2d_63 : zPF mth_Jx4a65c_add_9ea2d 63 14 128 .int false := ⟨4, 0, RJx4a65c, TJx4a65c, 3, tyJx4a65c, rfl, rfl, cls_4, by decide, lk_Jx4a65c_63, by decide +kernel, rfl, Or.inl rfl⟩
theorem pf_Jx4a65c_fastRemove_b59b0_63 : zPF mth_Jx4a65c_fastRemove_b59b0 63 14 128 .int false := ⟨4, 0, RJx4a65c, TJx4a65c, 3, tyJx4a65c, rfl, rfl, cls_4, by decide, lk_Jx4a65c_63, by decide +kernel, rfl, Or.inl rfl⟩
theorem pf_Jx4a65c_fastRemove_b59b0_48 : zPF mth_Jx4a65c_fastRemove_b59b0 48 14 130 .int false := ⟨4, 2, RJx4a65c, TJx4a65c, 3, tyJx4a65c, rfl, rfl, cls_4, by decide, lk_Jx4a65c_48, by decide +kernel, rfl, Or.inl rfl⟩
theorem pf_Jx4a65c_clear_da8c8_63 : zPF mth_Jx4a65c_clear_da8c8 63 14 128 .int false := ⟨4, 0, RJx4a65c, TJx4a65c, 3, tyJx4a65c, rfl, rfl, cls_4, by decide, lk_Jx4a65c_63, by decide +kernel, rfl, Or.inl rfl⟩
theorem pf_Jx4a65c_clear_da8c8_48 : zPF mth_Jx4a65c_clear_da8c8 48 14 130 .int false := ⟨4, 2, RJx4a65c, TJx4a65c, 3, tyJx4a65c, rfl, rfl, cls_4, by decide, lk_Jx4a65c_48, by decide +kernel, rfl, Or.inl rfl⟩
theorem pf_Jx4a65c_addAll_f0b43_63 : zPF mth_Jx4a65c_addAll_f0b43 63 14 128 .int false := ⟨4, 0, RJx4a65c, TJx4a65c, 3, tyJx4a65c, rfl, rfl, cls_4, by decide, lk_Jx4a65c_63, by decide +kernel, rfl, Or.inl rfl⟩
theorem pf_Jx4a65c_addAll_f0b43_48 : zPF mth_Jx4a65c_addAll_f0b43 48 14 130 .int false := ⟨4, 2, RJx4a65c, TJx4a65c, 3, tyJx4a65c, rfl, rfl, cls_4, by decide, lk_Jx4a65c_48, by decide +kernel, rfl, Or.inl rfl⟩
theorem nc_Jx4a65c_267 : zNC RJx4a65c 267 13 4 := ⟨3, RJx35411, TJx35411, tyJx35411, rfl, cls_3, ⟨tw_6 _ (List.mem_of_getElem? (i := 131) (by decide +kernel)), by decide +kernel⟩, ⟨tw_6 _ (List.mem_of_getElem? (i := 132) (by decide +kernel)), by decide +kernel⟩, ⟨tw_1 _ (List.mem_of_getElem? (i := 26) (by decide +kernel)), by decide +kernel⟩, by decide +kernel⟩
theorem nc_L_8 : zNC RL 8 26 7 := ⟨16, RX11, TX11, tyX11, rfl, cls_16, ⟨tw_1 _ (List.mem_of_getElem? (i := 45) (by decide +kernel)), by decide +kernel⟩, ⟨tw_1 _ (List.mem_of_getElem? (i := 46) (by decide +kernel)), by decide +kernel⟩, ⟨tw_1 _ (List.mem_of_getElem? (i := 1) (by decide +kernel)), by decide +kernel⟩, by decide +kernel⟩
theorem nc_L_125 : zNC RL 125 31 18 := ⟨21, RX16, TX16, tyX16, rfl, cls_21, ⟨tw_6 _ (List.mem_of_getElem? (i := 53) (by decide +kernel)), by decide +kernel⟩, ⟨tw_6 _ (List.mem_of_getElem? (i := 54) (by decide +kernel)), by decide +kernel⟩, ⟨tw_1 _ (List.mem_of_getElem? (i := 12) (by decide +kernel)), by decide +kernel⟩, by decide +kernel⟩
