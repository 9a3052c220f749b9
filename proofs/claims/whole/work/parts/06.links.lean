set_option maxRecDepth 20000 in
theorem lk_L_13 : LkV RL 13 yX2_make cX2_make 5 (some .boolean) 3 := ⟨⟨List.mem_of_getElem? (i := 62) rfl, List.mem_of_getElem? (i := 2) rfl, by decide +kernel⟩, List.mem_of_getElem? (i := 59) rfl, List.mem_of_getElem? (i := 60) rfl, List.mem_of_getElem? (i := 61) rfl⟩
set_option maxRecDepth 20000 in
theorem lk_L_17 : LkV RL 17 yX3_make cX3_make 4 (some .boolean) 3 := ⟨⟨List.mem_of_getElem? (i := 79) rfl, List.mem_of_getElem? (i := 5) rfl, by decide +kernel⟩, List.mem_of_getElem? (i := 76) rfl, List.mem_of_getElem? (i := 77) rfl, List.mem_of_getElem? (i := 78) rfl⟩
set_option maxRecDepth 20000 in
theorem lk_L_18 : LkV RL 18 yX2_lamp cX2_lamp 3 (some .boolean) 1 := ⟨⟨List.mem_of_getElem? (i := 99) rfl, List.mem_of_getElem? (i := 2) rfl, by decide +kernel⟩, List.mem_of_getElem? (i := 96) rfl, List.mem_of_getElem? (i := 97) rfl, List.mem_of_getElem? (i := 98) rfl⟩
set_option maxRecDepth 20000 in
theorem lk_L_22 : LkV RL 22 yX3_lamp cX3_lamp 2 (some .boolean) 1 := ⟨⟨List.mem_of_getElem? (i := 103) rfl, List.mem_of_getElem? (i := 5) rfl, by decide +kernel⟩, List.mem_of_getElem? (i := 100) rfl, List.mem_of_getElem? (i := 101) rfl, List.mem_of_getElem? (i := 102) rfl⟩
set_option maxRecDepth 20000 in
theorem lk_L_23 : LkV RL 23 yX2_empty cX2_empty 3 (some .boolean) 1 := ⟨⟨List.mem_of_getElem? (i := 107) rfl, List.mem_of_getElem? (i := 2) rfl, by decide +kernel⟩, List.mem_of_getElem? (i := 104) rfl, List.mem_of_getElem? (i := 105) rfl, List.mem_of_getElem? (i := 106) rfl⟩
set_option maxRecDepth 20000 in
theorem lk_L_26 : LkV RL 26 yX3_empty cX3_empty 2 (some .boolean) 1 := ⟨⟨List.mem_of_getElem? (i := 111) rfl, List.mem_of_getElem? (i := 5) rfl, by decide +kernel⟩, List.mem_of_getElem? (i := 108) rfl, List.mem_of_getElem? (i := 109) rfl, List.mem_of_getElem? (i := 110) rfl⟩
set_option maxRecDepth 20000 in
theorem lk_L_27 : LkV RL 27 yX2_bead cX2_bead 3 (some .int) 2 := ⟨⟨List.mem_of_getElem? (i := 115) rfl, List.mem_of_getElem? (i := 2) rfl, by decide +kernel⟩, List.mem_of_getElem? (i := 112) rfl, List.mem_of_getElem? (i := 113) rfl, List.mem_of_getElem? (i := 114) rfl⟩
set_option maxRecDepth 20000 in
theorem lk_L_31 : LkV RL 31 yX3_bead cX3_bead 3 (some .int) 2 := ⟨⟨List.mem_of_getElem? (i := 119) rfl, List.mem_of_getElem? (i := 5) rfl, by decide +kernel⟩, List.mem_of_getElem? (i := 116) rfl, List.mem_of_getElem? (i := 117) rfl, List.mem_of_getElem? (i := 118) rfl⟩
set_option maxRecDepth 20000 in
theorem lk_L_32 : LkV RL 32 yX2_paint cX2_paint 3 (some .boolean) 2 := ⟨⟨List.mem_of_getElem? (i := 124) rfl, List.mem_of_getElem? (i := 2) rfl, by decide +kernel⟩, List.mem_of_getElem? (i := 121) rfl, List.mem_of_getElem? (i := 122) rfl, List.mem_of_getElem? (i := 123) rfl⟩
set_option maxRecDepth 20000 in
theorem lk_L_36 : LkV RL 36 yX3_paint cX3_paint 3 (some .boolean) 2 := ⟨⟨List.mem_of_getElem? (i := 132) rfl, List.mem_of_getElem? (i := 5) rfl, by decide +kernel⟩, List.mem_of_getElem? (i := 129) rfl, List.mem_of_getElem? (i := 130) rfl, List.mem_of_getElem? (i := 131) rfl⟩
set_option maxRecDepth 20000 in
theorem lk_L_37 : LkV RL 37 yX2_colour cX2_colour 2 (some .int) 1 := ⟨⟨List.mem_of_getElem? (i := 140) rfl, List.mem_of_getElem? (i := 2) rfl, by decide +kernel⟩, List.mem_of_getElem? (i := 137) rfl, List.mem_of_getElem? (i := 138) rfl, List.mem_of_getElem? (i := 139) rfl⟩
set_option maxRecDepth 20000 in
theorem lk_L_41 : LkV RL 41 yX3_colour cX3_colour 2 (some .int) 1 := ⟨⟨List.mem_of_getElem? (i := 148) rfl, List.mem_of_getElem? (i := 5) rfl, by decide +kernel⟩, List.mem_of_getElem? (i := 145) rfl, List.mem_of_getElem? (i := 146) rfl, List.mem_of_getElem? (i := 147) rfl⟩
set_option maxRecDepth 20000 in
theorem lk_L_44 : LkV RL 44 yX2_put cX2_put 6 (some .boolean) 3 := ⟨⟨List.mem_of_getElem? (i := 152) rfl, List.mem_of_getElem? (i := 2) rfl, by decide +kernel⟩, List.mem_of_getElem? (i := 149) rfl, List.mem_of_getElem? (i := 150) rfl, List.mem_of_getElem? (i := 151) rfl⟩
set_option maxRecDepth 20000 in
theorem lk_L_48 : LkV RL 48 yX3_put cX3_put 5 (some .boolean) 3 := ⟨⟨List.mem_of_getElem? (i := 173) rfl, List.mem_of_getElem? (i := 5) rfl, by decide +kernel⟩, List.mem_of_getElem? (i := 170) rfl, List.mem_of_getElem? (i := 171) rfl, List.mem_of_getElem? (i := 172) rfl⟩
set_option maxRecDepth 20000 in
theorem lk_L_49 : LkV RL 49 yX2_look cX2_look 4 (some .long) 2 := ⟨⟨List.mem_of_getElem? (i := 189) rfl, List.mem_of_getElem? (i := 2) rfl, by decide +kernel⟩, List.mem_of_getElem? (i := 186) rfl, List.mem_of_getElem? (i := 187) rfl, List.mem_of_getElem? (i := 188) rfl⟩
set_option maxRecDepth 20000 in
theorem lk_L_53 : LkV RL 53 yX3_look cX3_look 3 (some .long) 2 := ⟨⟨List.mem_of_getElem? (i := 193) rfl, List.mem_of_getElem? (i := 5) rfl, by decide +kernel⟩, List.mem_of_getElem? (i := 190) rfl, List.mem_of_getElem? (i := 191) rfl, List.mem_of_getElem? (i := 192) rfl⟩
set_option maxRecDepth 20000 in
theorem lk_L_54 : LkV RL 54 yX2_move cX2_move 6 (some .int) 5 := ⟨⟨List.mem_of_getElem? (i := 197) rfl, List.mem_of_getElem? (i := 2) rfl, by decide +kernel⟩, List.mem_of_getElem? (i := 194) rfl, List.mem_of_getElem? (i := 195) rfl, List.mem_of_getElem? (i := 196) rfl⟩
set_option maxRecDepth 20000 in
theorem lk_L_58 : LkV RL 58 yX3_move cX3_move 6 (some .int) 5 := ⟨⟨List.mem_of_getElem? (i := 222) rfl, List.mem_of_getElem? (i := 5) rfl, by decide +kernel⟩, List.mem_of_getElem? (i := 219) rfl, List.mem_of_getElem? (i := 220) rfl, List.mem_of_getElem? (i := 221) rfl⟩
set_option maxRecDepth 20000 in
theorem lk_L_59 : LkV RL 59 yX2_open cX2_open 5 (some .int) 2 := ⟨⟨List.mem_of_getElem? (i := 235) rfl, List.mem_of_getElem? (i := 2) rfl, by decide +kernel⟩, List.mem_of_getElem? (i := 232) rfl, List.mem_of_getElem? (i := 233) rfl, List.mem_of_getElem? (i := 234) rfl⟩
set_option maxRecDepth 20000 in
theorem lk_L_63 : LkV RL 63 yX3_open cX3_open 4 (some .int) 2 := ⟨⟨List.mem_of_getElem? (i := 246) rfl, List.mem_of_getElem? (i := 5) rfl, by decide +kernel⟩, List.mem_of_getElem? (i := 243) rfl, List.mem_of_getElem? (i := 244) rfl, List.mem_of_getElem? (i := 245) rfl⟩
set_option maxRecDepth 20000 in
theorem lk_L_64 : LkV RL 64 yX2_close cX2_close 5 (some .int) 2 := ⟨⟨List.mem_of_getElem? (i := 250) rfl, List.mem_of_getElem? (i := 2) rfl, by decide +kernel⟩, List.mem_of_getElem? (i := 247) rfl, List.mem_of_getElem? (i := 248) rfl, List.mem_of_getElem? (i := 249) rfl⟩
set_option maxRecDepth 20000 in
theorem lk_L_67 : LkV RL 67 yX3_close cX3_close 4 (some .int) 2 := ⟨⟨List.mem_of_getElem? (i := 254) rfl, List.mem_of_getElem? (i := 5) rfl, by decide +kernel⟩, List.mem_of_getElem? (i := 251) rfl, List.mem_of_getElem? (i := 252) rfl, List.mem_of_getElem? (i := 253) rfl⟩
set_option maxRecDepth 20000 in
theorem lk_L_68 : LkV RL 68 yX2_turn cX2_turn 4 (some .int) 2 := ⟨⟨List.mem_of_getElem? (i := 258) rfl, List.mem_of_getElem? (i := 2) rfl, by decide +kernel⟩, List.mem_of_getElem? (i := 255) rfl, List.mem_of_getElem? (i := 256) rfl, List.mem_of_getElem? (i := 257) rfl⟩
set_option maxRecDepth 20000 in
theorem lk_L_71 : LkV RL 71 yX3_turn cX3_turn 7 (some .int) 2 := ⟨⟨List.mem_of_getElem? (i := 274) rfl, List.mem_of_getElem? (i := 5) rfl, by decide +kernel⟩, List.mem_of_getElem? (i := 271) rfl, List.mem_of_getElem? (i := 272) rfl, List.mem_of_getElem? (i := 273) rfl⟩
set_option maxRecDepth 20000 in
theorem lk_L_72 : LkV RL 72 yX2_step cX2_step 6 (some .int) 5 := ⟨⟨List.mem_of_getElem? (i := 278) rfl, List.mem_of_getElem? (i := 2) rfl, by decide +kernel⟩, List.mem_of_getElem? (i := 275) rfl, List.mem_of_getElem? (i := 276) rfl, List.mem_of_getElem? (i := 277) rfl⟩
set_option maxRecDepth 20000 in
theorem lk_L_75 : LkV RL 75 yX3_step cX3_step 7 (some .int) 5 := ⟨⟨List.mem_of_getElem? (i := 289) rfl, List.mem_of_getElem? (i := 5) rfl, by decide +kernel⟩, List.mem_of_getElem? (i := 286) rfl, List.mem_of_getElem? (i := 287) rfl, List.mem_of_getElem? (i := 288) rfl⟩
set_option maxRecDepth 20000 in
theorem lk_L_76 : LkV RL 76 yX2_forget cX2_forget 2 (some .int) 0 := ⟨⟨List.mem_of_getElem? (i := 294) rfl, List.mem_of_getElem? (i := 2) rfl, by decide +kernel⟩, List.mem_of_getElem? (i := 291) rfl, List.mem_of_getElem? (i := 292) rfl, List.mem_of_getElem? (i := 293) rfl⟩
set_option maxRecDepth 20000 in
theorem lk_L_80 : LkV RL 80 yX3_forget cX3_forget 2 (some .int) 0 := ⟨⟨List.mem_of_getElem? (i := 298) rfl, List.mem_of_getElem? (i := 5) rfl, by decide +kernel⟩, List.mem_of_getElem? (i := 295) rfl, List.mem_of_getElem? (i := 296) rfl, List.mem_of_getElem? (i := 297) rfl⟩
set_option maxRecDepth 20000 in
theorem lk_L_81 : LkV RL 81 yX2_weave cX2_weave 7 (some .int) 2 := ⟨⟨List.mem_of_getElem? (i := 302) rfl, List.mem_of_getElem? (i := 2) rfl, by decide +kernel⟩, List.mem_of_getElem? (i := 299) rfl, List.mem_of_getElem? (i := 300) rfl, List.mem_of_getElem? (i := 301) rfl⟩
set_option maxRecDepth 20000 in
theorem lk_L_84 : LkV RL 84 yX3_weave cX3_weave 8 (some .int) 2 := ⟨⟨List.mem_of_getElem? (i := 321) rfl, List.mem_of_getElem? (i := 5) rfl, by decide +kernel⟩, List.mem_of_getElem? (i := 318) rfl, List.mem_of_getElem? (i := 319) rfl, List.mem_of_getElem? (i := 320) rfl⟩
set_option maxRecDepth 20000 in
theorem lk_L_85 : LkV RL 85 yX2_alike cX2_alike 7 (some .int) 2 := ⟨⟨List.mem_of_getElem? (i := 330) rfl, List.mem_of_getElem? (i := 2) rfl, by decide +kernel⟩, List.mem_of_getElem? (i := 327) rfl, List.mem_of_getElem? (i := 328) rfl, List.mem_of_getElem? (i := 329) rfl⟩
set_option maxRecDepth 20000 in
theorem lk_L_88 : LkV RL 88 yX3_alike cX3_alike 4 (some .int) 2 := ⟨⟨List.mem_of_getElem? (i := 344) rfl, List.mem_of_getElem? (i := 5) rfl, by decide +kernel⟩, List.mem_of_getElem? (i := 341) rfl, List.mem_of_getElem? (i := 342) rfl, List.mem_of_getElem? (i := 343) rfl⟩
set_option maxRecDepth 20000 in
theorem lk_L_89 : LkV RL 89 yX2_shade cX2_shade 7 (some .long) 1 := ⟨⟨List.mem_of_getElem? (i := 356) rfl, List.mem_of_getElem? (i := 2) rfl, by decide +kernel⟩, List.mem_of_getElem? (i := 353) rfl, List.mem_of_getElem? (i := 354) rfl, List.mem_of_getElem? (i := 355) rfl⟩
set_option maxRecDepth 20000 in
theorem lk_L_93 : LkV RL 93 yX3_shade cX3_shade 7 (some .long) 1 := ⟨⟨List.mem_of_getElem? (i := 360) rfl, List.mem_of_getElem? (i := 5) rfl, by decide +kernel⟩, List.mem_of_getElem? (i := 357) rfl, List.mem_of_getElem? (i := 358) rfl, List.mem_of_getElem? (i := 359) rfl⟩
set_option maxRecDepth 20000 in
theorem lk_L_94 : LkV RL 94 yX2_rack cX2_rack 4 (some .int) 2 := ⟨⟨List.mem_of_getElem? (i := 364) rfl, List.mem_of_getElem? (i := 2) rfl, by decide +kernel⟩, List.mem_of_getElem? (i := 361) rfl, List.mem_of_getElem? (i := 362) rfl, List.mem_of_getElem? (i := 363) rfl⟩
set_option maxRecDepth 20000 in
theorem lk_L_97 : LkV RL 97 yX3_rack cX3_rack 3 (some .int) 2 := ⟨⟨List.mem_of_getElem? (i := 368) rfl, List.mem_of_getElem? (i := 5) rfl, by decide +kernel⟩, List.mem_of_getElem? (i := 365) rfl, List.mem_of_getElem? (i := 366) rfl, List.mem_of_getElem? (i := 367) rfl⟩
set_option maxRecDepth 20000 in
theorem lk_L_98 : LkV RL 98 yX2_about cX2_about 2 (some .int) 1 := ⟨⟨List.mem_of_getElem? (i := 372) rfl, List.mem_of_getElem? (i := 2) rfl, by decide +kernel⟩, List.mem_of_getElem? (i := 369) rfl, List.mem_of_getElem? (i := 370) rfl, List.mem_of_getElem? (i := 371) rfl⟩
set_option maxRecDepth 20000 in
theorem lk_L_101 : LkV RL 101 yX3_about cX3_about 2 (some .int) 1 := ⟨⟨List.mem_of_getElem? (i := 376) rfl, List.mem_of_getElem? (i := 5) rfl, by decide +kernel⟩, List.mem_of_getElem? (i := 373) rfl, List.mem_of_getElem? (i := 374) rfl, List.mem_of_getElem? (i := 375) rfl⟩
set_option maxRecDepth 20000 in
theorem lk_X0_31 : LkV RX0 31 yX0_isFull cX0_isFull 1 (some .boolean) 0 := ⟨⟨List.mem_of_getElem? (i := 281) rfl, List.mem_of_getElem? (i := 21) rfl, by decide +kernel⟩, List.mem_of_getElem? (i := 285) rfl, List.mem_of_getElem? (i := 279) rfl, List.mem_of_getElem? (i := 280) rfl⟩
set_option maxRecDepth 20000 in
theorem lk_X1_25 : LkSN RX1 25 yX2_blank cX2_blank 1 (some .long) 1 := ⟨⟨List.mem_of_getElem? (i := 71) rfl, List.mem_of_getElem? (i := 2) rfl, by decide +kernel⟩, List.mem_of_getElem? (i := 21) rfl, List.mem_of_getElem? (i := 70) rfl⟩
set_option maxRecDepth 20000 in
theorem lk_X1_29 : LkV RX1 29 yX1_hasPlace cX1_hasPlace 2 (some .boolean) 1 := ⟨⟨List.mem_of_getElem? (i := 162) rfl, List.mem_of_getElem? (i := 28) rfl, by decide +kernel⟩, List.mem_of_getElem? (i := 242) rfl, List.mem_of_getElem? (i := 160) rfl, List.mem_of_getElem? (i := 161) rfl⟩
set_option maxRecDepth 20000 in
theorem lk_X1_39 : LkV RX1 39 yX1_keepCells cX1_keepCells 1 none 0 := ⟨⟨List.mem_of_getElem? (i := 265) rfl, List.mem_of_getElem? (i := 28) rfl, by decide +kernel⟩, List.mem_of_getElem? (i := 262) rfl, List.mem_of_getElem? (i := 263) rfl, List.mem_of_getElem? (i := 264) rfl⟩
set_option maxRecDepth 20000 in
theorem lk_X1_42 : LkS RX1 42 yJ9_floorMod_7cf53 cJ9_floorMod_7cf53 3 (some .int) 2 := ⟨⟨List.mem_of_getElem? (i := 270) rfl, List.mem_of_getElem? (i := 269) rfl, by decide +kernel⟩, List.mem_of_getElem? (i := 267) rfl, List.mem_of_getElem? (i := 268) rfl⟩
set_option maxRecDepth 20000 in
theorem lk_X2_44 : LkV RX2 44 yX2_rackAt cX2_rackAt 2 (some (.object "BeadLoom$Rack")) 1 := ⟨⟨List.mem_of_getElem? (i := 66) rfl, List.mem_of_getElem? (i := 2) rfl, by decide +kernel⟩, List.mem_of_getElem? (i := 63) rfl, List.mem_of_getElem? (i := 64) rfl, List.mem_of_getElem? (i := 65) rfl⟩
set_option maxRecDepth 20000 in
theorem lk_X2_48 : LkVN RX2 48 yX1_hold cX1_hold 4 none 2 := ⟨⟨List.mem_of_getElem? (i := 69) rfl, List.mem_of_getElem? (i := 28) rfl, by decide +kernel⟩, List.mem_of_getElem? (i := 17) rfl, List.mem_of_getElem? (i := 67) rfl, List.mem_of_getElem? (i := 68) rfl⟩
set_option maxRecDepth 20000 in
theorem lk_X2_55 : LkV RX2 55 yX2_isBead cX2_isBead 3 (some .boolean) 1 := ⟨⟨List.mem_of_getElem? (i := 128) rfl, List.mem_of_getElem? (i := 2) rfl, by decide +kernel⟩, List.mem_of_getElem? (i := 125) rfl, List.mem_of_getElem? (i := 126) rfl, List.mem_of_getElem? (i := 127) rfl⟩
set_option maxRecDepth 20000 in
theorem lk_X2_59 : LkV RX2 59 yX2_colourOf cX2_colourOf 3 (some .int) 1 := ⟨⟨List.mem_of_getElem? (i := 144) rfl, List.mem_of_getElem? (i := 2) rfl, by decide +kernel⟩, List.mem_of_getElem? (i := 141) rfl, List.mem_of_getElem? (i := 142) rfl, List.mem_of_getElem? (i := 143) rfl⟩
set_option maxRecDepth 20000 in
theorem lk_X2_63 : LkV RX2 63 yX2_rowAt cX2_rowAt 3 (some (.object "BeadLoom$Rack")) 1 := ⟨⟨List.mem_of_getElem? (i := 156) rfl, List.mem_of_getElem? (i := 2) rfl, by decide +kernel⟩, List.mem_of_getElem? (i := 153) rfl, List.mem_of_getElem? (i := 154) rfl, List.mem_of_getElem? (i := 155) rfl⟩
set_option maxRecDepth 20000 in
theorem lk_X2_66 : LkVN RX2 66 yX1_hasPlace cX1_hasPlace 2 (some .boolean) 1 := ⟨⟨List.mem_of_getElem? (i := 162) rfl, List.mem_of_getElem? (i := 28) rfl, by decide +kernel⟩, List.mem_of_getElem? (i := 18) rfl, List.mem_of_getElem? (i := 160) rfl, List.mem_of_getElem? (i := 161) rfl⟩
set_option maxRecDepth 20000 in
theorem lk_X2_70 : LkV RX2 70 yX2_mayLie cX2_mayLie 4 (some .boolean) 2 := ⟨⟨List.mem_of_getElem? (i := 166) rfl, List.mem_of_getElem? (i := 2) rfl, by decide +kernel⟩, List.mem_of_getElem? (i := 163) rfl, List.mem_of_getElem? (i := 164) rfl, List.mem_of_getElem? (i := 165) rfl⟩
set_option maxRecDepth 20000 in
theorem lk_X2_78 : LkS RX2 78 yX2_fitted cX2_fitted 3 (some .long) 2 := ⟨⟨List.mem_of_getElem? (i := 169) rfl, List.mem_of_getElem? (i := 2) rfl, by decide +kernel⟩, List.mem_of_getElem? (i := 167) rfl, List.mem_of_getElem? (i := 168) rfl⟩
set_option maxRecDepth 20000 in
theorem lk_X2_82 : LkV RX2 82 yX2_moving cX2_moving 10 (some .int) 5 := ⟨⟨List.mem_of_getElem? (i := 201) rfl, List.mem_of_getElem? (i := 2) rfl, by decide +kernel⟩, List.mem_of_getElem? (i := 198) rfl, List.mem_of_getElem? (i := 199) rfl, List.mem_of_getElem? (i := 200) rfl⟩
set_option maxRecDepth 20000 in
theorem lk_X2_86 : LkS RX2 86 yX2_thingsBehind cX2_thingsBehind 2 (some .long) 2 := ⟨⟨List.mem_of_getElem? (i := 238) rfl, List.mem_of_getElem? (i := 2) rfl, by decide +kernel⟩, List.mem_of_getElem? (i := 236) rfl, List.mem_of_getElem? (i := 237) rfl⟩
set_option maxRecDepth 20000 in
theorem lk_X2_90 : LkVN RX2 90 yX1_blankPlace cX1_blankPlace 2 none 1 := ⟨⟨List.mem_of_getElem? (i := 241) rfl, List.mem_of_getElem? (i := 28) rfl, by decide +kernel⟩, List.mem_of_getElem? (i := 19) rfl, List.mem_of_getElem? (i := 239) rfl, List.mem_of_getElem? (i := 240) rfl⟩
set_option maxRecDepth 20000 in
theorem lk_X2_97 : LkVN RX2 97 yX1_rotate cX1_rotate 4 none 1 := ⟨⟨List.mem_of_getElem? (i := 261) rfl, List.mem_of_getElem? (i := 28) rfl, by decide +kernel⟩, List.mem_of_getElem? (i := 20) rfl, List.mem_of_getElem? (i := 259) rfl, List.mem_of_getElem? (i := 260) rfl⟩
set_option maxRecDepth 20000 in
theorem lk_X2_100 : LkVN RX2 100 yX0_isFull cX0_isFull 1 (some .boolean) 0 := ⟨⟨List.mem_of_getElem? (i := 281) rfl, List.mem_of_getElem? (i := 21) rfl, by decide +kernel⟩, List.mem_of_getElem? (i := 9) rfl, List.mem_of_getElem? (i := 279) rfl, List.mem_of_getElem? (i := 280) rfl⟩
set_option maxRecDepth 20000 in
theorem lk_X2_104 : LkVN RX2 104 yX0_append cX0_append 6 none 5 := ⟨⟨List.mem_of_getElem? (i := 284) rfl, List.mem_of_getElem? (i := 21) rfl, by decide +kernel⟩, List.mem_of_getElem? (i := 10) rfl, List.mem_of_getElem? (i := 282) rfl, List.mem_of_getElem? (i := 283) rfl⟩
set_option maxRecDepth 20000 in
theorem lk_X2_111 : LkV RX2 111 yX2_keepAllRows cX2_keepAllRows 2 none 0 := ⟨⟨List.mem_of_getElem? (i := 306) rfl, List.mem_of_getElem? (i := 2) rfl, by decide +kernel⟩, List.mem_of_getElem? (i := 303) rfl, List.mem_of_getElem? (i := 304) rfl, List.mem_of_getElem? (i := 305) rfl⟩
set_option maxRecDepth 20000 in
theorem lk_X2_114 : LkV RX2 114 yX2_weaveRound cX2_weaveRound 5 (some .int) 0 := ⟨⟨List.mem_of_getElem? (i := 310) rfl, List.mem_of_getElem? (i := 2) rfl, by decide +kernel⟩, List.mem_of_getElem? (i := 307) rfl, List.mem_of_getElem? (i := 308) rfl, List.mem_of_getElem? (i := 309) rfl⟩
set_option maxRecDepth 20000 in
theorem lk_X2_118 : LkV RX2 118 yX2_restoreAllRows cX2_restoreAllRows 2 none 0 := ⟨⟨List.mem_of_getElem? (i := 314) rfl, List.mem_of_getElem? (i := 2) rfl, by decide +kernel⟩, List.mem_of_getElem? (i := 311) rfl, List.mem_of_getElem? (i := 312) rfl, List.mem_of_getElem? (i := 313) rfl⟩
set_option maxRecDepth 20000 in
theorem lk_X2_121 : LkS RX2 121 yX2_mayCompare cX2_mayCompare 2 (some .boolean) 2 := ⟨⟨List.mem_of_getElem? (i := 337) rfl, List.mem_of_getElem? (i := 2) rfl, by decide +kernel⟩, List.mem_of_getElem? (i := 335) rfl, List.mem_of_getElem? (i := 336) rfl⟩
set_option maxRecDepth 20000 in
theorem lk_X2_131 : LkS RX2 131 yX2_holdsBeads cX2_holdsBeads 1 (some .boolean) 1 := ⟨⟨List.mem_of_getElem? (i := 75) rfl, List.mem_of_getElem? (i := 2) rfl, by decide +kernel⟩, List.mem_of_getElem? (i := 73) rfl, List.mem_of_getElem? (i := 74) rfl⟩
set_option maxRecDepth 20000 in
theorem lk_X2_134 : LkVN RX2 134 yX1_hasRow cX1_hasRow 1 (some .boolean) 0 := ⟨⟨List.mem_of_getElem? (i := 159) rfl, List.mem_of_getElem? (i := 28) rfl, by decide +kernel⟩, List.mem_of_getElem? (i := 11) rfl, List.mem_of_getElem? (i := 157) rfl, List.mem_of_getElem? (i := 158) rfl⟩
set_option maxRecDepth 20000 in
theorem lk_X2_139 : LkS RX2 139 yX2_mayExchange cX2_mayExchange 2 (some .boolean) 2 := ⟨⟨List.mem_of_getElem? (i := 211) rfl, List.mem_of_getElem? (i := 2) rfl, by decide +kernel⟩, List.mem_of_getElem? (i := 209) rfl, List.mem_of_getElem? (i := 210) rfl⟩
set_option maxRecDepth 20000 in
theorem lk_X2_142 : LkS RX2 142 yX2_holdsNumbers cX2_holdsNumbers 1 (some .boolean) 1 := ⟨⟨List.mem_of_getElem? (i := 340) rfl, List.mem_of_getElem? (i := 2) rfl, by decide +kernel⟩, List.mem_of_getElem? (i := 338) rfl, List.mem_of_getElem? (i := 339) rfl⟩
set_option maxRecDepth 20000 in
theorem lk_X2_145 : LkS RX2 145 yX2_hindrance cX2_hindrance 8 (some .int) 5 := ⟨⟨List.mem_of_getElem? (i := 208) rfl, List.mem_of_getElem? (i := 2) rfl, by decide +kernel⟩, List.mem_of_getElem? (i := 206) rfl, List.mem_of_getElem? (i := 207) rfl⟩
set_option maxRecDepth 20000 in
theorem lk_X2_148 : LkV RX2 148 yX2_mayCome cX2_mayCome 6 (some .int) 4 := ⟨⟨List.mem_of_getElem? (i := 218) rfl, List.mem_of_getElem? (i := 2) rfl, by decide +kernel⟩, List.mem_of_getElem? (i := 215) rfl, List.mem_of_getElem? (i := 216) rfl, List.mem_of_getElem? (i := 217) rfl⟩
set_option maxRecDepth 20000 in
theorem lk_X2_158 : LkVN RX2 158 yX1_hasStretch cX1_hasStretch 5 (some .boolean) 2 := ⟨⟨List.mem_of_getElem? (i := 214) rfl, List.mem_of_getElem? (i := 28) rfl, by decide +kernel⟩, List.mem_of_getElem? (i := 12) rfl, List.mem_of_getElem? (i := 212) rfl, List.mem_of_getElem? (i := 213) rfl⟩
set_option maxRecDepth 20000 in
theorem lk_X2_177 : LkVN RX2 177 yX1_keepCells cX1_keepCells 1 none 0 := ⟨⟨List.mem_of_getElem? (i := 265) rfl, List.mem_of_getElem? (i := 28) rfl, by decide +kernel⟩, List.mem_of_getElem? (i := 13) rfl, List.mem_of_getElem? (i := 263) rfl, List.mem_of_getElem? (i := 264) rfl⟩
set_option maxRecDepth 20000 in
theorem lk_X2_180 : LkVN RX2 180 yX1_restoreCells cX1_restoreCells 1 none 0 := ⟨⟨List.mem_of_getElem? (i := 317) rfl, List.mem_of_getElem? (i := 28) rfl, by decide +kernel⟩, List.mem_of_getElem? (i := 14) rfl, List.mem_of_getElem? (i := 315) rfl, List.mem_of_getElem? (i := 316) rfl⟩
set_option maxRecDepth 20000 in
theorem lk_X3_39 : LkS RX3 39 yX3_isRack cX3_isRack 1 (some .boolean) 1 := ⟨⟨List.mem_of_getElem? (i := 82) rfl, List.mem_of_getElem? (i := 5) rfl, by decide +kernel⟩, List.mem_of_getElem? (i := 80) rfl, List.mem_of_getElem? (i := 81) rfl⟩
set_option maxRecDepth 20000 in
theorem lk_X3_43 : LkV RX3 43 yX3_hasRow cX3_hasRow 2 (some .boolean) 1 := ⟨⟨List.mem_of_getElem? (i := 181) rfl, List.mem_of_getElem? (i := 5) rfl, by decide +kernel⟩, List.mem_of_getElem? (i := 178) rfl, List.mem_of_getElem? (i := 179) rfl, List.mem_of_getElem? (i := 180) rfl⟩
set_option maxRecDepth 20000 in
theorem lk_X3_50 : LkV RX3 50 yX3_isBeads cX3_isBeads 2 (some .boolean) 1 := ⟨⟨List.mem_of_getElem? (i := 95) rfl, List.mem_of_getElem? (i := 5) rfl, by decide +kernel⟩, List.mem_of_getElem? (i := 92) rfl, List.mem_of_getElem? (i := 93) rfl, List.mem_of_getElem? (i := 94) rfl⟩
set_option maxRecDepth 20000 in
theorem lk_X3_57 : LkV RX3 57 yX3_nothing cX3_nothing 2 (some .long) 1 := ⟨⟨List.mem_of_getElem? (i := 90) rfl, List.mem_of_getElem? (i := 5) rfl, by decide +kernel⟩, List.mem_of_getElem? (i := 87) rfl, List.mem_of_getElem? (i := 88) rfl, List.mem_of_getElem? (i := 89) rfl⟩
set_option maxRecDepth 20000 in
theorem lk_X3_61 : LkV RX3 61 yX3_become cX3_become 5 none 3 := ⟨⟨List.mem_of_getElem? (i := 86) rfl, List.mem_of_getElem? (i := 5) rfl, by decide +kernel⟩, List.mem_of_getElem? (i := 83) rfl, List.mem_of_getElem? (i := 84) rfl, List.mem_of_getElem? (i := 85) rfl⟩
set_option maxRecDepth 20000 in
theorem lk_X3_65 : LkV RX3 65 yX3_isBead cX3_isBead 3 (some .boolean) 1 := ⟨⟨List.mem_of_getElem? (i := 136) rfl, List.mem_of_getElem? (i := 5) rfl, by decide +kernel⟩, List.mem_of_getElem? (i := 133) rfl, List.mem_of_getElem? (i := 134) rfl, List.mem_of_getElem? (i := 135) rfl⟩
set_option maxRecDepth 20000 in
theorem lk_X3_69 : LkV RX3 69 yX3_isPlace cX3_isPlace 3 (some .boolean) 2 := ⟨⟨List.mem_of_getElem? (i := 177) rfl, List.mem_of_getElem? (i := 5) rfl, by decide +kernel⟩, List.mem_of_getElem? (i := 174) rfl, List.mem_of_getElem? (i := 175) rfl, List.mem_of_getElem? (i := 176) rfl⟩
set_option maxRecDepth 20000 in
theorem lk_X3_73 : LkS RX3 73 yX3_kept cX3_kept 3 (some .long) 2 := ⟨⟨List.mem_of_getElem? (i := 184) rfl, List.mem_of_getElem? (i := 5) rfl, by decide +kernel⟩, List.mem_of_getElem? (i := 182) rfl, List.mem_of_getElem? (i := 183) rfl⟩
set_option maxRecDepth 20000 in
theorem lk_X3_77 : LkV RX3 77 yX3_reason cX3_reason 9 (some .int) 5 := ⟨⟨List.mem_of_getElem? (i := 231) rfl, List.mem_of_getElem? (i := 5) rfl, by decide +kernel⟩, List.mem_of_getElem? (i := 228) rfl, List.mem_of_getElem? (i := 229) rfl, List.mem_of_getElem? (i := 230) rfl⟩
set_option maxRecDepth 20000 in
theorem lk_X3_84 : LkV RX3 84 yX3_moving cX3_moving 13 (some .int) 5 := ⟨⟨List.mem_of_getElem? (i := 226) rfl, List.mem_of_getElem? (i := 5) rfl, by decide +kernel⟩, List.mem_of_getElem? (i := 223) rfl, List.mem_of_getElem? (i := 224) rfl, List.mem_of_getElem? (i := 225) rfl⟩
set_option maxRecDepth 20000 in
theorem lk_X3_90 : LkV RX3 90 yX3_doStep cX3_doStep 3 (some .int) 1 := ⟨⟨List.mem_of_getElem? (i := 326) rfl, List.mem_of_getElem? (i := 5) rfl, by decide +kernel⟩, List.mem_of_getElem? (i := 323) rfl, List.mem_of_getElem? (i := 324) rfl, List.mem_of_getElem? (i := 325) rfl⟩
set_option maxRecDepth 20000 in
theorem lk_X3_97 : LkV RX3 97 yX3_isNumbers cX3_isNumbers 2 (some .boolean) 1 := ⟨⟨List.mem_of_getElem? (i := 352) rfl, List.mem_of_getElem? (i := 5) rfl, by decide +kernel⟩, List.mem_of_getElem? (i := 349) rfl, List.mem_of_getElem? (i := 350) rfl, List.mem_of_getElem? (i := 351) rfl⟩
set_option maxRecDepth 20000 in
theorem lk_X3_100 : LkV RX3 100 yX3_areAlike cX3_areAlike 5 (some .boolean) 3 := ⟨⟨List.mem_of_getElem? (i := 348) rfl, List.mem_of_getElem? (i := 5) rfl, by decide +kernel⟩, List.mem_of_getElem? (i := 345) rfl, List.mem_of_getElem? (i := 346) rfl, List.mem_of_getElem? (i := 347) rfl⟩
