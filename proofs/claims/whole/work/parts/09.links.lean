set_option maxRecDepth 100000 in
theorem l_R_15 : zLS "WideWordStack$Row" 15 y_JA_fill c_JA_fill 5 none 2 := ⟨zwi 205 rfl rfl, zwi 68 rfl rfl, zwi 251 rfl rfl, zwi 204 rfl rfl, ⟨by decide +kernel, by decide +kernel, by decide +kernel⟩⟩
set_option maxRecDepth 100000 in
theorem l_R_25 : zLS "WideWordStack$Row" 25 y_JL_numberOfLeadingZeros c_JL_numberOfLeadingZeros 3 (some .int) 1 := ⟨zwi 183 rfl rfl, zwi 65 rfl rfl, zwi 181 rfl rfl, zwi 182 rfl rfl, ⟨by decide +kernel, by decide +kernel, by decide +kernel⟩⟩
set_option maxRecDepth 100000 in
theorem l_R_35 : zLS "WideWordStack$Row" 35 y_R_isNegative c_R_isNegative 1 (some .boolean) 1 := ⟨zwi 214 rfl rfl, zwi 62 rfl rfl, zwi 533 rfl rfl, zwi 213 rfl rfl, ⟨by decide +kernel, by decide +kernel, by decide +kernel⟩⟩
set_option maxRecDepth 100000 in
theorem l_R_39 : zLS "WideWordStack$Row" 39 y_R_compareRows c_R_compareRows 3 (some .int) 2 := ⟨zwi 240 rfl rfl, zwi 62 rfl rfl, zwi 272 rfl rfl, zwi 239 rfl rfl, ⟨by decide +kernel, by decide +kernel, by decide +kernel⟩⟩
set_option maxRecDepth 100000 in
theorem l_R_43 : zLS "WideWordStack$Row" 43 y_R_isZero c_R_isZero 2 (some .boolean) 1 := ⟨zwi 237 rfl rfl, zwi 62 rfl rfl, zwi 263 rfl rfl, zwi 236 rfl rfl, ⟨by decide +kernel, by decide +kernel, by decide +kernel⟩⟩
set_option maxRecDepth 100000 in
theorem l_R_46 : zLS "WideWordStack$Row" 46 y_R_bitLength c_R_bitLength 2 (some .int) 1 := ⟨zwi 180 rfl rfl, zwi 62 rfl rfl, zwi 264 rfl rfl, zwi 179 rfl rfl, ⟨by decide +kernel, by decide +kernel, by decide +kernel⟩⟩
set_option maxRecDepth 100000 in
theorem l_R_52 : zLS "WideWordStack$Row" 52 y_R_bitAt c_R_bitAt 2 (some .long) 2 := ⟨zwi 268 rfl rfl, zwi 62 rfl rfl, zwi 266 rfl rfl, zwi 267 rfl rfl, ⟨by decide +kernel, by decide +kernel, by decide +kernel⟩⟩
set_option maxRecDepth 100000 in
theorem l_R_56 : zLS "WideWordStack$Row" 56 y_R_multiplyAdd c_R_multiplyAdd 10 (some .long) 3 := ⟨zwi 271 rfl rfl, zwi 62 rfl rfl, zwi 269 rfl rfl, zwi 270 rfl rfl, ⟨by decide +kernel, by decide +kernel, by decide +kernel⟩⟩
set_option maxRecDepth 100000 in
theorem l_R_60 : zLS "WideWordStack$Row" 60 y_R_subtract c_R_subtract 8 none 3 := ⟨zwi 243 rfl rfl, zwi 62 rfl rfl, zwi 273 rfl rfl, zwi 242 rfl rfl, ⟨by decide +kernel, by decide +kernel, by decide +kernel⟩⟩
set_option maxRecDepth 100000 in
theorem l_R_66 : zLS "WideWordStack$Row" 66 y_JM_floorDiv c_JM_floorDiv 3 (some .int) 2 := ⟨zwi 548 rfl rfl, zwi 69 rfl rfl, zwi 546 rfl rfl, zwi 547 rfl rfl, ⟨by decide +kernel, by decide +kernel, by decide +kernel⟩⟩
set_option maxRecDepth 100000 in
theorem l_R_72 : zLS "WideWordStack$Row" 72 y_R_digitOr c_R_digitOr 4 (some .long) 3 := ⟨zwi 551 rfl rfl, zwi 62 rfl rfl, zwi 549 rfl rfl, zwi 550 rfl rfl, ⟨by decide +kernel, by decide +kernel, by decide +kernel⟩⟩
set_option maxRecDepth 100000 in
theorem l_R_76 : zLS "WideWordStack$Row" 76 y_JM_floorMod c_JM_floorMod 3 (some .int) 2 := ⟨zwi 554 rfl rfl, zwi 69 rfl rfl, zwi 552 rfl rfl, zwi 553 rfl rfl, ⟨by decide +kernel, by decide +kernel, by decide +kernel⟩⟩
set_option maxRecDepth 100000 in
theorem l_W_19 : zLS "WideWordStack$Whole" 19 y_JA_fill c_JA_fill 5 none 2 := ⟨zwi 205 rfl rfl, zwi 68 rfl rfl, zwi 203 rfl rfl, zwi 204 rfl rfl, ⟨by decide +kernel, by decide +kernel, by decide +kernel⟩⟩
set_option maxRecDepth 100000 in
theorem l_W_25 : zLS "WideWordStack$Whole" 25 y_R_assign c_R_assign 2 none 2 := ⟨zwi 208 rfl rfl, zwi 62 rfl rfl, zwi 206 rfl rfl, zwi 207 rfl rfl, ⟨by decide +kernel, by decide +kernel, by decide +kernel⟩⟩
set_option maxRecDepth 100000 in
theorem l_W_29 : zLS "WideWordStack$Whole" 29 y_R_isNegative c_R_isNegative 1 (some .boolean) 1 := ⟨zwi 214 rfl rfl, zwi 62 rfl rfl, zwi 212 rfl rfl, zwi 213 rfl rfl, ⟨by decide +kernel, by decide +kernel, by decide +kernel⟩⟩
set_option maxRecDepth 100000 in
theorem l_W_33 : zLS "WideWordStack$Whole" 33 y_R_negateWord c_R_negateWord 6 none 1 := ⟨zwi 218 rfl rfl, zwi 62 rfl rfl, zwi 216 rfl rfl, zwi 217 rfl rfl, ⟨by decide +kernel, by decide +kernel, by decide +kernel⟩⟩
set_option maxRecDepth 100000 in
theorem l_W_43 : zLV "WideWordStack$Whole" 43 y_W_setSumOfSigned c_W_setSumOfSigned 4 none 3 := ⟨zwi 227 rfl rfl, zwi 55 rfl rfl, zwi 224 rfl rfl, ⟨zwi 226 rfl rfl, zwi 2 rfl rfl⟩, ⟨by decide +kernel, by decide +kernel, by decide +kernel⟩⟩
set_option maxRecDepth 100000 in
theorem l_W_47 : zLS "WideWordStack$Whole" 47 y_R_add c_R_add 8 none 3 := ⟨zwi 230 rfl rfl, zwi 62 rfl rfl, zwi 228 rfl rfl, zwi 229 rfl rfl, ⟨by decide +kernel, by decide +kernel, by decide +kernel⟩⟩
set_option maxRecDepth 100000 in
theorem l_W_51 : zLV "WideWordStack$Whole" 51 y_W_setSign c_W_setSign 2 none 1 := ⟨zwi 234 rfl rfl, zwi 55 rfl rfl, zwi 231 rfl rfl, ⟨zwi 233 rfl rfl, zwi 3 rfl rfl⟩, ⟨by decide +kernel, by decide +kernel, by decide +kernel⟩⟩
set_option maxRecDepth 100000 in
theorem l_W_55 : zLS "WideWordStack$Whole" 55 y_R_compareRows c_R_compareRows 3 (some .int) 2 := ⟨zwi 240 rfl rfl, zwi 62 rfl rfl, zwi 238 rfl rfl, zwi 239 rfl rfl, ⟨by decide +kernel, by decide +kernel, by decide +kernel⟩⟩
set_option maxRecDepth 100000 in
theorem l_W_59 : zLS "WideWordStack$Whole" 59 y_R_subtract c_R_subtract 8 none 3 := ⟨zwi 243 rfl rfl, zwi 62 rfl rfl, zwi 241 rfl rfl, zwi 242 rfl rfl, ⟨by decide +kernel, by decide +kernel, by decide +kernel⟩⟩
set_option maxRecDepth 100000 in
theorem l_W_62 : zLS "WideWordStack$Whole" 62 y_R_multiply c_R_multiply 9 none 3 := ⟨zwi 250 rfl rfl, zwi 62 rfl rfl, zwi 248 rfl rfl, zwi 249 rfl rfl, ⟨by decide +kernel, by decide +kernel, by decide +kernel⟩⟩
set_option maxRecDepth 100000 in
theorem l_W_65 : zLS "WideWordStack$Whole" 65 y_R_divide c_R_divide 5 (some .boolean) 4 := ⟨zwi 262 rfl rfl, zwi 62 rfl rfl, zwi 260 rfl rfl, zwi 261 rfl rfl, ⟨by decide +kernel, by decide +kernel, by decide +kernel⟩⟩
set_option maxRecDepth 100000 in
theorem l_W_69 : zLS "WideWordStack$Whole" 69 y_R_isZero c_R_isZero 2 (some .boolean) 1 := ⟨zwi 237 rfl rfl, zwi 62 rfl rfl, zwi 235 rfl rfl, zwi 236 rfl rfl, ⟨by decide +kernel, by decide +kernel, by decide +kernel⟩⟩
set_option maxRecDepth 100000 in
theorem l_E_28 : zLV "WideWordStack$Exact" 28 y_W_setWord c_W_setWord 3 none 2 := ⟨zwi 202 rfl rfl, zwi 55 rfl rfl, zwi 199 rfl rfl, ⟨zwi 200 rfl rfl, zwi 201 rfl rfl⟩, ⟨by decide +kernel, by decide +kernel, by decide +kernel⟩⟩
set_option maxRecDepth 100000 in
theorem l_E_32 : zLV "WideWordStack$Exact" 32 y_W_setSum c_W_setSum 3 none 2 := ⟨zwi 223 rfl rfl, zwi 55 rfl rfl, zwi 220 rfl rfl, ⟨zwi 221 rfl rfl, zwi 222 rfl rfl⟩, ⟨by decide +kernel, by decide +kernel, by decide +kernel⟩⟩
set_option maxRecDepth 100000 in
theorem l_E_36 : zLV "WideWordStack$Exact" 36 y_W_setProduct c_W_setProduct 3 none 2 := ⟨zwi 247 rfl rfl, zwi 55 rfl rfl, zwi 244 rfl rfl, ⟨zwi 245 rfl rfl, zwi 246 rfl rfl⟩, ⟨by decide +kernel, by decide +kernel, by decide +kernel⟩⟩
set_option maxRecDepth 100000 in
theorem l_E_39 : zLV "WideWordStack$Exact" 39 y_W_setDifference c_W_setDifference 3 none 2 := ⟨zwi 255 rfl rfl, zwi 55 rfl rfl, zwi 252 rfl rfl, ⟨zwi 253 rfl rfl, zwi 254 rfl rfl⟩, ⟨by decide +kernel, by decide +kernel, by decide +kernel⟩⟩
set_option maxRecDepth 100000 in
theorem l_E_42 : zLV "WideWordStack$Exact" 42 y_W_setQuotient c_W_setQuotient 5 (some .boolean) 3 := ⟨zwi 259 rfl rfl, zwi 55 rfl rfl, zwi 256 rfl rfl, ⟨zwi 257 rfl rfl, zwi 258 rfl rfl⟩, ⟨by decide +kernel, by decide +kernel, by decide +kernel⟩⟩
set_option maxRecDepth 100000 in
theorem l_E_46 : zLV "WideWordStack$Exact" 46 y_W_setRemainder c_W_setRemainder 5 (some .boolean) 3 := ⟨zwi 277 rfl rfl, zwi 55 rfl rfl, zwi 274 rfl rfl, ⟨zwi 275 rfl rfl, zwi 276 rfl rfl⟩, ⟨by decide +kernel, by decide +kernel, by decide +kernel⟩⟩
set_option maxRecDepth 100000 in
theorem l_E_49 : zLV "WideWordStack$Exact" 49 y_W_setWhole c_W_setWhole 2 none 1 := ⟨zwi 590 rfl rfl, zwi 55 rfl rfl, zwi 587 rfl rfl, ⟨zwi 588 rfl rfl, zwi 589 rfl rfl⟩, ⟨by decide +kernel, by decide +kernel, by decide +kernel⟩⟩
set_option maxRecDepth 100000 in
theorem l_E_53 : zLV "WideWordStack$Exact" 53 y_W_isInRange c_W_isInRange 3 (some .boolean) 1 := ⟨zwi 285 rfl rfl, zwi 55 rfl rfl, zwi 282 rfl rfl, ⟨zwi 283 rfl rfl, zwi 284 rfl rfl⟩, ⟨by decide +kernel, by decide +kernel, by decide +kernel⟩⟩
set_option maxRecDepth 100000 in
theorem l_E_57 : zLV "WideWordStack$Exact" 57 y_W_putWrapped c_W_putWrapped 2 none 1 := ⟨zwi 525 rfl rfl, zwi 55 rfl rfl, zwi 522 rfl rfl, ⟨zwi 523 rfl rfl, zwi 524 rfl rfl⟩, ⟨by decide +kernel, by decide +kernel, by decide +kernel⟩⟩
set_option maxRecDepth 100000 in
theorem l_E_61 : zLV "WideWordStack$Exact" 61 y_W_putBound c_W_putBound 3 none 2 := ⟨zwi 641 rfl rfl, zwi 55 rfl rfl, zwi 638 rfl rfl, ⟨zwi 639 rfl rfl, zwi 640 rfl rfl⟩, ⟨by decide +kernel, by decide +kernel, by decide +kernel⟩⟩
set_option maxRecDepth 100000 in
theorem l_P_19 : zLS "WideWordStack$Wrapping" 19 y_R_isZero c_R_isZero 2 (some .boolean) 1 := ⟨zwi 237 rfl rfl, zwi 62 rfl rfl, zwi 502 rfl rfl, zwi 236 rfl rfl, ⟨by decide +kernel, by decide +kernel, by decide +kernel⟩⟩
set_option maxRecDepth 100000 in
theorem l_P_23 : zLS "WideWordStack$Wrapping" 23 y_P_putTruth c_P_putTruth 2 none 2 := ⟨zwi 505 rfl rfl, zwi 56 rfl rfl, zwi 503 rfl rfl, zwi 504 rfl rfl, ⟨by decide +kernel, by decide +kernel, by decide +kernel⟩⟩
set_option maxRecDepth 100000 in
theorem l_P_31 : zLV "WideWordStack$Wrapping" 31 y_E_work c_E_work 5 (some .boolean) 4 := ⟨zwi 198 rfl rfl, zwi 54 rfl rfl, zwi 517 rfl rfl, ⟨zwi 196 rfl rfl, zwi 197 rfl rfl⟩, ⟨by decide +kernel, by decide +kernel, by decide +kernel⟩⟩
set_option maxRecDepth 100000 in
theorem l_P_35 : zLV "WideWordStack$Wrapping" 35 y_E_reduce c_E_reduce 2 none 1 := ⟨zwi 586 rfl rfl, zwi 54 rfl rfl, zwi 583 rfl rfl, ⟨zwi 584 rfl rfl, zwi 585 rfl rfl⟩, ⟨by decide +kernel, by decide +kernel, by decide +kernel⟩⟩
set_option maxRecDepth 100000 in
theorem l_P_39 : zLV "WideWordStack$Wrapping" 39 y_E_putWrapped c_E_putWrapped 2 none 1 := ⟨zwi 521 rfl rfl, zwi 54 rfl rfl, zwi 518 rfl rfl, ⟨zwi 519 rfl rfl, zwi 520 rfl rfl⟩, ⟨by decide +kernel, by decide +kernel, by decide +kernel⟩⟩
set_option maxRecDepth 100000 in
theorem l_P_42 : zLS "WideWordStack$Wrapping" 42 y_P_exactOf c_P_exactOf 1 (some .int) 1 := ⟨zwi 516 rfl rfl, zwi 56 rfl rfl, zwi 514 rfl rfl, zwi 515 rfl rfl, ⟨by decide +kernel, by decide +kernel, by decide +kernel⟩⟩
set_option maxRecDepth 100000 in
theorem l_P_46 : zLS "WideWordStack$Wrapping" 46 y_P_holds c_P_holds 3 (some .boolean) 3 := ⟨zwi 528 rfl rfl, zwi 56 rfl rfl, zwi 526 rfl rfl, zwi 527 rfl rfl, ⟨by decide +kernel, by decide +kernel, by decide +kernel⟩⟩
set_option maxRecDepth 100000 in
theorem l_P_50 : zLS "WideWordStack$Wrapping" 50 y_P_combine c_P_combine 5 none 4 := ⟨zwi 536 rfl rfl, zwi 56 rfl rfl, zwi 534 rfl rfl, zwi 535 rfl rfl, ⟨by decide +kernel, by decide +kernel, by decide +kernel⟩⟩
set_option maxRecDepth 100000 in
theorem l_P_54 : zLS "WideWordStack$Wrapping" 54 y_P_shift c_P_shift 6 none 4 := ⟨zwi 539 rfl rfl, zwi 56 rfl rfl, zwi 537 rfl rfl, zwi 538 rfl rfl, ⟨by decide +kernel, by decide +kernel, by decide +kernel⟩⟩
set_option maxRecDepth 100000 in
theorem l_P_57 : zLV "WideWordStack$Wrapping" 57 y_P_raise c_P_raise 5 none 3 := ⟨zwi 559 rfl rfl, zwi 56 rfl rfl, zwi 556 rfl rfl, ⟨zwi 558 rfl rfl, zwi 9 rfl rfl⟩, ⟨by decide +kernel, by decide +kernel, by decide +kernel⟩⟩
set_option maxRecDepth 100000 in
theorem l_P_61 : zLS "WideWordStack$Wrapping" 61 y_P_extendSign c_P_extendSign 7 none 3 := ⟨zwi 566 rfl rfl, zwi 56 rfl rfl, zwi 564 rfl rfl, zwi 565 rfl rfl, ⟨by decide +kernel, by decide +kernel, by decide +kernel⟩⟩
set_option maxRecDepth 100000 in
theorem l_P_64 : zLS "WideWordStack$Wrapping" 64 y_P_pickByte c_P_pickByte 4 none 3 := ⟨zwi 578 rfl rfl, zwi 56 rfl rfl, zwi 576 rfl rfl, zwi 577 rfl rfl, ⟨by decide +kernel, by decide +kernel, by decide +kernel⟩⟩
set_option maxRecDepth 100000 in
theorem l_P_67 : zLS "WideWordStack$Wrapping" 67 y_R_setSmall c_R_setSmall 3 none 2 := ⟨zwi 508 rfl rfl, zwi 62 rfl rfl, zwi 506 rfl rfl, zwi 507 rfl rfl, ⟨by decide +kernel, by decide +kernel, by decide +kernel⟩⟩
set_option maxRecDepth 100000 in
theorem l_P_71 : zLS "WideWordStack$Wrapping" 71 y_R_bitLength c_R_bitLength 2 (some .int) 1 := ⟨zwi 180 rfl rfl, zwi 62 rfl rfl, zwi 560 rfl rfl, zwi 179 rfl rfl, ⟨by decide +kernel, by decide +kernel, by decide +kernel⟩⟩
set_option maxRecDepth 100000 in
theorem l_P_75 : zLS "WideWordStack$Wrapping" 75 y_R_multiply c_R_multiply 9 none 3 := ⟨zwi 250 rfl rfl, zwi 62 rfl rfl, zwi 561 rfl rfl, zwi 249 rfl rfl, ⟨by decide +kernel, by decide +kernel, by decide +kernel⟩⟩
set_option maxRecDepth 100000 in
theorem l_P_78 : zLS "WideWordStack$Wrapping" 78 y_R_bitAt c_R_bitAt 2 (some .long) 2 := ⟨zwi 268 rfl rfl, zwi 62 rfl rfl, zwi 562 rfl rfl, zwi 267 rfl rfl, ⟨by decide +kernel, by decide +kernel, by decide +kernel⟩⟩
set_option maxRecDepth 100000 in
theorem l_P_82 : zLS "WideWordStack$Wrapping" 82 y_R_assign c_R_assign 2 none 2 := ⟨zwi 208 rfl rfl, zwi 62 rfl rfl, zwi 563 rfl rfl, zwi 207 rfl rfl, ⟨by decide +kernel, by decide +kernel, by decide +kernel⟩⟩
set_option maxRecDepth 100000 in
theorem l_P_86 : zLS "WideWordStack$Wrapping" 86 y_R_atMost c_R_atMost 3 (some .int) 2 := ⟨zwi 542 rfl rfl, zwi 62 rfl rfl, zwi 540 rfl rfl, zwi 541 rfl rfl, ⟨by decide +kernel, by decide +kernel, by decide +kernel⟩⟩
set_option maxRecDepth 100000 in
theorem l_P_90 : zLS "WideWordStack$Wrapping" 90 y_R_byteAt c_R_byteAt 2 (some .int) 2 := ⟨zwi 569 rfl rfl, zwi 62 rfl rfl, zwi 567 rfl rfl, zwi 568 rfl rfl, ⟨by decide +kernel, by decide +kernel, by decide +kernel⟩⟩
set_option maxRecDepth 100000 in
theorem l_P_95 : zLS "WideWordStack$Wrapping" 95 y_R_setByte c_R_setByte 6 none 3 := ⟨zwi 574 rfl rfl, zwi 62 rfl rfl, zwi 572 rfl rfl, zwi 573 rfl rfl, ⟨by decide +kernel, by decide +kernel, by decide +kernel⟩⟩
set_option maxRecDepth 100000 in
theorem l_P_99 : zLS "WideWordStack$Wrapping" 99 y_R_compareRows c_R_compareRows 3 (some .int) 2 := ⟨zwi 240 rfl rfl, zwi 62 rfl rfl, zwi 529 rfl rfl, zwi 239 rfl rfl, ⟨by decide +kernel, by decide +kernel, by decide +kernel⟩⟩
set_option maxRecDepth 100000 in
theorem l_P_103 : zLS "WideWordStack$Wrapping" 103 y_R_compareSigned c_R_compareSigned 2 (some .int) 2 := ⟨zwi 532 rfl rfl, zwi 62 rfl rfl, zwi 530 rfl rfl, zwi 531 rfl rfl, ⟨by decide +kernel, by decide +kernel, by decide +kernel⟩⟩
set_option maxRecDepth 100000 in
theorem l_P_106 : zLS "WideWordStack$Wrapping" 106 y_R_shiftDown c_R_shiftDown 12 none 4 := ⟨zwi 545 rfl rfl, zwi 62 rfl rfl, zwi 543 rfl rfl, zwi 544 rfl rfl, ⟨by decide +kernel, by decide +kernel, by decide +kernel⟩⟩
set_option maxRecDepth 100000 in
theorem l_P_110 : zLS "WideWordStack$Wrapping" 110 y_R_isNegative c_R_isNegative 1 (some .boolean) 1 := ⟨zwi 214 rfl rfl, zwi 62 rfl rfl, zwi 555 rfl rfl, zwi 213 rfl rfl, ⟨by decide +kernel, by decide +kernel, by decide +kernel⟩⟩
set_option maxRecDepth 100000 in
theorem l_N_7 : zLS "WideWordStack$Numeral" 7 y_R_divideByTen c_R_divideByTen 6 (some .int) 1 := ⟨zwi 668 rfl rfl, zwi 62 rfl rfl, zwi 666 rfl rfl, zwi 667 rfl rfl, ⟨by decide +kernel, by decide +kernel, by decide +kernel⟩⟩
set_option maxRecDepth 100000 in
theorem l_N_13 : zLV "WideWordStack$Numeral" 13 y_T_append c_T_append 2 (some .boolean) 1 := ⟨zwi 297 rfl rfl, zwi 53 rfl rfl, zwi 654 rfl rfl, ⟨zwi 295 rfl rfl, zwi 296 rfl rfl⟩, ⟨by decide +kernel, by decide +kernel, by decide +kernel⟩⟩
set_option maxRecDepth 100000 in
theorem l_N_21 : zLS "WideWordStack$Numeral" 21 y_R_isZero c_R_isZero 2 (some .boolean) 1 := ⟨zwi 237 rfl rfl, zwi 62 rfl rfl, zwi 670 rfl rfl, zwi 236 rfl rfl, ⟨by decide +kernel, by decide +kernel, by decide +kernel⟩⟩
set_option maxRecDepth 100000 in
theorem l_N_25 : zLV "WideWordStack$Numeral" 25 y_T_turnRound c_T_turnRound 3 none 0 := ⟨zwi 674 rfl rfl, zwi 53 rfl rfl, zwi 671 rfl rfl, ⟨zwi 672 rfl rfl, zwi 673 rfl rfl⟩, ⟨by decide +kernel, by decide +kernel, by decide +kernel⟩⟩
set_option maxRecDepth 100000 in
theorem l_N_28 : zLS "WideWordStack$Numeral" 28 y_R_bitLength c_R_bitLength 2 (some .int) 1 := ⟨zwi 180 rfl rfl, zwi 62 rfl rfl, zwi 655 rfl rfl, zwi 179 rfl rfl, ⟨by decide +kernel, by decide +kernel, by decide +kernel⟩⟩
set_option maxRecDepth 100000 in
theorem l_N_31 : zLS "WideWordStack$Numeral" 31 y_JM_max c_JM_max 2 (some .int) 2 := ⟨zwi 658 rfl rfl, zwi 69 rfl rfl, zwi 656 rfl rfl, zwi 657 rfl rfl, ⟨by decide +kernel, by decide +kernel, by decide +kernel⟩⟩
set_option maxRecDepth 100000 in
theorem l_N_37 : zLS "WideWordStack$Numeral" 37 y_R_byteAt c_R_byteAt 2 (some .int) 2 := ⟨zwi 569 rfl rfl, zwi 62 rfl rfl, zwi 659 rfl rfl, zwi 568 rfl rfl, ⟨by decide +kernel, by decide +kernel, by decide +kernel⟩⟩
set_option maxRecDepth 100000 in
theorem l_N_41 : zLS "WideWordStack$Numeral" 41 y_N_hexDigit c_N_hexDigit 1 (some .char) 1 := ⟨zwi 662 rfl rfl, zwi 71 rfl rfl, zwi 660 rfl rfl, zwi 661 rfl rfl, ⟨by decide +kernel, by decide +kernel, by decide +kernel⟩⟩
set_option maxRecDepth 100000 in
theorem l_N_45 : zLS "WideWordStack$Numeral" 45 y_N_readDigits c_N_readDigits 7 (some .boolean) 4 := ⟨zwi 688 rfl rfl, zwi 71 rfl rfl, zwi 686 rfl rfl, zwi 687 rfl rfl, ⟨by decide +kernel, by decide +kernel, by decide +kernel⟩⟩
set_option maxRecDepth 100000 in
theorem l_N_49 : zLV "WideWordStack$Numeral" 49 y_T_codeAt c_T_codeAt 2 (some .int) 1 := ⟨zwi 317 rfl rfl, zwi 53 rfl rfl, zwi 685 rfl rfl, ⟨zwi 315 rfl rfl, zwi 316 rfl rfl⟩, ⟨by decide +kernel, by decide +kernel, by decide +kernel⟩⟩
set_option maxRecDepth 100000 in
theorem l_N_53 : zLV "WideWordStack$Numeral" 53 y_T_size c_T_size 1 (some .int) 0 := ⟨zwi 305 rfl rfl, zwi 53 rfl rfl, zwi 689 rfl rfl, ⟨zwi 303 rfl rfl, zwi 304 rfl rfl⟩, ⟨by decide +kernel, by decide +kernel, by decide +kernel⟩⟩
set_option maxRecDepth 100000 in
theorem l_N_57 : zLS "WideWordStack$Numeral" 57 y_JA_fill c_JA_fill 5 none 2 := ⟨zwi 205 rfl rfl, zwi 68 rfl rfl, zwi 690 rfl rfl, zwi 204 rfl rfl, ⟨by decide +kernel, by decide +kernel, by decide +kernel⟩⟩
set_option maxRecDepth 100000 in
theorem l_N_63 : zLS "WideWordStack$Numeral" 63 y_N_valueOf c_N_valueOf 2 (some .int) 2 := ⟨zwi 693 rfl rfl, zwi 71 rfl rfl, zwi 691 rfl rfl, zwi 692 rfl rfl, ⟨by decide +kernel, by decide +kernel, by decide +kernel⟩⟩
set_option maxRecDepth 100000 in
theorem l_N_66 : zLS "WideWordStack$Numeral" 66 y_R_multiplyAdd c_R_multiplyAdd 10 (some .long) 3 := ⟨zwi 271 rfl rfl, zwi 62 rfl rfl, zwi 694 rfl rfl, zwi 270 rfl rfl, ⟨by decide +kernel, by decide +kernel, by decide +kernel⟩⟩
set_option maxRecDepth 100000 in
theorem l_C_9 : zLS "WideWordStack$Code" 9 y_R_atMost c_R_atMost 3 (some .int) 2 := ⟨zwi 542 rfl rfl, zwi 62 rfl rfl, zwi 713 rfl rfl, zwi 541 rfl rfl, ⟨by decide +kernel, by decide +kernel, by decide +kernel⟩⟩
set_option maxRecDepth 100000 in
theorem l_C_15 : zLV "WideWordStack$Code" 15 y_T_append c_T_append 2 (some .boolean) 1 := ⟨zwi 297 rfl rfl, zwi 53 rfl rfl, zwi 714 rfl rfl, ⟨zwi 295 rfl rfl, zwi 296 rfl rfl⟩, ⟨by decide +kernel, by decide +kernel, by decide +kernel⟩⟩
set_option maxRecDepth 100000 in
theorem l_C_21 : zLS "WideWordStack$Code" 21 y_R_bitLength c_R_bitLength 2 (some .int) 1 := ⟨zwi 180 rfl rfl, zwi 62 rfl rfl, zwi 715 rfl rfl, zwi 179 rfl rfl, ⟨by decide +kernel, by decide +kernel, by decide +kernel⟩⟩
set_option maxRecDepth 100000 in
theorem l_C_25 : zLS "WideWordStack$Code" 25 y_R_byteAt c_R_byteAt 2 (some .int) 2 := ⟨zwi 569 rfl rfl, zwi 62 rfl rfl, zwi 716 rfl rfl, zwi 568 rfl rfl, ⟨by decide +kernel, by decide +kernel, by decide +kernel⟩⟩
set_option maxRecDepth 100000 in
theorem l_C_28 : zLV "WideWordStack$Code" 28 y_T_codeAt c_T_codeAt 2 (some .int) 1 := ⟨zwi 317 rfl rfl, zwi 53 rfl rfl, zwi 727 rfl rfl, ⟨zwi 315 rfl rfl, zwi 316 rfl rfl⟩, ⟨by decide +kernel, by decide +kernel, by decide +kernel⟩⟩
set_option maxRecDepth 100000 in
theorem l_C_32 : zLS "WideWordStack$Code" 32 y_R_setSmall c_R_setSmall 3 none 2 := ⟨zwi 508 rfl rfl, zwi 62 rfl rfl, zwi 728 rfl rfl, zwi 507 rfl rfl, ⟨by decide +kernel, by decide +kernel, by decide +kernel⟩⟩
set_option maxRecDepth 100000 in
theorem l_C_36 : zLV "WideWordStack$Code" 36 y_T_size c_T_size 1 (some .int) 0 := ⟨zwi 305 rfl rfl, zwi 53 rfl rfl, zwi 729 rfl rfl, ⟨zwi 303 rfl rfl, zwi 304 rfl rfl⟩, ⟨by decide +kernel, by decide +kernel, by decide +kernel⟩⟩
set_option maxRecDepth 100000 in
theorem l_C_40 : zLS "WideWordStack$Code" 40 y_JA_fill c_JA_fill 5 none 2 := ⟨zwi 205 rfl rfl, zwi 68 rfl rfl, zwi 730 rfl rfl, zwi 204 rfl rfl, ⟨by decide +kernel, by decide +kernel, by decide +kernel⟩⟩
set_option maxRecDepth 100000 in
theorem l_C_45 : zLS "WideWordStack$Code" 45 y_R_setByte c_R_setByte 6 none 3 := ⟨zwi 574 rfl rfl, zwi 62 rfl rfl, zwi 731 rfl rfl, zwi 573 rfl rfl, ⟨by decide +kernel, by decide +kernel, by decide +kernel⟩⟩
set_option maxRecDepth 100000 in
theorem l_C_49 : zLS "WideWordStack$Code" 49 y_C_isShortest c_C_isShortest 3 (some .boolean) 2 := ⟨zwi 734 rfl rfl, zwi 72 rfl rfl, zwi 732 rfl rfl, zwi 733 rfl rfl, ⟨by decide +kernel, by decide +kernel, by decide +kernel⟩⟩
set_option maxRecDepth 100000 in
theorem l_S_47 : zLV "WideWordStack" 47 y_S_refuseWhenFull c_S_refuseWhenFull 1 none 0 := ⟨zwi 329 rfl rfl, zwi 52 rfl rfl, zwi 326 rfl rfl, ⟨zwi 328 rfl rfl, zwi 4 rfl rfl⟩, ⟨by decide +kernel, by decide +kernel, by decide +kernel⟩⟩
set_option maxRecDepth 100000 in
theorem l_S_50 : zLS "WideWordStack" 50 y_R_setLimb c_R_setLimb 5 none 3 := ⟨zwi 401 rfl rfl, zwi 62 rfl rfl, zwi 399 rfl rfl, zwi 400 rfl rfl, ⟨by decide +kernel, by decide +kernel, by decide +kernel⟩⟩
set_option maxRecDepth 100000 in
theorem l_S_54 : zLV "WideWordStack" 54 y_S_refuseNoWord c_S_refuseNoWord 2 none 1 := ⟨zwi 413 rfl rfl, zwi 52 rfl rfl, zwi 410 rfl rfl, ⟨zwi 412 rfl rfl, zwi 6 rfl rfl⟩, ⟨by decide +kernel, by decide +kernel, by decide +kernel⟩⟩
set_option maxRecDepth 100000 in
theorem l_S_58 : zLV "WideWordStack" 58 y_S_word c_S_word 2 (some (.array .long)) 1 := ⟨zwi 177 rfl rfl, zwi 52 rfl rfl, zwi 174 rfl rfl, ⟨zwi 176 rfl rfl, zwi 1 rfl rfl⟩, ⟨by decide +kernel, by decide +kernel, by decide +kernel⟩⟩
set_option maxRecDepth 100000 in
theorem l_S_62 : zLV "WideWordStack" 62 y_S_putOnTop c_S_putOnTop 2 (some .int) 1 := ⟨zwi 433 rfl rfl, zwi 52 rfl rfl, zwi 430 rfl rfl, ⟨zwi 432 rfl rfl, zwi 7 rfl rfl⟩, ⟨by decide +kernel, by decide +kernel, by decide +kernel⟩⟩
set_option maxRecDepth 100000 in
theorem l_S_66 : zLS "WideWordStack" 66 y_R_exchange c_R_exchange 5 none 2 := ⟨zwi 444 rfl rfl, zwi 62 rfl rfl, zwi 442 rfl rfl, zwi 443 rfl rfl, ⟨by decide +kernel, by decide +kernel, by decide +kernel⟩⟩
set_option maxRecDepth 100000 in
theorem l_S_70 : zLV "WideWordStack" 70 y_S_refuseFewerThan c_S_refuseFewerThan 2 none 1 := ⟨zwi 455 rfl rfl, zwi 52 rfl rfl, zwi 452 rfl rfl, ⟨zwi 454 rfl rfl, zwi 8 rfl rfl⟩, ⟨by decide +kernel, by decide +kernel, by decide +kernel⟩⟩
set_option maxRecDepth 100000 in
theorem l_S_80 : zLS "WideWordStack" 80 y_R_limbOf c_R_limbOf 3 (some .long) 2 := ⟨zwi 467 rfl rfl, zwi 62 rfl rfl, zwi 465 rfl rfl, zwi 466 rfl rfl, ⟨by decide +kernel, by decide +kernel, by decide +kernel⟩⟩
set_option maxRecDepth 100000 in
theorem l_S_84 : zLV "WideWordStack" 84 y_S_hasWord c_S_hasWord 2 (some .boolean) 1 := ⟨zwi 173 rfl rfl, zwi 52 rfl rfl, zwi 170 rfl rfl, ⟨zwi 172 rfl rfl, zwi 0 rfl rfl⟩, ⟨by decide +kernel, by decide +kernel, by decide +kernel⟩⟩
set_option maxRecDepth 100000 in
theorem l_S_88 : zLS "WideWordStack" 88 y_R_bitLength c_R_bitLength 2 (some .int) 1 := ⟨zwi 180 rfl rfl, zwi 62 rfl rfl, zwi 178 rfl rfl, zwi 179 rfl rfl, ⟨by decide +kernel, by decide +kernel, by decide +kernel⟩⟩
set_option maxRecDepth 100000 in
theorem l_S_91 : zLS "WideWordStack" 91 y_P_isOperation c_P_isOperation 1 (some .boolean) 1 := ⟨zwi 478 rfl rfl, zwi 56 rfl rfl, zwi 476 rfl rfl, zwi 477 rfl rfl, ⟨by decide +kernel, by decide +kernel, by decide +kernel⟩⟩
set_option maxRecDepth 100000 in
theorem l_S_99 : zLS "WideWordStack" 99 y_P_wordsTaken c_P_wordsTaken 1 (some .int) 1 := ⟨zwi 497 rfl rfl, zwi 56 rfl rfl, zwi 495 rfl rfl, zwi 496 rfl rfl, ⟨by decide +kernel, by decide +kernel, by decide +kernel⟩⟩
set_option maxRecDepth 100000 in
theorem l_S_103 : zLV "WideWordStack" 103 y_P_workOnOne c_P_workOnOne 5 none 3 := ⟨zwi 501 rfl rfl, zwi 56 rfl rfl, zwi 498 rfl rfl, ⟨zwi 499 rfl rfl, zwi 500 rfl rfl⟩, ⟨by decide +kernel, by decide +kernel, by decide +kernel⟩⟩
set_option maxRecDepth 100000 in
theorem l_S_107 : zLV "WideWordStack" 107 y_P_workOnTwo c_P_workOnTwo 5 none 4 := ⟨zwi 513 rfl rfl, zwi 56 rfl rfl, zwi 510 rfl rfl, ⟨zwi 511 rfl rfl, zwi 512 rfl rfl⟩, ⟨by decide +kernel, by decide +kernel, by decide +kernel⟩⟩
set_option maxRecDepth 100000 in
theorem l_S_111 : zLV "WideWordStack" 111 y_P_workOnThree c_P_workOnThree 6 none 5 := ⟨zwi 582 rfl rfl, zwi 56 rfl rfl, zwi 579 rfl rfl, ⟨zwi 580 rfl rfl, zwi 581 rfl rfl⟩, ⟨by decide +kernel, by decide +kernel, by decide +kernel⟩⟩
set_option maxRecDepth 100000 in
theorem l_S_115 : zLV "WideWordStack" 115 y_S_replaceByResult c_S_replaceByResult 2 (some .int) 1 := ⟨zwi 595 rfl rfl, zwi 52 rfl rfl, zwi 592 rfl rfl, ⟨zwi 594 rfl rfl, zwi 10 rfl rfl⟩, ⟨by decide +kernel, by decide +kernel, by decide +kernel⟩⟩
set_option maxRecDepth 100000 in
theorem l_S_118 : zLV "WideWordStack" 118 y_S_refuseUnlessExact c_S_refuseUnlessExact 2 none 1 := ⟨zwi 607 rfl rfl, zwi 52 rfl rfl, zwi 604 rfl rfl, ⟨zwi 606 rfl rfl, zwi 11 rfl rfl⟩, ⟨by decide +kernel, by decide +kernel, by decide +kernel⟩⟩
set_option maxRecDepth 100000 in
theorem l_S_121 : zLV "WideWordStack" 121 y_E_work c_E_work 5 (some .boolean) 4 := ⟨zwi 198 rfl rfl, zwi 54 rfl rfl, zwi 195 rfl rfl, ⟨zwi 196 rfl rfl, zwi 197 rfl rfl⟩, ⟨by decide +kernel, by decide +kernel, by decide +kernel⟩⟩
set_option maxRecDepth 100000 in
theorem l_S_125 : zLV "WideWordStack" 125 y_E_isInRange c_E_isInRange 2 (some .boolean) 1 := ⟨zwi 281 rfl rfl, zwi 54 rfl rfl, zwi 278 rfl rfl, ⟨zwi 279 rfl rfl, zwi 280 rfl rfl⟩, ⟨by decide +kernel, by decide +kernel, by decide +kernel⟩⟩
set_option maxRecDepth 100000 in
theorem l_S_134 : zLV "WideWordStack" 134 y_E_putWrapped c_E_putWrapped 2 none 1 := ⟨zwi 521 rfl rfl, zwi 54 rfl rfl, zwi 625 rfl rfl, ⟨zwi 519 rfl rfl, zwi 520 rfl rfl⟩, ⟨by decide +kernel, by decide +kernel, by decide +kernel⟩⟩
set_option maxRecDepth 100000 in
theorem l_S_140 : zLV "WideWordStack" 140 y_E_putNearest c_E_putNearest 3 none 2 := ⟨zwi 637 rfl rfl, zwi 54 rfl rfl, zwi 634 rfl rfl, ⟨zwi 635 rfl rfl, zwi 636 rfl rfl⟩, ⟨by decide +kernel, by decide +kernel, by decide +kernel⟩⟩
set_option maxRecDepth 100000 in
theorem l_S_144 : zLS "WideWordStack" 144 y_E_isOperation c_E_isOperation 1 (some .boolean) 1 := ⟨zwi 194 rfl rfl, zwi 54 rfl rfl, zwi 192 rfl rfl, zwi 193 rfl rfl, ⟨by decide +kernel, by decide +kernel, by decide +kernel⟩⟩
set_option maxRecDepth 100000 in
theorem l_S_145 : zLV "WideWordStack" 145 y_T_append c_T_append 2 (some .boolean) 1 := ⟨zwi 297 rfl rfl, zwi 53 rfl rfl, zwi 294 rfl rfl, ⟨zwi 295 rfl rfl, zwi 296 rfl rfl⟩, ⟨by decide +kernel, by decide +kernel, by decide +kernel⟩⟩
set_option maxRecDepth 100000 in
theorem l_S_149 : zLV "WideWordStack" 149 y_T_size c_T_size 1 (some .int) 0 := ⟨zwi 305 rfl rfl, zwi 53 rfl rfl, zwi 302 rfl rfl, ⟨zwi 303 rfl rfl, zwi 304 rfl rfl⟩, ⟨by decide +kernel, by decide +kernel, by decide +kernel⟩⟩
set_option maxRecDepth 100000 in
theorem l_S_153 : zLV "WideWordStack" 153 y_T_makeEmpty c_T_makeEmpty 1 none 0 := ⟨zwi 309 rfl rfl, zwi 53 rfl rfl, zwi 306 rfl rfl, ⟨zwi 307 rfl rfl, zwi 308 rfl rfl⟩, ⟨by decide +kernel, by decide +kernel, by decide +kernel⟩⟩
set_option maxRecDepth 100000 in
theorem l_S_156 : zLV "WideWordStack" 156 y_T_codeAt c_T_codeAt 2 (some .int) 1 := ⟨zwi 317 rfl rfl, zwi 53 rfl rfl, zwi 314 rfl rfl, ⟨zwi 315 rfl rfl, zwi 316 rfl rfl⟩, ⟨by decide +kernel, by decide +kernel, by decide +kernel⟩⟩
set_option maxRecDepth 100000 in
theorem l_S_159 : zLS "WideWordStack" 159 y_N_writeHex c_N_writeHex 4 none 2 := ⟨zwi 653 rfl rfl, zwi 71 rfl rfl, zwi 651 rfl rfl, zwi 652 rfl rfl, ⟨by decide +kernel, by decide +kernel, by decide +kernel⟩⟩
set_option maxRecDepth 100000 in
theorem l_S_165 : zLS "WideWordStack" 165 y_R_assign c_R_assign 2 none 2 := ⟨zwi 208 rfl rfl, zwi 62 rfl rfl, zwi 434 rfl rfl, zwi 207 rfl rfl, ⟨by decide +kernel, by decide +kernel, by decide +kernel⟩⟩
set_option maxRecDepth 100000 in
theorem l_S_168 : zLS "WideWordStack" 168 y_N_writeDecimal c_N_writeDecimal 3 none 2 := ⟨zwi 665 rfl rfl, zwi 71 rfl rfl, zwi 663 rfl rfl, zwi 664 rfl rfl, ⟨by decide +kernel, by decide +kernel, by decide +kernel⟩⟩
set_option maxRecDepth 100000 in
theorem l_S_171 : zLS "WideWordStack" 171 y_N_readHex c_N_readHex 2 (some .boolean) 2 := ⟨zwi 684 rfl rfl, zwi 71 rfl rfl, zwi 682 rfl rfl, zwi 683 rfl rfl, ⟨by decide +kernel, by decide +kernel, by decide +kernel⟩⟩
set_option maxRecDepth 100000 in
theorem l_S_175 : zLS "WideWordStack" 175 y_N_readDecimal c_N_readDecimal 2 (some .boolean) 2 := ⟨zwi 697 rfl rfl, zwi 71 rfl rfl, zwi 695 rfl rfl, zwi 696 rfl rfl, ⟨by decide +kernel, by decide +kernel, by decide +kernel⟩⟩
set_option maxRecDepth 100000 in
theorem l_S_180 : zLV "WideWordStack" 180 y_S_moveFromText c_S_moveFromText 1 (some .int) 0 := ⟨zwi 702 rfl rfl, zwi 52 rfl rfl, zwi 699 rfl rfl, ⟨zwi 701 rfl rfl, zwi 12 rfl rfl⟩, ⟨by decide +kernel, by decide +kernel, by decide +kernel⟩⟩
set_option maxRecDepth 100000 in
theorem l_S_183 : zLS "WideWordStack" 183 y_C_write c_C_write 5 none 2 := ⟨zwi 712 rfl rfl, zwi 72 rfl rfl, zwi 710 rfl rfl, zwi 711 rfl rfl, ⟨by decide +kernel, by decide +kernel, by decide +kernel⟩⟩
set_option maxRecDepth 100000 in
theorem l_S_188 : zLS "WideWordStack" 188 y_C_read c_C_read 5 (some .boolean) 2 := ⟨zwi 726 rfl rfl, zwi 72 rfl rfl, zwi 724 rfl rfl, zwi 725 rfl rfl, ⟨by decide +kernel, by decide +kernel, by decide +kernel⟩⟩
set_option maxRecDepth 100000 in
theorem l_M_23 : zLV "WideWordStackModel" 23 y_M_clearRow c_M_clearRow 3 none 1 := ⟨zwi 780 rfl rfl, zwi 57 rfl rfl, zwi 777 rfl rfl, ⟨zwi 779 rfl rfl, zwi 14 rfl rfl⟩, ⟨by decide +kernel, by decide +kernel, by decide +kernel⟩⟩
set_option maxRecDepth 100000 in
theorem l_M_30 : zLV "WideWordStackModel" 30 y_M_place c_M_place 2 (some .int) 1 := ⟨zwi 789 rfl rfl, zwi 57 rfl rfl, zwi 786 rfl rfl, ⟨zwi 788 rfl rfl, zwi 16 rfl rfl⟩, ⟨by decide +kernel, by decide +kernel, by decide +kernel⟩⟩
set_option maxRecDepth 100000 in
theorem l_M_34 : zLV "WideWordStackModel" 34 y_M_copyRow c_M_copyRow 4 none 2 := ⟨zwi 848 rfl rfl, zwi 57 rfl rfl, zwi 845 rfl rfl, ⟨zwi 847 rfl rfl, zwi 23 rfl rfl⟩, ⟨by decide +kernel, by decide +kernel, by decide +kernel⟩⟩
set_option maxRecDepth 100000 in
theorem l_M_38 : zLV "WideWordStackModel" 38 y_M_bit c_M_bit 3 (some .int) 2 := ⟨zwi 825 rfl rfl, zwi 57 rfl rfl, zwi 822 rfl rfl, ⟨zwi 824 rfl rfl, zwi 19 rfl rfl⟩, ⟨by decide +kernel, by decide +kernel, by decide +kernel⟩⟩
set_option maxRecDepth 100000 in
theorem l_M_42 : zLV "WideWordStackModel" 42 y_M_twice c_M_twice 6 none 2 := ⟨zwi 880 rfl rfl, zwi 57 rfl rfl, zwi 877 rfl rfl, ⟨zwi 879 rfl rfl, zwi 31 rfl rfl⟩, ⟨by decide +kernel, by decide +kernel, by decide +kernel⟩⟩
set_option maxRecDepth 100000 in
theorem l_M_45 : zLV "WideWordStackModel" 45 y_M_compare c_M_compare 4 (some .int) 2 := ⟨zwi 884 rfl rfl, zwi 57 rfl rfl, zwi 881 rfl rfl, ⟨zwi 883 rfl rfl, zwi 32 rfl rfl⟩, ⟨by decide +kernel, by decide +kernel, by decide +kernel⟩⟩
set_option maxRecDepth 100000 in
theorem l_M_48 : zLV "WideWordStackModel" 48 y_M_subtract c_M_subtract 7 none 3 := ⟨zwi 852 rfl rfl, zwi 57 rfl rfl, zwi 849 rfl rfl, ⟨zwi 851 rfl rfl, zwi 24 rfl rfl⟩, ⟨by decide +kernel, by decide +kernel, by decide +kernel⟩⟩
set_option maxRecDepth 100000 in
theorem l_M_52 : zLV "WideWordStackModel" 52 y_M_cut c_M_cut 3 none 1 := ⟨zwi 868 rfl rfl, zwi 57 rfl rfl, zwi 865 rfl rfl, ⟨zwi 867 rfl rfl, zwi 28 rfl rfl⟩, ⟨by decide +kernel, by decide +kernel, by decide +kernel⟩⟩
set_option maxRecDepth 100000 in
theorem l_M_55 : zLV "WideWordStackModel" 55 y_M_turn c_M_turn 5 none 1 := ⟨zwi 864 rfl rfl, zwi 57 rfl rfl, zwi 861 rfl rfl, ⟨zwi 863 rfl rfl, zwi 27 rfl rfl⟩, ⟨by decide +kernel, by decide +kernel, by decide +kernel⟩⟩
set_option maxRecDepth 100000 in
theorem l_M_58 : zLV "WideWordStackModel" 58 y_M_fails c_M_fails 2 (some .int) 1 := ⟨zwi 776 rfl rfl, zwi 57 rfl rfl, zwi 773 rfl rfl, ⟨zwi 775 rfl rfl, zwi 13 rfl rfl⟩, ⟨by decide +kernel, by decide +kernel, by decide +kernel⟩⟩
set_option maxRecDepth 100000 in
theorem l_M_63 : zLV "WideWordStackModel" 63 y_M_top c_M_top 5 none 2 := ⟨zwi 785 rfl rfl, zwi 57 rfl rfl, zwi 782 rfl rfl, ⟨zwi 784 rfl rfl, zwi 15 rfl rfl⟩, ⟨by decide +kernel, by decide +kernel, by decide +kernel⟩⟩
set_option maxRecDepth 100000 in
theorem l_M_66 : zLV "WideWordStackModel" 66 y_M_word c_M_word 2 (some .boolean) 1 := ⟨zwi 797 rfl rfl, zwi 57 rfl rfl, zwi 794 rfl rfl, ⟨zwi 796 rfl rfl, zwi 17 rfl rfl⟩, ⟨by decide +kernel, by decide +kernel, by decide +kernel⟩⟩
set_option maxRecDepth 100000 in
theorem l_M_70 : zLV "WideWordStackModel" 70 y_M_load c_M_load 5 none 2 := ⟨zwi 801 rfl rfl, zwi 57 rfl rfl, zwi 798 rfl rfl, ⟨zwi 800 rfl rfl, zwi 18 rfl rfl⟩, ⟨by decide +kernel, by decide +kernel, by decide +kernel⟩⟩
set_option maxRecDepth 100000 in
theorem l_M_73 : zLS "WideWordStackModel" 73 y_M_taken c_M_taken 1 (some .int) 1 := ⟨zwi 832 rfl rfl, zwi 57 rfl rfl, zwi 830 rfl rfl, zwi 831 rfl rfl, ⟨by decide +kernel, by decide +kernel, by decide +kernel⟩⟩
set_option maxRecDepth 100000 in
theorem l_M_76 : zLV "WideWordStackModel" 76 y_M_reckon c_M_reckon 2 none 1 := ⟨zwi 836 rfl rfl, zwi 57 rfl rfl, zwi 833 rfl rfl, ⟨zwi 835 rfl rfl, zwi 20 rfl rfl⟩, ⟨by decide +kernel, by decide +kernel, by decide +kernel⟩⟩
set_option maxRecDepth 100000 in
theorem l_M_79 : zLV "WideWordStackModel" 79 y_M_ask c_M_ask 3 none 1 := ⟨zwi 900 rfl rfl, zwi 57 rfl rfl, zwi 897 rfl rfl, ⟨zwi 899 rfl rfl, zwi 36 rfl rfl⟩, ⟨by decide +kernel, by decide +kernel, by decide +kernel⟩⟩
set_option maxRecDepth 100000 in
theorem l_M_82 : zLV "WideWordStackModel" 82 y_M_bits c_M_bits 8 none 1 := ⟨zwi 916 rfl rfl, zwi 57 rfl rfl, zwi 913 rfl rfl, ⟨zwi 915 rfl rfl, zwi 40 rfl rfl⟩, ⟨by decide +kernel, by decide +kernel, by decide +kernel⟩⟩
set_option maxRecDepth 100000 in
theorem l_M_85 : zLV "WideWordStackModel" 85 y_M_add c_M_add 7 none 3 := ⟨zwi 840 rfl rfl, zwi 57 rfl rfl, zwi 837 rfl rfl, ⟨zwi 839 rfl rfl, zwi 21 rfl rfl⟩, ⟨by decide +kernel, by decide +kernel, by decide +kernel⟩⟩
set_option maxRecDepth 100000 in
theorem l_M_88 : zLV "WideWordStackModel" 88 y_M_multiply c_M_multiply 8 none 3 := ⟨zwi 844 rfl rfl, zwi 57 rfl rfl, zwi 841 rfl rfl, ⟨zwi 843 rfl rfl, zwi 22 rfl rfl⟩, ⟨by decide +kernel, by decide +kernel, by decide +kernel⟩⟩
set_option maxRecDepth 100000 in
theorem l_M_91 : zLV "WideWordStackModel" 91 y_M_parts c_M_parts 5 none 2 := ⟨zwi 856 rfl rfl, zwi 57 rfl rfl, zwi 853 rfl rfl, ⟨zwi 855 rfl rfl, zwi 25 rfl rfl⟩, ⟨by decide +kernel, by decide +kernel, by decide +kernel⟩⟩
set_option maxRecDepth 100000 in
theorem l_M_95 : zLV "WideWordStackModel" 95 y_M_modulo c_M_modulo 1 none 0 := ⟨zwi 888 rfl rfl, zwi 57 rfl rfl, zwi 885 rfl rfl, ⟨zwi 887 rfl rfl, zwi 33 rfl rfl⟩, ⟨by decide +kernel, by decide +kernel, by decide +kernel⟩⟩
set_option maxRecDepth 100000 in
theorem l_M_98 : zLV "WideWordStackModel" 98 y_M_exponent c_M_exponent 2 none 0 := ⟨zwi 892 rfl rfl, zwi 57 rfl rfl, zwi 889 rfl rfl, ⟨zwi 891 rfl rfl, zwi 34 rfl rfl⟩, ⟨by decide +kernel, by decide +kernel, by decide +kernel⟩⟩
set_option maxRecDepth 100000 in
theorem l_M_101 : zLV "WideWordStackModel" 101 y_M_sized c_M_sized 3 (some .boolean) 1 := ⟨zwi 860 rfl rfl, zwi 57 rfl rfl, zwi 857 rfl rfl, ⟨zwi 859 rfl rfl, zwi 26 rfl rfl⟩, ⟨by decide +kernel, by decide +kernel, by decide +kernel⟩⟩
set_option maxRecDepth 100000 in
theorem l_M_104 : zLV "WideWordStackModel" 104 y_M_zero c_M_zero 4 (some .boolean) 1 := ⟨zwi 872 rfl rfl, zwi 57 rfl rfl, zwi 869 rfl rfl, ⟨zwi 871 rfl rfl, zwi 29 rfl rfl⟩, ⟨by decide +kernel, by decide +kernel, by decide +kernel⟩⟩
set_option maxRecDepth 100000 in
theorem l_M_107 : zLV "WideWordStackModel" 107 y_M_divide c_M_divide 6 none 2 := ⟨zwi 876 rfl rfl, zwi 57 rfl rfl, zwi 873 rfl rfl, ⟨zwi 875 rfl rfl, zwi 30 rfl rfl⟩, ⟨by decide +kernel, by decide +kernel, by decide +kernel⟩⟩
set_option maxRecDepth 100000 in
theorem l_M_110 : zLV "WideWordStackModel" 110 y_M_small c_M_small 3 none 2 := ⟨zwi 896 rfl rfl, zwi 57 rfl rfl, zwi 893 rfl rfl, ⟨zwi 895 rfl rfl, zwi 35 rfl rfl⟩, ⟨by decide +kernel, by decide +kernel, by decide +kernel⟩⟩
set_option maxRecDepth 100000 in
theorem l_M_113 : zLV "WideWordStackModel" 113 y_M_extend c_M_extend 4 none 0 := ⟨zwi 904 rfl rfl, zwi 57 rfl rfl, zwi 901 rfl rfl, ⟨zwi 903 rfl rfl, zwi 37 rfl rfl⟩, ⟨by decide +kernel, by decide +kernel, by decide +kernel⟩⟩
set_option maxRecDepth 100000 in
theorem l_M_116 : zLV "WideWordStackModel" 116 y_M_compareSigned c_M_compareSigned 1 (some .int) 0 := ⟨zwi 912 rfl rfl, zwi 57 rfl rfl, zwi 909 rfl rfl, ⟨zwi 911 rfl rfl, zwi 39 rfl rfl⟩, ⟨by decide +kernel, by decide +kernel, by decide +kernel⟩⟩
set_option maxRecDepth 100000 in
theorem l_M_120 : zLV "WideWordStackModel" 120 y_M_far c_M_far 4 (some .int) 1 := ⟨zwi 908 rfl rfl, zwi 57 rfl rfl, zwi 905 rfl rfl, ⟨zwi 907 rfl rfl, zwi 38 rfl rfl⟩, ⟨by decide +kernel, by decide +kernel, by decide +kernel⟩⟩
set_option maxRecDepth 100000 in
theorem l_M_127 : zLV "WideWordStackModel" 127 y_M_together c_M_together 3 none 2 := ⟨zwi 932 rfl rfl, zwi 57 rfl rfl, zwi 929 rfl rfl, ⟨zwi 931 rfl rfl, zwi 43 rfl rfl⟩, ⟨by decide +kernel, by decide +kernel, by decide +kernel⟩⟩
set_option maxRecDepth 100000 in
theorem l_M_130 : zLV "WideWordStackModel" 130 y_M_power c_M_power 2 none 1 := ⟨zwi 940 rfl rfl, zwi 57 rfl rfl, zwi 937 rfl rfl, ⟨zwi 939 rfl rfl, zwi 45 rfl rfl⟩, ⟨by decide +kernel, by decide +kernel, by decide +kernel⟩⟩
set_option maxRecDepth 100000 in
theorem l_M_133 : zLV "WideWordStackModel" 133 y_M_exact c_M_exact 5 (some .boolean) 2 := ⟨zwi 928 rfl rfl, zwi 57 rfl rfl, zwi 925 rfl rfl, ⟨zwi 927 rfl rfl, zwi 42 rfl rfl⟩, ⟨by decide +kernel, by decide +kernel, by decide +kernel⟩⟩
set_option maxRecDepth 100000 in
theorem l_M_137 : zLV "WideWordStackModel" 137 y_M_due c_M_due 3 (some .int) 2 := ⟨zwi 924 rfl rfl, zwi 57 rfl rfl, zwi 921 rfl rfl, ⟨zwi 923 rfl rfl, zwi 41 rfl rfl⟩, ⟨by decide +kernel, by decide +kernel, by decide +kernel⟩⟩
set_option maxRecDepth 100000 in
theorem l_M_141 : zLV "WideWordStackModel" 141 y_M_ranges c_M_ranges 3 (some .boolean) 1 := ⟨zwi 936 rfl rfl, zwi 57 rfl rfl, zwi 933 rfl rfl, ⟨zwi 935 rfl rfl, zwi 44 rfl rfl⟩, ⟨by decide +kernel, by decide +kernel, by decide +kernel⟩⟩
set_option maxRecDepth 100000 in
theorem l_M_145 : zLV "WideWordStackModel" 145 y_M_settle c_M_settle 1 (some .int) 0 := ⟨zwi 944 rfl rfl, zwi 57 rfl rfl, zwi 941 rfl rfl, ⟨zwi 943 rfl rfl, zwi 46 rfl rfl⟩, ⟨by decide +kernel, by decide +kernel, by decide +kernel⟩⟩
set_option maxRecDepth 100000 in
theorem l_M_151 : zLS "WideWordStackModel" 151 y_M_digit c_M_digit 1 (some .int) 1 := ⟨zwi 979 rfl rfl, zwi 57 rfl rfl, zwi 977 rfl rfl, zwi 978 rfl rfl, ⟨by decide +kernel, by decide +kernel, by decide +kernel⟩⟩
set_option maxRecDepth 100000 in
theorem l_M_154 : zLV "WideWordStackModel" 154 y_M_numeral c_M_numeral 8 (some .boolean) 1 := ⟨zwi 976 rfl rfl, zwi 57 rfl rfl, zwi 973 rfl rfl, ⟨zwi 975 rfl rfl, zwi 47 rfl rfl⟩, ⟨by decide +kernel, by decide +kernel, by decide +kernel⟩⟩
set_option maxRecDepth 100000 in
theorem l_M_157 : zLV "WideWordStackModel" 157 y_M_take c_M_take 2 (some .int) 1 := ⟨zwi 983 rfl rfl, zwi 57 rfl rfl, zwi 980 rfl rfl, ⟨zwi 982 rfl rfl, zwi 48 rfl rfl⟩, ⟨by decide +kernel, by decide +kernel, by decide +kernel⟩⟩
set_option maxRecDepth 100000 in
theorem l_M_161 : zLV "WideWordStackModel" 161 y_M_bytes c_M_bytes 3 (some .int) 1 := ⟨zwi 991 rfl rfl, zwi 57 rfl rfl, zwi 988 rfl rfl, ⟨zwi 990 rfl rfl, zwi 49 rfl rfl⟩, ⟨by decide +kernel, by decide +kernel, by decide +kernel⟩⟩
set_option maxRecDepth 100000 in
theorem l_M_164 : zLV "WideWordStackModel" 164 y_M_coded c_M_coded 3 (some .boolean) 0 := ⟨zwi 999 rfl rfl, zwi 57 rfl rfl, zwi 996 rfl rfl, ⟨zwi 998 rfl rfl, zwi 50 rfl rfl⟩, ⟨by decide +kernel, by decide +kernel, by decide +kernel⟩⟩
set_option maxRecDepth 100000 in
theorem l_JL_308 : zLS "java/lang/Long" 308 y_JI_numberOfLeadingZeros c_JI_numberOfLeadingZeros 2 (some .int) 1 := ⟨zwi 186 rfl rfl, zwi 66 rfl rfl, zwi 184 rfl rfl, zwi 185 rfl rfl, ⟨by decide +kernel, by decide +kernel, by decide +kernel⟩⟩
