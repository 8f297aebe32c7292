/-! rows that evaluate the tables (printed by wip/whole/tl_gen.py) -/
theorem kI_m1 : dp_kI (-1) = (-1 : Int32) := by decide +kernel
theorem kI_0 : dp_kI 0 = nI 0 := by decide +kernel
theorem kI_1 : dp_kI 1 = nI 1 := by decide +kernel
theorem kI_2 : dp_kI 2 = nI 2 := by decide +kernel
theorem kI_3 : dp_kI 3 = nI 3 := by decide +kernel
theorem kI_4 : dp_kI 4 = nI 4 := by decide +kernel
theorem kI_5 : dp_kI 5 = nI 5 := by decide +kernel
theorem kB_6 : dp_kB 6 = nI 6 := by decide +kernel
theorem kB_7 : dp_kB 7 = nI 7 := by decide +kernel
theorem kB_8 : dp_kB 8 = nI 8 := by decide +kernel
theorem kB_9 : dp_kB 9 = nI 9 := by decide +kernel
theorem kB_10 : dp_kB 10 = nI 10 := by decide +kernel
theorem kB_12 : dp_kB 12 = nI 12 := by decide +kernel
theorem kB_16 : dp_kB 16 = nI 16 := by decide +kernel
theorem kB_20 : dp_kB 20 = nI 20 := by decide +kernel
theorem kB_24 : dp_kB 24 = nI 24 := by decide +kernel
theorem kB_30 : dp_kB 30 = nI 30 := by decide +kernel
theorem kB_40 : dp_kB 40 = nI 40 := by decide +kernel
theorem kB_60 : dp_kB 60 = nI 60 := by decide +kernel
theorem kB_63 : dp_kB 63 = nI 63 := by decide +kernel
theorem kB_64 : dp_kB 64 = nI 64 := by decide +kernel
theorem kS_223 : dp_kS 223 = nI 223 := by decide +kernel
theorem kS_307 : dp_kS 307 = nI 307 := by decide +kernel
theorem kS_512 : dp_kS 512 = nI 512 := by decide +kernel
theorem kS_999 : dp_kS 999 = nI 999 := by decide +kernel
theorem kS_1000 : dp_kS 1000 = nI 1000 := by decide +kernel
theorem kS_9999 : dp_kS 9999 = nI 9999 := by decide +kernel
theorem jt_1_8 : dp_jt 1 8 = 9 := rfl
theorem jt_1_9 : dp_jt 1 9 = 10 := rfl
theorem jt_1_10 : dp_jt 1 10 = 11 := rfl
theorem jt_1_14 : dp_jt 1 14 = 15 := rfl
theorem jt_1_27 : dp_jt 1 27 = 28 := rfl
theorem jt_1_35 : dp_jt 1 35 = 36 := rfl
theorem jt_1_37 : dp_jt 1 37 = 38 := rfl
theorem jt_1_39 : dp_jt 1 39 = 40 := rfl
theorem jt_1_45 : dp_jt 1 45 = 46 := rfl
theorem jt_1_46 : dp_jt 1 46 = 47 := rfl
theorem jt_1_47 : dp_jt 1 47 = 48 := rfl
theorem jt_1_55 : dp_jt 1 55 = 56 := rfl
theorem jt_1_56 : dp_jt 1 56 = 57 := rfl
theorem jt_1_63 : dp_jt 1 63 = 64 := rfl
theorem jt_1_65 : dp_jt 1 65 = 66 := rfl
theorem jt_1_71 : dp_jt 1 71 = 72 := rfl
theorem jt_1_78 : dp_jt 1 78 = 79 := rfl
theorem jt_1_79 : dp_jt 1 79 = 80 := rfl
theorem jt_1_87 : dp_jt 1 87 = 88 := rfl
theorem jt_1_88 : dp_jt 1 88 = 89 := rfl
theorem jt_2_9 : dp_jt 2 9 = 11 := rfl
theorem jt_3_9 : dp_jt 3 9 = 12 := rfl
theorem jt_4_19 : dp_jt 4 19 = 23 := rfl
theorem jt_4_57 : dp_jt 4 57 = 61 := rfl
theorem jt_6_10 : dp_jt 6 10 = 16 := rfl
theorem jt_6_13 : dp_jt 6 13 = 19 := rfl
theorem jt_6_17 : dp_jt 6 17 = 23 := rfl
theorem jt_7_7 : dp_jt 7 7 = 14 := rfl
theorem jt_7_10 : dp_jt 7 10 = 17 := rfl
theorem jt_7_13 : dp_jt 7 13 = 20 := rfl
theorem jt_7_18 : dp_jt 7 18 = 25 := rfl
theorem jt_7_21 : dp_jt 7 21 = 28 := rfl
theorem jt_7_23 : dp_jt 7 23 = 30 := rfl
theorem jt_8_13 : dp_jt 8 13 = 21 := rfl
theorem jt_8_30 : dp_jt 8 30 = 38 := rfl
theorem jt_9_5 : dp_jt 9 5 = 14 := rfl
theorem jt_9_7 : dp_jt 9 7 = 16 := rfl
theorem jt_9_9 : dp_jt 9 9 = 18 := rfl
theorem jt_9_13 : dp_jt 9 13 = 22 := rfl
theorem jt_9_18 : dp_jt 9 18 = 27 := rfl
theorem jt_9_23 : dp_jt 9 23 = 32 := rfl
theorem jt_10_39 : dp_jt 10 39 = 49 := rfl
theorem jt_10_50 : dp_jt 10 50 = 60 := rfl
theorem jt_11_7 : dp_jt 11 7 = 18 := rfl
theorem jt_11_9 : dp_jt 11 9 = 20 := rfl
theorem jt_11_11 : dp_jt 11 11 = 22 := rfl
theorem jt_11_16 : dp_jt 11 16 = 27 := rfl
theorem jt_12_5 : dp_jt 12 5 = 17 := rfl
theorem jt_12_13 : dp_jt 12 13 = 25 := rfl
theorem jt_12_15 : dp_jt 12 15 = 27 := rfl
theorem jt_12_26 : dp_jt 12 26 = 38 := rfl
theorem jt_12_39 : dp_jt 12 39 = 51 := rfl
theorem jt_12_48 : dp_jt 12 48 = 60 := rfl
theorem jt_13_4 : dp_jt 13 4 = 17 := rfl
theorem jt_13_13 : dp_jt 13 13 = 26 := rfl
theorem jt_13_50 : dp_jt 13 50 = 63 := rfl
theorem jt_13_58 : dp_jt 13 58 = 71 := rfl
theorem jt_14_7 : dp_jt 14 7 = 21 := rfl
theorem jt_14_13 : dp_jt 14 13 = 27 := rfl
theorem jt_14_18 : dp_jt 14 18 = 32 := rfl
theorem jt_15_4 : dp_jt 15 4 = 19 := rfl
theorem jt_15_5 : dp_jt 15 5 = 20 := rfl
theorem jt_15_14 : dp_jt 15 14 = 29 := rfl
theorem jt_15_71 : dp_jt 15 71 = 86 := rfl
theorem jt_16_6 : dp_jt 16 6 = 22 := rfl
theorem jt_16_31 : dp_jt 16 31 = 47 := rfl
theorem jt_16_49 : dp_jt 16 49 = 65 := rfl
theorem jt_17_m12 : dp_jt 17 (-12) = 5 := rfl
theorem jt_17_46 : dp_jt 17 46 = 63 := rfl
theorem jt_18_6 : dp_jt 18 6 = 24 := rfl
theorem jt_18_8 : dp_jt 18 8 = 26 := rfl
theorem jt_18_12 : dp_jt 18 12 = 30 := rfl
theorem jt_19_25 : dp_jt 19 25 = 44 := rfl
theorem jt_20_m18 : dp_jt 20 (-18) = 2 := rfl
theorem jt_20_7 : dp_jt 20 7 = 27 := rfl
theorem jt_20_24 : dp_jt 20 24 = 44 := rfl
theorem jt_20_59 : dp_jt 20 59 = 79 := rfl
theorem jt_21_5 : dp_jt 21 5 = 26 := rfl
theorem jt_21_13 : dp_jt 21 13 = 34 := rfl
theorem jt_21_43 : dp_jt 21 43 = 64 := rfl
theorem jt_22_m18 : dp_jt 22 (-18) = 4 := rfl
theorem jt_22_13 : dp_jt 22 13 = 35 := rfl
theorem jt_22_21 : dp_jt 22 21 = 43 := rfl
theorem jt_23_28 : dp_jt 23 28 = 51 := rfl
theorem jt_24_m20 : dp_jt 24 (-20) = 4 := rfl
theorem jt_24_m15 : dp_jt 24 (-15) = 9 := rfl
theorem jt_24_4 : dp_jt 24 4 = 28 := rfl
theorem jt_24_6 : dp_jt 24 6 = 30 := rfl
theorem jt_25_m21 : dp_jt 25 (-21) = 4 := rfl
theorem jt_25_820 : dp_jt 25 820 = 845 := rfl
theorem jt_26_m16 : dp_jt 26 (-16) = 10 := rfl
theorem jt_27_m23 : dp_jt 27 (-23) = 4 := rfl
theorem jt_27_5 : dp_jt 27 5 = 32 := rfl
theorem jt_28_26 : dp_jt 28 26 = 54 := rfl
theorem jt_29_m27 : dp_jt 29 (-27) = 2 := rfl
theorem jt_29_28 : dp_jt 29 28 = 57 := rfl
theorem jt_30_7 : dp_jt 30 7 = 37 := rfl
theorem jt_31_5 : dp_jt 31 5 = 36 := rfl
theorem jt_32_7 : dp_jt 32 7 = 39 := rfl
theorem jt_32_13 : dp_jt 32 13 = 45 := rfl
theorem jt_33_5 : dp_jt 33 5 = 38 := rfl
theorem jt_34_11 : dp_jt 34 11 = 45 := rfl
theorem jt_34_15 : dp_jt 34 15 = 49 := rfl
theorem jt_34_23 : dp_jt 34 23 = 57 := rfl
theorem jt_35_m28 : dp_jt 35 (-28) = 7 := rfl
theorem jt_35_m26 : dp_jt 35 (-26) = 9 := rfl
theorem jt_36_4 : dp_jt 36 4 = 40 := rfl
theorem jt_37_17 : dp_jt 37 17 = 54 := rfl
theorem jt_37_61 : dp_jt 37 61 = 98 := rfl
theorem jt_38_5 : dp_jt 38 5 = 43 := rfl
theorem jt_39_6 : dp_jt 39 6 = 45 := rfl
theorem jt_40_13 : dp_jt 40 13 = 53 := rfl
theorem jt_40_18 : dp_jt 40 18 = 58 := rfl
theorem jt_41_m31 : dp_jt 41 (-31) = 10 := rfl
theorem jt_41_m25 : dp_jt 41 (-25) = 16 := rfl
theorem jt_41_7 : dp_jt 41 7 = 48 := rfl
theorem jt_41_18 : dp_jt 41 18 = 59 := rfl
theorem jt_42_13 : dp_jt 42 13 = 55 := rfl
theorem jt_44_m31 : dp_jt 44 (-31) = 13 := rfl
theorem jt_44_13 : dp_jt 44 13 = 57 := rfl
theorem jt_45_4 : dp_jt 45 4 = 49 := rfl
theorem jt_46_m44 : dp_jt 46 (-44) = 2 := rfl
theorem jt_46_7 : dp_jt 46 7 = 53 := rfl
theorem jt_47_10 : dp_jt 47 10 = 57 := rfl
theorem jt_47_11 : dp_jt 47 11 = 58 := rfl
theorem jt_48_m44 : dp_jt 48 (-44) = 4 := rfl
theorem jt_48_m29 : dp_jt 48 (-29) = 19 := rfl
theorem jt_49_5 : dp_jt 49 5 = 54 := rfl
theorem jt_49_7 : dp_jt 49 7 = 56 := rfl
theorem jt_49_14 : dp_jt 49 14 = 63 := rfl
theorem jt_50_4 : dp_jt 50 4 = 54 := rfl
theorem jt_52_4 : dp_jt 52 4 = 56 := rfl
theorem jt_53_4 : dp_jt 53 4 = 57 := rfl
theorem jt_54_m29 : dp_jt 54 (-29) = 25 := rfl
theorem jt_54_12 : dp_jt 54 12 = 66 := rfl
theorem jt_54_251 : dp_jt 54 251 = 305 := rfl
theorem jt_55_8 : dp_jt 55 8 = 63 := rfl
theorem jt_56_m18 : dp_jt 56 (-18) = 38 := rfl
theorem jt_56_7 : dp_jt 56 7 = 63 := rfl
theorem jt_57_m55 : dp_jt 57 (-55) = 2 := rfl
theorem jt_57_m48 : dp_jt 57 (-48) = 9 := rfl
theorem jt_57_33 : dp_jt 57 33 = 90 := rfl
theorem jt_58_m56 : dp_jt 58 (-56) = 2 := rfl
theorem jt_58_8 : dp_jt 58 8 = 66 := rfl
theorem jt_58_22 : dp_jt 58 22 = 80 := rfl
theorem jt_60_m53 : dp_jt 60 (-53) = 7 := rfl
theorem jt_60_m52 : dp_jt 60 (-52) = 8 := rfl
theorem jt_60_4 : dp_jt 60 4 = 64 := rfl
theorem jt_60_5 : dp_jt 60 5 = 65 := rfl
theorem jt_61_m47 : dp_jt 61 (-47) = 14 := rfl
theorem jt_62_m49 : dp_jt 62 (-49) = 13 := rfl
theorem jt_62_18 : dp_jt 62 18 = 80 := rfl
theorem jt_63_5 : dp_jt 63 5 = 68 := rfl
theorem jt_63_7 : dp_jt 63 7 = 70 := rfl
theorem jt_67_5 : dp_jt 67 5 = 72 := rfl
theorem jt_68_m58 : dp_jt 68 (-58) = 10 := rfl
theorem jt_68_12 : dp_jt 68 12 = 80 := rfl
theorem jt_68_29 : dp_jt 68 29 = 97 := rfl
theorem jt_69_25 : dp_jt 69 25 = 94 := rfl
theorem jt_73_19 : dp_jt 73 19 = 92 := rfl
theorem jt_74_6 : dp_jt 74 6 = 80 := rfl
theorem jt_75_13 : dp_jt 75 13 = 88 := rfl
theorem jt_76_m60 : dp_jt 76 (-60) = 16 := rfl
theorem jt_77_7 : dp_jt 77 7 = 84 := rfl
theorem jt_78_39 : dp_jt 78 39 = 117 := rfl
theorem jt_79_5 : dp_jt 79 5 = 84 := rfl
theorem jt_81_7 : dp_jt 81 7 = 88 := rfl
theorem jt_83_m77 : dp_jt 83 (-77) = 6 := rfl
theorem jt_84_8 : dp_jt 84 8 = 92 := rfl
theorem jt_87_m33 : dp_jt 87 (-33) = 54 := rfl
theorem jt_88_7 : dp_jt 88 7 = 95 := rfl
theorem jt_89_m22 : dp_jt 89 (-22) = 67 := rfl
theorem jt_89_5 : dp_jt 89 5 = 94 := rfl
theorem jt_91_m25 : dp_jt 91 (-25) = 66 := rfl
theorem jt_92_4 : dp_jt 92 4 = 96 := rfl
theorem jt_94_m29 : dp_jt 94 (-29) = 65 := rfl
theorem jt_95_m62 : dp_jt 95 (-62) = 33 := rfl
theorem jt_100_13 : dp_jt 100 13 = 113 := rfl
theorem jt_108_76 : dp_jt 108 76 = 184 := rfl
theorem jt_108_113 : dp_jt 108 113 = 221 := rfl
theorem jt_108_183 : dp_jt 108 183 = 291 := rfl
theorem jt_108_266 : dp_jt 108 266 = 374 := rfl
theorem jt_108_386 : dp_jt 108 386 = 494 := rfl
theorem jt_108_510 : dp_jt 108 510 = 618 := rfl
theorem jt_108_609 : dp_jt 108 609 = 717 := rfl
theorem jt_108_690 : dp_jt 108 690 = 798 := rfl
theorem jt_108_782 : dp_jt 108 782 = 890 := rfl
theorem jt_108_813 : dp_jt 108 813 = 921 := rfl
theorem jt_110_5 : dp_jt 110 5 = 115 := rfl
theorem jt_114_m40 : dp_jt 114 (-40) = 74 := rfl
theorem jt_121_307 : dp_jt 121 307 = 428 := rfl
theorem jt_124_7 : dp_jt 124 7 = 131 := rfl
theorem jt_127_301 : dp_jt 127 301 = 428 := rfl
theorem jt_128_5 : dp_jt 128 5 = 133 := rfl
theorem jt_135_37 : dp_jt 135 37 = 172 := rfl
theorem jt_148_7 : dp_jt 148 7 = 155 := rfl
theorem jt_152_10 : dp_jt 152 10 = 162 := rfl
theorem jt_155_7 : dp_jt 155 7 = 162 := rfl
theorem jt_159_4 : dp_jt 159 4 = 163 := rfl
theorem jt_166_7 : dp_jt 166 7 = 173 := rfl
theorem jt_169_m38 : dp_jt 169 (-38) = 131 := rfl
theorem jt_170_16 : dp_jt 170 16 = 186 := rfl
theorem jt_212_7 : dp_jt 212 7 = 219 := rfl
theorem jt_214_27 : dp_jt 214 27 = 241 := rfl
theorem jt_216_4 : dp_jt 216 4 = 220 := rfl
theorem jt_217_14 : dp_jt 217 14 = 231 := rfl
theorem jt_224_5 : dp_jt 224 5 = 229 := rfl
theorem jt_224_7 : dp_jt 224 7 = 231 := rfl
theorem jt_228_4 : dp_jt 228 4 = 232 := rfl
theorem jt_230_5 : dp_jt 230 5 = 235 := rfl
theorem jt_238_m27 : dp_jt 238 (-27) = 211 := rfl
theorem jt_242_8 : dp_jt 242 8 = 250 := rfl
theorem jt_243_21 : dp_jt 243 21 = 264 := rfl
theorem jt_247_4 : dp_jt 247 4 = 251 := rfl
theorem jt_251_28 : dp_jt 251 28 = 279 := rfl
theorem jt_254_32 : dp_jt 254 32 = 286 := rfl
theorem jt_261_m21 : dp_jt 261 (-21) = 240 := rfl
theorem jt_267_8 : dp_jt 267 8 = 275 := rfl
theorem jt_272_4 : dp_jt 272 4 = 276 := rfl
theorem jt_275_5 : dp_jt 275 5 = 280 := rfl
theorem jt_276_5 : dp_jt 276 5 = 281 := rfl
theorem jt_282_7 : dp_jt 282 7 = 289 := rfl
theorem jt_283_m39 : dp_jt 283 (-39) = 244 := rfl
theorem jt_283_8 : dp_jt 283 8 = 291 := rfl
theorem jt_286_4 : dp_jt 286 4 = 290 := rfl
theorem jt_288_4 : dp_jt 288 4 = 292 := rfl
theorem jt_292_14 : dp_jt 292 14 = 306 := rfl
theorem jt_302_m255 : dp_jt 302 (-255) = 47 := rfl
theorem jt_303_5 : dp_jt 303 5 = 308 := rfl
theorem jt_306_76 : dp_jt 306 76 = 382 := rfl
theorem jt_321_61 : dp_jt 321 61 = 382 := rfl
theorem jt_321_308 : dp_jt 321 308 = 629 := rfl
theorem jt_335_7 : dp_jt 335 7 = 342 := rfl
theorem jt_339_4 : dp_jt 339 4 = 343 := rfl
theorem jt_344_38 : dp_jt 344 38 = 382 := rfl
theorem jt_356_7 : dp_jt 356 7 = 363 := rfl
theorem jt_357_81 : dp_jt 357 81 = 438 := rfl
theorem jt_360_4 : dp_jt 360 4 = 364 := rfl
theorem jt_365_7 : dp_jt 365 7 = 372 := rfl
theorem jt_365_17 : dp_jt 365 17 = 382 := rfl
theorem jt_369_4 : dp_jt 369 4 = 373 := rfl
theorem jt_370_7 : dp_jt 370 7 = 377 := rfl
theorem jt_374_4 : dp_jt 374 4 = 378 := rfl
theorem jt_378_5 : dp_jt 378 5 = 383 := rfl
theorem jt_379_5 : dp_jt 379 5 = 384 := rfl
theorem jt_386_39 : dp_jt 386 39 = 425 := rfl
theorem jt_388_7 : dp_jt 388 7 = 395 := rfl
theorem jt_392_4 : dp_jt 392 4 = 396 := rfl
theorem jt_399_21 : dp_jt 399 21 = 420 := rfl
theorem jt_401_24 : dp_jt 401 24 = 425 := rfl
theorem jt_414_5 : dp_jt 414 5 = 419 := rfl
theorem jt_417_m22 : dp_jt 417 (-22) = 395 := rfl
theorem jt_422_m30 : dp_jt 422 (-30) = 392 := rfl
theorem jt_425_341 : dp_jt 425 341 = 766 := rfl
theorem jt_427_5 : dp_jt 427 5 = 432 := rfl
theorem jt_435_m85 : dp_jt 435 (-85) = 350 := rfl
theorem jt_448_9 : dp_jt 448 9 = 457 := rfl
theorem jt_453_33 : dp_jt 453 33 = 486 := rfl
theorem jt_454_5 : dp_jt 454 5 = 459 := rfl
theorem jt_483_m34 : dp_jt 483 (-34) = 449 := rfl
theorem jt_485_7 : dp_jt 485 7 = 492 := rfl
theorem jt_489_4 : dp_jt 489 4 = 493 := rfl
theorem jt_493_21 : dp_jt 493 21 = 514 := rfl
theorem jt_494_27 : dp_jt 494 27 = 521 := rfl
theorem jt_496_18 : dp_jt 496 18 = 514 := rfl
theorem jt_510_5 : dp_jt 510 5 = 515 := rfl
theorem jt_511_m22 : dp_jt 511 (-22) = 489 := rfl
theorem jt_511_5 : dp_jt 511 5 = 516 := rfl
theorem jt_518_m28 : dp_jt 518 (-28) = 490 := rfl
theorem jt_532_30 : dp_jt 532 30 = 562 := rfl
theorem jt_540_25 : dp_jt 540 25 = 565 := rfl
theorem jt_551_5 : dp_jt 551 5 = 556 := rfl
theorem jt_552_113 : dp_jt 552 113 = 665 := rfl
theorem jt_554_5 : dp_jt 554 5 = 559 := rfl
theorem jt_559_m35 : dp_jt 559 (-35) = 524 := rfl
theorem jt_562_m26 : dp_jt 562 (-26) = 536 := rfl
theorem jt_569_37 : dp_jt 569 37 = 606 := rfl
theorem jt_589_5 : dp_jt 589 5 = 594 := rfl
theorem jt_603_m38 : dp_jt 603 (-38) = 565 := rfl
theorem jt_608_49 : dp_jt 608 49 = 657 := rfl
theorem jt_609_7 : dp_jt 609 7 = 616 := rfl
theorem jt_613_4 : dp_jt 613 4 = 617 := rfl
theorem jt_614_43 : dp_jt 614 43 = 657 := rfl
theorem jt_620_5 : dp_jt 620 5 = 625 := rfl
theorem jt_626_m312 : dp_jt 626 (-312) = 314 := rfl
theorem jt_634_23 : dp_jt 634 23 = 657 := rfl
theorem jt_639_20 : dp_jt 639 20 = 659 := rfl
theorem jt_641_74 : dp_jt 641 74 = 715 := rfl
theorem jt_647_31 : dp_jt 647 31 = 678 := rfl
theorem jt_654_5 : dp_jt 654 5 = 659 := rfl
theorem jt_659_6 : dp_jt 659 6 = 665 := rfl
theorem jt_661_7 : dp_jt 661 7 = 668 := rfl
theorem jt_662_m114 : dp_jt 662 (-114) = 548 := rfl
theorem jt_662_47 : dp_jt 662 47 = 709 := rfl
theorem jt_665_4 : dp_jt 665 4 = 669 := rfl
theorem jt_669_42 : dp_jt 669 42 = 711 := rfl
theorem jt_675_m32 : dp_jt 675 (-32) = 643 := rfl
theorem jt_682_29 : dp_jt 682 29 = 711 := rfl
theorem jt_696_15 : dp_jt 696 15 = 711 := rfl
theorem jt_700_7 : dp_jt 700 7 = 707 := rfl
theorem jt_704_4 : dp_jt 704 4 = 708 := rfl
theorem jt_708_5 : dp_jt 708 5 = 713 := rfl
theorem jt_712_m84 : dp_jt 712 (-84) = 628 := rfl
theorem jt_719_5 : dp_jt 719 5 = 724 := rfl
theorem jt_720_28 : dp_jt 720 28 = 748 := rfl
theorem jt_735_25 : dp_jt 735 25 = 760 := rfl
theorem jt_737_5 : dp_jt 737 5 = 742 := rfl
theorem jt_745_m29 : dp_jt 745 (-29) = 716 := rfl
theorem jt_749_5 : dp_jt 749 5 = 754 := rfl
theorem jt_750_16 : dp_jt 750 16 = 766 := rfl
theorem jt_754_9 : dp_jt 754 9 = 763 := rfl
theorem jt_757_m26 : dp_jt 757 (-26) = 731 := rfl
theorem jt_760_5 : dp_jt 760 5 = 765 := rfl
theorem jt_761_5 : dp_jt 761 5 = 766 := rfl
theorem jt_766_7 : dp_jt 766 7 = 773 := rfl
theorem jt_770_10 : dp_jt 770 10 = 780 := rfl
theorem jt_776_50 : dp_jt 776 50 = 826 := rfl
theorem jt_781_7 : dp_jt 781 7 = 788 := rfl
theorem jt_785_4 : dp_jt 785 4 = 789 := rfl
theorem jt_789_7 : dp_jt 789 7 = 796 := rfl
theorem jt_793_4 : dp_jt 793 4 = 797 := rfl
theorem jt_798_22 : dp_jt 798 22 = 820 := rfl
theorem jt_800_5 : dp_jt 800 5 = 805 := rfl
theorem jt_809_5 : dp_jt 809 5 = 814 := rfl
theorem jt_817_m23 : dp_jt 817 (-23) = 794 := rfl
theorem jt_817_9 : dp_jt 817 9 = 826 := rfl
theorem jt_823_m51 : dp_jt 823 (-51) = 772 := rfl
theorem jt_823_5 : dp_jt 823 5 = 828 := rfl
theorem jt_834_5 : dp_jt 834 5 = 839 := rfl
theorem jt_842_m820 : dp_jt 842 (-820) = 22 := rfl
theorem jt_881_7 : dp_jt 881 7 = 888 := rfl
theorem jt_885_4 : dp_jt 885 4 = 889 := rfl
theorem jt_892_23 : dp_jt 892 23 = 915 := rfl
theorem jt_912_7 : dp_jt 912 7 = 919 := rfl
theorem jt_916_4 : dp_jt 916 4 = 920 := rfl
theorem jt_922_16 : dp_jt 922 16 = 938 := rfl
theorem jt_935_5 : dp_jt 935 5 = 940 := rfl
theorem jt_975_7 : dp_jt 975 7 = 982 := rfl
theorem jt_979_4 : dp_jt 979 4 = 983 := rfl
theorem f4_0 : dp_f4 0 = 0 := rfl
theorem f4_1 : dp_f4 1 = 1 := rfl
theorem f4_2 : dp_f4 2 = 2 := rfl
theorem f4_3 : dp_f4 3 = 3 := rfl
theorem fd_2_9 : dp_fld 2 9 = some (2, 0) := by decide +kernel
theorem fd_3_44 : dp_fld 3 44 = some (2, 0) := by decide +kernel
theorem fd_2_17 : dp_fld 2 17 = some (2, 1) := by decide +kernel
theorem fd_3_69 : dp_fld 3 69 = some (2, 1) := by decide +kernel
theorem fd_2_20 : dp_fld 2 20 = some (2, 2) := by decide +kernel
theorem fd_3_64 : dp_fld 3 64 = some (2, 2) := by decide +kernel
theorem fd_2_23 : dp_fld 2 23 = some (2, 3) := by decide +kernel
theorem fd_2_26 : dp_fld 2 26 = some (2, 4) := by decide +kernel
theorem fd_2_35 : dp_fld 2 35 = some (2, 5) := by decide +kernel
theorem fd_3_50 : dp_fld 3 50 = some (2, 5) := by decide +kernel
theorem fd_1_11 : dp_fld 1 11 = some (1, 0) := by decide +kernel
theorem fd_3_108 : dp_fld 3 108 = some (1, 0) := by decide +kernel
theorem fd_1_16 : dp_fld 1 16 = some (1, 1) := by decide +kernel
theorem fd_3_97 : dp_fld 3 97 = some (1, 1) := by decide +kernel
theorem fd_1_20 : dp_fld 1 20 = some (1, 2) := by decide +kernel
theorem fd_3_115 : dp_fld 3 115 = some (1, 2) := by decide +kernel
theorem fd_3_86 : dp_fld 3 86 = some (1, 3) := by decide +kernel
theorem fd_0_9 : dp_fld 0 9 = some (0, 0) := by decide +kernel
theorem fd_3_217 : dp_fld 3 217 = some (0, 0) := by decide +kernel
theorem fd_0_15 : dp_fld 0 15 = some (0, 1) := by decide +kernel
theorem fd_3_91 : dp_fld 3 91 = some (0, 1) := by decide +kernel
theorem fd_0_18 : dp_fld 0 18 = some (0, 2) := by decide +kernel
theorem fd_3_231 : dp_fld 3 231 = some (0, 2) := by decide +kernel
theorem fd_0_21 : dp_fld 0 21 = some (0, 3) := by decide +kernel
theorem fd_3_223 : dp_fld 3 223 = some (0, 3) := by decide +kernel
theorem fd_0_30 : dp_fld 0 30 = some (0, 4) := by decide +kernel
theorem fd_3_240 : dp_fld 3 240 = some (0, 4) := by decide +kernel
theorem fd_3_10 : dp_fld 3 10 = some (3, 0) := by decide +kernel
theorem fd_3_19 : dp_fld 3 19 = some (3, 1) := by decide +kernel
theorem fd_3_26 : dp_fld 3 26 = some (3, 2) := by decide +kernel
theorem fd_3_30 : dp_fld 3 30 = some (3, 3) := by decide +kernel
theorem fd_3_33 : dp_fld 3 33 = some (3, 4) := by decide +kernel
theorem fd_6_49 : dp_fld 6 49 = some (4, 0) := by decide +kernel
theorem fd_5_70 : dp_fld 5 70 = some (4, 0) := by decide +kernel
theorem fd_4_7 : dp_fld 4 7 = some (4, 1) := by decide +kernel
theorem fd_5_59 : dp_fld 5 59 = some (4, 1) := by decide +kernel
theorem fd_6_69 : dp_fld 6 69 = some (4, 1) := by decide +kernel
theorem fd_5_73 : dp_fld 5 73 = some (4, 2) := by decide +kernel
theorem fd_4_13 : dp_fld 4 13 = some (4, 3) := by decide +kernel
theorem fd_5_44 : dp_fld 5 44 = some (4, 3) := by decide +kernel
theorem fd_6_57 : dp_fld 6 57 = some (4, 3) := by decide +kernel
theorem fd_4_17 : dp_fld 4 17 = some (4, 4) := by decide +kernel
theorem fd_5_55 : dp_fld 5 55 = some (4, 4) := by decide +kernel
theorem fd_5_7 : dp_fld 5 7 = some (5, 0) := by decide +kernel
theorem fd_6_25 : dp_fld 6 25 = some (5, 0) := by decide +kernel
theorem fd_5_14 : dp_fld 5 14 = some (5, 1) := by decide +kernel
theorem fd_6_9 : dp_fld 6 9 = some (5, 1) := by decide +kernel
theorem fd_5_18 : dp_fld 5 18 = some (5, 2) := by decide +kernel
theorem fd_5_23 : dp_fld 5 23 = some (5, 3) := by decide +kernel
theorem fd_6_15 : dp_fld 6 15 = some (5, 3) := by decide +kernel
theorem fd_5_36 : dp_fld 5 36 = some (5, 4) := by decide +kernel
theorem iv_3_1 : dp_iv 3 1 = none := by decide +kernel
theorem nt_3_1 : dp_nat 3 1 = some 210 := by decide +kernel
theorem iv_2_3 : dp_iv 2 3 = none := by decide +kernel
theorem nt_2_3 : dp_nat 2 3 = some 210 := by decide +kernel
theorem iv_1_3 : dp_iv 1 3 = none := by decide +kernel
theorem nt_1_3 : dp_nat 1 3 = some 210 := by decide +kernel
set_option maxRecDepth 100000 in
theorem iv_1_23 : dp_iv 1 23 = some (70, 2, 0, 0, true, 8, 4) := rfl
theorem nt_1_23 : dp_nat 1 23 = none := by decide +kernel
theorem iv_0_3 : dp_iv 0 3 = none := by decide +kernel
theorem nt_0_3 : dp_nat 0 3 = some 210 := by decide +kernel
set_option maxRecDepth 100000 in
theorem iv_6_83 : dp_iv 6 83 = some (26, 2, 1, 6, false, 3, 2) := rfl
theorem nt_6_83 : dp_nat 6 83 = none := by decide +kernel
set_option maxRecDepth 100000 in
theorem iv_3_94 : dp_iv 3 94 = some (41, 2, 1, 6, false, 3, 2) := rfl
theorem nt_3_94 : dp_nat 3 94 = none := by decide +kernel
set_option maxRecDepth 100000 in
theorem iv_3_125 : dp_iv 3 125 = some (55, 3, 0, 0, false, 3, 5) := rfl
theorem nt_3_125 : dp_nat 3 125 = none := by decide +kernel
set_option maxRecDepth 100000 in
theorem iv_3_268 : dp_iv 3 268 = some (51, 3, 0, 0, false, 3, 7) := rfl
theorem nt_3_268 : dp_nat 3 268 = none := by decide +kernel
set_option maxRecDepth 100000 in
theorem iv_3_156 : dp_iv 3 156 = some (48, 4, 0, 0, false, 3, 4) := rfl
theorem nt_3_156 : dp_nat 3 156 = none := by decide +kernel
set_option maxRecDepth 100000 in
theorem iv_3_243 : dp_iv 3 243 = some (13, 5, 0, 0, false, 2, 9) := rfl
theorem nt_3_243 : dp_nat 3 243 = none := by decide +kernel
set_option maxRecDepth 100000 in
theorem iv_2_47 : dp_iv 2 47 = some (12, 3, 0, 0, false, 2, 3) := rfl
theorem nt_2_47 : dp_nat 2 47 = none := by decide +kernel
theorem iv_2_51 : dp_iv 2 51 = none := by decide +kernel
theorem nt_2_51 : dp_nat 2 51 = some 200 := by decide +kernel
set_option maxRecDepth 100000 in
theorem iv_2_56 : dp_iv 2 56 = some (11, 2, 0, 0, false, 2, 3) := rfl
theorem nt_2_56 : dp_nat 2 56 = none := by decide +kernel
theorem iv_2_59 : dp_iv 2 59 = none := by decide +kernel
theorem nt_2_59 : dp_nat 2 59 = some 201 := by decide +kernel
set_option maxRecDepth 100000 in
theorem iv_3_251 : dp_iv 3 251 = some (49, 5, 0, 0, false, 3, 5) := rfl
theorem nt_3_251 : dp_nat 3 251 = none := by decide +kernel
set_option maxRecDepth 100000 in
theorem iv_3_247 : dp_iv 3 247 = some (1, 3, 0, 0, false, 0, 3) := rfl
theorem nt_3_247 : dp_nat 3 247 = none := by decide +kernel
set_option maxRecDepth 100000 in
theorem iv_3_271 : dp_iv 3 271 = some (54, 4, 0, 0, false, 3, 4) := rfl
theorem nt_3_271 : dp_nat 3 271 = none := by decide +kernel
set_option maxRecDepth 100000 in
theorem iv_3_274 : dp_iv 3 274 = some (2, 4, 0, 0, false, 0, 4) := rfl
theorem nt_3_274 : dp_nat 3 274 = none := by decide +kernel
set_option maxRecDepth 100000 in
theorem iv_6_124 : dp_iv 6 124 = some (27, 2, 1, 6, false, 3, 3) := rfl
theorem nt_6_124 : dp_nat 6 124 = none := by decide +kernel
set_option maxRecDepth 100000 in
theorem iv_3_129 : dp_iv 3 129 = some (44, 1, 1, 6, true, 3, 1) := rfl
theorem nt_3_129 : dp_nat 3 129 = none := by decide +kernel
set_option maxRecDepth 100000 in
theorem iv_3_132 : dp_iv 3 132 = some (5, 1, 0, 0, false, 0, 3) := rfl
theorem nt_3_132 : dp_nat 3 132 = none := by decide +kernel
set_option maxRecDepth 100000 in
theorem iv_0_38 : dp_iv 0 38 = some (69, 1, 0, 0, true, 7, 1) := rfl
theorem nt_0_38 : dp_nat 0 38 = none := by decide +kernel
set_option maxRecDepth 100000 in
theorem iv_3_136 : dp_iv 3 136 = some (56, 3, 0, 0, false, 3, 5) := rfl
theorem nt_3_136 : dp_nat 3 136 = none := by decide +kernel
set_option maxRecDepth 100000 in
theorem iv_3_278 : dp_iv 3 278 = some (3, 2, 0, 0, false, 0, 3) := rfl
theorem nt_3_278 : dp_nat 3 278 = none := by decide +kernel
set_option maxRecDepth 100000 in
theorem iv_6_118 : dp_iv 6 118 = some (28, 3, 2, 12, false, 3, 3) := rfl
theorem nt_6_118 : dp_nat 6 118 = none := by decide +kernel
set_option maxRecDepth 100000 in
theorem iv_3_61 : dp_iv 3 61 = some (40, 2, 1, 6, false, 3, 2) := rfl
theorem nt_3_61 : dp_nat 3 61 = none := by decide +kernel
set_option maxRecDepth 100000 in
theorem iv_3_140 : dp_iv 3 140 = some (43, 2, 1, 6, true, 3, 2) := rfl
theorem nt_3_140 : dp_nat 3 140 = none := by decide +kernel
set_option maxRecDepth 100000 in
theorem iv_3_143 : dp_iv 3 143 = some (45, 3, 0, 0, false, 3, 3) := rfl
theorem nt_3_143 : dp_nat 3 143 = none := by decide +kernel
set_option maxRecDepth 100000 in
theorem iv_3_214 : dp_iv 3 214 = some (14, 2, 0, 0, false, 2, 4) := rfl
theorem nt_3_214 : dp_nat 3 214 = none := by decide +kernel
set_option maxRecDepth 100000 in
theorem iv_3_220 : dp_iv 3 220 = some (4, 2, 0, 0, false, 0, 4) := rfl
theorem nt_3_220 : dp_nat 3 220 = none := by decide +kernel
set_option maxRecDepth 100000 in
theorem iv_0_34 : dp_iv 0 34 = some (1, 3, 0, 0, false, 0, 3) := rfl
theorem nt_0_34 : dp_nat 0 34 = none := by decide +kernel
set_option maxRecDepth 100000 in
theorem iv_6_109 : dp_iv 6 109 = some (30, 3, 2, 12, false, 3, 3) := rfl
theorem nt_6_109 : dp_nat 6 109 = none := by decide +kernel
set_option maxRecDepth 100000 in
theorem iv_3_146 : dp_iv 3 146 = some (46, 3, 0, 0, false, 3, 3) := rfl
theorem nt_3_146 : dp_nat 3 146 = none := by decide +kernel
set_option maxRecDepth 100000 in
theorem iv_3_226 : dp_iv 3 226 = some (69, 1, 0, 0, true, 7, 1) := rfl
theorem nt_3_226 : dp_nat 3 226 = none := by decide +kernel
set_option maxRecDepth 100000 in
theorem iv_3_160 : dp_iv 3 160 = some (50, 2, 0, 0, false, 3, 5) := rfl
theorem nt_3_160 : dp_nat 3 160 = none := by decide +kernel
set_option maxRecDepth 100000 in
theorem iv_6_106 : dp_iv 6 106 = some (32, 2, 1, 6, false, 3, 2) := rfl
theorem nt_6_106 : dp_nat 6 106 = none := by decide +kernel
set_option maxRecDepth 100000 in
theorem iv_3_149 : dp_iv 3 149 = some (47, 2, 0, 0, false, 3, 2) := rfl
theorem nt_3_149 : dp_nat 3 149 = none := by decide +kernel
set_option maxRecDepth 100000 in
theorem iv_3_234 : dp_iv 3 234 = some (16, 1, 0, 0, false, 2, 3) := rfl
theorem nt_3_234 : dp_nat 3 234 = none := by decide +kernel
set_option maxRecDepth 100000 in
theorem iv_3_237 : dp_iv 3 237 = some (15, 1, 0, 0, false, 2, 3) := rfl
theorem nt_3_237 : dp_nat 3 237 = none := by decide +kernel
set_option maxRecDepth 100000 in
theorem iv_3_180 : dp_iv 3 180 = some (6, 1, 0, 0, false, 0, 3) := rfl
theorem nt_3_180 : dp_nat 3 180 = none := by decide +kernel
set_option maxRecDepth 100000 in
theorem iv_6_115 : dp_iv 6 115 = some (34, 3, 2, 12, false, 3, 3) := rfl
theorem nt_6_115 : dp_nat 6 115 = none := by decide +kernel
set_option maxRecDepth 100000 in
theorem iv_6_112 : dp_iv 6 112 = some (35, 3, 2, 12, false, 3, 3) := rfl
theorem nt_6_112 : dp_nat 6 112 = none := by decide +kernel
set_option maxRecDepth 100000 in
theorem iv_3_73 : dp_iv 3 73 = some (42, 2, 1, 6, true, 3, 2) := rfl
theorem nt_3_73 : dp_nat 3 73 = none := by decide +kernel
set_option maxRecDepth 100000 in
theorem iv_3_163 : dp_iv 3 163 = some (52, 3, 0, 0, false, 3, 5) := rfl
theorem nt_3_163 : dp_nat 3 163 = none := by decide +kernel
set_option maxRecDepth 100000 in
theorem iv_3_255 : dp_iv 3 255 = some (53, 4, 0, 0, false, 3, 8) := rfl
theorem nt_3_255 : dp_nat 3 255 = none := by decide +kernel
set_option maxRecDepth 100000 in
theorem iv_6_121 : dp_iv 6 121 = some (36, 1, 0, 0, false, 3, 2) := rfl
theorem nt_6_121 : dp_nat 6 121 = none := by decide +kernel
set_option maxRecDepth 100000 in
theorem iv_3_172 : dp_iv 3 172 = some (0, 2, 0, 0, false, 0, 2) := rfl
theorem nt_3_172 : dp_nat 3 172 = none := by decide +kernel
theorem iv_0_24 : dp_iv 0 24 = none := by decide +kernel
theorem nt_0_24 : dp_nat 0 24 = some 202 := by decide +kernel
set_option maxRecDepth 100000 in
theorem iv_3_176 : dp_iv 3 176 = some (57, 2, 0, 0, false, 3, 4) := rfl
theorem nt_3_176 : dp_nat 3 176 = none := by decide +kernel
set_option maxRecDepth 100000 in
theorem iv_6_86 : dp_iv 6 86 = some (66, 2, 34, 676, false, 5, 5) := rfl
theorem nt_6_86 : dp_nat 6 86 = none := by decide +kernel
set_option maxRecDepth 100000 in
theorem iv_5_62 : dp_iv 5 62 = some (64, 2, 34, 676, false, 5, 6) := rfl
theorem nt_5_62 : dp_nat 5 62 = none := by decide +kernel
set_option maxRecDepth 100000 in
theorem iv_5_47 : dp_iv 5 47 = some (62, 1, 17, 340, false, 5, 5) := rfl
theorem nt_5_47 : dp_nat 5 47 = none := by decide +kernel
set_option maxRecDepth 100000 in
theorem iv_5_40 : dp_iv 5 40 = some (61, 2, 1, 20, false, 5, 7) := rfl
theorem nt_5_40 : dp_nat 5 40 = none := by decide +kernel
set_option maxRecDepth 100000 in
theorem iv_5_51 : dp_iv 5 51 = some (63, 5, 0, 0, false, 5, 11) := rfl
theorem nt_5_51 : dp_nat 5 51 = none := by decide +kernel
set_option maxRecDepth 100000 in
theorem iv_5_66 : dp_iv 5 66 = some (65, 1, 0, 0, true, 5, 3) := rfl
theorem nt_5_66 : dp_nat 5 66 = none := by decide +kernel
set_option maxRecDepth 100000 in
theorem iv_6_127 : dp_iv 6 127 = some (67, 1, 408, 8112, false, 5, 6) := rfl
theorem nt_6_127 : dp_nat 6 127 = none := by decide +kernel
set_option maxRecDepth 100000 in
theorem iv_5_76 : dp_iv 5 76 = some (66, 2, 34, 676, false, 5, 5) := rfl
theorem nt_5_76 : dp_nat 5 76 = none := by decide +kernel
set_option maxRecDepth 100000 in
theorem iv_6_129 : dp_iv 6 129 = some (68, 2, 4000, 40000, false, 5, 15) := rfl
theorem nt_6_129 : dp_nat 6 129 = none := by decide +kernel
set_option maxRecDepth 100000 in
theorem iv_5_80 : dp_iv 5 80 = some (33, 2, 1, 6, false, 3, 2) := rfl
theorem nt_5_80 : dp_nat 5 80 = none := by decide +kernel
set_option maxRecDepth 100000 in
theorem iv_3_41 : dp_iv 3 41 = some (39, 1, 1, 6, true, 3, 1) := rfl
theorem nt_3_41 : dp_nat 3 41 = none := by decide +kernel
set_option maxRecDepth 100000 in
theorem iv_3_153 : dp_iv 3 153 = some (11, 2, 0, 0, false, 2, 3) := rfl
theorem nt_3_153 : dp_nat 3 153 = none := by decide +kernel
set_option maxRecDepth 100000 in
theorem iv_5_86 : dp_iv 5 86 = some (28, 3, 2, 12, false, 3, 3) := rfl
theorem nt_5_86 : dp_nat 5 86 = none := by decide +kernel
set_option maxRecDepth 100000 in
theorem iv_5_90 : dp_iv 5 90 = some (29, 3, 2, 12, false, 3, 3) := rfl
theorem nt_5_90 : dp_nat 5 90 = none := by decide +kernel
set_option maxRecDepth 100000 in
theorem iv_5_93 : dp_iv 5 93 = some (34, 3, 2, 12, false, 3, 3) := rfl
theorem nt_5_93 : dp_nat 5 93 = none := by decide +kernel
set_option maxRecDepth 100000 in
theorem iv_5_95 : dp_iv 5 95 = some (30, 3, 2, 12, false, 3, 3) := rfl
theorem nt_5_95 : dp_nat 5 95 = none := by decide +kernel
set_option maxRecDepth 100000 in
theorem iv_5_98 : dp_iv 5 98 = some (31, 3, 2, 12, false, 3, 3) := rfl
theorem nt_5_98 : dp_nat 5 98 = none := by decide +kernel
set_option maxRecDepth 100000 in
theorem iv_5_101 : dp_iv 5 101 = some (35, 3, 2, 12, false, 3, 3) := rfl
theorem nt_5_101 : dp_nat 5 101 = none := by decide +kernel
set_option maxRecDepth 100000 in
theorem iv_5_104 : dp_iv 5 104 = some (32, 2, 1, 6, false, 3, 2) := rfl
theorem nt_5_104 : dp_nat 5 104 = none := by decide +kernel
set_option maxRecDepth 100000 in
theorem iv_5_107 : dp_iv 5 107 = some (37, 1, 0, 0, false, 3, 2) := rfl
theorem nt_5_107 : dp_nat 5 107 = none := by decide +kernel
set_option maxRecDepth 100000 in
theorem iv_6_19 : dp_iv 6 19 = some (71, 2, 0, 0, true, 6, 2) := rfl
theorem nt_6_19 : dp_nat 6 19 = none := by decide +kernel
set_option maxRecDepth 100000 in
theorem iv_6_93 : dp_iv 6 93 = some (72, 2, 0, 0, true, 6, 2) := rfl
theorem nt_6_93 : dp_nat 6 93 = none := by decide +kernel
set_option maxRecDepth 100000 in
theorem iv_6_97 : dp_iv 6 97 = some (75, 3, 200, 3000, true, 6, 18) := rfl
theorem nt_6_97 : dp_nat 6 97 = none := by decide +kernel
set_option maxRecDepth 100000 in
theorem iv_6_29 : dp_iv 6 29 = some (17, 3, 2, 12, false, 3, 4) := rfl
theorem nt_6_29 : dp_nat 6 29 = none := by decide +kernel
set_option maxRecDepth 100000 in
theorem iv_3_37 : dp_iv 3 37 = some (38, 1, 1, 6, true, 3, 1) := rfl
theorem nt_3_37 : dp_nat 3 37 = none := by decide +kernel
set_option maxRecDepth 100000 in
theorem iv_3_47 : dp_iv 3 47 = some (8, 1, 0, 0, false, 2, 2) := rfl
theorem nt_3_47 : dp_nat 3 47 = none := by decide +kernel
set_option maxRecDepth 100000 in
theorem iv_2_29 : dp_iv 2 29 = some (70, 2, 0, 0, true, 8, 4) := rfl
theorem nt_2_29 : dp_nat 2 29 = none := by decide +kernel
set_option maxRecDepth 100000 in
theorem iv_2_39 : dp_iv 2 39 = some (9, 2, 0, 0, false, 2, 5) := rfl
theorem nt_2_39 : dp_nat 2 39 = none := by decide +kernel
set_option maxRecDepth 100000 in
theorem iv_2_43 : dp_iv 2 43 = some (10, 2, 0, 0, false, 2, 2) := rfl
theorem nt_2_43 : dp_nat 2 43 = none := by decide +kernel
set_option maxRecDepth 100000 in
theorem iv_6_35 : dp_iv 6 35 = some (18, 1, 1, 6, false, 3, 1) := rfl
theorem nt_6_35 : dp_nat 6 35 = none := by decide +kernel
set_option maxRecDepth 100000 in
theorem iv_6_39 : dp_iv 6 39 = some (74, 2, 1, 16, true, 6, 4) := rfl
theorem nt_6_39 : dp_nat 6 39 = none := by decide +kernel
set_option maxRecDepth 100000 in
theorem iv_6_43 : dp_iv 6 43 = some (20, 3, 2, 12, false, 3, 4) := rfl
theorem nt_6_43 : dp_nat 6 43 = none := by decide +kernel
set_option maxRecDepth 100000 in
theorem iv_3_77 : dp_iv 3 77 = some (58, 3, 0, 0, true, 3, 4) := rfl
theorem nt_3_77 : dp_nat 3 77 = none := by decide +kernel
theorem iv_4_1 : dp_iv 4 1 = none := by decide +kernel
theorem nt_4_1 : dp_nat 4 1 = some 210 := by decide +kernel
set_option maxRecDepth 100000 in
theorem iv_6_53 : dp_iv 6 53 = some (21, 2, 2, 12, false, 3, 3) := rfl
theorem nt_6_53 : dp_nat 6 53 = none := by decide +kernel
set_option maxRecDepth 100000 in
theorem iv_6_60 : dp_iv 6 60 = some (73, 2, 1, 16, true, 6, 4) := rfl
theorem nt_6_60 : dp_nat 6 60 = none := by decide +kernel
set_option maxRecDepth 100000 in
theorem iv_6_63 : dp_iv 6 63 = some (22, 3, 4, 24, false, 3, 4) := rfl
theorem nt_6_63 : dp_nat 6 63 = none := by decide +kernel
set_option maxRecDepth 100000 in
theorem iv_3_102 : dp_iv 3 102 = some (7, 3, 0, 0, false, 1, 4) := rfl
theorem nt_3_102 : dp_nat 3 102 = none := by decide +kernel
set_option maxRecDepth 100000 in
theorem iv_6_66 : dp_iv 6 66 = some (23, 3, 3, 18, false, 3, 4) := rfl
theorem nt_6_66 : dp_nat 6 66 = none := by decide +kernel
set_option maxRecDepth 100000 in
theorem iv_6_72 : dp_iv 6 72 = some (24, 3, 2, 12, false, 3, 4) := rfl
theorem nt_6_72 : dp_nat 6 72 = none := by decide +kernel
theorem iv_6_75 : dp_iv 6 75 = none := by decide +kernel
theorem nt_6_75 : dp_nat 6 75 = some 200 := by decide +kernel
set_option maxRecDepth 100000 in
theorem iv_6_80 : dp_iv 6 80 = some (25, 3, 2, 12, false, 3, 3) := rfl
theorem nt_6_80 : dp_nat 6 80 = none := by decide +kernel
theorem iv_3_120 : dp_iv 3 120 = none := by decide +kernel
theorem nt_3_120 : dp_nat 3 120 = some 200 := by decide +kernel
set_option maxRecDepth 100000 in
theorem iv_6_89 : dp_iv 6 89 = some (19, 3, 3, 18, false, 3, 4) := rfl
theorem nt_6_89 : dp_nat 6 89 = none := by decide +kernel
set_option maxRecDepth 100000 in
theorem iv_6_102 : dp_iv 6 102 = some (76, 2, 13000, 200000, true, 6, 4) := rfl
theorem nt_6_102 : dp_nat 6 102 = none := by decide +kernel
set_option maxRecDepth 100000 in
theorem iv_6_92 : dp_iv 6 92 = some (60, 1, 4, 56, false, 5, 2) := rfl
theorem nt_6_92 : dp_nat 6 92 = none := by decide +kernel
theorem iv_5_1 : dp_iv 5 1 = none := by decide +kernel
theorem nt_5_1 : dp_nat 5 1 = some 210 := by decide +kernel
set_option maxRecDepth 100000 in
theorem ow_0 : dp_ow 0 = 0 := by decide +kernel
set_option maxRecDepth 100000 in
theorem mc_0 : dp_mc 0 = 0 := by decide +kernel
set_option maxRecDepth 100000 in
theorem ms_0 : dp_ms 0 = 0 := by decide +kernel
set_option maxRecDepth 100000 in
theorem rk_0 : dp_rk 0 = 0 := by decide +kernel
set_option maxRecDepth 100000 in
theorem mL_0 : dp_mL 0 = 2 := by decide +kernel
set_option maxRecDepth 100000 in
theorem hh_0 : dp_hh 0 = [] := by decide +kernel
set_option maxRecDepth 100000 in
theorem ow_1 : dp_ow 1 = 0 := by decide +kernel
set_option maxRecDepth 100000 in
theorem mc_1 : dp_mc 1 = 0 := by decide +kernel
set_option maxRecDepth 100000 in
theorem ms_1 : dp_ms 1 = 0 := by decide +kernel
set_option maxRecDepth 100000 in
theorem rk_1 : dp_rk 1 = 4 := by decide +kernel
set_option maxRecDepth 100000 in
theorem mL_1 : dp_mL 1 = 3 := by decide +kernel
set_option maxRecDepth 100000 in
theorem hh_1 : dp_hh 1 = [] := by decide +kernel
set_option maxRecDepth 100000 in
theorem ow_2 : dp_ow 2 = 0 := by decide +kernel
set_option maxRecDepth 100000 in
theorem mc_2 : dp_mc 2 = 0 := by decide +kernel
set_option maxRecDepth 100000 in
theorem ms_2 : dp_ms 2 = 0 := by decide +kernel
set_option maxRecDepth 100000 in
theorem rk_2 : dp_rk 2 = 0 := by decide +kernel
set_option maxRecDepth 100000 in
theorem mL_2 : dp_mL 2 = 4 := by decide +kernel
set_option maxRecDepth 100000 in
theorem hh_2 : dp_hh 2 = [] := by decide +kernel
set_option maxRecDepth 100000 in
theorem ow_3 : dp_ow 3 = 0 := by decide +kernel
set_option maxRecDepth 100000 in
theorem mc_3 : dp_mc 3 = 0 := by decide +kernel
set_option maxRecDepth 100000 in
theorem ms_3 : dp_ms 3 = 0 := by decide +kernel
set_option maxRecDepth 100000 in
theorem rk_3 : dp_rk 3 = 0 := by decide +kernel
set_option maxRecDepth 100000 in
theorem mL_3 : dp_mL 3 = 3 := by decide +kernel
set_option maxRecDepth 100000 in
theorem hh_3 : dp_hh 3 = [] := by decide +kernel
set_option maxRecDepth 100000 in
theorem ow_4 : dp_ow 4 = 0 := by decide +kernel
set_option maxRecDepth 100000 in
theorem mc_4 : dp_mc 4 = 0 := by decide +kernel
set_option maxRecDepth 100000 in
theorem ms_4 : dp_ms 4 = 0 := by decide +kernel
set_option maxRecDepth 100000 in
theorem rk_4 : dp_rk 4 = 1 := by decide +kernel
set_option maxRecDepth 100000 in
theorem mL_4 : dp_mL 4 = 4 := by decide +kernel
set_option maxRecDepth 100000 in
theorem hh_4 : dp_hh 4 = [] := by decide +kernel
set_option maxRecDepth 100000 in
theorem ow_5 : dp_ow 5 = 0 := by decide +kernel
set_option maxRecDepth 100000 in
theorem mc_5 : dp_mc 5 = 0 := by decide +kernel
set_option maxRecDepth 100000 in
theorem ms_5 : dp_ms 5 = 0 := by decide +kernel
set_option maxRecDepth 100000 in
theorem rk_5 : dp_rk 5 = 1 := by decide +kernel
set_option maxRecDepth 100000 in
theorem mL_5 : dp_mL 5 = 3 := by decide +kernel
set_option maxRecDepth 100000 in
theorem hh_5 : dp_hh 5 = [] := by decide +kernel
set_option maxRecDepth 100000 in
theorem ow_6 : dp_ow 6 = 0 := by decide +kernel
set_option maxRecDepth 100000 in
theorem mc_6 : dp_mc 6 = 0 := by decide +kernel
set_option maxRecDepth 100000 in
theorem ms_6 : dp_ms 6 = 0 := by decide +kernel
set_option maxRecDepth 100000 in
theorem rk_6 : dp_rk 6 = 1 := by decide +kernel
set_option maxRecDepth 100000 in
theorem mL_6 : dp_mL 6 = 3 := by decide +kernel
set_option maxRecDepth 100000 in
theorem hh_6 : dp_hh 6 = [] := by decide +kernel
set_option maxRecDepth 100000 in
theorem ow_7 : dp_ow 7 = 1 := by decide +kernel
set_option maxRecDepth 100000 in
theorem mc_7 : dp_mc 7 = 0 := by decide +kernel
set_option maxRecDepth 100000 in
theorem ms_7 : dp_ms 7 = 0 := by decide +kernel
set_option maxRecDepth 100000 in
theorem rk_7 : dp_rk 7 = 1 := by decide +kernel
set_option maxRecDepth 100000 in
theorem mL_7 : dp_mL 7 = 4 := by decide +kernel
set_option maxRecDepth 100000 in
theorem hh_7 : dp_hh 7 = [] := by decide +kernel
set_option maxRecDepth 100000 in
theorem ow_8 : dp_ow 8 = 2 := by decide +kernel
set_option maxRecDepth 100000 in
theorem mc_8 : dp_mc 8 = 0 := by decide +kernel
set_option maxRecDepth 100000 in
theorem ms_8 : dp_ms 8 = 0 := by decide +kernel
set_option maxRecDepth 100000 in
theorem rk_8 : dp_rk 8 = 0 := by decide +kernel
set_option maxRecDepth 100000 in
theorem mL_8 : dp_mL 8 = 2 := by decide +kernel
set_option maxRecDepth 100000 in
theorem hh_8 : dp_hh 8 = [] := by decide +kernel
set_option maxRecDepth 100000 in
theorem ow_9 : dp_ow 9 = 2 := by decide +kernel
set_option maxRecDepth 100000 in
theorem mc_9 : dp_mc 9 = 0 := by decide +kernel
set_option maxRecDepth 100000 in
theorem ms_9 : dp_ms 9 = 0 := by decide +kernel
set_option maxRecDepth 100000 in
theorem rk_9 : dp_rk 9 = 0 := by decide +kernel
set_option maxRecDepth 100000 in
theorem mL_9 : dp_mL 9 = 5 := by decide +kernel
set_option maxRecDepth 100000 in
theorem hh_9 : dp_hh 9 = [] := by decide +kernel
set_option maxRecDepth 100000 in
theorem ow_10 : dp_ow 10 = 2 := by decide +kernel
set_option maxRecDepth 100000 in
theorem mc_10 : dp_mc 10 = 0 := by decide +kernel
set_option maxRecDepth 100000 in
theorem ms_10 : dp_ms 10 = 0 := by decide +kernel
set_option maxRecDepth 100000 in
theorem rk_10 : dp_rk 10 = 1 := by decide +kernel
set_option maxRecDepth 100000 in
theorem mL_10 : dp_mL 10 = 2 := by decide +kernel
set_option maxRecDepth 100000 in
theorem hh_10 : dp_hh 10 = [] := by decide +kernel
set_option maxRecDepth 100000 in
theorem ow_11 : dp_ow 11 = 2 := by decide +kernel
set_option maxRecDepth 100000 in
theorem mc_11 : dp_mc 11 = 0 := by decide +kernel
set_option maxRecDepth 100000 in
theorem ms_11 : dp_ms 11 = 0 := by decide +kernel
set_option maxRecDepth 100000 in
theorem rk_11 : dp_rk 11 = 1 := by decide +kernel
set_option maxRecDepth 100000 in
theorem mL_11 : dp_mL 11 = 3 := by decide +kernel
set_option maxRecDepth 100000 in
theorem hh_11 : dp_hh 11 = [] := by decide +kernel
set_option maxRecDepth 100000 in
theorem ow_12 : dp_ow 12 = 2 := by decide +kernel
set_option maxRecDepth 100000 in
theorem mc_12 : dp_mc 12 = 0 := by decide +kernel
set_option maxRecDepth 100000 in
theorem ms_12 : dp_ms 12 = 0 := by decide +kernel
set_option maxRecDepth 100000 in
theorem rk_12 : dp_rk 12 = 1 := by decide +kernel
set_option maxRecDepth 100000 in
theorem mL_12 : dp_mL 12 = 3 := by decide +kernel
set_option maxRecDepth 100000 in
theorem hh_12 : dp_hh 12 = [] := by decide +kernel
set_option maxRecDepth 100000 in
theorem ow_13 : dp_ow 13 = 2 := by decide +kernel
set_option maxRecDepth 100000 in
theorem mc_13 : dp_mc 13 = 0 := by decide +kernel
set_option maxRecDepth 100000 in
theorem ms_13 : dp_ms 13 = 0 := by decide +kernel
set_option maxRecDepth 100000 in
theorem rk_13 : dp_rk 13 = 1 := by decide +kernel
set_option maxRecDepth 100000 in
theorem mL_13 : dp_mL 13 = 9 := by decide +kernel
set_option maxRecDepth 100000 in
theorem hh_13 : dp_hh 13 = [] := by decide +kernel
set_option maxRecDepth 100000 in
theorem ow_14 : dp_ow 14 = 2 := by decide +kernel
set_option maxRecDepth 100000 in
theorem mc_14 : dp_mc 14 = 0 := by decide +kernel
set_option maxRecDepth 100000 in
theorem ms_14 : dp_ms 14 = 0 := by decide +kernel
set_option maxRecDepth 100000 in
theorem rk_14 : dp_rk 14 = 1 := by decide +kernel
set_option maxRecDepth 100000 in
theorem mL_14 : dp_mL 14 = 4 := by decide +kernel
set_option maxRecDepth 100000 in
theorem hh_14 : dp_hh 14 = [] := by decide +kernel
set_option maxRecDepth 100000 in
theorem ow_15 : dp_ow 15 = 2 := by decide +kernel
set_option maxRecDepth 100000 in
theorem mc_15 : dp_mc 15 = 0 := by decide +kernel
set_option maxRecDepth 100000 in
theorem ms_15 : dp_ms 15 = 0 := by decide +kernel
set_option maxRecDepth 100000 in
theorem rk_15 : dp_rk 15 = 1 := by decide +kernel
set_option maxRecDepth 100000 in
theorem mL_15 : dp_mL 15 = 3 := by decide +kernel
set_option maxRecDepth 100000 in
theorem hh_15 : dp_hh 15 = [] := by decide +kernel
set_option maxRecDepth 100000 in
theorem ow_16 : dp_ow 16 = 2 := by decide +kernel
set_option maxRecDepth 100000 in
theorem mc_16 : dp_mc 16 = 0 := by decide +kernel
set_option maxRecDepth 100000 in
theorem ms_16 : dp_ms 16 = 0 := by decide +kernel
set_option maxRecDepth 100000 in
theorem rk_16 : dp_rk 16 = 1 := by decide +kernel
set_option maxRecDepth 100000 in
theorem mL_16 : dp_mL 16 = 3 := by decide +kernel
set_option maxRecDepth 100000 in
theorem hh_16 : dp_hh 16 = [] := by decide +kernel
set_option maxRecDepth 100000 in
theorem ow_17 : dp_ow 17 = 3 := by decide +kernel
set_option maxRecDepth 100000 in
theorem mc_17 : dp_mc 17 = 2 := by decide +kernel
set_option maxRecDepth 100000 in
theorem ms_17 : dp_ms 17 = 12 := by decide +kernel
set_option maxRecDepth 100000 in
theorem rk_17 : dp_rk 17 = 1 := by decide +kernel
set_option maxRecDepth 100000 in
theorem mL_17 : dp_mL 17 = 4 := by decide +kernel
set_option maxRecDepth 100000 in
theorem hh_17 : dp_hh 17 = [] := by decide +kernel
set_option maxRecDepth 100000 in
theorem ow_18 : dp_ow 18 = 3 := by decide +kernel
set_option maxRecDepth 100000 in
theorem mc_18 : dp_mc 18 = 1 := by decide +kernel
set_option maxRecDepth 100000 in
theorem ms_18 : dp_ms 18 = 6 := by decide +kernel
set_option maxRecDepth 100000 in
theorem rk_18 : dp_rk 18 = 1 := by decide +kernel
set_option maxRecDepth 100000 in
theorem mL_18 : dp_mL 18 = 1 := by decide +kernel
set_option maxRecDepth 100000 in
theorem hh_18 : dp_hh 18 = [] := by decide +kernel
set_option maxRecDepth 100000 in
theorem ow_19 : dp_ow 19 = 3 := by decide +kernel
set_option maxRecDepth 100000 in
theorem mc_19 : dp_mc 19 = 3 := by decide +kernel
set_option maxRecDepth 100000 in
theorem ms_19 : dp_ms 19 = 18 := by decide +kernel
set_option maxRecDepth 100000 in
theorem rk_19 : dp_rk 19 = 1 := by decide +kernel
set_option maxRecDepth 100000 in
theorem mL_19 : dp_mL 19 = 4 := by decide +kernel
set_option maxRecDepth 100000 in
theorem hh_19 : dp_hh 19 = [] := by decide +kernel
set_option maxRecDepth 100000 in
theorem ow_20 : dp_ow 20 = 3 := by decide +kernel
set_option maxRecDepth 100000 in
theorem mc_20 : dp_mc 20 = 2 := by decide +kernel
set_option maxRecDepth 100000 in
theorem ms_20 : dp_ms 20 = 12 := by decide +kernel
set_option maxRecDepth 100000 in
theorem rk_20 : dp_rk 20 = 1 := by decide +kernel
set_option maxRecDepth 100000 in
theorem mL_20 : dp_mL 20 = 4 := by decide +kernel
set_option maxRecDepth 100000 in
theorem hh_20 : dp_hh 20 = [] := by decide +kernel
set_option maxRecDepth 100000 in
theorem ow_21 : dp_ow 21 = 3 := by decide +kernel
set_option maxRecDepth 100000 in
theorem mc_21 : dp_mc 21 = 2 := by decide +kernel
set_option maxRecDepth 100000 in
theorem ms_21 : dp_ms 21 = 12 := by decide +kernel
set_option maxRecDepth 100000 in
theorem rk_21 : dp_rk 21 = 1 := by decide +kernel
set_option maxRecDepth 100000 in
theorem mL_21 : dp_mL 21 = 3 := by decide +kernel
set_option maxRecDepth 100000 in
theorem hh_21 : dp_hh 21 = [] := by decide +kernel
set_option maxRecDepth 100000 in
theorem ow_22 : dp_ow 22 = 3 := by decide +kernel
set_option maxRecDepth 100000 in
theorem mc_22 : dp_mc 22 = 4 := by decide +kernel
set_option maxRecDepth 100000 in
theorem ms_22 : dp_ms 22 = 24 := by decide +kernel
set_option maxRecDepth 100000 in
theorem rk_22 : dp_rk 22 = 1 := by decide +kernel
set_option maxRecDepth 100000 in
theorem mL_22 : dp_mL 22 = 4 := by decide +kernel
set_option maxRecDepth 100000 in
theorem hh_22 : dp_hh 22 = [] := by decide +kernel
set_option maxRecDepth 100000 in
theorem ow_23 : dp_ow 23 = 3 := by decide +kernel
set_option maxRecDepth 100000 in
theorem mc_23 : dp_mc 23 = 3 := by decide +kernel
set_option maxRecDepth 100000 in
theorem ms_23 : dp_ms 23 = 18 := by decide +kernel
set_option maxRecDepth 100000 in
theorem rk_23 : dp_rk 23 = 1 := by decide +kernel
set_option maxRecDepth 100000 in
theorem mL_23 : dp_mL 23 = 4 := by decide +kernel
set_option maxRecDepth 100000 in
theorem hh_23 : dp_hh 23 = [] := by decide +kernel
set_option maxRecDepth 100000 in
theorem ow_24 : dp_ow 24 = 3 := by decide +kernel
set_option maxRecDepth 100000 in
theorem mc_24 : dp_mc 24 = 2 := by decide +kernel
set_option maxRecDepth 100000 in
theorem ms_24 : dp_ms 24 = 12 := by decide +kernel
set_option maxRecDepth 100000 in
theorem rk_24 : dp_rk 24 = 1 := by decide +kernel
set_option maxRecDepth 100000 in
theorem mL_24 : dp_mL 24 = 4 := by decide +kernel
set_option maxRecDepth 100000 in
theorem hh_24 : dp_hh 24 = [] := by decide +kernel
set_option maxRecDepth 100000 in
theorem ow_25 : dp_ow 25 = 3 := by decide +kernel
set_option maxRecDepth 100000 in
theorem mc_25 : dp_mc 25 = 2 := by decide +kernel
set_option maxRecDepth 100000 in
theorem ms_25 : dp_ms 25 = 12 := by decide +kernel
set_option maxRecDepth 100000 in
theorem rk_25 : dp_rk 25 = 1 := by decide +kernel
set_option maxRecDepth 100000 in
theorem mL_25 : dp_mL 25 = 3 := by decide +kernel
set_option maxRecDepth 100000 in
theorem hh_25 : dp_hh 25 = [] := by decide +kernel
set_option maxRecDepth 100000 in
theorem ow_26 : dp_ow 26 = 3 := by decide +kernel
set_option maxRecDepth 100000 in
theorem mc_26 : dp_mc 26 = 1 := by decide +kernel
set_option maxRecDepth 100000 in
theorem ms_26 : dp_ms 26 = 6 := by decide +kernel
set_option maxRecDepth 100000 in
theorem rk_26 : dp_rk 26 = 1 := by decide +kernel
set_option maxRecDepth 100000 in
theorem mL_26 : dp_mL 26 = 2 := by decide +kernel
set_option maxRecDepth 100000 in
theorem hh_26 : dp_hh 26 = [] := by decide +kernel
set_option maxRecDepth 100000 in
theorem ow_27 : dp_ow 27 = 3 := by decide +kernel
set_option maxRecDepth 100000 in
theorem mc_27 : dp_mc 27 = 1 := by decide +kernel
set_option maxRecDepth 100000 in
theorem ms_27 : dp_ms 27 = 6 := by decide +kernel
set_option maxRecDepth 100000 in
theorem rk_27 : dp_rk 27 = 1 := by decide +kernel
set_option maxRecDepth 100000 in
theorem mL_27 : dp_mL 27 = 3 := by decide +kernel
set_option maxRecDepth 100000 in
theorem hh_27 : dp_hh 27 = [] := by decide +kernel
set_option maxRecDepth 100000 in
theorem ow_28 : dp_ow 28 = 3 := by decide +kernel
set_option maxRecDepth 100000 in
theorem mc_28 : dp_mc 28 = 2 := by decide +kernel
set_option maxRecDepth 100000 in
theorem ms_28 : dp_ms 28 = 12 := by decide +kernel
set_option maxRecDepth 100000 in
theorem rk_28 : dp_rk 28 = 1 := by decide +kernel
set_option maxRecDepth 100000 in
theorem mL_28 : dp_mL 28 = 3 := by decide +kernel
set_option maxRecDepth 100000 in
theorem hh_28 : dp_hh 28 = [] := by decide +kernel
set_option maxRecDepth 100000 in
theorem ow_29 : dp_ow 29 = 3 := by decide +kernel
set_option maxRecDepth 100000 in
theorem mc_29 : dp_mc 29 = 2 := by decide +kernel
set_option maxRecDepth 100000 in
theorem ms_29 : dp_ms 29 = 12 := by decide +kernel
set_option maxRecDepth 100000 in
theorem rk_29 : dp_rk 29 = 1 := by decide +kernel
set_option maxRecDepth 100000 in
theorem mL_29 : dp_mL 29 = 3 := by decide +kernel
set_option maxRecDepth 100000 in
theorem hh_29 : dp_hh 29 = [] := by decide +kernel
set_option maxRecDepth 100000 in
theorem ow_30 : dp_ow 30 = 3 := by decide +kernel
set_option maxRecDepth 100000 in
theorem mc_30 : dp_mc 30 = 2 := by decide +kernel
set_option maxRecDepth 100000 in
theorem ms_30 : dp_ms 30 = 12 := by decide +kernel
set_option maxRecDepth 100000 in
theorem rk_30 : dp_rk 30 = 1 := by decide +kernel
set_option maxRecDepth 100000 in
theorem mL_30 : dp_mL 30 = 3 := by decide +kernel
set_option maxRecDepth 100000 in
theorem hh_30 : dp_hh 30 = [] := by decide +kernel
set_option maxRecDepth 100000 in
theorem ow_31 : dp_ow 31 = 3 := by decide +kernel
set_option maxRecDepth 100000 in
theorem mc_31 : dp_mc 31 = 2 := by decide +kernel
set_option maxRecDepth 100000 in
theorem ms_31 : dp_ms 31 = 12 := by decide +kernel
set_option maxRecDepth 100000 in
theorem rk_31 : dp_rk 31 = 1 := by decide +kernel
set_option maxRecDepth 100000 in
theorem mL_31 : dp_mL 31 = 3 := by decide +kernel
set_option maxRecDepth 100000 in
theorem hh_31 : dp_hh 31 = [] := by decide +kernel
set_option maxRecDepth 100000 in
theorem ow_32 : dp_ow 32 = 3 := by decide +kernel
set_option maxRecDepth 100000 in
theorem mc_32 : dp_mc 32 = 1 := by decide +kernel
set_option maxRecDepth 100000 in
theorem ms_32 : dp_ms 32 = 6 := by decide +kernel
set_option maxRecDepth 100000 in
theorem rk_32 : dp_rk 32 = 1 := by decide +kernel
set_option maxRecDepth 100000 in
theorem mL_32 : dp_mL 32 = 2 := by decide +kernel
set_option maxRecDepth 100000 in
theorem hh_32 : dp_hh 32 = [] := by decide +kernel
set_option maxRecDepth 100000 in
theorem ow_33 : dp_ow 33 = 3 := by decide +kernel
set_option maxRecDepth 100000 in
theorem mc_33 : dp_mc 33 = 1 := by decide +kernel
set_option maxRecDepth 100000 in
theorem ms_33 : dp_ms 33 = 6 := by decide +kernel
set_option maxRecDepth 100000 in
theorem rk_33 : dp_rk 33 = 1 := by decide +kernel
set_option maxRecDepth 100000 in
theorem mL_33 : dp_mL 33 = 2 := by decide +kernel
set_option maxRecDepth 100000 in
theorem hh_33 : dp_hh 33 = [] := by decide +kernel
set_option maxRecDepth 100000 in
theorem ow_34 : dp_ow 34 = 3 := by decide +kernel
set_option maxRecDepth 100000 in
theorem mc_34 : dp_mc 34 = 2 := by decide +kernel
set_option maxRecDepth 100000 in
theorem ms_34 : dp_ms 34 = 12 := by decide +kernel
set_option maxRecDepth 100000 in
theorem rk_34 : dp_rk 34 = 1 := by decide +kernel
set_option maxRecDepth 100000 in
theorem mL_34 : dp_mL 34 = 3 := by decide +kernel
set_option maxRecDepth 100000 in
theorem hh_34 : dp_hh 34 = [] := by decide +kernel
set_option maxRecDepth 100000 in
theorem ow_35 : dp_ow 35 = 3 := by decide +kernel
set_option maxRecDepth 100000 in
theorem mc_35 : dp_mc 35 = 2 := by decide +kernel
set_option maxRecDepth 100000 in
theorem ms_35 : dp_ms 35 = 12 := by decide +kernel
set_option maxRecDepth 100000 in
theorem rk_35 : dp_rk 35 = 1 := by decide +kernel
set_option maxRecDepth 100000 in
theorem mL_35 : dp_mL 35 = 3 := by decide +kernel
set_option maxRecDepth 100000 in
theorem hh_35 : dp_hh 35 = [] := by decide +kernel
set_option maxRecDepth 100000 in
theorem ow_36 : dp_ow 36 = 3 := by decide +kernel
set_option maxRecDepth 100000 in
theorem mc_36 : dp_mc 36 = 0 := by decide +kernel
set_option maxRecDepth 100000 in
theorem ms_36 : dp_ms 36 = 0 := by decide +kernel
set_option maxRecDepth 100000 in
theorem rk_36 : dp_rk 36 = 1 := by decide +kernel
set_option maxRecDepth 100000 in
theorem mL_36 : dp_mL 36 = 2 := by decide +kernel
set_option maxRecDepth 100000 in
theorem hh_36 : dp_hh 36 = [] := by decide +kernel
set_option maxRecDepth 100000 in
theorem ow_37 : dp_ow 37 = 3 := by decide +kernel
set_option maxRecDepth 100000 in
theorem mc_37 : dp_mc 37 = 0 := by decide +kernel
set_option maxRecDepth 100000 in
theorem ms_37 : dp_ms 37 = 0 := by decide +kernel
set_option maxRecDepth 100000 in
theorem rk_37 : dp_rk 37 = 3 := by decide +kernel
set_option maxRecDepth 100000 in
theorem mL_37 : dp_mL 37 = 2 := by decide +kernel
set_option maxRecDepth 100000 in
theorem hh_37 : dp_hh 37 = [] := by decide +kernel
set_option maxRecDepth 100000 in
theorem ow_38 : dp_ow 38 = 3 := by decide +kernel
set_option maxRecDepth 100000 in
theorem mc_38 : dp_mc 38 = 1 := by decide +kernel
set_option maxRecDepth 100000 in
theorem ms_38 : dp_ms 38 = 6 := by decide +kernel
set_option maxRecDepth 100000 in
theorem rk_38 : dp_rk 38 = 0 := by decide +kernel
set_option maxRecDepth 100000 in
theorem mL_38 : dp_mL 38 = 1 := by decide +kernel
set_option maxRecDepth 100000 in
theorem hh_38 : dp_hh 38 = [] := by decide +kernel
set_option maxRecDepth 100000 in
theorem ow_39 : dp_ow 39 = 3 := by decide +kernel
set_option maxRecDepth 100000 in
theorem mc_39 : dp_mc 39 = 1 := by decide +kernel
set_option maxRecDepth 100000 in
theorem ms_39 : dp_ms 39 = 6 := by decide +kernel
set_option maxRecDepth 100000 in
theorem rk_39 : dp_rk 39 = 0 := by decide +kernel
set_option maxRecDepth 100000 in
theorem mL_39 : dp_mL 39 = 1 := by decide +kernel
set_option maxRecDepth 100000 in
theorem hh_39 : dp_hh 39 = [] := by decide +kernel
set_option maxRecDepth 100000 in
theorem ow_40 : dp_ow 40 = 3 := by decide +kernel
set_option maxRecDepth 100000 in
theorem mc_40 : dp_mc 40 = 1 := by decide +kernel
set_option maxRecDepth 100000 in
theorem ms_40 : dp_ms 40 = 6 := by decide +kernel
set_option maxRecDepth 100000 in
theorem rk_40 : dp_rk 40 = 0 := by decide +kernel
set_option maxRecDepth 100000 in
theorem mL_40 : dp_mL 40 = 2 := by decide +kernel
set_option maxRecDepth 100000 in
theorem hh_40 : dp_hh 40 = [] := by decide +kernel
set_option maxRecDepth 100000 in
theorem ow_41 : dp_ow 41 = 3 := by decide +kernel
set_option maxRecDepth 100000 in
theorem mc_41 : dp_mc 41 = 1 := by decide +kernel
set_option maxRecDepth 100000 in
theorem ms_41 : dp_ms 41 = 6 := by decide +kernel
set_option maxRecDepth 100000 in
theorem rk_41 : dp_rk 41 = 0 := by decide +kernel
set_option maxRecDepth 100000 in
theorem mL_41 : dp_mL 41 = 2 := by decide +kernel
set_option maxRecDepth 100000 in
theorem hh_41 : dp_hh 41 = [] := by decide +kernel
set_option maxRecDepth 100000 in
theorem ow_42 : dp_ow 42 = 3 := by decide +kernel
set_option maxRecDepth 100000 in
theorem mc_42 : dp_mc 42 = 1 := by decide +kernel
set_option maxRecDepth 100000 in
theorem ms_42 : dp_ms 42 = 6 := by decide +kernel
set_option maxRecDepth 100000 in
theorem rk_42 : dp_rk 42 = 0 := by decide +kernel
set_option maxRecDepth 100000 in
theorem mL_42 : dp_mL 42 = 2 := by decide +kernel
set_option maxRecDepth 100000 in
theorem hh_42 : dp_hh 42 = [] := by decide +kernel
set_option maxRecDepth 100000 in
theorem ow_43 : dp_ow 43 = 3 := by decide +kernel
set_option maxRecDepth 100000 in
theorem mc_43 : dp_mc 43 = 1 := by decide +kernel
set_option maxRecDepth 100000 in
theorem ms_43 : dp_ms 43 = 6 := by decide +kernel
set_option maxRecDepth 100000 in
theorem rk_43 : dp_rk 43 = 0 := by decide +kernel
set_option maxRecDepth 100000 in
theorem mL_43 : dp_mL 43 = 2 := by decide +kernel
set_option maxRecDepth 100000 in
theorem hh_43 : dp_hh 43 = [] := by decide +kernel
set_option maxRecDepth 100000 in
theorem ow_44 : dp_ow 44 = 3 := by decide +kernel
set_option maxRecDepth 100000 in
theorem mc_44 : dp_mc 44 = 1 := by decide +kernel
set_option maxRecDepth 100000 in
theorem ms_44 : dp_ms 44 = 6 := by decide +kernel
set_option maxRecDepth 100000 in
theorem rk_44 : dp_rk 44 = 0 := by decide +kernel
set_option maxRecDepth 100000 in
theorem mL_44 : dp_mL 44 = 1 := by decide +kernel
set_option maxRecDepth 100000 in
theorem hh_44 : dp_hh 44 = [] := by decide +kernel
set_option maxRecDepth 100000 in
theorem ow_45 : dp_ow 45 = 3 := by decide +kernel
set_option maxRecDepth 100000 in
theorem mc_45 : dp_mc 45 = 0 := by decide +kernel
set_option maxRecDepth 100000 in
theorem ms_45 : dp_ms 45 = 0 := by decide +kernel
set_option maxRecDepth 100000 in
theorem rk_45 : dp_rk 45 = 1 := by decide +kernel
set_option maxRecDepth 100000 in
theorem mL_45 : dp_mL 45 = 3 := by decide +kernel
set_option maxRecDepth 100000 in
theorem hh_45 : dp_hh 45 = [] := by decide +kernel
set_option maxRecDepth 100000 in
theorem ow_46 : dp_ow 46 = 3 := by decide +kernel
set_option maxRecDepth 100000 in
theorem mc_46 : dp_mc 46 = 0 := by decide +kernel
set_option maxRecDepth 100000 in
theorem ms_46 : dp_ms 46 = 0 := by decide +kernel
set_option maxRecDepth 100000 in
theorem rk_46 : dp_rk 46 = 1 := by decide +kernel
set_option maxRecDepth 100000 in
theorem mL_46 : dp_mL 46 = 3 := by decide +kernel
set_option maxRecDepth 100000 in
theorem hh_46 : dp_hh 46 = [] := by decide +kernel
set_option maxRecDepth 100000 in
theorem ow_47 : dp_ow 47 = 3 := by decide +kernel
set_option maxRecDepth 100000 in
theorem mc_47 : dp_mc 47 = 0 := by decide +kernel
set_option maxRecDepth 100000 in
theorem ms_47 : dp_ms 47 = 0 := by decide +kernel
set_option maxRecDepth 100000 in
theorem rk_47 : dp_rk 47 = 1 := by decide +kernel
set_option maxRecDepth 100000 in
theorem mL_47 : dp_mL 47 = 2 := by decide +kernel
set_option maxRecDepth 100000 in
theorem hh_47 : dp_hh 47 = [] := by decide +kernel
set_option maxRecDepth 100000 in
theorem ow_48 : dp_ow 48 = 3 := by decide +kernel
set_option maxRecDepth 100000 in
theorem mc_48 : dp_mc 48 = 0 := by decide +kernel
set_option maxRecDepth 100000 in
theorem ms_48 : dp_ms 48 = 0 := by decide +kernel
set_option maxRecDepth 100000 in
theorem rk_48 : dp_rk 48 = 1 := by decide +kernel
set_option maxRecDepth 100000 in
theorem mL_48 : dp_mL 48 = 4 := by decide +kernel
set_option maxRecDepth 100000 in
theorem hh_48 : dp_hh 48 = [] := by decide +kernel
set_option maxRecDepth 100000 in
theorem ow_49 : dp_ow 49 = 3 := by decide +kernel
set_option maxRecDepth 100000 in
theorem mc_49 : dp_mc 49 = 0 := by decide +kernel
set_option maxRecDepth 100000 in
theorem ms_49 : dp_ms 49 = 0 := by decide +kernel
set_option maxRecDepth 100000 in
theorem rk_49 : dp_rk 49 = 4 := by decide +kernel
set_option maxRecDepth 100000 in
theorem mL_49 : dp_mL 49 = 5 := by decide +kernel
set_option maxRecDepth 100000 in
theorem hh_49 : dp_hh 49 = [] := by decide +kernel
set_option maxRecDepth 100000 in
theorem ow_50 : dp_ow 50 = 3 := by decide +kernel
set_option maxRecDepth 100000 in
theorem mc_50 : dp_mc 50 = 0 := by decide +kernel
set_option maxRecDepth 100000 in
theorem ms_50 : dp_ms 50 = 0 := by decide +kernel
set_option maxRecDepth 100000 in
theorem rk_50 : dp_rk 50 = 1 := by decide +kernel
set_option maxRecDepth 100000 in
theorem mL_50 : dp_mL 50 = 5 := by decide +kernel
set_option maxRecDepth 100000 in
theorem hh_50 : dp_hh 50 = [] := by decide +kernel
set_option maxRecDepth 100000 in
theorem ow_51 : dp_ow 51 = 3 := by decide +kernel
set_option maxRecDepth 100000 in
theorem mc_51 : dp_mc 51 = 0 := by decide +kernel
set_option maxRecDepth 100000 in
theorem ms_51 : dp_ms 51 = 0 := by decide +kernel
set_option maxRecDepth 100000 in
theorem rk_51 : dp_rk 51 = 1 := by decide +kernel
set_option maxRecDepth 100000 in
theorem mL_51 : dp_mL 51 = 7 := by decide +kernel
set_option maxRecDepth 100000 in
theorem hh_51 : dp_hh 51 = [] := by decide +kernel
set_option maxRecDepth 100000 in
theorem ow_52 : dp_ow 52 = 3 := by decide +kernel
set_option maxRecDepth 100000 in
theorem mc_52 : dp_mc 52 = 0 := by decide +kernel
set_option maxRecDepth 100000 in
theorem ms_52 : dp_ms 52 = 0 := by decide +kernel
set_option maxRecDepth 100000 in
theorem rk_52 : dp_rk 52 = 1 := by decide +kernel
set_option maxRecDepth 100000 in
theorem mL_52 : dp_mL 52 = 5 := by decide +kernel
set_option maxRecDepth 100000 in
theorem hh_52 : dp_hh 52 = [] := by decide +kernel
set_option maxRecDepth 100000 in
theorem ow_53 : dp_ow 53 = 3 := by decide +kernel
set_option maxRecDepth 100000 in
theorem mc_53 : dp_mc 53 = 0 := by decide +kernel
set_option maxRecDepth 100000 in
theorem ms_53 : dp_ms 53 = 0 := by decide +kernel
set_option maxRecDepth 100000 in
theorem rk_53 : dp_rk 53 = 1 := by decide +kernel
set_option maxRecDepth 100000 in
theorem mL_53 : dp_mL 53 = 8 := by decide +kernel
set_option maxRecDepth 100000 in
theorem hh_53 : dp_hh 53 = [] := by decide +kernel
set_option maxRecDepth 100000 in
theorem ow_54 : dp_ow 54 = 3 := by decide +kernel
set_option maxRecDepth 100000 in
theorem mc_54 : dp_mc 54 = 0 := by decide +kernel
set_option maxRecDepth 100000 in
theorem ms_54 : dp_ms 54 = 0 := by decide +kernel
set_option maxRecDepth 100000 in
theorem rk_54 : dp_rk 54 = 1 := by decide +kernel
set_option maxRecDepth 100000 in
theorem mL_54 : dp_mL 54 = 4 := by decide +kernel
set_option maxRecDepth 100000 in
theorem hh_54 : dp_hh 54 = [] := by decide +kernel
set_option maxRecDepth 100000 in
theorem ow_55 : dp_ow 55 = 3 := by decide +kernel
set_option maxRecDepth 100000 in
theorem mc_55 : dp_mc 55 = 0 := by decide +kernel
set_option maxRecDepth 100000 in
theorem ms_55 : dp_ms 55 = 0 := by decide +kernel
set_option maxRecDepth 100000 in
theorem rk_55 : dp_rk 55 = 1 := by decide +kernel
set_option maxRecDepth 100000 in
theorem mL_55 : dp_mL 55 = 5 := by decide +kernel
set_option maxRecDepth 100000 in
theorem hh_55 : dp_hh 55 = [] := by decide +kernel
set_option maxRecDepth 100000 in
theorem ow_56 : dp_ow 56 = 3 := by decide +kernel
set_option maxRecDepth 100000 in
theorem mc_56 : dp_mc 56 = 0 := by decide +kernel
set_option maxRecDepth 100000 in
theorem ms_56 : dp_ms 56 = 0 := by decide +kernel
set_option maxRecDepth 100000 in
theorem rk_56 : dp_rk 56 = 0 := by decide +kernel
set_option maxRecDepth 100000 in
theorem mL_56 : dp_mL 56 = 5 := by decide +kernel
set_option maxRecDepth 100000 in
theorem hh_56 : dp_hh 56 = [] := by decide +kernel
set_option maxRecDepth 100000 in
theorem ow_57 : dp_ow 57 = 3 := by decide +kernel
set_option maxRecDepth 100000 in
theorem mc_57 : dp_mc 57 = 0 := by decide +kernel
set_option maxRecDepth 100000 in
theorem ms_57 : dp_ms 57 = 0 := by decide +kernel
set_option maxRecDepth 100000 in
theorem rk_57 : dp_rk 57 = 4 := by decide +kernel
set_option maxRecDepth 100000 in
theorem mL_57 : dp_mL 57 = 4 := by decide +kernel
set_option maxRecDepth 100000 in
theorem hh_57 : dp_hh 57 = [] := by decide +kernel
set_option maxRecDepth 100000 in
theorem ow_58 : dp_ow 58 = 3 := by decide +kernel
set_option maxRecDepth 100000 in
theorem mc_58 : dp_mc 58 = 0 := by decide +kernel
set_option maxRecDepth 100000 in
theorem ms_58 : dp_ms 58 = 0 := by decide +kernel
set_option maxRecDepth 100000 in
theorem rk_58 : dp_rk 58 = 1 := by decide +kernel
set_option maxRecDepth 100000 in
theorem mL_58 : dp_mL 58 = 4 := by decide +kernel
set_option maxRecDepth 100000 in
theorem hh_58 : dp_hh 58 = [] := by decide +kernel
set_option maxRecDepth 100000 in
theorem ow_59 : dp_ow 59 = 4 := by decide +kernel
set_option maxRecDepth 100000 in
theorem mc_59 : dp_mc 59 = 2 := by decide +kernel
set_option maxRecDepth 100000 in
theorem ms_59 : dp_ms 59 = 16 := by decide +kernel
set_option maxRecDepth 100000 in
theorem rk_59 : dp_rk 59 = 0 := by decide +kernel
set_option maxRecDepth 100000 in
theorem mL_59 : dp_mL 59 = 1 := by decide +kernel
set_option maxRecDepth 100000 in
theorem hh_59 : dp_hh 59 = [] := by decide +kernel
set_option maxRecDepth 100000 in
theorem ow_60 : dp_ow 60 = 5 := by decide +kernel
set_option maxRecDepth 100000 in
theorem mc_60 : dp_mc 60 = 4 := by decide +kernel
set_option maxRecDepth 100000 in
theorem ms_60 : dp_ms 60 = 56 := by decide +kernel
set_option maxRecDepth 100000 in
theorem rk_60 : dp_rk 60 = 0 := by decide +kernel
set_option maxRecDepth 100000 in
theorem mL_60 : dp_mL 60 = 2 := by decide +kernel
set_option maxRecDepth 100000 in
theorem hh_60 : dp_hh 60 = [] := by decide +kernel
set_option maxRecDepth 100000 in
theorem ow_61 : dp_ow 61 = 5 := by decide +kernel
set_option maxRecDepth 100000 in
theorem mc_61 : dp_mc 61 = 1 := by decide +kernel
set_option maxRecDepth 100000 in
theorem ms_61 : dp_ms 61 = 20 := by decide +kernel
set_option maxRecDepth 100000 in
theorem rk_61 : dp_rk 61 = 5 := by decide +kernel
set_option maxRecDepth 100000 in
theorem mL_61 : dp_mL 61 = 7 := by decide +kernel
set_option maxRecDepth 100000 in
theorem hh_61 : dp_hh 61 = [] := by decide +kernel
set_option maxRecDepth 100000 in
theorem ow_62 : dp_ow 62 = 5 := by decide +kernel
set_option maxRecDepth 100000 in
theorem mc_62 : dp_mc 62 = 17 := by decide +kernel
set_option maxRecDepth 100000 in
theorem ms_62 : dp_ms 62 = 340 := by decide +kernel
set_option maxRecDepth 100000 in
theorem rk_62 : dp_rk 62 = 5 := by decide +kernel
set_option maxRecDepth 100000 in
theorem mL_62 : dp_mL 62 = 5 := by decide +kernel
set_option maxRecDepth 100000 in
theorem hh_62 : dp_hh 62 = [] := by decide +kernel
set_option maxRecDepth 100000 in
theorem ow_63 : dp_ow 63 = 5 := by decide +kernel
set_option maxRecDepth 100000 in
theorem mc_63 : dp_mc 63 = 0 := by decide +kernel
set_option maxRecDepth 100000 in
theorem ms_63 : dp_ms 63 = 0 := by decide +kernel
set_option maxRecDepth 100000 in
theorem rk_63 : dp_rk 63 = 1 := by decide +kernel
set_option maxRecDepth 100000 in
theorem mL_63 : dp_mL 63 = 11 := by decide +kernel
set_option maxRecDepth 100000 in
theorem hh_63 : dp_hh 63 = [] := by decide +kernel
set_option maxRecDepth 100000 in
theorem ow_64 : dp_ow 64 = 5 := by decide +kernel
set_option maxRecDepth 100000 in
theorem mc_64 : dp_mc 64 = 34 := by decide +kernel
set_option maxRecDepth 100000 in
theorem ms_64 : dp_ms 64 = 676 := by decide +kernel
set_option maxRecDepth 100000 in
theorem rk_64 : dp_rk 64 = 5 := by decide +kernel
set_option maxRecDepth 100000 in
theorem mL_64 : dp_mL 64 = 6 := by decide +kernel
set_option maxRecDepth 100000 in
theorem hh_64 : dp_hh 64 = [] := by decide +kernel
set_option maxRecDepth 100000 in
theorem ow_65 : dp_ow 65 = 5 := by decide +kernel
set_option maxRecDepth 100000 in
theorem mc_65 : dp_mc 65 = 0 := by decide +kernel
set_option maxRecDepth 100000 in
theorem ms_65 : dp_ms 65 = 0 := by decide +kernel
set_option maxRecDepth 100000 in
theorem rk_65 : dp_rk 65 = 1 := by decide +kernel
set_option maxRecDepth 100000 in
theorem mL_65 : dp_mL 65 = 3 := by decide +kernel
set_option maxRecDepth 100000 in
theorem hh_65 : dp_hh 65 = [] := by decide +kernel
set_option maxRecDepth 100000 in
theorem ow_66 : dp_ow 66 = 5 := by decide +kernel
set_option maxRecDepth 100000 in
theorem mc_66 : dp_mc 66 = 34 := by decide +kernel
set_option maxRecDepth 100000 in
theorem ms_66 : dp_ms 66 = 676 := by decide +kernel
set_option maxRecDepth 100000 in
theorem rk_66 : dp_rk 66 = 1 := by decide +kernel
set_option maxRecDepth 100000 in
theorem mL_66 : dp_mL 66 = 5 := by decide +kernel
set_option maxRecDepth 100000 in
theorem hh_66 : dp_hh 66 = [] := by decide +kernel
set_option maxRecDepth 100000 in
theorem ow_67 : dp_ow 67 = 5 := by decide +kernel
set_option maxRecDepth 100000 in
theorem mc_67 : dp_mc 67 = 408 := by decide +kernel
set_option maxRecDepth 100000 in
theorem ms_67 : dp_ms 67 = 8112 := by decide +kernel
set_option maxRecDepth 100000 in
theorem rk_67 : dp_rk 67 = 1 := by decide +kernel
set_option maxRecDepth 100000 in
theorem mL_67 : dp_mL 67 = 6 := by decide +kernel
set_option maxRecDepth 100000 in
theorem hh_67 : dp_hh 67 = [] := by decide +kernel
set_option maxRecDepth 100000 in
theorem ow_68 : dp_ow 68 = 5 := by decide +kernel
set_option maxRecDepth 100000 in
theorem mc_68 : dp_mc 68 = 4000 := by decide +kernel
set_option maxRecDepth 100000 in
theorem ms_68 : dp_ms 68 = 40000 := by decide +kernel
set_option maxRecDepth 100000 in
theorem rk_68 : dp_rk 68 = 4 := by decide +kernel
set_option maxRecDepth 100000 in
theorem mL_68 : dp_mL 68 = 15 := by decide +kernel
set_option maxRecDepth 100000 in
theorem hh_68 : dp_hh 68 = [] := by decide +kernel
set_option maxRecDepth 100000 in
theorem ow_69 : dp_ow 69 = 7 := by decide +kernel
set_option maxRecDepth 100000 in
theorem mc_69 : dp_mc 69 = 0 := by decide +kernel
set_option maxRecDepth 100000 in
theorem ms_69 : dp_ms 69 = 0 := by decide +kernel
set_option maxRecDepth 100000 in
theorem rk_69 : dp_rk 69 = 1 := by decide +kernel
set_option maxRecDepth 100000 in
theorem mL_69 : dp_mL 69 = 1 := by decide +kernel
set_option maxRecDepth 100000 in
theorem hh_69 : dp_hh 69 = [] := by decide +kernel
set_option maxRecDepth 100000 in
theorem ow_70 : dp_ow 70 = 8 := by decide +kernel
set_option maxRecDepth 100000 in
theorem mc_70 : dp_mc 70 = 0 := by decide +kernel
set_option maxRecDepth 100000 in
theorem ms_70 : dp_ms 70 = 0 := by decide +kernel
set_option maxRecDepth 100000 in
theorem rk_70 : dp_rk 70 = 0 := by decide +kernel
set_option maxRecDepth 100000 in
theorem mL_70 : dp_mL 70 = 4 := by decide +kernel
set_option maxRecDepth 100000 in
theorem hh_70 : dp_hh 70 = [] := by decide +kernel
set_option maxRecDepth 100000 in
theorem ow_71 : dp_ow 71 = 6 := by decide +kernel
set_option maxRecDepth 100000 in
theorem mc_71 : dp_mc 71 = 0 := by decide +kernel
set_option maxRecDepth 100000 in
theorem ms_71 : dp_ms 71 = 0 := by decide +kernel
set_option maxRecDepth 100000 in
theorem rk_71 : dp_rk 71 = 1 := by decide +kernel
set_option maxRecDepth 100000 in
theorem mL_71 : dp_mL 71 = 2 := by decide +kernel
set_option maxRecDepth 100000 in
theorem hh_71 : dp_hh 71 = [] := by decide +kernel
set_option maxRecDepth 100000 in
theorem ow_72 : dp_ow 72 = 6 := by decide +kernel
set_option maxRecDepth 100000 in
theorem mc_72 : dp_mc 72 = 0 := by decide +kernel
set_option maxRecDepth 100000 in
theorem ms_72 : dp_ms 72 = 0 := by decide +kernel
set_option maxRecDepth 100000 in
theorem rk_72 : dp_rk 72 = 1 := by decide +kernel
set_option maxRecDepth 100000 in
theorem mL_72 : dp_mL 72 = 2 := by decide +kernel
set_option maxRecDepth 100000 in
theorem hh_72 : dp_hh 72 = [] := by decide +kernel
set_option maxRecDepth 100000 in
theorem ow_73 : dp_ow 73 = 6 := by decide +kernel
set_option maxRecDepth 100000 in
theorem mc_73 : dp_mc 73 = 1 := by decide +kernel
set_option maxRecDepth 100000 in
theorem ms_73 : dp_ms 73 = 16 := by decide +kernel
set_option maxRecDepth 100000 in
theorem rk_73 : dp_rk 73 = 5 := by decide +kernel
set_option maxRecDepth 100000 in
theorem mL_73 : dp_mL 73 = 4 := by decide +kernel
set_option maxRecDepth 100000 in
theorem hh_73 : dp_hh 73 = [] := by decide +kernel
set_option maxRecDepth 100000 in
theorem ow_74 : dp_ow 74 = 6 := by decide +kernel
set_option maxRecDepth 100000 in
theorem mc_74 : dp_mc 74 = 1 := by decide +kernel
set_option maxRecDepth 100000 in
theorem ms_74 : dp_ms 74 = 16 := by decide +kernel
set_option maxRecDepth 100000 in
theorem rk_74 : dp_rk 74 = 5 := by decide +kernel
set_option maxRecDepth 100000 in
theorem mL_74 : dp_mL 74 = 4 := by decide +kernel
set_option maxRecDepth 100000 in
theorem hh_74 : dp_hh 74 = [] := by decide +kernel
set_option maxRecDepth 100000 in
theorem ow_75 : dp_ow 75 = 6 := by decide +kernel
set_option maxRecDepth 100000 in
theorem mc_75 : dp_mc 75 = 200 := by decide +kernel
set_option maxRecDepth 100000 in
theorem ms_75 : dp_ms 75 = 3000 := by decide +kernel
set_option maxRecDepth 100000 in
theorem rk_75 : dp_rk 75 = 4 := by decide +kernel
set_option maxRecDepth 100000 in
theorem mL_75 : dp_mL 75 = 18 := by decide +kernel
set_option maxRecDepth 100000 in
theorem hh_75 : dp_hh 75 = [] := by decide +kernel
set_option maxRecDepth 100000 in
theorem ow_76 : dp_ow 76 = 6 := by decide +kernel
set_option maxRecDepth 100000 in
theorem mc_76 : dp_mc 76 = 13000 := by decide +kernel
set_option maxRecDepth 100000 in
theorem ms_76 : dp_ms 76 = 200000 := by decide +kernel
set_option maxRecDepth 100000 in
theorem rk_76 : dp_rk 76 = 6 := by decide +kernel
set_option maxRecDepth 100000 in
theorem mL_76 : dp_mL 76 = 4 := by decide +kernel
set_option maxRecDepth 100000 in
theorem hh_76 : dp_hh 76 = [] := by decide +kernel
set_option maxRecDepth 100000 in
theorem ow_77 : dp_ow 77 = 6 := by decide +kernel
set_option maxRecDepth 100000 in
theorem mc_77 : dp_mc 77 = 600172 := by decide +kernel
set_option maxRecDepth 100000 in
theorem ms_77 : dp_ms 77 = 7300668 := by decide +kernel
set_option maxRecDepth 100000 in
theorem rk_77 : dp_rk 77 = 4 := by decide +kernel
set_option maxRecDepth 100000 in
theorem mL_77 : dp_mL 77 = 19 := by decide +kernel
set_option maxRecDepth 100000 in
theorem hh_77 : dp_hh 77 = [] := by decide +kernel
set_option maxRecDepth 100000 in
theorem ti_0_0 : dp_tab 0 0 = (.aload_n 1, 1) := by decide +kernel
set_option maxRecDepth 100000 in
theorem ti_0_1 : dp_tab 0 1 = (.getfield 9, 3) := by decide +kernel
set_option maxRecDepth 100000 in
theorem ti_0_4 : dp_tab 0 4 = (.iconst 0, 1) := by decide +kernel
set_option maxRecDepth 100000 in
theorem ti_0_5 : dp_tab 0 5 = (.aload_n 0, 1) := by decide +kernel
set_option maxRecDepth 100000 in
theorem ti_0_6 : dp_tab 0 6 = (.getfield 9, 3) := by decide +kernel
set_option maxRecDepth 100000 in
theorem ti_0_9 : dp_tab 0 9 = (.iconst 0, 1) := by decide +kernel
set_option maxRecDepth 100000 in
theorem ti_0_10 : dp_tab 0 10 = (.bipush 16, 2) := by decide +kernel
set_option maxRecDepth 100000 in
theorem ti_0_12 : dp_tab 0 12 = (.invokestatic 24, 3) := by decide +kernel
set_option maxRecDepth 100000 in
theorem ti_0_15 : dp_tab 0 15 = (.aload_n 1, 1) := by decide +kernel
set_option maxRecDepth 100000 in
theorem ti_0_16 : dp_tab 0 16 = (.getfield 15, 3) := by decide +kernel
set_option maxRecDepth 100000 in
theorem ti_0_19 : dp_tab 0 19 = (.iconst 0, 1) := by decide +kernel
set_option maxRecDepth 100000 in
theorem ti_0_20 : dp_tab 0 20 = (.aload_n 0, 1) := by decide +kernel
set_option maxRecDepth 100000 in
theorem ti_0_21 : dp_tab 0 21 = (.getfield 15, 3) := by decide +kernel
set_option maxRecDepth 100000 in
theorem ti_0_24 : dp_tab 0 24 = (.iconst 0, 1) := by decide +kernel
set_option maxRecDepth 100000 in
theorem ti_0_25 : dp_tab 0 25 = (.bipush 6, 2) := by decide +kernel
set_option maxRecDepth 100000 in
theorem ti_0_27 : dp_tab 0 27 = (.invokestatic 24, 3) := by decide +kernel
set_option maxRecDepth 100000 in
theorem ti_0_30 : dp_tab 0 30 = (.aload_n 1, 1) := by decide +kernel
set_option maxRecDepth 100000 in
theorem ti_0_31 : dp_tab 0 31 = (.getfield 18, 3) := by decide +kernel
set_option maxRecDepth 100000 in
theorem ti_0_34 : dp_tab 0 34 = (.iconst 0, 1) := by decide +kernel
set_option maxRecDepth 100000 in
theorem ti_0_35 : dp_tab 0 35 = (.aload_n 0, 1) := by decide +kernel
set_option maxRecDepth 100000 in
theorem ti_0_36 : dp_tab 0 36 = (.getfield 18, 3) := by decide +kernel
set_option maxRecDepth 100000 in
theorem ti_0_39 : dp_tab 0 39 = (.iconst 0, 1) := by decide +kernel
set_option maxRecDepth 100000 in
theorem ti_0_40 : dp_tab 0 40 = (.bipush 6, 2) := by decide +kernel
set_option maxRecDepth 100000 in
theorem ti_0_42 : dp_tab 0 42 = (.invokestatic 24, 3) := by decide +kernel
set_option maxRecDepth 100000 in
theorem ti_0_45 : dp_tab 0 45 = (.aload_n 1, 1) := by decide +kernel
set_option maxRecDepth 100000 in
theorem ti_0_46 : dp_tab 0 46 = (.getfield 21, 3) := by decide +kernel
set_option maxRecDepth 100000 in
theorem ti_0_49 : dp_tab 0 49 = (.iconst 0, 1) := by decide +kernel
set_option maxRecDepth 100000 in
theorem ti_0_50 : dp_tab 0 50 = (.aload_n 0, 1) := by decide +kernel
set_option maxRecDepth 100000 in
theorem ti_0_51 : dp_tab 0 51 = (.getfield 21, 3) := by decide +kernel
set_option maxRecDepth 100000 in
theorem ti_0_54 : dp_tab 0 54 = (.iconst 0, 1) := by decide +kernel
set_option maxRecDepth 100000 in
theorem ti_0_55 : dp_tab 0 55 = (.bipush 6, 2) := by decide +kernel
set_option maxRecDepth 100000 in
theorem ti_0_57 : dp_tab 0 57 = (.invokestatic 24, 3) := by decide +kernel
set_option maxRecDepth 100000 in
theorem ti_0_60 : dp_tab 0 60 = (.aload_n 0, 1) := by decide +kernel
set_option maxRecDepth 100000 in
theorem ti_0_61 : dp_tab 0 61 = (.aload_n 1, 1) := by decide +kernel
set_option maxRecDepth 100000 in
theorem ti_0_62 : dp_tab 0 62 = (.getfield 30, 3) := by decide +kernel
set_option maxRecDepth 100000 in
theorem ti_0_65 : dp_tab 0 65 = (.putfield 30, 3) := by decide +kernel
set_option maxRecDepth 100000 in
theorem ti_0_68 : dp_tab 0 68 = (.return_, 1) := by decide +kernel
set_option maxRecDepth 100000 in
theorem ti_1_0 : dp_tab 1 0 = (.aload_n 0, 1) := by decide +kernel
set_option maxRecDepth 100000 in
theorem ti_1_1 : dp_tab 1 1 = (.getfield 21, 3) := by decide +kernel
set_option maxRecDepth 100000 in
theorem ti_1_4 : dp_tab 1 4 = (.iload_n 1, 1) := by decide +kernel
set_option maxRecDepth 100000 in
theorem ti_1_5 : dp_tab 1 5 = (.iaload, 1) := by decide +kernel
set_option maxRecDepth 100000 in
theorem ti_1_6 : dp_tab 1 6 = (.iload_n 2, 1) := by decide +kernel
set_option maxRecDepth 100000 in
theorem ti_1_7 : dp_tab 1 7 = (.ishr, 1) := by decide +kernel
set_option maxRecDepth 100000 in
theorem ti_1_8 : dp_tab 1 8 = (.iconst 1, 1) := by decide +kernel
set_option maxRecDepth 100000 in
theorem ti_1_9 : dp_tab 1 9 = (.iand, 1) := by decide +kernel
set_option maxRecDepth 100000 in
theorem ti_1_10 : dp_tab 1 10 = (.iconst 1, 1) := by decide +kernel
set_option maxRecDepth 100000 in
theorem ti_1_11 : dp_tab 1 11 = (.if_icmp .ne 7, 3) := by decide +kernel
set_option maxRecDepth 100000 in
theorem ti_1_14 : dp_tab 1 14 = (.iconst 1, 1) := by decide +kernel
set_option maxRecDepth 100000 in
theorem ti_1_15 : dp_tab 1 15 = (.goto 4, 3) := by decide +kernel
set_option maxRecDepth 100000 in
theorem ti_1_18 : dp_tab 1 18 = (.iconst 0, 1) := by decide +kernel
set_option maxRecDepth 100000 in
theorem ti_1_19 : dp_tab 1 19 = (.ireturn, 1) := by decide +kernel
set_option maxRecDepth 100000 in
theorem ti_2_0 : dp_tab 2 0 = (.aload_n 0, 1) := by decide +kernel
set_option maxRecDepth 100000 in
theorem ti_2_1 : dp_tab 2 1 = (.getfield 15, 3) := by decide +kernel
set_option maxRecDepth 100000 in
theorem ti_2_4 : dp_tab 2 4 = (.iload_n 1, 1) := by decide +kernel
set_option maxRecDepth 100000 in
theorem ti_2_5 : dp_tab 2 5 = (.dup2, 1) := by decide +kernel
set_option maxRecDepth 100000 in
theorem ti_2_6 : dp_tab 2 6 = (.iaload, 1) := by decide +kernel
set_option maxRecDepth 100000 in
theorem ti_2_7 : dp_tab 2 7 = (.iload_n 3, 1) := by decide +kernel
set_option maxRecDepth 100000 in
theorem ti_2_8 : dp_tab 2 8 = (.isub, 1) := by decide +kernel
set_option maxRecDepth 100000 in
theorem ti_2_9 : dp_tab 2 9 = (.iastore, 1) := by decide +kernel
set_option maxRecDepth 100000 in
theorem ti_2_10 : dp_tab 2 10 = (.aload_n 0, 1) := by decide +kernel
set_option maxRecDepth 100000 in
theorem ti_2_11 : dp_tab 2 11 = (.getfield 18, 3) := by decide +kernel
set_option maxRecDepth 100000 in
theorem ti_2_14 : dp_tab 2 14 = (.iload_n 1, 1) := by decide +kernel
set_option maxRecDepth 100000 in
theorem ti_2_15 : dp_tab 2 15 = (.dup2, 1) := by decide +kernel
set_option maxRecDepth 100000 in
theorem ti_2_16 : dp_tab 2 16 = (.iaload, 1) := by decide +kernel
set_option maxRecDepth 100000 in
theorem ti_2_17 : dp_tab 2 17 = (.iload_n 3, 1) := by decide +kernel
set_option maxRecDepth 100000 in
theorem ti_2_18 : dp_tab 2 18 = (.iadd, 1) := by decide +kernel
set_option maxRecDepth 100000 in
theorem ti_2_19 : dp_tab 2 19 = (.iastore, 1) := by decide +kernel
set_option maxRecDepth 100000 in
theorem ti_2_20 : dp_tab 2 20 = (.aload_n 0, 1) := by decide +kernel
set_option maxRecDepth 100000 in
theorem ti_2_21 : dp_tab 2 21 = (.getfield 21, 3) := by decide +kernel
set_option maxRecDepth 100000 in
theorem ti_2_24 : dp_tab 2 24 = (.iload_n 1, 1) := by decide +kernel
set_option maxRecDepth 100000 in
theorem ti_2_25 : dp_tab 2 25 = (.dup2, 1) := by decide +kernel
set_option maxRecDepth 100000 in
theorem ti_2_26 : dp_tab 2 26 = (.iaload, 1) := by decide +kernel
set_option maxRecDepth 100000 in
theorem ti_2_27 : dp_tab 2 27 = (.iconst 1, 1) := by decide +kernel
set_option maxRecDepth 100000 in
theorem ti_2_28 : dp_tab 2 28 = (.iload_n 2, 1) := by decide +kernel
set_option maxRecDepth 100000 in
theorem ti_2_29 : dp_tab 2 29 = (.ishl, 1) := by decide +kernel
set_option maxRecDepth 100000 in
theorem ti_2_30 : dp_tab 2 30 = (.ior, 1) := by decide +kernel
set_option maxRecDepth 100000 in
theorem ti_2_31 : dp_tab 2 31 = (.iastore, 1) := by decide +kernel
set_option maxRecDepth 100000 in
theorem ti_2_32 : dp_tab 2 32 = (.return_, 1) := by decide +kernel
set_option maxRecDepth 100000 in
theorem ti_3_0 : dp_tab 3 0 = (.iconst 0, 1) := by decide +kernel
set_option maxRecDepth 100000 in
theorem ti_3_1 : dp_tab 3 1 = (.istore_n 2, 1) := by decide +kernel
set_option maxRecDepth 100000 in
theorem ti_3_2 : dp_tab 3 2 = (.iload_n 2, 1) := by decide +kernel
set_option maxRecDepth 100000 in
theorem ti_3_3 : dp_tab 3 3 = (.iload_n 1, 1) := by decide +kernel
set_option maxRecDepth 100000 in
theorem ti_3_4 : dp_tab 3 4 = (.if_icmp .ge 19, 3) := by decide +kernel
set_option maxRecDepth 100000 in
theorem ti_3_7 : dp_tab 3 7 = (.aload_n 0, 1) := by decide +kernel
set_option maxRecDepth 100000 in
theorem ti_3_8 : dp_tab 3 8 = (.getfield 9, 3) := by decide +kernel
set_option maxRecDepth 100000 in
theorem ti_3_11 : dp_tab 3 11 = (.iload_n 2, 1) := by decide +kernel
set_option maxRecDepth 100000 in
theorem ti_3_12 : dp_tab 3 12 = (.dup2, 1) := by decide +kernel
set_option maxRecDepth 100000 in
theorem ti_3_13 : dp_tab 3 13 = (.iaload, 1) := by decide +kernel
set_option maxRecDepth 100000 in
theorem ti_3_14 : dp_tab 3 14 = (.iconst 1, 1) := by decide +kernel
set_option maxRecDepth 100000 in
theorem ti_3_15 : dp_tab 3 15 = (.iadd, 1) := by decide +kernel
set_option maxRecDepth 100000 in
theorem ti_3_16 : dp_tab 3 16 = (.iastore, 1) := by decide +kernel
set_option maxRecDepth 100000 in
theorem ti_3_17 : dp_tab 3 17 = (.iinc 2 1, 3) := by decide +kernel
set_option maxRecDepth 100000 in
theorem ti_3_20 : dp_tab 3 20 = (.goto (-18), 3) := by decide +kernel
set_option maxRecDepth 100000 in
theorem ti_3_23 : dp_tab 3 23 = (.aload_n 0, 1) := by decide +kernel
set_option maxRecDepth 100000 in
theorem ti_3_24 : dp_tab 3 24 = (.dup, 1) := by decide +kernel
set_option maxRecDepth 100000 in
theorem ti_3_25 : dp_tab 3 25 = (.getfield 30, 3) := by decide +kernel
set_option maxRecDepth 100000 in
theorem ti_3_28 : dp_tab 3 28 = (.iconst 1, 1) := by decide +kernel
set_option maxRecDepth 100000 in
theorem ti_3_29 : dp_tab 3 29 = (.iadd, 1) := by decide +kernel
set_option maxRecDepth 100000 in
theorem ti_3_30 : dp_tab 3 30 = (.putfield 30, 3) := by decide +kernel
set_option maxRecDepth 100000 in
theorem ti_3_33 : dp_tab 3 33 = (.return_, 1) := by decide +kernel
set_option maxRecDepth 100000 in
theorem ti_4_0 : dp_tab 4 0 = (.iconst 0, 1) := by decide +kernel
set_option maxRecDepth 100000 in
theorem ti_4_1 : dp_tab 4 1 = (.istore_n 2, 1) := by decide +kernel
set_option maxRecDepth 100000 in
theorem ti_4_2 : dp_tab 4 2 = (.iconst 0, 1) := by decide +kernel
set_option maxRecDepth 100000 in
theorem ti_4_3 : dp_tab 4 3 = (.istore_n 3, 1) := by decide +kernel
set_option maxRecDepth 100000 in
theorem ti_4_4 : dp_tab 4 4 = (.iload_n 3, 1) := by decide +kernel
set_option maxRecDepth 100000 in
theorem ti_4_5 : dp_tab 4 5 = (.bipush 6, 2) := by decide +kernel
set_option maxRecDepth 100000 in
theorem ti_4_7 : dp_tab 4 7 = (.if_icmp .ge 21, 3) := by decide +kernel
set_option maxRecDepth 100000 in
theorem ti_4_10 : dp_tab 4 10 = (.aload_n 0, 1) := by decide +kernel
set_option maxRecDepth 100000 in
theorem ti_4_11 : dp_tab 4 11 = (.iload_n 3, 1) := by decide +kernel
set_option maxRecDepth 100000 in
theorem ti_4_12 : dp_tab 4 12 = (.iload_n 1, 1) := by decide +kernel
set_option maxRecDepth 100000 in
theorem ti_4_13 : dp_tab 4 13 = (.invokevirtual 34, 3) := by decide +kernel
set_option maxRecDepth 100000 in
theorem ti_4_16 : dp_tab 4 16 = (.ifCond .eq 6, 3) := by decide +kernel
set_option maxRecDepth 100000 in
theorem ti_4_19 : dp_tab 4 19 = (.iinc 2 1, 3) := by decide +kernel
set_option maxRecDepth 100000 in
theorem ti_4_22 : dp_tab 4 22 = (.iinc 3 1, 3) := by decide +kernel
set_option maxRecDepth 100000 in
theorem ti_4_25 : dp_tab 4 25 = (.goto (-21), 3) := by decide +kernel
set_option maxRecDepth 100000 in
theorem ti_4_28 : dp_tab 4 28 = (.iload_n 2, 1) := by decide +kernel
set_option maxRecDepth 100000 in
theorem ti_4_29 : dp_tab 4 29 = (.ireturn, 1) := by decide +kernel
set_option maxRecDepth 100000 in
theorem ti_5_0 : dp_tab 5 0 = (.iconst 0, 1) := by decide +kernel
set_option maxRecDepth 100000 in
theorem ti_5_1 : dp_tab 5 1 = (.istore_n 1, 1) := by decide +kernel
set_option maxRecDepth 100000 in
theorem ti_5_2 : dp_tab 5 2 = (.iconst 0, 1) := by decide +kernel
set_option maxRecDepth 100000 in
theorem ti_5_3 : dp_tab 5 3 = (.istore_n 2, 1) := by decide +kernel
set_option maxRecDepth 100000 in
theorem ti_5_4 : dp_tab 5 4 = (.iload_n 2, 1) := by decide +kernel
set_option maxRecDepth 100000 in
theorem ti_5_5 : dp_tab 5 5 = (.bipush 6, 2) := by decide +kernel
set_option maxRecDepth 100000 in
theorem ti_5_7 : dp_tab 5 7 = (.if_icmp .ge 21, 3) := by decide +kernel
set_option maxRecDepth 100000 in
theorem ti_5_10 : dp_tab 5 10 = (.iload_n 1, 1) := by decide +kernel
set_option maxRecDepth 100000 in
theorem ti_5_11 : dp_tab 5 11 = (.aload_n 0, 1) := by decide +kernel
set_option maxRecDepth 100000 in
theorem ti_5_12 : dp_tab 5 12 = (.getfield 21, 3) := by decide +kernel
set_option maxRecDepth 100000 in
theorem ti_5_15 : dp_tab 5 15 = (.iload_n 2, 1) := by decide +kernel
set_option maxRecDepth 100000 in
theorem ti_5_16 : dp_tab 5 16 = (.iaload, 1) := by decide +kernel
set_option maxRecDepth 100000 in
theorem ti_5_17 : dp_tab 5 17 = (.invokestatic 38, 3) := by decide +kernel
set_option maxRecDepth 100000 in
theorem ti_5_20 : dp_tab 5 20 = (.iadd, 1) := by decide +kernel
set_option maxRecDepth 100000 in
theorem ti_5_21 : dp_tab 5 21 = (.istore_n 1, 1) := by decide +kernel
set_option maxRecDepth 100000 in
theorem ti_5_22 : dp_tab 5 22 = (.iinc 2 1, 3) := by decide +kernel
set_option maxRecDepth 100000 in
theorem ti_5_25 : dp_tab 5 25 = (.goto (-21), 3) := by decide +kernel
set_option maxRecDepth 100000 in
theorem ti_5_28 : dp_tab 5 28 = (.iload_n 1, 1) := by decide +kernel
set_option maxRecDepth 100000 in
theorem ti_5_29 : dp_tab 5 29 = (.ireturn, 1) := by decide +kernel
set_option maxRecDepth 100000 in
theorem ti_6_0 : dp_tab 6 0 = (.iconst 0, 1) := by decide +kernel
set_option maxRecDepth 100000 in
theorem ti_6_1 : dp_tab 6 1 = (.istore_n 1, 1) := by decide +kernel
set_option maxRecDepth 100000 in
theorem ti_6_2 : dp_tab 6 2 = (.iconst 0, 1) := by decide +kernel
set_option maxRecDepth 100000 in
theorem ti_6_3 : dp_tab 6 3 = (.istore_n 2, 1) := by decide +kernel
set_option maxRecDepth 100000 in
theorem ti_6_4 : dp_tab 6 4 = (.iload_n 2, 1) := by decide +kernel
set_option maxRecDepth 100000 in
theorem ti_6_5 : dp_tab 6 5 = (.bipush 6, 2) := by decide +kernel
set_option maxRecDepth 100000 in
theorem ti_6_7 : dp_tab 6 7 = (.if_icmp .ge 18, 3) := by decide +kernel
set_option maxRecDepth 100000 in
theorem ti_6_10 : dp_tab 6 10 = (.iload_n 1, 1) := by decide +kernel
set_option maxRecDepth 100000 in
theorem ti_6_11 : dp_tab 6 11 = (.aload_n 0, 1) := by decide +kernel
set_option maxRecDepth 100000 in
theorem ti_6_12 : dp_tab 6 12 = (.getfield 18, 3) := by decide +kernel
set_option maxRecDepth 100000 in
theorem ti_6_15 : dp_tab 6 15 = (.iload_n 2, 1) := by decide +kernel
set_option maxRecDepth 100000 in
theorem ti_6_16 : dp_tab 6 16 = (.iaload, 1) := by decide +kernel
set_option maxRecDepth 100000 in
theorem ti_6_17 : dp_tab 6 17 = (.iadd, 1) := by decide +kernel
set_option maxRecDepth 100000 in
theorem ti_6_18 : dp_tab 6 18 = (.istore_n 1, 1) := by decide +kernel
set_option maxRecDepth 100000 in
theorem ti_6_19 : dp_tab 6 19 = (.iinc 2 1, 3) := by decide +kernel
set_option maxRecDepth 100000 in
theorem ti_6_22 : dp_tab 6 22 = (.goto (-18), 3) := by decide +kernel
set_option maxRecDepth 100000 in
theorem ti_6_25 : dp_tab 6 25 = (.iload_n 1, 1) := by decide +kernel
set_option maxRecDepth 100000 in
theorem ti_6_26 : dp_tab 6 26 = (.ireturn, 1) := by decide +kernel
set_option maxRecDepth 100000 in
theorem ti_7_0 : dp_tab 7 0 = (.iconst 0, 1) := by decide +kernel
set_option maxRecDepth 100000 in
theorem ti_7_1 : dp_tab 7 1 = (.istore_n 3, 1) := by decide +kernel
set_option maxRecDepth 100000 in
theorem ti_7_2 : dp_tab 7 2 = (.iload_n 3, 1) := by decide +kernel
set_option maxRecDepth 100000 in
theorem ti_7_3 : dp_tab 7 3 = (.aload_n 0, 1) := by decide +kernel
set_option maxRecDepth 100000 in
theorem ti_7_4 : dp_tab 7 4 = (.getfield 16, 3) := by decide +kernel
set_option maxRecDepth 100000 in
theorem ti_7_7 : dp_tab 7 7 = (.iload_n 1, 1) := by decide +kernel
set_option maxRecDepth 100000 in
theorem ti_7_8 : dp_tab 7 8 = (.iaload, 1) := by decide +kernel
set_option maxRecDepth 100000 in
theorem ti_7_9 : dp_tab 7 9 = (.if_icmp .ge 23, 3) := by decide +kernel
set_option maxRecDepth 100000 in
theorem ti_7_12 : dp_tab 7 12 = (.aload_n 0, 1) := by decide +kernel
set_option maxRecDepth 100000 in
theorem ti_7_13 : dp_tab 7 13 = (.getfield 11, 3) := by decide +kernel
set_option maxRecDepth 100000 in
theorem ti_7_16 : dp_tab 7 16 = (.iload_n 1, 1) := by decide +kernel
set_option maxRecDepth 100000 in
theorem ti_7_17 : dp_tab 7 17 = (.aaload, 1) := by decide +kernel
set_option maxRecDepth 100000 in
theorem ti_7_18 : dp_tab 7 18 = (.iload_n 3, 1) := by decide +kernel
set_option maxRecDepth 100000 in
theorem ti_7_19 : dp_tab 7 19 = (.iaload, 1) := by decide +kernel
set_option maxRecDepth 100000 in
theorem ti_7_20 : dp_tab 7 20 = (.iload_n 2, 1) := by decide +kernel
set_option maxRecDepth 100000 in
theorem ti_7_21 : dp_tab 7 21 = (.if_icmp .ne 5, 3) := by decide +kernel
set_option maxRecDepth 100000 in
theorem ti_7_24 : dp_tab 7 24 = (.iload_n 3, 1) := by decide +kernel
set_option maxRecDepth 100000 in
theorem ti_7_25 : dp_tab 7 25 = (.ireturn, 1) := by decide +kernel
set_option maxRecDepth 100000 in
theorem ti_7_26 : dp_tab 7 26 = (.iinc 3 1, 3) := by decide +kernel
set_option maxRecDepth 100000 in
theorem ti_7_29 : dp_tab 7 29 = (.goto (-27), 3) := by decide +kernel
set_option maxRecDepth 100000 in
theorem ti_7_32 : dp_tab 7 32 = (.iconst (-1), 1) := by decide +kernel
set_option maxRecDepth 100000 in
theorem ti_7_33 : dp_tab 7 33 = (.ireturn, 1) := by decide +kernel
set_option maxRecDepth 100000 in
theorem ti_8_0 : dp_tab 8 0 = (.aload_n 0, 1) := by decide +kernel
set_option maxRecDepth 100000 in
theorem ti_8_1 : dp_tab 8 1 = (.getfield 26, 3) := by decide +kernel
set_option maxRecDepth 100000 in
theorem ti_8_4 : dp_tab 8 4 = (.iconst 0, 1) := by decide +kernel
set_option maxRecDepth 100000 in
theorem ti_8_5 : dp_tab 8 5 = (.invokestatic 29, 3) := by decide +kernel
set_option maxRecDepth 100000 in
theorem ti_8_8 : dp_tab 8 8 = (.iconst 0, 1) := by decide +kernel
set_option maxRecDepth 100000 in
theorem ti_8_9 : dp_tab 8 9 = (.istore_n 1, 1) := by decide +kernel
set_option maxRecDepth 100000 in
theorem ti_8_10 : dp_tab 8 10 = (.iload_n 1, 1) := by decide +kernel
set_option maxRecDepth 100000 in
theorem ti_8_11 : dp_tab 8 11 = (.aload_n 0, 1) := by decide +kernel
set_option maxRecDepth 100000 in
theorem ti_8_12 : dp_tab 8 12 = (.getfield 35, 3) := by decide +kernel
set_option maxRecDepth 100000 in
theorem ti_8_15 : dp_tab 8 15 = (.if_icmp .ge 14, 3) := by decide +kernel
set_option maxRecDepth 100000 in
theorem ti_8_18 : dp_tab 8 18 = (.aload_n 0, 1) := by decide +kernel
set_option maxRecDepth 100000 in
theorem ti_8_19 : dp_tab 8 19 = (.iload_n 1, 1) := by decide +kernel
set_option maxRecDepth 100000 in
theorem ti_8_20 : dp_tab 8 20 = (.invokevirtual 39, 3) := by decide +kernel
set_option maxRecDepth 100000 in
theorem ti_8_23 : dp_tab 8 23 = (.iinc 1 1, 3) := by decide +kernel
set_option maxRecDepth 100000 in
theorem ti_8_26 : dp_tab 8 26 = (.goto (-16), 3) := by decide +kernel
set_option maxRecDepth 100000 in
theorem ti_8_29 : dp_tab 8 29 = (.return_, 1) := by decide +kernel
set_option maxRecDepth 100000 in
theorem ti_9_0 : dp_tab 9 0 = (.aload_n 0, 1) := by decide +kernel
set_option maxRecDepth 100000 in
theorem ti_9_1 : dp_tab 9 1 = (.getfield 23, 3) := by decide +kernel
set_option maxRecDepth 100000 in
theorem ti_9_4 : dp_tab 9 4 = (.iload_n 1, 1) := by decide +kernel
set_option maxRecDepth 100000 in
theorem ti_9_5 : dp_tab 9 5 = (.aaload, 1) := by decide +kernel
set_option maxRecDepth 100000 in
theorem ti_9_6 : dp_tab 9 6 = (.astore_n 2, 1) := by decide +kernel
set_option maxRecDepth 100000 in
theorem ti_9_7 : dp_tab 9 7 = (.aload_n 2, 1) := by decide +kernel
set_option maxRecDepth 100000 in
theorem ti_9_8 : dp_tab 9 8 = (.iconst 0, 1) := by decide +kernel
set_option maxRecDepth 100000 in
theorem ti_9_9 : dp_tab 9 9 = (.invokestatic 29, 3) := by decide +kernel
set_option maxRecDepth 100000 in
theorem ti_9_12 : dp_tab 9 12 = (.iconst 0, 1) := by decide +kernel
set_option maxRecDepth 100000 in
theorem ti_9_13 : dp_tab 9 13 = (.istore_n 3, 1) := by decide +kernel
set_option maxRecDepth 100000 in
theorem ti_9_14 : dp_tab 9 14 = (.iload_n 3, 1) := by decide +kernel
set_option maxRecDepth 100000 in
theorem ti_9_15 : dp_tab 9 15 = (.aload_n 0, 1) := by decide +kernel
set_option maxRecDepth 100000 in
theorem ti_9_16 : dp_tab 9 16 = (.getfield 20, 3) := by decide +kernel
set_option maxRecDepth 100000 in
theorem ti_9_19 : dp_tab 9 19 = (.iload_n 1, 1) := by decide +kernel
set_option maxRecDepth 100000 in
theorem ti_9_20 : dp_tab 9 20 = (.iaload, 1) := by decide +kernel
set_option maxRecDepth 100000 in
theorem ti_9_21 : dp_tab 9 21 = (.if_icmp .ge 43, 3) := by decide +kernel
set_option maxRecDepth 100000 in
theorem ti_9_24 : dp_tab 9 24 = (.aload_n 0, 1) := by decide +kernel
set_option maxRecDepth 100000 in
theorem ti_9_25 : dp_tab 9 25 = (.aload_n 0, 1) := by decide +kernel
set_option maxRecDepth 100000 in
theorem ti_9_26 : dp_tab 9 26 = (.getfield 17, 3) := by decide +kernel
set_option maxRecDepth 100000 in
theorem ti_9_29 : dp_tab 9 29 = (.iload_n 1, 1) := by decide +kernel
set_option maxRecDepth 100000 in
theorem ti_9_30 : dp_tab 9 30 = (.aaload, 1) := by decide +kernel
set_option maxRecDepth 100000 in
theorem ti_9_31 : dp_tab 9 31 = (.iload_n 3, 1) := by decide +kernel
set_option maxRecDepth 100000 in
theorem ti_9_32 : dp_tab 9 32 = (.iaload, 1) := by decide +kernel
set_option maxRecDepth 100000 in
theorem ti_9_33 : dp_tab 9 33 = (.invokevirtual 43, 3) := by decide +kernel
set_option maxRecDepth 100000 in
theorem ti_9_36 : dp_tab 9 36 = (.istore 4, 2) := by decide +kernel
set_option maxRecDepth 100000 in
theorem ti_9_38 : dp_tab 9 38 = (.iload 4, 2) := by decide +kernel
set_option maxRecDepth 100000 in
theorem ti_9_40 : dp_tab 9 40 = (.ifCond .lt 18, 3) := by decide +kernel
set_option maxRecDepth 100000 in
theorem ti_9_43 : dp_tab 9 43 = (.iload 4, 2) := by decide +kernel
set_option maxRecDepth 100000 in
theorem ti_9_45 : dp_tab 9 45 = (.bipush 20, 2) := by decide +kernel
set_option maxRecDepth 100000 in
theorem ti_9_47 : dp_tab 9 47 = (.if_icmp .ge 11, 3) := by decide +kernel
set_option maxRecDepth 100000 in
theorem ti_9_50 : dp_tab 9 50 = (.aload_n 2, 1) := by decide +kernel
set_option maxRecDepth 100000 in
theorem ti_9_51 : dp_tab 9 51 = (.iload 4, 2) := by decide +kernel
set_option maxRecDepth 100000 in
theorem ti_9_53 : dp_tab 9 53 = (.dup2, 1) := by decide +kernel
set_option maxRecDepth 100000 in
theorem ti_9_54 : dp_tab 9 54 = (.iaload, 1) := by decide +kernel
set_option maxRecDepth 100000 in
theorem ti_9_55 : dp_tab 9 55 = (.iconst 1, 1) := by decide +kernel
set_option maxRecDepth 100000 in
theorem ti_9_56 : dp_tab 9 56 = (.iadd, 1) := by decide +kernel
set_option maxRecDepth 100000 in
theorem ti_9_57 : dp_tab 9 57 = (.iastore, 1) := by decide +kernel
set_option maxRecDepth 100000 in
theorem ti_9_58 : dp_tab 9 58 = (.iinc 3 1, 3) := by decide +kernel
set_option maxRecDepth 100000 in
theorem ti_9_61 : dp_tab 9 61 = (.goto (-47), 3) := by decide +kernel
set_option maxRecDepth 100000 in
theorem ti_9_64 : dp_tab 9 64 = (.iconst 0, 1) := by decide +kernel
set_option maxRecDepth 100000 in
theorem ti_9_65 : dp_tab 9 65 = (.istore_n 3, 1) := by decide +kernel
set_option maxRecDepth 100000 in
theorem ti_9_66 : dp_tab 9 66 = (.iload_n 3, 1) := by decide +kernel
set_option maxRecDepth 100000 in
theorem ti_9_67 : dp_tab 9 67 = (.bipush 20, 2) := by decide +kernel
set_option maxRecDepth 100000 in
theorem ti_9_69 : dp_tab 9 69 = (.if_icmp .ge 25, 3) := by decide +kernel
set_option maxRecDepth 100000 in
theorem ti_9_72 : dp_tab 9 72 = (.aload_n 2, 1) := by decide +kernel
set_option maxRecDepth 100000 in
theorem ti_9_73 : dp_tab 9 73 = (.iload_n 3, 1) := by decide +kernel
set_option maxRecDepth 100000 in
theorem ti_9_74 : dp_tab 9 74 = (.iaload, 1) := by decide +kernel
set_option maxRecDepth 100000 in
theorem ti_9_75 : dp_tab 9 75 = (.ifCond .le 13, 3) := by decide +kernel
set_option maxRecDepth 100000 in
theorem ti_9_78 : dp_tab 9 78 = (.aload_n 0, 1) := by decide +kernel
set_option maxRecDepth 100000 in
theorem ti_9_79 : dp_tab 9 79 = (.getfield 26, 3) := by decide +kernel
set_option maxRecDepth 100000 in
theorem ti_9_82 : dp_tab 9 82 = (.iload_n 3, 1) := by decide +kernel
set_option maxRecDepth 100000 in
theorem ti_9_83 : dp_tab 9 83 = (.dup2, 1) := by decide +kernel
set_option maxRecDepth 100000 in
theorem ti_9_84 : dp_tab 9 84 = (.iaload, 1) := by decide +kernel
set_option maxRecDepth 100000 in
theorem ti_9_85 : dp_tab 9 85 = (.iconst 1, 1) := by decide +kernel
set_option maxRecDepth 100000 in
theorem ti_9_86 : dp_tab 9 86 = (.iadd, 1) := by decide +kernel
set_option maxRecDepth 100000 in
theorem ti_9_87 : dp_tab 9 87 = (.iastore, 1) := by decide +kernel
set_option maxRecDepth 100000 in
theorem ti_9_88 : dp_tab 9 88 = (.iinc 3 1, 3) := by decide +kernel
set_option maxRecDepth 100000 in
theorem ti_9_91 : dp_tab 9 91 = (.goto (-25), 3) := by decide +kernel
set_option maxRecDepth 100000 in
theorem ti_9_94 : dp_tab 9 94 = (.return_, 1) := by decide +kernel
set_option maxRecDepth 100000 in
theorem ti_10_0 : dp_tab 10 0 = (.iload_n 1, 1) := by decide +kernel
set_option maxRecDepth 100000 in
theorem ti_10_1 : dp_tab 10 1 = (.ifCond .lt 9, 3) := by decide +kernel
set_option maxRecDepth 100000 in
theorem ti_10_4 : dp_tab 10 4 = (.iload_n 1, 1) := by decide +kernel
set_option maxRecDepth 100000 in
theorem ti_10_5 : dp_tab 10 5 = (.bipush 40, 2) := by decide +kernel
set_option maxRecDepth 100000 in
theorem ti_10_7 : dp_tab 10 7 = (.if_icmp .lt 7, 3) := by decide +kernel
set_option maxRecDepth 100000 in
theorem ti_10_10 : dp_tab 10 10 = (.iconst (-1), 1) := by decide +kernel
set_option maxRecDepth 100000 in
theorem ti_10_11 : dp_tab 10 11 = (.goto 9, 3) := by decide +kernel
set_option maxRecDepth 100000 in
theorem ti_10_14 : dp_tab 10 14 = (.aload_n 0, 1) := by decide +kernel
set_option maxRecDepth 100000 in
theorem ti_10_15 : dp_tab 10 15 = (.getfield 9, 3) := by decide +kernel
set_option maxRecDepth 100000 in
theorem ti_10_18 : dp_tab 10 18 = (.iload_n 1, 1) := by decide +kernel
set_option maxRecDepth 100000 in
theorem ti_10_19 : dp_tab 10 19 = (.iaload, 1) := by decide +kernel
set_option maxRecDepth 100000 in
theorem ti_10_20 : dp_tab 10 20 = (.ireturn, 1) := by decide +kernel
set_option maxRecDepth 100000 in
theorem ti_11_0 : dp_tab 11 0 = (.iload_n 1, 1) := by decide +kernel
set_option maxRecDepth 100000 in
theorem ti_11_1 : dp_tab 11 1 = (.ifCond .lt 9, 3) := by decide +kernel
set_option maxRecDepth 100000 in
theorem ti_11_4 : dp_tab 11 4 = (.iload_n 1, 1) := by decide +kernel
set_option maxRecDepth 100000 in
theorem ti_11_5 : dp_tab 11 5 = (.bipush 20, 2) := by decide +kernel
set_option maxRecDepth 100000 in
theorem ti_11_7 : dp_tab 11 7 = (.if_icmp .lt 7, 3) := by decide +kernel
set_option maxRecDepth 100000 in
theorem ti_11_10 : dp_tab 11 10 = (.iconst 0, 1) := by decide +kernel
set_option maxRecDepth 100000 in
theorem ti_11_11 : dp_tab 11 11 = (.goto 9, 3) := by decide +kernel
set_option maxRecDepth 100000 in
theorem ti_11_14 : dp_tab 11 14 = (.aload_n 0, 1) := by decide +kernel
set_option maxRecDepth 100000 in
theorem ti_11_15 : dp_tab 11 15 = (.getfield 26, 3) := by decide +kernel
set_option maxRecDepth 100000 in
theorem ti_11_18 : dp_tab 11 18 = (.iload_n 1, 1) := by decide +kernel
set_option maxRecDepth 100000 in
theorem ti_11_19 : dp_tab 11 19 = (.iaload, 1) := by decide +kernel
set_option maxRecDepth 100000 in
theorem ti_11_20 : dp_tab 11 20 = (.istore_n 2, 1) := by decide +kernel
set_option maxRecDepth 100000 in
theorem ti_11_21 : dp_tab 11 21 = (.bipush 10, 2) := by decide +kernel
set_option maxRecDepth 100000 in
theorem ti_11_23 : dp_tab 11 23 = (.aload_n 0, 1) := by decide +kernel
set_option maxRecDepth 100000 in
theorem ti_11_24 : dp_tab 11 24 = (.getfield 35, 3) := by decide +kernel
set_option maxRecDepth 100000 in
theorem ti_11_27 : dp_tab 11 27 = (.iconst 1, 1) := by decide +kernel
set_option maxRecDepth 100000 in
theorem ti_11_28 : dp_tab 11 28 = (.iadd, 1) := by decide +kernel
set_option maxRecDepth 100000 in
theorem ti_11_29 : dp_tab 11 29 = (.imul, 1) := by decide +kernel
set_option maxRecDepth 100000 in
theorem ti_11_30 : dp_tab 11 30 = (.iload_n 2, 1) := by decide +kernel
set_option maxRecDepth 100000 in
theorem ti_11_31 : dp_tab 11 31 = (.iconst 1, 1) := by decide +kernel
set_option maxRecDepth 100000 in
theorem ti_11_32 : dp_tab 11 32 = (.iadd, 1) := by decide +kernel
set_option maxRecDepth 100000 in
theorem ti_11_33 : dp_tab 11 33 = (.idiv, 1) := by decide +kernel
set_option maxRecDepth 100000 in
theorem ti_11_34 : dp_tab 11 34 = (.ireturn, 1) := by decide +kernel
set_option maxRecDepth 100000 in
theorem ti_12_0 : dp_tab 12 0 = (.iload_n 2, 1) := by decide +kernel
set_option maxRecDepth 100000 in
theorem ti_12_1 : dp_tab 12 1 = (.ifCond .lt 9, 3) := by decide +kernel
set_option maxRecDepth 100000 in
theorem ti_12_4 : dp_tab 12 4 = (.iload_n 2, 1) := by decide +kernel
set_option maxRecDepth 100000 in
theorem ti_12_5 : dp_tab 12 5 = (.bipush 20, 2) := by decide +kernel
set_option maxRecDepth 100000 in
theorem ti_12_7 : dp_tab 12 7 = (.if_icmp .lt 7, 3) := by decide +kernel
set_option maxRecDepth 100000 in
theorem ti_12_10 : dp_tab 12 10 = (.iconst 0, 1) := by decide +kernel
set_option maxRecDepth 100000 in
theorem ti_12_11 : dp_tab 12 11 = (.goto 11, 3) := by decide +kernel
set_option maxRecDepth 100000 in
theorem ti_12_14 : dp_tab 12 14 = (.aload_n 0, 1) := by decide +kernel
set_option maxRecDepth 100000 in
theorem ti_12_15 : dp_tab 12 15 = (.getfield 23, 3) := by decide +kernel
set_option maxRecDepth 100000 in
theorem ti_12_18 : dp_tab 12 18 = (.iload_n 1, 1) := by decide +kernel
set_option maxRecDepth 100000 in
theorem ti_12_19 : dp_tab 12 19 = (.aaload, 1) := by decide +kernel
set_option maxRecDepth 100000 in
theorem ti_12_20 : dp_tab 12 20 = (.iload_n 2, 1) := by decide +kernel
set_option maxRecDepth 100000 in
theorem ti_12_21 : dp_tab 12 21 = (.iaload, 1) := by decide +kernel
set_option maxRecDepth 100000 in
theorem ti_12_22 : dp_tab 12 22 = (.ireturn, 1) := by decide +kernel
set_option maxRecDepth 100000 in
theorem ti_13_0 : dp_tab 13 0 = (.iconst 0, 1) := by decide +kernel
set_option maxRecDepth 100000 in
theorem ti_13_1 : dp_tab 13 1 = (.istore 5, 2) := by decide +kernel
set_option maxRecDepth 100000 in
theorem ti_13_3 : dp_tab 13 3 = (.iconst 0, 1) := by decide +kernel
set_option maxRecDepth 100000 in
theorem ti_13_4 : dp_tab 13 4 = (.istore 6, 2) := by decide +kernel
set_option maxRecDepth 100000 in
theorem ti_13_6 : dp_tab 13 6 = (.iconst 0, 1) := by decide +kernel
set_option maxRecDepth 100000 in
theorem ti_13_7 : dp_tab 13 7 = (.istore 7, 2) := by decide +kernel
set_option maxRecDepth 100000 in
theorem ti_13_9 : dp_tab 13 9 = (.iload 7, 2) := by decide +kernel
set_option maxRecDepth 100000 in
theorem ti_13_11 : dp_tab 13 11 = (.iload_n 3, 1) := by decide +kernel
set_option maxRecDepth 100000 in
theorem ti_13_12 : dp_tab 13 12 = (.if_icmp .ge 48, 3) := by decide +kernel
set_option maxRecDepth 100000 in
theorem ti_13_15 : dp_tab 13 15 = (.aload_n 0, 1) := by decide +kernel
set_option maxRecDepth 100000 in
theorem ti_13_16 : dp_tab 13 16 = (.iload_n 1, 1) := by decide +kernel
set_option maxRecDepth 100000 in
theorem ti_13_17 : dp_tab 13 17 = (.aload_n 2, 1) := by decide +kernel
set_option maxRecDepth 100000 in
theorem ti_13_18 : dp_tab 13 18 = (.iload 7, 2) := by decide +kernel
set_option maxRecDepth 100000 in
theorem ti_13_20 : dp_tab 13 20 = (.iaload, 1) := by decide +kernel
set_option maxRecDepth 100000 in
theorem ti_13_21 : dp_tab 13 21 = (.invokevirtual 47, 3) := by decide +kernel
set_option maxRecDepth 100000 in
theorem ti_13_24 : dp_tab 13 24 = (.istore 8, 2) := by decide +kernel
set_option maxRecDepth 100000 in
theorem ti_13_26 : dp_tab 13 26 = (.iload 8, 2) := by decide +kernel
set_option maxRecDepth 100000 in
theorem ti_13_28 : dp_tab 13 28 = (.ifCond .le 26, 3) := by decide +kernel
set_option maxRecDepth 100000 in
theorem ti_13_31 : dp_tab 13 31 = (.iinc 6 1, 3) := by decide +kernel
set_option maxRecDepth 100000 in
theorem ti_13_34 : dp_tab 13 34 = (.iload 5, 2) := by decide +kernel
set_option maxRecDepth 100000 in
theorem ti_13_36 : dp_tab 13 36 = (.iload 8, 2) := by decide +kernel
set_option maxRecDepth 100000 in
theorem ti_13_38 : dp_tab 13 38 = (.iconst 3, 1) := by decide +kernel
set_option maxRecDepth 100000 in
theorem ti_13_39 : dp_tab 13 39 = (.invokestatic 51, 3) := by decide +kernel
set_option maxRecDepth 100000 in
theorem ti_13_42 : dp_tab 13 42 = (.aload_n 0, 1) := by decide +kernel
set_option maxRecDepth 100000 in
theorem ti_13_43 : dp_tab 13 43 = (.aload_n 2, 1) := by decide +kernel
set_option maxRecDepth 100000 in
theorem ti_13_44 : dp_tab 13 44 = (.iload 7, 2) := by decide +kernel
set_option maxRecDepth 100000 in
theorem ti_13_46 : dp_tab 13 46 = (.iaload, 1) := by decide +kernel
set_option maxRecDepth 100000 in
theorem ti_13_47 : dp_tab 13 47 = (.invokevirtual 56, 3) := by decide +kernel
set_option maxRecDepth 100000 in
theorem ti_13_50 : dp_tab 13 50 = (.imul, 1) := by decide +kernel
set_option maxRecDepth 100000 in
theorem ti_13_51 : dp_tab 13 51 = (.iadd, 1) := by decide +kernel
set_option maxRecDepth 100000 in
theorem ti_13_52 : dp_tab 13 52 = (.istore 5, 2) := by decide +kernel
set_option maxRecDepth 100000 in
theorem ti_13_54 : dp_tab 13 54 = (.iinc 7 1, 3) := by decide +kernel
set_option maxRecDepth 100000 in
theorem ti_13_57 : dp_tab 13 57 = (.goto (-48), 3) := by decide +kernel
set_option maxRecDepth 100000 in
theorem ti_13_60 : dp_tab 13 60 = (.iload_n 3, 1) := by decide +kernel
set_option maxRecDepth 100000 in
theorem ti_13_61 : dp_tab 13 61 = (.iconst 2, 1) := by decide +kernel
set_option maxRecDepth 100000 in
theorem ti_13_62 : dp_tab 13 62 = (.if_icmp .lt 18, 3) := by decide +kernel
set_option maxRecDepth 100000 in
theorem ti_13_65 : dp_tab 13 65 = (.iload 6, 2) := by decide +kernel
set_option maxRecDepth 100000 in
theorem ti_13_67 : dp_tab 13 67 = (.iload_n 3, 1) := by decide +kernel
set_option maxRecDepth 100000 in
theorem ti_13_68 : dp_tab 13 68 = (.if_icmp .ne 12, 3) := by decide +kernel
set_option maxRecDepth 100000 in
theorem ti_13_71 : dp_tab 13 71 = (.iload 5, 2) := by decide +kernel
set_option maxRecDepth 100000 in
theorem ti_13_73 : dp_tab 13 73 = (.iload 5, 2) := by decide +kernel
set_option maxRecDepth 100000 in
theorem ti_13_75 : dp_tab 13 75 = (.iconst 2, 1) := by decide +kernel
set_option maxRecDepth 100000 in
theorem ti_13_76 : dp_tab 13 76 = (.idiv, 1) := by decide +kernel
set_option maxRecDepth 100000 in
theorem ti_13_77 : dp_tab 13 77 = (.iadd, 1) := by decide +kernel
set_option maxRecDepth 100000 in
theorem ti_13_78 : dp_tab 13 78 = (.istore 5, 2) := by decide +kernel
set_option maxRecDepth 100000 in
theorem ti_13_80 : dp_tab 13 80 = (.iload 5, 2) := by decide +kernel
set_option maxRecDepth 100000 in
theorem ti_13_82 : dp_tab 13 82 = (.iconst 3, 1) := by decide +kernel
set_option maxRecDepth 100000 in
theorem ti_13_83 : dp_tab 13 83 = (.iload 4, 2) := by decide +kernel
set_option maxRecDepth 100000 in
theorem ti_13_85 : dp_tab 13 85 = (.imul, 1) := by decide +kernel
set_option maxRecDepth 100000 in
theorem ti_13_86 : dp_tab 13 86 = (.isub, 1) := by decide +kernel
set_option maxRecDepth 100000 in
theorem ti_13_87 : dp_tab 13 87 = (.iconst 0, 1) := by decide +kernel
set_option maxRecDepth 100000 in
theorem ti_13_88 : dp_tab 13 88 = (.invokestatic 59, 3) := by decide +kernel
set_option maxRecDepth 100000 in
theorem ti_13_91 : dp_tab 13 91 = (.ireturn, 1) := by decide +kernel
set_option maxRecDepth 100000 in
theorem ti_14_0 : dp_tab 14 0 = (.iconst 0, 1) := by decide +kernel
set_option maxRecDepth 100000 in
theorem ti_14_1 : dp_tab 14 1 = (.istore_n 2, 1) := by decide +kernel
set_option maxRecDepth 100000 in
theorem ti_14_2 : dp_tab 14 2 = (.iconst 0, 1) := by decide +kernel
set_option maxRecDepth 100000 in
theorem ti_14_3 : dp_tab 14 3 = (.istore_n 3, 1) := by decide +kernel
set_option maxRecDepth 100000 in
theorem ti_14_4 : dp_tab 14 4 = (.iload_n 3, 1) := by decide +kernel
set_option maxRecDepth 100000 in
theorem ti_14_5 : dp_tab 14 5 = (.bipush 20, 2) := by decide +kernel
set_option maxRecDepth 100000 in
theorem ti_14_7 : dp_tab 14 7 = (.if_icmp .ge 23, 3) := by decide +kernel
set_option maxRecDepth 100000 in
theorem ti_14_10 : dp_tab 14 10 = (.aload_n 0, 1) := by decide +kernel
set_option maxRecDepth 100000 in
theorem ti_14_11 : dp_tab 14 11 = (.getfield 23, 3) := by decide +kernel
set_option maxRecDepth 100000 in
theorem ti_14_14 : dp_tab 14 14 = (.iload_n 1, 1) := by decide +kernel
set_option maxRecDepth 100000 in
theorem ti_14_15 : dp_tab 14 15 = (.aaload, 1) := by decide +kernel
set_option maxRecDepth 100000 in
theorem ti_14_16 : dp_tab 14 16 = (.iload_n 3, 1) := by decide +kernel
set_option maxRecDepth 100000 in
theorem ti_14_17 : dp_tab 14 17 = (.iaload, 1) := by decide +kernel
set_option maxRecDepth 100000 in
theorem ti_14_18 : dp_tab 14 18 = (.ifCond .le 6, 3) := by decide +kernel
set_option maxRecDepth 100000 in
theorem ti_14_21 : dp_tab 14 21 = (.iinc 2 1, 3) := by decide +kernel
set_option maxRecDepth 100000 in
theorem ti_14_24 : dp_tab 14 24 = (.iinc 3 1, 3) := by decide +kernel
set_option maxRecDepth 100000 in
theorem ti_14_27 : dp_tab 14 27 = (.goto (-23), 3) := by decide +kernel
set_option maxRecDepth 100000 in
theorem ti_14_30 : dp_tab 14 30 = (.iload_n 2, 1) := by decide +kernel
set_option maxRecDepth 100000 in
theorem ti_14_31 : dp_tab 14 31 = (.ireturn, 1) := by decide +kernel
set_option maxRecDepth 100000 in
theorem ti_15_0 : dp_tab 15 0 = (.iconst 0, 1) := by decide +kernel
set_option maxRecDepth 100000 in
theorem ti_15_1 : dp_tab 15 1 = (.istore_n 1, 1) := by decide +kernel
set_option maxRecDepth 100000 in
theorem ti_15_2 : dp_tab 15 2 = (.iconst 0, 1) := by decide +kernel
set_option maxRecDepth 100000 in
theorem ti_15_3 : dp_tab 15 3 = (.istore_n 2, 1) := by decide +kernel
set_option maxRecDepth 100000 in
theorem ti_15_4 : dp_tab 15 4 = (.iload_n 2, 1) := by decide +kernel
set_option maxRecDepth 100000 in
theorem ti_15_5 : dp_tab 15 5 = (.bipush 20, 2) := by decide +kernel
set_option maxRecDepth 100000 in
theorem ti_15_7 : dp_tab 15 7 = (.if_icmp .ge 21, 3) := by decide +kernel
set_option maxRecDepth 100000 in
theorem ti_15_10 : dp_tab 15 10 = (.aload_n 0, 1) := by decide +kernel
set_option maxRecDepth 100000 in
theorem ti_15_11 : dp_tab 15 11 = (.getfield 26, 3) := by decide +kernel
set_option maxRecDepth 100000 in
theorem ti_15_14 : dp_tab 15 14 = (.iload_n 2, 1) := by decide +kernel
set_option maxRecDepth 100000 in
theorem ti_15_15 : dp_tab 15 15 = (.iaload, 1) := by decide +kernel
set_option maxRecDepth 100000 in
theorem ti_15_16 : dp_tab 15 16 = (.ifCond .le 6, 3) := by decide +kernel
set_option maxRecDepth 100000 in
theorem ti_15_19 : dp_tab 15 19 = (.iinc 1 1, 3) := by decide +kernel
set_option maxRecDepth 100000 in
theorem ti_15_22 : dp_tab 15 22 = (.iinc 2 1, 3) := by decide +kernel
set_option maxRecDepth 100000 in
theorem ti_15_25 : dp_tab 15 25 = (.goto (-21), 3) := by decide +kernel
set_option maxRecDepth 100000 in
theorem ti_15_28 : dp_tab 15 28 = (.iload_n 1, 1) := by decide +kernel
set_option maxRecDepth 100000 in
theorem ti_15_29 : dp_tab 15 29 = (.ireturn, 1) := by decide +kernel
set_option maxRecDepth 100000 in
theorem ti_16_0 : dp_tab 16 0 = (.iconst 0, 1) := by decide +kernel
set_option maxRecDepth 100000 in
theorem ti_16_1 : dp_tab 16 1 = (.istore_n 1, 1) := by decide +kernel
set_option maxRecDepth 100000 in
theorem ti_16_2 : dp_tab 16 2 = (.iconst 0, 1) := by decide +kernel
set_option maxRecDepth 100000 in
theorem ti_16_3 : dp_tab 16 3 = (.istore_n 2, 1) := by decide +kernel
set_option maxRecDepth 100000 in
theorem ti_16_4 : dp_tab 16 4 = (.iload_n 2, 1) := by decide +kernel
set_option maxRecDepth 100000 in
theorem ti_16_5 : dp_tab 16 5 = (.aload_n 0, 1) := by decide +kernel
set_option maxRecDepth 100000 in
theorem ti_16_6 : dp_tab 16 6 = (.getfield 35, 3) := by decide +kernel
set_option maxRecDepth 100000 in
theorem ti_16_9 : dp_tab 16 9 = (.if_icmp .ge 18, 3) := by decide +kernel
set_option maxRecDepth 100000 in
theorem ti_16_12 : dp_tab 16 12 = (.iload_n 1, 1) := by decide +kernel
set_option maxRecDepth 100000 in
theorem ti_16_13 : dp_tab 16 13 = (.aload_n 0, 1) := by decide +kernel
set_option maxRecDepth 100000 in
theorem ti_16_14 : dp_tab 16 14 = (.getfield 20, 3) := by decide +kernel
set_option maxRecDepth 100000 in
theorem ti_16_17 : dp_tab 16 17 = (.iload_n 2, 1) := by decide +kernel
set_option maxRecDepth 100000 in
theorem ti_16_18 : dp_tab 16 18 = (.iaload, 1) := by decide +kernel
set_option maxRecDepth 100000 in
theorem ti_16_19 : dp_tab 16 19 = (.iadd, 1) := by decide +kernel
set_option maxRecDepth 100000 in
theorem ti_16_20 : dp_tab 16 20 = (.istore_n 1, 1) := by decide +kernel
set_option maxRecDepth 100000 in
theorem ti_16_21 : dp_tab 16 21 = (.iinc 2 1, 3) := by decide +kernel
set_option maxRecDepth 100000 in
theorem ti_16_24 : dp_tab 16 24 = (.goto (-20), 3) := by decide +kernel
set_option maxRecDepth 100000 in
theorem ti_16_27 : dp_tab 16 27 = (.iload_n 1, 1) := by decide +kernel
set_option maxRecDepth 100000 in
theorem ti_16_28 : dp_tab 16 28 = (.ireturn, 1) := by decide +kernel
set_option maxRecDepth 100000 in
theorem ti_17_0 : dp_tab 17 0 = (.iload_n 1, 1) := by decide +kernel
set_option maxRecDepth 100000 in
theorem ti_17_1 : dp_tab 17 1 = (.invokestatic 37, 3) := by decide +kernel
set_option maxRecDepth 100000 in
theorem ti_17_4 : dp_tab 17 4 = (.iload_n 2, 1) := by decide +kernel
set_option maxRecDepth 100000 in
theorem ti_17_5 : dp_tab 17 5 = (.invokestatic 41, 3) := by decide +kernel
set_option maxRecDepth 100000 in
theorem ti_17_8 : dp_tab 17 8 = (.aload_n 0, 1) := by decide +kernel
set_option maxRecDepth 100000 in
theorem ti_17_9 : dp_tab 17 9 = (.getfield 10, 3) := by decide +kernel
set_option maxRecDepth 100000 in
theorem ti_17_12 : dp_tab 17 12 = (.getfield 44, 3) := by decide +kernel
set_option maxRecDepth 100000 in
theorem ti_17_15 : dp_tab 17 15 = (.iload_n 1, 1) := by decide +kernel
set_option maxRecDepth 100000 in
theorem ti_17_16 : dp_tab 17 16 = (.iaload, 1) := by decide +kernel
set_option maxRecDepth 100000 in
theorem ti_17_17 : dp_tab 17 17 = (.istore_n 3, 1) := by decide +kernel
set_option maxRecDepth 100000 in
theorem ti_17_18 : dp_tab 17 18 = (.aload_n 0, 1) := by decide +kernel
set_option maxRecDepth 100000 in
theorem ti_17_19 : dp_tab 17 19 = (.getfield 10, 3) := by decide +kernel
set_option maxRecDepth 100000 in
theorem ti_17_22 : dp_tab 17 22 = (.getfield 44, 3) := by decide +kernel
set_option maxRecDepth 100000 in
theorem ti_17_25 : dp_tab 17 25 = (.iload_n 1, 1) := by decide +kernel
set_option maxRecDepth 100000 in
theorem ti_17_26 : dp_tab 17 26 = (.iload_n 2, 1) := by decide +kernel
set_option maxRecDepth 100000 in
theorem ti_17_27 : dp_tab 17 27 = (.iastore, 1) := by decide +kernel
set_option maxRecDepth 100000 in
theorem ti_17_28 : dp_tab 17 28 = (.aload_n 0, 1) := by decide +kernel
set_option maxRecDepth 100000 in
theorem ti_17_29 : dp_tab 17 29 = (.getfield 10, 3) := by decide +kernel
set_option maxRecDepth 100000 in
theorem ti_17_32 : dp_tab 17 32 = (.invokevirtual 47, 3) := by decide +kernel
set_option maxRecDepth 100000 in
theorem ti_17_35 : dp_tab 17 35 = (.iload_n 3, 1) := by decide +kernel
set_option maxRecDepth 100000 in
theorem ti_17_36 : dp_tab 17 36 = (.ireturn, 1) := by decide +kernel
set_option maxRecDepth 100000 in
theorem ti_18_0 : dp_tab 18 0 = (.aload_n 0, 1) := by decide +kernel
set_option maxRecDepth 100000 in
theorem ti_18_1 : dp_tab 18 1 = (.getfield 10, 3) := by decide +kernel
set_option maxRecDepth 100000 in
theorem ti_18_4 : dp_tab 18 4 = (.getfield 50, 3) := by decide +kernel
set_option maxRecDepth 100000 in
theorem ti_18_7 : dp_tab 18 7 = (.bipush 16, 2) := by decide +kernel
set_option maxRecDepth 100000 in
theorem ti_18_9 : dp_tab 18 9 = (.if_icmp .lt 13, 3) := by decide +kernel
set_option maxRecDepth 100000 in
theorem ti_18_12 : dp_tab 18 12 = (.new 54, 3) := by decide +kernel
set_option maxRecDepth 100000 in
theorem ti_18_15 : dp_tab 18 15 = (.dup, 1) := by decide +kernel
set_option maxRecDepth 100000 in
theorem ti_18_16 : dp_tab 18 16 = (.ldc 56, 2) := by decide +kernel
set_option maxRecDepth 100000 in
theorem ti_18_18 : dp_tab 18 18 = (.invokespecial 58, 3) := by decide +kernel
set_option maxRecDepth 100000 in
theorem ti_18_21 : dp_tab 18 21 = (.athrow, 1) := by decide +kernel
set_option maxRecDepth 100000 in
theorem ti_18_22 : dp_tab 18 22 = (.aload_n 0, 1) := by decide +kernel
set_option maxRecDepth 100000 in
theorem ti_18_23 : dp_tab 18 23 = (.getfield 10, 3) := by decide +kernel
set_option maxRecDepth 100000 in
theorem ti_18_26 : dp_tab 18 26 = (.dup, 1) := by decide +kernel
set_option maxRecDepth 100000 in
theorem ti_18_27 : dp_tab 18 27 = (.getfield 50, 3) := by decide +kernel
set_option maxRecDepth 100000 in
theorem ti_18_30 : dp_tab 18 30 = (.iconst 1, 1) := by decide +kernel
set_option maxRecDepth 100000 in
theorem ti_18_31 : dp_tab 18 31 = (.iadd, 1) := by decide +kernel
set_option maxRecDepth 100000 in
theorem ti_18_32 : dp_tab 18 32 = (.putfield 50, 3) := by decide +kernel
set_option maxRecDepth 100000 in
theorem ti_18_35 : dp_tab 18 35 = (.aload_n 0, 1) := by decide +kernel
set_option maxRecDepth 100000 in
theorem ti_18_36 : dp_tab 18 36 = (.getfield 10, 3) := by decide +kernel
set_option maxRecDepth 100000 in
theorem ti_18_39 : dp_tab 18 39 = (.getfield 50, 3) := by decide +kernel
set_option maxRecDepth 100000 in
theorem ti_18_42 : dp_tab 18 42 = (.iconst 1, 1) := by decide +kernel
set_option maxRecDepth 100000 in
theorem ti_18_43 : dp_tab 18 43 = (.isub, 1) := by decide +kernel
set_option maxRecDepth 100000 in
theorem ti_18_44 : dp_tab 18 44 = (.ireturn, 1) := by decide +kernel
set_option maxRecDepth 100000 in
theorem ti_19_0 : dp_tab 19 0 = (.aload_n 0, 1) := by decide +kernel
set_option maxRecDepth 100000 in
theorem ti_19_1 : dp_tab 19 1 = (.iload_n 1, 1) := by decide +kernel
set_option maxRecDepth 100000 in
theorem ti_19_2 : dp_tab 19 2 = (.invokevirtual 61, 3) := by decide +kernel
set_option maxRecDepth 100000 in
theorem ti_19_5 : dp_tab 19 5 = (.iload_n 2, 1) := by decide +kernel
set_option maxRecDepth 100000 in
theorem ti_19_6 : dp_tab 19 6 = (.invokestatic 37, 3) := by decide +kernel
set_option maxRecDepth 100000 in
theorem ti_19_9 : dp_tab 19 9 = (.aload_n 0, 1) := by decide +kernel
set_option maxRecDepth 100000 in
theorem ti_19_10 : dp_tab 19 10 = (.getfield 10, 3) := by decide +kernel
set_option maxRecDepth 100000 in
theorem ti_19_13 : dp_tab 19 13 = (.getfield 64, 3) := by decide +kernel
set_option maxRecDepth 100000 in
theorem ti_19_16 : dp_tab 19 16 = (.iload_n 1, 1) := by decide +kernel
set_option maxRecDepth 100000 in
theorem ti_19_17 : dp_tab 19 17 = (.iaload, 1) := by decide +kernel
set_option maxRecDepth 100000 in
theorem ti_19_18 : dp_tab 19 18 = (.istore_n 3, 1) := by decide +kernel
set_option maxRecDepth 100000 in
theorem ti_19_19 : dp_tab 19 19 = (.iload_n 3, 1) := by decide +kernel
set_option maxRecDepth 100000 in
theorem ti_19_20 : dp_tab 19 20 = (.bipush 12, 2) := by decide +kernel
set_option maxRecDepth 100000 in
theorem ti_19_22 : dp_tab 19 22 = (.if_icmp .lt 13, 3) := by decide +kernel
set_option maxRecDepth 100000 in
theorem ti_19_25 : dp_tab 19 25 = (.new 54, 3) := by decide +kernel
set_option maxRecDepth 100000 in
theorem ti_19_28 : dp_tab 19 28 = (.dup, 1) := by decide +kernel
set_option maxRecDepth 100000 in
theorem ti_19_29 : dp_tab 19 29 = (.ldc 67, 2) := by decide +kernel
set_option maxRecDepth 100000 in
theorem ti_19_31 : dp_tab 19 31 = (.invokespecial 58, 3) := by decide +kernel
set_option maxRecDepth 100000 in
theorem ti_19_34 : dp_tab 19 34 = (.athrow, 1) := by decide +kernel
set_option maxRecDepth 100000 in
theorem ti_19_35 : dp_tab 19 35 = (.aload_n 0, 1) := by decide +kernel
set_option maxRecDepth 100000 in
theorem ti_19_36 : dp_tab 19 36 = (.getfield 10, 3) := by decide +kernel
set_option maxRecDepth 100000 in
theorem ti_19_39 : dp_tab 19 39 = (.getfield 69, 3) := by decide +kernel
set_option maxRecDepth 100000 in
theorem ti_19_42 : dp_tab 19 42 = (.iload_n 1, 1) := by decide +kernel
set_option maxRecDepth 100000 in
theorem ti_19_43 : dp_tab 19 43 = (.aaload, 1) := by decide +kernel
set_option maxRecDepth 100000 in
theorem ti_19_44 : dp_tab 19 44 = (.iload_n 3, 1) := by decide +kernel
set_option maxRecDepth 100000 in
theorem ti_19_45 : dp_tab 19 45 = (.iload_n 2, 1) := by decide +kernel
set_option maxRecDepth 100000 in
theorem ti_19_46 : dp_tab 19 46 = (.iastore, 1) := by decide +kernel
set_option maxRecDepth 100000 in
theorem ti_19_47 : dp_tab 19 47 = (.aload_n 0, 1) := by decide +kernel
set_option maxRecDepth 100000 in
theorem ti_19_48 : dp_tab 19 48 = (.getfield 10, 3) := by decide +kernel
set_option maxRecDepth 100000 in
theorem ti_19_51 : dp_tab 19 51 = (.getfield 64, 3) := by decide +kernel
set_option maxRecDepth 100000 in
theorem ti_19_54 : dp_tab 19 54 = (.iload_n 1, 1) := by decide +kernel
set_option maxRecDepth 100000 in
theorem ti_19_55 : dp_tab 19 55 = (.iload_n 3, 1) := by decide +kernel
set_option maxRecDepth 100000 in
theorem ti_19_56 : dp_tab 19 56 = (.iconst 1, 1) := by decide +kernel
set_option maxRecDepth 100000 in
theorem ti_19_57 : dp_tab 19 57 = (.iadd, 1) := by decide +kernel
set_option maxRecDepth 100000 in
theorem ti_19_58 : dp_tab 19 58 = (.iastore, 1) := by decide +kernel
set_option maxRecDepth 100000 in
theorem ti_19_59 : dp_tab 19 59 = (.aload_n 0, 1) := by decide +kernel
set_option maxRecDepth 100000 in
theorem ti_19_60 : dp_tab 19 60 = (.getfield 10, 3) := by decide +kernel
set_option maxRecDepth 100000 in
theorem ti_19_63 : dp_tab 19 63 = (.invokevirtual 47, 3) := by decide +kernel
set_option maxRecDepth 100000 in
theorem ti_19_66 : dp_tab 19 66 = (.iload_n 3, 1) := by decide +kernel
set_option maxRecDepth 100000 in
theorem ti_19_67 : dp_tab 19 67 = (.iconst 1, 1) := by decide +kernel
set_option maxRecDepth 100000 in
theorem ti_19_68 : dp_tab 19 68 = (.iadd, 1) := by decide +kernel
set_option maxRecDepth 100000 in
theorem ti_19_69 : dp_tab 19 69 = (.ireturn, 1) := by decide +kernel
set_option maxRecDepth 100000 in
theorem ti_20_0 : dp_tab 20 0 = (.aload_n 0, 1) := by decide +kernel
set_option maxRecDepth 100000 in
theorem ti_20_1 : dp_tab 20 1 = (.iload_n 1, 1) := by decide +kernel
set_option maxRecDepth 100000 in
theorem ti_20_2 : dp_tab 20 2 = (.invokevirtual 61, 3) := by decide +kernel
set_option maxRecDepth 100000 in
theorem ti_20_5 : dp_tab 20 5 = (.iload_n 2, 1) := by decide +kernel
set_option maxRecDepth 100000 in
theorem ti_20_6 : dp_tab 20 6 = (.aload_n 0, 1) := by decide +kernel
set_option maxRecDepth 100000 in
theorem ti_20_7 : dp_tab 20 7 = (.getfield 10, 3) := by decide +kernel
set_option maxRecDepth 100000 in
theorem ti_20_10 : dp_tab 20 10 = (.getfield 64, 3) := by decide +kernel
set_option maxRecDepth 100000 in
theorem ti_20_13 : dp_tab 20 13 = (.iload_n 1, 1) := by decide +kernel
set_option maxRecDepth 100000 in
theorem ti_20_14 : dp_tab 20 14 = (.iaload, 1) := by decide +kernel
set_option maxRecDepth 100000 in
theorem ti_20_15 : dp_tab 20 15 = (.invokestatic 73, 3) := by decide +kernel
set_option maxRecDepth 100000 in
theorem ti_20_18 : dp_tab 20 18 = (.aload_n 0, 1) := by decide +kernel
set_option maxRecDepth 100000 in
theorem ti_20_19 : dp_tab 20 19 = (.getfield 10, 3) := by decide +kernel
set_option maxRecDepth 100000 in
theorem ti_20_22 : dp_tab 20 22 = (.getfield 69, 3) := by decide +kernel
set_option maxRecDepth 100000 in
theorem ti_20_25 : dp_tab 20 25 = (.iload_n 1, 1) := by decide +kernel
set_option maxRecDepth 100000 in
theorem ti_20_26 : dp_tab 20 26 = (.aaload, 1) := by decide +kernel
set_option maxRecDepth 100000 in
theorem ti_20_27 : dp_tab 20 27 = (.iload_n 2, 1) := by decide +kernel
set_option maxRecDepth 100000 in
theorem ti_20_28 : dp_tab 20 28 = (.iaload, 1) := by decide +kernel
set_option maxRecDepth 100000 in
theorem ti_20_29 : dp_tab 20 29 = (.istore_n 3, 1) := by decide +kernel
set_option maxRecDepth 100000 in
theorem ti_20_30 : dp_tab 20 30 = (.aload_n 0, 1) := by decide +kernel
set_option maxRecDepth 100000 in
theorem ti_20_31 : dp_tab 20 31 = (.getfield 10, 3) := by decide +kernel
set_option maxRecDepth 100000 in
theorem ti_20_34 : dp_tab 20 34 = (.getfield 64, 3) := by decide +kernel
set_option maxRecDepth 100000 in
theorem ti_20_37 : dp_tab 20 37 = (.iload_n 1, 1) := by decide +kernel
set_option maxRecDepth 100000 in
theorem ti_20_38 : dp_tab 20 38 = (.aload_n 0, 1) := by decide +kernel
set_option maxRecDepth 100000 in
theorem ti_20_39 : dp_tab 20 39 = (.getfield 10, 3) := by decide +kernel
set_option maxRecDepth 100000 in
theorem ti_20_42 : dp_tab 20 42 = (.getfield 69, 3) := by decide +kernel
set_option maxRecDepth 100000 in
theorem ti_20_45 : dp_tab 20 45 = (.iload_n 1, 1) := by decide +kernel
set_option maxRecDepth 100000 in
theorem ti_20_46 : dp_tab 20 46 = (.aaload, 1) := by decide +kernel
set_option maxRecDepth 100000 in
theorem ti_20_47 : dp_tab 20 47 = (.aload_n 0, 1) := by decide +kernel
set_option maxRecDepth 100000 in
theorem ti_20_48 : dp_tab 20 48 = (.getfield 10, 3) := by decide +kernel
set_option maxRecDepth 100000 in
theorem ti_20_51 : dp_tab 20 51 = (.getfield 64, 3) := by decide +kernel
set_option maxRecDepth 100000 in
theorem ti_20_54 : dp_tab 20 54 = (.iload_n 1, 1) := by decide +kernel
set_option maxRecDepth 100000 in
theorem ti_20_55 : dp_tab 20 55 = (.iaload, 1) := by decide +kernel
set_option maxRecDepth 100000 in
theorem ti_20_56 : dp_tab 20 56 = (.iload_n 2, 1) := by decide +kernel
set_option maxRecDepth 100000 in
theorem ti_20_57 : dp_tab 20 57 = (.invokestatic 77, 3) := by decide +kernel
set_option maxRecDepth 100000 in
theorem ti_20_60 : dp_tab 20 60 = (.iastore, 1) := by decide +kernel
set_option maxRecDepth 100000 in
theorem ti_20_61 : dp_tab 20 61 = (.aload_n 0, 1) := by decide +kernel
set_option maxRecDepth 100000 in
theorem ti_20_62 : dp_tab 20 62 = (.getfield 10, 3) := by decide +kernel
set_option maxRecDepth 100000 in
theorem ti_20_65 : dp_tab 20 65 = (.invokevirtual 47, 3) := by decide +kernel
set_option maxRecDepth 100000 in
theorem ti_20_68 : dp_tab 20 68 = (.iload_n 3, 1) := by decide +kernel
set_option maxRecDepth 100000 in
theorem ti_20_69 : dp_tab 20 69 = (.ireturn, 1) := by decide +kernel
set_option maxRecDepth 100000 in
theorem ti_21_0 : dp_tab 21 0 = (.iload_n 1, 1) := by decide +kernel
set_option maxRecDepth 100000 in
theorem ti_21_1 : dp_tab 21 1 = (.ifCond .lt 10, 3) := by decide +kernel
set_option maxRecDepth 100000 in
theorem ti_21_4 : dp_tab 21 4 = (.iload_n 1, 1) := by decide +kernel
set_option maxRecDepth 100000 in
theorem ti_21_5 : dp_tab 21 5 = (.sipush 999, 3) := by decide +kernel
set_option maxRecDepth 100000 in
theorem ti_21_8 : dp_tab 21 8 = (.if_icmp .le 13, 3) := by decide +kernel
set_option maxRecDepth 100000 in
theorem ti_21_11 : dp_tab 21 11 = (.new 81, 3) := by decide +kernel
set_option maxRecDepth 100000 in
theorem ti_21_14 : dp_tab 21 14 = (.dup, 1) := by decide +kernel
set_option maxRecDepth 100000 in
theorem ti_21_15 : dp_tab 21 15 = (.ldc 83, 2) := by decide +kernel
set_option maxRecDepth 100000 in
theorem ti_21_17 : dp_tab 21 17 = (.invokespecial 85, 3) := by decide +kernel
set_option maxRecDepth 100000 in
theorem ti_21_20 : dp_tab 21 20 = (.athrow, 1) := by decide +kernel
set_option maxRecDepth 100000 in
theorem ti_21_21 : dp_tab 21 21 = (.aload_n 0, 1) := by decide +kernel
set_option maxRecDepth 100000 in
theorem ti_21_22 : dp_tab 21 22 = (.getfield 19, 3) := by decide +kernel
set_option maxRecDepth 100000 in
theorem ti_21_25 : dp_tab 21 25 = (.getfield 86, 3) := by decide +kernel
set_option maxRecDepth 100000 in
theorem ti_21_28 : dp_tab 21 28 = (.istore_n 2, 1) := by decide +kernel
set_option maxRecDepth 100000 in
theorem ti_21_29 : dp_tab 21 29 = (.iload_n 2, 1) := by decide +kernel
set_option maxRecDepth 100000 in
theorem ti_21_30 : dp_tab 21 30 = (.bipush 6, 2) := by decide +kernel
set_option maxRecDepth 100000 in
theorem ti_21_32 : dp_tab 21 32 = (.if_icmp .lt 13, 3) := by decide +kernel
set_option maxRecDepth 100000 in
theorem ti_21_35 : dp_tab 21 35 = (.new 54, 3) := by decide +kernel
set_option maxRecDepth 100000 in
theorem ti_21_38 : dp_tab 21 38 = (.dup, 1) := by decide +kernel
set_option maxRecDepth 100000 in
theorem ti_21_39 : dp_tab 21 39 = (.ldc 89, 2) := by decide +kernel
set_option maxRecDepth 100000 in
theorem ti_21_41 : dp_tab 21 41 = (.invokespecial 58, 3) := by decide +kernel
set_option maxRecDepth 100000 in
theorem ti_21_44 : dp_tab 21 44 = (.athrow, 1) := by decide +kernel
set_option maxRecDepth 100000 in
theorem ti_21_45 : dp_tab 21 45 = (.aload_n 0, 1) := by decide +kernel
set_option maxRecDepth 100000 in
theorem ti_21_46 : dp_tab 21 46 = (.getfield 26, 3) := by decide +kernel
set_option maxRecDepth 100000 in
theorem ti_21_49 : dp_tab 21 49 = (.getfield 91, 3) := by decide +kernel
set_option maxRecDepth 100000 in
theorem ti_21_52 : dp_tab 21 52 = (.iload_n 2, 1) := by decide +kernel
set_option maxRecDepth 100000 in
theorem ti_21_53 : dp_tab 21 53 = (.iload_n 1, 1) := by decide +kernel
set_option maxRecDepth 100000 in
theorem ti_21_54 : dp_tab 21 54 = (.iastore, 1) := by decide +kernel
set_option maxRecDepth 100000 in
theorem ti_21_55 : dp_tab 21 55 = (.aload_n 0, 1) := by decide +kernel
set_option maxRecDepth 100000 in
theorem ti_21_56 : dp_tab 21 56 = (.getfield 19, 3) := by decide +kernel
set_option maxRecDepth 100000 in
theorem ti_21_59 : dp_tab 21 59 = (.iload_n 2, 1) := by decide +kernel
set_option maxRecDepth 100000 in
theorem ti_21_60 : dp_tab 21 60 = (.iconst 1, 1) := by decide +kernel
set_option maxRecDepth 100000 in
theorem ti_21_61 : dp_tab 21 61 = (.iadd, 1) := by decide +kernel
set_option maxRecDepth 100000 in
theorem ti_21_62 : dp_tab 21 62 = (.putfield 86, 3) := by decide +kernel
set_option maxRecDepth 100000 in
theorem ti_21_65 : dp_tab 21 65 = (.iload_n 2, 1) := by decide +kernel
set_option maxRecDepth 100000 in
theorem ti_21_66 : dp_tab 21 66 = (.ireturn, 1) := by decide +kernel
set_option maxRecDepth 100000 in
theorem ti_22_0 : dp_tab 22 0 = (.aload_n 0, 1) := by decide +kernel
set_option maxRecDepth 100000 in
theorem ti_22_1 : dp_tab 22 1 = (.iload_n 1, 1) := by decide +kernel
set_option maxRecDepth 100000 in
theorem ti_22_2 : dp_tab 22 2 = (.invokevirtual 94, 3) := by decide +kernel
set_option maxRecDepth 100000 in
theorem ti_22_5 : dp_tab 22 5 = (.iload_n 2, 1) := by decide +kernel
set_option maxRecDepth 100000 in
theorem ti_22_6 : dp_tab 22 6 = (.invokestatic 41, 3) := by decide +kernel
set_option maxRecDepth 100000 in
theorem ti_22_9 : dp_tab 22 9 = (.aload_n 0, 1) := by decide +kernel
set_option maxRecDepth 100000 in
theorem ti_22_10 : dp_tab 22 10 = (.getfield 19, 3) := by decide +kernel
set_option maxRecDepth 100000 in
theorem ti_22_13 : dp_tab 22 13 = (.getfield 97, 3) := by decide +kernel
set_option maxRecDepth 100000 in
theorem ti_22_16 : dp_tab 22 16 = (.iload_n 1, 1) := by decide +kernel
set_option maxRecDepth 100000 in
theorem ti_22_17 : dp_tab 22 17 = (.iaload, 1) := by decide +kernel
set_option maxRecDepth 100000 in
theorem ti_22_18 : dp_tab 22 18 = (.istore_n 3, 1) := by decide +kernel
set_option maxRecDepth 100000 in
theorem ti_22_19 : dp_tab 22 19 = (.iload_n 3, 1) := by decide +kernel
set_option maxRecDepth 100000 in
theorem ti_22_20 : dp_tab 22 20 = (.iconst 5, 1) := by decide +kernel
set_option maxRecDepth 100000 in
theorem ti_22_21 : dp_tab 22 21 = (.if_icmp .lt 13, 3) := by decide +kernel
set_option maxRecDepth 100000 in
theorem ti_22_24 : dp_tab 22 24 = (.new 54, 3) := by decide +kernel
set_option maxRecDepth 100000 in
theorem ti_22_27 : dp_tab 22 27 = (.dup, 1) := by decide +kernel
set_option maxRecDepth 100000 in
theorem ti_22_28 : dp_tab 22 28 = (.ldc 100, 2) := by decide +kernel
set_option maxRecDepth 100000 in
theorem ti_22_30 : dp_tab 22 30 = (.invokespecial 58, 3) := by decide +kernel
set_option maxRecDepth 100000 in
theorem ti_22_33 : dp_tab 22 33 = (.athrow, 1) := by decide +kernel
set_option maxRecDepth 100000 in
theorem ti_22_34 : dp_tab 22 34 = (.aload_n 0, 1) := by decide +kernel
set_option maxRecDepth 100000 in
theorem ti_22_35 : dp_tab 22 35 = (.getfield 19, 3) := by decide +kernel
set_option maxRecDepth 100000 in
theorem ti_22_38 : dp_tab 22 38 = (.iload_n 1, 1) := by decide +kernel
set_option maxRecDepth 100000 in
theorem ti_22_39 : dp_tab 22 39 = (.iload_n 2, 1) := by decide +kernel
set_option maxRecDepth 100000 in
theorem ti_22_40 : dp_tab 22 40 = (.invokevirtual 102, 3) := by decide +kernel
set_option maxRecDepth 100000 in
theorem ti_22_43 : dp_tab 22 43 = (.iconst (-1), 1) := by decide +kernel
set_option maxRecDepth 100000 in
theorem ti_22_44 : dp_tab 22 44 = (.if_icmp .eq 13, 3) := by decide +kernel
set_option maxRecDepth 100000 in
theorem ti_22_47 : dp_tab 22 47 = (.new 54, 3) := by decide +kernel
set_option maxRecDepth 100000 in
theorem ti_22_50 : dp_tab 22 50 = (.dup, 1) := by decide +kernel
set_option maxRecDepth 100000 in
theorem ti_22_51 : dp_tab 22 51 = (.ldc 106, 2) := by decide +kernel
set_option maxRecDepth 100000 in
theorem ti_22_53 : dp_tab 22 53 = (.invokespecial 58, 3) := by decide +kernel
set_option maxRecDepth 100000 in
theorem ti_22_56 : dp_tab 22 56 = (.athrow, 1) := by decide +kernel
set_option maxRecDepth 100000 in
theorem ti_22_57 : dp_tab 22 57 = (.aload_n 0, 1) := by decide +kernel
set_option maxRecDepth 100000 in
theorem ti_22_58 : dp_tab 22 58 = (.getfield 19, 3) := by decide +kernel
set_option maxRecDepth 100000 in
theorem ti_22_61 : dp_tab 22 61 = (.getfield 108, 3) := by decide +kernel
set_option maxRecDepth 100000 in
theorem ti_22_64 : dp_tab 22 64 = (.iload_n 1, 1) := by decide +kernel
set_option maxRecDepth 100000 in
theorem ti_22_65 : dp_tab 22 65 = (.aaload, 1) := by decide +kernel
set_option maxRecDepth 100000 in
theorem ti_22_66 : dp_tab 22 66 = (.iload_n 3, 1) := by decide +kernel
set_option maxRecDepth 100000 in
theorem ti_22_67 : dp_tab 22 67 = (.iload_n 2, 1) := by decide +kernel
set_option maxRecDepth 100000 in
theorem ti_22_68 : dp_tab 22 68 = (.iastore, 1) := by decide +kernel
set_option maxRecDepth 100000 in
theorem ti_22_69 : dp_tab 22 69 = (.aload_n 0, 1) := by decide +kernel
set_option maxRecDepth 100000 in
theorem ti_22_70 : dp_tab 22 70 = (.getfield 19, 3) := by decide +kernel
set_option maxRecDepth 100000 in
theorem ti_22_73 : dp_tab 22 73 = (.getfield 97, 3) := by decide +kernel
set_option maxRecDepth 100000 in
theorem ti_22_76 : dp_tab 22 76 = (.iload_n 1, 1) := by decide +kernel
set_option maxRecDepth 100000 in
theorem ti_22_77 : dp_tab 22 77 = (.iload_n 3, 1) := by decide +kernel
set_option maxRecDepth 100000 in
theorem ti_22_78 : dp_tab 22 78 = (.iconst 1, 1) := by decide +kernel
set_option maxRecDepth 100000 in
theorem ti_22_79 : dp_tab 22 79 = (.iadd, 1) := by decide +kernel
set_option maxRecDepth 100000 in
theorem ti_22_80 : dp_tab 22 80 = (.iastore, 1) := by decide +kernel
set_option maxRecDepth 100000 in
theorem ti_22_81 : dp_tab 22 81 = (.iload_n 3, 1) := by decide +kernel
set_option maxRecDepth 100000 in
theorem ti_22_82 : dp_tab 22 82 = (.iconst 1, 1) := by decide +kernel
set_option maxRecDepth 100000 in
theorem ti_22_83 : dp_tab 22 83 = (.iadd, 1) := by decide +kernel
set_option maxRecDepth 100000 in
theorem ti_22_84 : dp_tab 22 84 = (.ireturn, 1) := by decide +kernel
set_option maxRecDepth 100000 in
theorem ti_23_0 : dp_tab 23 0 = (.aload_n 0, 1) := by decide +kernel
set_option maxRecDepth 100000 in
theorem ti_23_1 : dp_tab 23 1 = (.iload_n 1, 1) := by decide +kernel
set_option maxRecDepth 100000 in
theorem ti_23_2 : dp_tab 23 2 = (.invokevirtual 94, 3) := by decide +kernel
set_option maxRecDepth 100000 in
theorem ti_23_5 : dp_tab 23 5 = (.iload_n 2, 1) := by decide +kernel
set_option maxRecDepth 100000 in
theorem ti_23_6 : dp_tab 23 6 = (.invokestatic 41, 3) := by decide +kernel
set_option maxRecDepth 100000 in
theorem ti_23_9 : dp_tab 23 9 = (.aload_n 0, 1) := by decide +kernel
set_option maxRecDepth 100000 in
theorem ti_23_10 : dp_tab 23 10 = (.getfield 19, 3) := by decide +kernel
set_option maxRecDepth 100000 in
theorem ti_23_13 : dp_tab 23 13 = (.iload_n 1, 1) := by decide +kernel
set_option maxRecDepth 100000 in
theorem ti_23_14 : dp_tab 23 14 = (.iload_n 2, 1) := by decide +kernel
set_option maxRecDepth 100000 in
theorem ti_23_15 : dp_tab 23 15 = (.invokevirtual 102, 3) := by decide +kernel
set_option maxRecDepth 100000 in
theorem ti_23_18 : dp_tab 23 18 = (.istore_n 3, 1) := by decide +kernel
set_option maxRecDepth 100000 in
theorem ti_23_19 : dp_tab 23 19 = (.iload_n 3, 1) := by decide +kernel
set_option maxRecDepth 100000 in
theorem ti_23_20 : dp_tab 23 20 = (.iconst (-1), 1) := by decide +kernel
set_option maxRecDepth 100000 in
theorem ti_23_21 : dp_tab 23 21 = (.if_icmp .ne 13, 3) := by decide +kernel
set_option maxRecDepth 100000 in
theorem ti_23_24 : dp_tab 23 24 = (.new 54, 3) := by decide +kernel
set_option maxRecDepth 100000 in
theorem ti_23_27 : dp_tab 23 27 = (.dup, 1) := by decide +kernel
set_option maxRecDepth 100000 in
theorem ti_23_28 : dp_tab 23 28 = (.ldc 111, 2) := by decide +kernel
set_option maxRecDepth 100000 in
theorem ti_23_30 : dp_tab 23 30 = (.invokespecial 58, 3) := by decide +kernel
set_option maxRecDepth 100000 in
theorem ti_23_33 : dp_tab 23 33 = (.athrow, 1) := by decide +kernel
set_option maxRecDepth 100000 in
theorem ti_23_34 : dp_tab 23 34 = (.aload_n 0, 1) := by decide +kernel
set_option maxRecDepth 100000 in
theorem ti_23_35 : dp_tab 23 35 = (.getfield 19, 3) := by decide +kernel
set_option maxRecDepth 100000 in
theorem ti_23_38 : dp_tab 23 38 = (.getfield 97, 3) := by decide +kernel
set_option maxRecDepth 100000 in
theorem ti_23_41 : dp_tab 23 41 = (.iload_n 1, 1) := by decide +kernel
set_option maxRecDepth 100000 in
theorem ti_23_42 : dp_tab 23 42 = (.aload_n 0, 1) := by decide +kernel
set_option maxRecDepth 100000 in
theorem ti_23_43 : dp_tab 23 43 = (.getfield 19, 3) := by decide +kernel
set_option maxRecDepth 100000 in
theorem ti_23_46 : dp_tab 23 46 = (.getfield 108, 3) := by decide +kernel
set_option maxRecDepth 100000 in
theorem ti_23_49 : dp_tab 23 49 = (.iload_n 1, 1) := by decide +kernel
set_option maxRecDepth 100000 in
theorem ti_23_50 : dp_tab 23 50 = (.aaload, 1) := by decide +kernel
set_option maxRecDepth 100000 in
theorem ti_23_51 : dp_tab 23 51 = (.aload_n 0, 1) := by decide +kernel
set_option maxRecDepth 100000 in
theorem ti_23_52 : dp_tab 23 52 = (.getfield 19, 3) := by decide +kernel
set_option maxRecDepth 100000 in
theorem ti_23_55 : dp_tab 23 55 = (.getfield 97, 3) := by decide +kernel
set_option maxRecDepth 100000 in
theorem ti_23_58 : dp_tab 23 58 = (.iload_n 1, 1) := by decide +kernel
set_option maxRecDepth 100000 in
theorem ti_23_59 : dp_tab 23 59 = (.iaload, 1) := by decide +kernel
set_option maxRecDepth 100000 in
theorem ti_23_60 : dp_tab 23 60 = (.iload_n 3, 1) := by decide +kernel
set_option maxRecDepth 100000 in
theorem ti_23_61 : dp_tab 23 61 = (.invokestatic 77, 3) := by decide +kernel
set_option maxRecDepth 100000 in
theorem ti_23_64 : dp_tab 23 64 = (.iastore, 1) := by decide +kernel
set_option maxRecDepth 100000 in
theorem ti_23_65 : dp_tab 23 65 = (.iload_n 3, 1) := by decide +kernel
set_option maxRecDepth 100000 in
theorem ti_23_66 : dp_tab 23 66 = (.ireturn, 1) := by decide +kernel
set_option maxRecDepth 100000 in
theorem ti_24_0 : dp_tab 24 0 = (.aload_n 0, 1) := by decide +kernel
set_option maxRecDepth 100000 in
theorem ti_24_1 : dp_tab 24 1 = (.iload_n 1, 1) := by decide +kernel
set_option maxRecDepth 100000 in
theorem ti_24_2 : dp_tab 24 2 = (.invokevirtual 94, 3) := by decide +kernel
set_option maxRecDepth 100000 in
theorem ti_24_5 : dp_tab 24 5 = (.iload_n 2, 1) := by decide +kernel
set_option maxRecDepth 100000 in
theorem ti_24_6 : dp_tab 24 6 = (.ifCond .lt 10, 3) := by decide +kernel
set_option maxRecDepth 100000 in
theorem ti_24_9 : dp_tab 24 9 = (.iload_n 2, 1) := by decide +kernel
set_option maxRecDepth 100000 in
theorem ti_24_10 : dp_tab 24 10 = (.sipush 999, 3) := by decide +kernel
set_option maxRecDepth 100000 in
theorem ti_24_13 : dp_tab 24 13 = (.if_icmp .le 13, 3) := by decide +kernel
set_option maxRecDepth 100000 in
theorem ti_24_16 : dp_tab 24 16 = (.new 81, 3) := by decide +kernel
set_option maxRecDepth 100000 in
theorem ti_24_19 : dp_tab 24 19 = (.dup, 1) := by decide +kernel
set_option maxRecDepth 100000 in
theorem ti_24_20 : dp_tab 24 20 = (.ldc 113, 2) := by decide +kernel
set_option maxRecDepth 100000 in
theorem ti_24_22 : dp_tab 24 22 = (.invokespecial 85, 3) := by decide +kernel
set_option maxRecDepth 100000 in
theorem ti_24_25 : dp_tab 24 25 = (.athrow, 1) := by decide +kernel
set_option maxRecDepth 100000 in
theorem ti_24_26 : dp_tab 24 26 = (.aload_n 0, 1) := by decide +kernel
set_option maxRecDepth 100000 in
theorem ti_24_27 : dp_tab 24 27 = (.getfield 19, 3) := by decide +kernel
set_option maxRecDepth 100000 in
theorem ti_24_30 : dp_tab 24 30 = (.getfield 115, 3) := by decide +kernel
set_option maxRecDepth 100000 in
theorem ti_24_33 : dp_tab 24 33 = (.iload_n 1, 1) := by decide +kernel
set_option maxRecDepth 100000 in
theorem ti_24_34 : dp_tab 24 34 = (.iaload, 1) := by decide +kernel
set_option maxRecDepth 100000 in
theorem ti_24_35 : dp_tab 24 35 = (.istore_n 3, 1) := by decide +kernel
set_option maxRecDepth 100000 in
theorem ti_24_36 : dp_tab 24 36 = (.aload_n 0, 1) := by decide +kernel
set_option maxRecDepth 100000 in
theorem ti_24_37 : dp_tab 24 37 = (.getfield 19, 3) := by decide +kernel
set_option maxRecDepth 100000 in
theorem ti_24_40 : dp_tab 24 40 = (.getfield 115, 3) := by decide +kernel
set_option maxRecDepth 100000 in
theorem ti_24_43 : dp_tab 24 43 = (.iload_n 1, 1) := by decide +kernel
set_option maxRecDepth 100000 in
theorem ti_24_44 : dp_tab 24 44 = (.iload_n 2, 1) := by decide +kernel
set_option maxRecDepth 100000 in
theorem ti_24_45 : dp_tab 24 45 = (.iastore, 1) := by decide +kernel
set_option maxRecDepth 100000 in
theorem ti_24_46 : dp_tab 24 46 = (.iload_n 3, 1) := by decide +kernel
set_option maxRecDepth 100000 in
theorem ti_24_47 : dp_tab 24 47 = (.ireturn, 1) := by decide +kernel
set_option maxRecDepth 100000 in
theorem ti_25_0 : dp_tab 25 0 = (.aload_n 0, 1) := by decide +kernel
set_option maxRecDepth 100000 in
theorem ti_25_1 : dp_tab 25 1 = (.iload_n 1, 1) := by decide +kernel
set_option maxRecDepth 100000 in
theorem ti_25_2 : dp_tab 25 2 = (.invokevirtual 94, 3) := by decide +kernel
set_option maxRecDepth 100000 in
theorem ti_25_5 : dp_tab 25 5 = (.iload_n 2, 1) := by decide +kernel
set_option maxRecDepth 100000 in
theorem ti_25_6 : dp_tab 25 6 = (.iconst 1, 1) := by decide +kernel
set_option maxRecDepth 100000 in
theorem ti_25_7 : dp_tab 25 7 = (.if_icmp .lt 10, 3) := by decide +kernel
set_option maxRecDepth 100000 in
theorem ti_25_10 : dp_tab 25 10 = (.iload_n 2, 1) := by decide +kernel
set_option maxRecDepth 100000 in
theorem ti_25_11 : dp_tab 25 11 = (.sipush 999, 3) := by decide +kernel
set_option maxRecDepth 100000 in
theorem ti_25_14 : dp_tab 25 14 = (.if_icmp .le 13, 3) := by decide +kernel
set_option maxRecDepth 100000 in
theorem ti_25_17 : dp_tab 25 17 = (.new 81, 3) := by decide +kernel
set_option maxRecDepth 100000 in
theorem ti_25_20 : dp_tab 25 20 = (.dup, 1) := by decide +kernel
set_option maxRecDepth 100000 in
theorem ti_25_21 : dp_tab 25 21 = (.ldc 118, 2) := by decide +kernel
set_option maxRecDepth 100000 in
theorem ti_25_23 : dp_tab 25 23 = (.invokespecial 85, 3) := by decide +kernel
set_option maxRecDepth 100000 in
theorem ti_25_26 : dp_tab 25 26 = (.athrow, 1) := by decide +kernel
set_option maxRecDepth 100000 in
theorem ti_25_27 : dp_tab 25 27 = (.aload_n 0, 1) := by decide +kernel
set_option maxRecDepth 100000 in
theorem ti_25_28 : dp_tab 25 28 = (.getfield 26, 3) := by decide +kernel
set_option maxRecDepth 100000 in
theorem ti_25_31 : dp_tab 25 31 = (.getfield 91, 3) := by decide +kernel
set_option maxRecDepth 100000 in
theorem ti_25_34 : dp_tab 25 34 = (.iload_n 1, 1) := by decide +kernel
set_option maxRecDepth 100000 in
theorem ti_25_35 : dp_tab 25 35 = (.aload_n 0, 1) := by decide +kernel
set_option maxRecDepth 100000 in
theorem ti_25_36 : dp_tab 25 36 = (.getfield 26, 3) := by decide +kernel
set_option maxRecDepth 100000 in
theorem ti_25_39 : dp_tab 25 39 = (.getfield 91, 3) := by decide +kernel
set_option maxRecDepth 100000 in
theorem ti_25_42 : dp_tab 25 42 = (.iload_n 1, 1) := by decide +kernel
set_option maxRecDepth 100000 in
theorem ti_25_43 : dp_tab 25 43 = (.iaload, 1) := by decide +kernel
set_option maxRecDepth 100000 in
theorem ti_25_44 : dp_tab 25 44 = (.iload_n 2, 1) := by decide +kernel
set_option maxRecDepth 100000 in
theorem ti_25_45 : dp_tab 25 45 = (.iadd, 1) := by decide +kernel
set_option maxRecDepth 100000 in
theorem ti_25_46 : dp_tab 25 46 = (.sipush 9999, 3) := by decide +kernel
set_option maxRecDepth 100000 in
theorem ti_25_49 : dp_tab 25 49 = (.invokestatic 120, 3) := by decide +kernel
set_option maxRecDepth 100000 in
theorem ti_25_52 : dp_tab 25 52 = (.iastore, 1) := by decide +kernel
set_option maxRecDepth 100000 in
theorem ti_25_53 : dp_tab 25 53 = (.aload_n 0, 1) := by decide +kernel
set_option maxRecDepth 100000 in
theorem ti_25_54 : dp_tab 25 54 = (.getfield 26, 3) := by decide +kernel
set_option maxRecDepth 100000 in
theorem ti_25_57 : dp_tab 25 57 = (.getfield 91, 3) := by decide +kernel
set_option maxRecDepth 100000 in
theorem ti_25_60 : dp_tab 25 60 = (.iload_n 1, 1) := by decide +kernel
set_option maxRecDepth 100000 in
theorem ti_25_61 : dp_tab 25 61 = (.iaload, 1) := by decide +kernel
set_option maxRecDepth 100000 in
theorem ti_25_62 : dp_tab 25 62 = (.ireturn, 1) := by decide +kernel
set_option maxRecDepth 100000 in
theorem ti_26_0 : dp_tab 26 0 = (.aload_n 0, 1) := by decide +kernel
set_option maxRecDepth 100000 in
theorem ti_26_1 : dp_tab 26 1 = (.iload_n 1, 1) := by decide +kernel
set_option maxRecDepth 100000 in
theorem ti_26_2 : dp_tab 26 2 = (.invokevirtual 94, 3) := by decide +kernel
set_option maxRecDepth 100000 in
theorem ti_26_5 : dp_tab 26 5 = (.aload_n 0, 1) := by decide +kernel
set_option maxRecDepth 100000 in
theorem ti_26_6 : dp_tab 26 6 = (.aload_n 0, 1) := by decide +kernel
set_option maxRecDepth 100000 in
theorem ti_26_7 : dp_tab 26 7 = (.getfield 26, 3) := by decide +kernel
set_option maxRecDepth 100000 in
theorem ti_26_10 : dp_tab 26 10 = (.iload_n 1, 1) := by decide +kernel
set_option maxRecDepth 100000 in
theorem ti_26_11 : dp_tab 26 11 = (.invokevirtual 125, 3) := by decide +kernel
set_option maxRecDepth 100000 in
theorem ti_26_14 : dp_tab 26 14 = (.ireturn, 1) := by decide +kernel
set_option maxRecDepth 100000 in
theorem ti_27_0 : dp_tab 27 0 = (.iload_n 1, 1) := by decide +kernel
set_option maxRecDepth 100000 in
theorem ti_27_1 : dp_tab 27 1 = (.invokestatic 129, 3) := by decide +kernel
set_option maxRecDepth 100000 in
theorem ti_27_4 : dp_tab 27 4 = (.aload_n 0, 1) := by decide +kernel
set_option maxRecDepth 100000 in
theorem ti_27_5 : dp_tab 27 5 = (.getfield 26, 3) := by decide +kernel
set_option maxRecDepth 100000 in
theorem ti_27_8 : dp_tab 27 8 = (.invokevirtual 132, 3) := by decide +kernel
set_option maxRecDepth 100000 in
theorem ti_27_11 : dp_tab 27 11 = (.istore_n 2, 1) := by decide +kernel
set_option maxRecDepth 100000 in
theorem ti_27_12 : dp_tab 27 12 = (.aload_n 0, 1) := by decide +kernel
set_option maxRecDepth 100000 in
theorem ti_27_13 : dp_tab 27 13 = (.aload_n 0, 1) := by decide +kernel
set_option maxRecDepth 100000 in
theorem ti_27_14 : dp_tab 27 14 = (.getfield 26, 3) := by decide +kernel
set_option maxRecDepth 100000 in
theorem ti_27_17 : dp_tab 27 17 = (.iload_n 1, 1) := by decide +kernel
set_option maxRecDepth 100000 in
theorem ti_27_18 : dp_tab 27 18 = (.invokevirtual 136, 3) := by decide +kernel
set_option maxRecDepth 100000 in
theorem ti_27_21 : dp_tab 27 21 = (.aload_n 0, 1) := by decide +kernel
set_option maxRecDepth 100000 in
theorem ti_27_22 : dp_tab 27 22 = (.getfield 26, 3) := by decide +kernel
set_option maxRecDepth 100000 in
theorem ti_27_25 : dp_tab 27 25 = (.invokevirtual 132, 3) := by decide +kernel
set_option maxRecDepth 100000 in
theorem ti_27_28 : dp_tab 27 28 = (.iload_n 2, 1) := by decide +kernel
set_option maxRecDepth 100000 in
theorem ti_27_29 : dp_tab 27 29 = (.isub, 1) := by decide +kernel
set_option maxRecDepth 100000 in
theorem ti_27_30 : dp_tab 27 30 = (.ireturn, 1) := by decide +kernel
set_option maxRecDepth 100000 in
theorem ti_28_0 : dp_tab 28 0 = (.aload_n 0, 1) := by decide +kernel
set_option maxRecDepth 100000 in
theorem ti_28_1 : dp_tab 28 1 = (.iload_n 1, 1) := by decide +kernel
set_option maxRecDepth 100000 in
theorem ti_28_2 : dp_tab 28 2 = (.invokevirtual 61, 3) := by decide +kernel
set_option maxRecDepth 100000 in
theorem ti_28_5 : dp_tab 28 5 = (.iload_n 2, 1) := by decide +kernel
set_option maxRecDepth 100000 in
theorem ti_28_6 : dp_tab 28 6 = (.iconst 4, 1) := by decide +kernel
set_option maxRecDepth 100000 in
theorem ti_28_7 : dp_tab 28 7 = (.invokestatic 140, 3) := by decide +kernel
set_option maxRecDepth 100000 in
theorem ti_28_10 : dp_tab 28 10 = (.aload_n 0, 1) := by decide +kernel
set_option maxRecDepth 100000 in
theorem ti_28_11 : dp_tab 28 11 = (.iload_n 1, 1) := by decide +kernel
set_option maxRecDepth 100000 in
theorem ti_28_12 : dp_tab 28 12 = (.iload_n 2, 1) := by decide +kernel
set_option maxRecDepth 100000 in
theorem ti_28_13 : dp_tab 28 13 = (.invokevirtual 143, 3) := by decide +kernel
set_option maxRecDepth 100000 in
theorem ti_28_16 : dp_tab 28 16 = (.ireturn, 1) := by decide +kernel
set_option maxRecDepth 100000 in
theorem ti_29_0 : dp_tab 29 0 = (.aload_n 0, 1) := by decide +kernel
set_option maxRecDepth 100000 in
theorem ti_29_1 : dp_tab 29 1 = (.iload_n 1, 1) := by decide +kernel
set_option maxRecDepth 100000 in
theorem ti_29_2 : dp_tab 29 2 = (.invokevirtual 61, 3) := by decide +kernel
set_option maxRecDepth 100000 in
theorem ti_29_5 : dp_tab 29 5 = (.iload_n 2, 1) := by decide +kernel
set_option maxRecDepth 100000 in
theorem ti_29_6 : dp_tab 29 6 = (.aload_n 0, 1) := by decide +kernel
set_option maxRecDepth 100000 in
theorem ti_29_7 : dp_tab 29 7 = (.getfield 10, 3) := by decide +kernel
set_option maxRecDepth 100000 in
theorem ti_29_10 : dp_tab 29 10 = (.getfield 64, 3) := by decide +kernel
set_option maxRecDepth 100000 in
theorem ti_29_13 : dp_tab 29 13 = (.iload_n 1, 1) := by decide +kernel
set_option maxRecDepth 100000 in
theorem ti_29_14 : dp_tab 29 14 = (.iaload, 1) := by decide +kernel
set_option maxRecDepth 100000 in
theorem ti_29_15 : dp_tab 29 15 = (.invokestatic 73, 3) := by decide +kernel
set_option maxRecDepth 100000 in
theorem ti_29_18 : dp_tab 29 18 = (.aload_n 0, 1) := by decide +kernel
set_option maxRecDepth 100000 in
theorem ti_29_19 : dp_tab 29 19 = (.getfield 10, 3) := by decide +kernel
set_option maxRecDepth 100000 in
theorem ti_29_22 : dp_tab 29 22 = (.getfield 69, 3) := by decide +kernel
set_option maxRecDepth 100000 in
theorem ti_29_25 : dp_tab 29 25 = (.iload_n 1, 1) := by decide +kernel
set_option maxRecDepth 100000 in
theorem ti_29_26 : dp_tab 29 26 = (.aaload, 1) := by decide +kernel
set_option maxRecDepth 100000 in
theorem ti_29_27 : dp_tab 29 27 = (.iload_n 2, 1) := by decide +kernel
set_option maxRecDepth 100000 in
theorem ti_29_28 : dp_tab 29 28 = (.iaload, 1) := by decide +kernel
set_option maxRecDepth 100000 in
theorem ti_29_29 : dp_tab 29 29 = (.ireturn, 1) := by decide +kernel
set_option maxRecDepth 100000 in
theorem ti_30_0 : dp_tab 30 0 = (.aload_n 0, 1) := by decide +kernel
set_option maxRecDepth 100000 in
theorem ti_30_1 : dp_tab 30 1 = (.iload_n 1, 1) := by decide +kernel
set_option maxRecDepth 100000 in
theorem ti_30_2 : dp_tab 30 2 = (.invokevirtual 94, 3) := by decide +kernel
set_option maxRecDepth 100000 in
theorem ti_30_5 : dp_tab 30 5 = (.iload_n 2, 1) := by decide +kernel
set_option maxRecDepth 100000 in
theorem ti_30_6 : dp_tab 30 6 = (.bipush 6, 2) := by decide +kernel
set_option maxRecDepth 100000 in
theorem ti_30_8 : dp_tab 30 8 = (.invokestatic 140, 3) := by decide +kernel
set_option maxRecDepth 100000 in
theorem ti_30_11 : dp_tab 30 11 = (.aload_n 0, 1) := by decide +kernel
set_option maxRecDepth 100000 in
theorem ti_30_12 : dp_tab 30 12 = (.iload_n 1, 1) := by decide +kernel
set_option maxRecDepth 100000 in
theorem ti_30_13 : dp_tab 30 13 = (.iload_n 2, 1) := by decide +kernel
set_option maxRecDepth 100000 in
theorem ti_30_14 : dp_tab 30 14 = (.invokevirtual 146, 3) := by decide +kernel
set_option maxRecDepth 100000 in
theorem ti_30_17 : dp_tab 30 17 = (.ireturn, 1) := by decide +kernel
set_option maxRecDepth 100000 in
theorem ti_31_0 : dp_tab 31 0 = (.aload_n 0, 1) := by decide +kernel
set_option maxRecDepth 100000 in
theorem ti_31_1 : dp_tab 31 1 = (.iload_n 1, 1) := by decide +kernel
set_option maxRecDepth 100000 in
theorem ti_31_2 : dp_tab 31 2 = (.invokevirtual 94, 3) := by decide +kernel
set_option maxRecDepth 100000 in
theorem ti_31_5 : dp_tab 31 5 = (.iload_n 2, 1) := by decide +kernel
set_option maxRecDepth 100000 in
theorem ti_31_6 : dp_tab 31 6 = (.aload_n 0, 1) := by decide +kernel
set_option maxRecDepth 100000 in
theorem ti_31_7 : dp_tab 31 7 = (.getfield 19, 3) := by decide +kernel
set_option maxRecDepth 100000 in
theorem ti_31_10 : dp_tab 31 10 = (.getfield 97, 3) := by decide +kernel
set_option maxRecDepth 100000 in
theorem ti_31_13 : dp_tab 31 13 = (.iload_n 1, 1) := by decide +kernel
set_option maxRecDepth 100000 in
theorem ti_31_14 : dp_tab 31 14 = (.iaload, 1) := by decide +kernel
set_option maxRecDepth 100000 in
theorem ti_31_15 : dp_tab 31 15 = (.invokestatic 73, 3) := by decide +kernel
set_option maxRecDepth 100000 in
theorem ti_31_18 : dp_tab 31 18 = (.aload_n 0, 1) := by decide +kernel
set_option maxRecDepth 100000 in
theorem ti_31_19 : dp_tab 31 19 = (.getfield 19, 3) := by decide +kernel
set_option maxRecDepth 100000 in
theorem ti_31_22 : dp_tab 31 22 = (.getfield 108, 3) := by decide +kernel
set_option maxRecDepth 100000 in
theorem ti_31_25 : dp_tab 31 25 = (.iload_n 1, 1) := by decide +kernel
set_option maxRecDepth 100000 in
theorem ti_31_26 : dp_tab 31 26 = (.aaload, 1) := by decide +kernel
set_option maxRecDepth 100000 in
theorem ti_31_27 : dp_tab 31 27 = (.iload_n 2, 1) := by decide +kernel
set_option maxRecDepth 100000 in
theorem ti_31_28 : dp_tab 31 28 = (.iaload, 1) := by decide +kernel
set_option maxRecDepth 100000 in
theorem ti_31_29 : dp_tab 31 29 = (.ireturn, 1) := by decide +kernel
set_option maxRecDepth 100000 in
theorem ti_32_0 : dp_tab 32 0 = (.iload_n 1, 1) := by decide +kernel
set_option maxRecDepth 100000 in
theorem ti_32_1 : dp_tab 32 1 = (.bipush 7, 2) := by decide +kernel
set_option maxRecDepth 100000 in
theorem ti_32_3 : dp_tab 32 3 = (.invokestatic 140, 3) := by decide +kernel
set_option maxRecDepth 100000 in
theorem ti_32_6 : dp_tab 32 6 = (.aload_n 0, 1) := by decide +kernel
set_option maxRecDepth 100000 in
theorem ti_32_7 : dp_tab 32 7 = (.iload_n 1, 1) := by decide +kernel
set_option maxRecDepth 100000 in
theorem ti_32_8 : dp_tab 32 8 = (.invokevirtual 149, 3) := by decide +kernel
set_option maxRecDepth 100000 in
theorem ti_32_11 : dp_tab 32 11 = (.ireturn, 1) := by decide +kernel
set_option maxRecDepth 100000 in
theorem ti_33_0 : dp_tab 33 0 = (.iload_n 1, 1) := by decide +kernel
set_option maxRecDepth 100000 in
theorem ti_33_1 : dp_tab 33 1 = (.invokestatic 41, 3) := by decide +kernel
set_option maxRecDepth 100000 in
theorem ti_33_4 : dp_tab 33 4 = (.aload_n 0, 1) := by decide +kernel
set_option maxRecDepth 100000 in
theorem ti_33_5 : dp_tab 33 5 = (.getfield 10, 3) := by decide +kernel
set_option maxRecDepth 100000 in
theorem ti_33_8 : dp_tab 33 8 = (.iload_n 1, 1) := by decide +kernel
set_option maxRecDepth 100000 in
theorem ti_33_9 : dp_tab 33 9 = (.invokevirtual 153, 3) := by decide +kernel
set_option maxRecDepth 100000 in
theorem ti_33_12 : dp_tab 33 12 = (.ireturn, 1) := by decide +kernel
set_option maxRecDepth 100000 in
theorem ti_34_0 : dp_tab 34 0 = (.aload_n 0, 1) := by decide +kernel
set_option maxRecDepth 100000 in
theorem ti_34_1 : dp_tab 34 1 = (.iload_n 1, 1) := by decide +kernel
set_option maxRecDepth 100000 in
theorem ti_34_2 : dp_tab 34 2 = (.invokevirtual 94, 3) := by decide +kernel
set_option maxRecDepth 100000 in
theorem ti_34_5 : dp_tab 34 5 = (.aload_n 0, 1) := by decide +kernel
set_option maxRecDepth 100000 in
theorem ti_34_6 : dp_tab 34 6 = (.iload_n 2, 1) := by decide +kernel
set_option maxRecDepth 100000 in
theorem ti_34_7 : dp_tab 34 7 = (.invokevirtual 61, 3) := by decide +kernel
set_option maxRecDepth 100000 in
theorem ti_34_10 : dp_tab 34 10 = (.aload_n 0, 1) := by decide +kernel
set_option maxRecDepth 100000 in
theorem ti_34_11 : dp_tab 34 11 = (.aload_n 0, 1) := by decide +kernel
set_option maxRecDepth 100000 in
theorem ti_34_12 : dp_tab 34 12 = (.getfield 26, 3) := by decide +kernel
set_option maxRecDepth 100000 in
theorem ti_34_15 : dp_tab 34 15 = (.iload_n 1, 1) := by decide +kernel
set_option maxRecDepth 100000 in
theorem ti_34_16 : dp_tab 34 16 = (.iload_n 2, 1) := by decide +kernel
set_option maxRecDepth 100000 in
theorem ti_34_17 : dp_tab 34 17 = (.invokevirtual 156, 3) := by decide +kernel
set_option maxRecDepth 100000 in
theorem ti_34_20 : dp_tab 34 20 = (.ireturn, 1) := by decide +kernel
set_option maxRecDepth 100000 in
theorem ti_35_0 : dp_tab 35 0 = (.aload_n 0, 1) := by decide +kernel
set_option maxRecDepth 100000 in
theorem ti_35_1 : dp_tab 35 1 = (.iload_n 1, 1) := by decide +kernel
set_option maxRecDepth 100000 in
theorem ti_35_2 : dp_tab 35 2 = (.invokevirtual 94, 3) := by decide +kernel
set_option maxRecDepth 100000 in
theorem ti_35_5 : dp_tab 35 5 = (.iload_n 2, 1) := by decide +kernel
set_option maxRecDepth 100000 in
theorem ti_35_6 : dp_tab 35 6 = (.aload_n 0, 1) := by decide +kernel
set_option maxRecDepth 100000 in
theorem ti_35_7 : dp_tab 35 7 = (.iload_n 1, 1) := by decide +kernel
set_option maxRecDepth 100000 in
theorem ti_35_8 : dp_tab 35 8 = (.invokevirtual 160, 3) := by decide +kernel
set_option maxRecDepth 100000 in
theorem ti_35_11 : dp_tab 35 11 = (.invokestatic 73, 3) := by decide +kernel
set_option maxRecDepth 100000 in
theorem ti_35_14 : dp_tab 35 14 = (.aload_n 0, 1) := by decide +kernel
set_option maxRecDepth 100000 in
theorem ti_35_15 : dp_tab 35 15 = (.iload_n 1, 1) := by decide +kernel
set_option maxRecDepth 100000 in
theorem ti_35_16 : dp_tab 35 16 = (.iload_n 2, 1) := by decide +kernel
set_option maxRecDepth 100000 in
theorem ti_35_17 : dp_tab 35 17 = (.invokevirtual 163, 3) := by decide +kernel
set_option maxRecDepth 100000 in
theorem ti_35_20 : dp_tab 35 20 = (.ireturn, 1) := by decide +kernel
set_option maxRecDepth 100000 in
theorem ti_36_0 : dp_tab 36 0 = (.aload_n 0, 1) := by decide +kernel
set_option maxRecDepth 100000 in
theorem ti_36_1 : dp_tab 36 1 = (.getfield 30, 3) := by decide +kernel
set_option maxRecDepth 100000 in
theorem ti_36_4 : dp_tab 36 4 = (.aload_n 0, 1) := by decide +kernel
set_option maxRecDepth 100000 in
theorem ti_36_5 : dp_tab 36 5 = (.getfield 26, 3) := by decide +kernel
set_option maxRecDepth 100000 in
theorem ti_36_8 : dp_tab 36 8 = (.invokevirtual 172, 3) := by decide +kernel
set_option maxRecDepth 100000 in
theorem ti_36_11 : dp_tab 36 11 = (.iconst 0, 1) := by decide +kernel
set_option maxRecDepth 100000 in
theorem ti_36_12 : dp_tab 36 12 = (.istore_n 1, 1) := by decide +kernel
set_option maxRecDepth 100000 in
theorem ti_36_13 : dp_tab 36 13 = (.iload_n 1, 1) := by decide +kernel
set_option maxRecDepth 100000 in
theorem ti_36_14 : dp_tab 36 14 = (.bipush 40, 2) := by decide +kernel
set_option maxRecDepth 100000 in
theorem ti_36_16 : dp_tab 36 16 = (.if_icmp .ge 31, 3) := by decide +kernel
set_option maxRecDepth 100000 in
theorem ti_36_19 : dp_tab 36 19 = (.aload_n 0, 1) := by decide +kernel
set_option maxRecDepth 100000 in
theorem ti_36_20 : dp_tab 36 20 = (.aload_n 0, 1) := by decide +kernel
set_option maxRecDepth 100000 in
theorem ti_36_21 : dp_tab 36 21 = (.getfield 30, 3) := by decide +kernel
set_option maxRecDepth 100000 in
theorem ti_36_24 : dp_tab 36 24 = (.invokevirtual 176, 3) := by decide +kernel
set_option maxRecDepth 100000 in
theorem ti_36_27 : dp_tab 36 27 = (.ifCond .eq 5, 3) := by decide +kernel
set_option maxRecDepth 100000 in
theorem ti_36_30 : dp_tab 36 30 = (.iload_n 1, 1) := by decide +kernel
set_option maxRecDepth 100000 in
theorem ti_36_31 : dp_tab 36 31 = (.ireturn, 1) := by decide +kernel
set_option maxRecDepth 100000 in
theorem ti_36_32 : dp_tab 36 32 = (.aload_n 0, 1) := by decide +kernel
set_option maxRecDepth 100000 in
theorem ti_36_33 : dp_tab 36 33 = (.aload_n 0, 1) := by decide +kernel
set_option maxRecDepth 100000 in
theorem ti_36_34 : dp_tab 36 34 = (.getfield 30, 3) := by decide +kernel
set_option maxRecDepth 100000 in
theorem ti_36_37 : dp_tab 36 37 = (.iconst 1, 1) := by decide +kernel
set_option maxRecDepth 100000 in
theorem ti_36_38 : dp_tab 36 38 = (.invokevirtual 136, 3) := by decide +kernel
set_option maxRecDepth 100000 in
theorem ti_36_41 : dp_tab 36 41 = (.iinc 1 1, 3) := by decide +kernel
set_option maxRecDepth 100000 in
theorem ti_36_44 : dp_tab 36 44 = (.goto (-31), 3) := by decide +kernel
set_option maxRecDepth 100000 in
theorem ti_36_47 : dp_tab 36 47 = (.aload_n 0, 1) := by decide +kernel
set_option maxRecDepth 100000 in
theorem ti_36_48 : dp_tab 36 48 = (.aload_n 0, 1) := by decide +kernel
set_option maxRecDepth 100000 in
theorem ti_36_49 : dp_tab 36 49 = (.getfield 30, 3) := by decide +kernel
set_option maxRecDepth 100000 in
theorem ti_36_52 : dp_tab 36 52 = (.invokevirtual 176, 3) := by decide +kernel
set_option maxRecDepth 100000 in
theorem ti_36_55 : dp_tab 36 55 = (.ifCond .eq 8, 3) := by decide +kernel
set_option maxRecDepth 100000 in
theorem ti_36_58 : dp_tab 36 58 = (.bipush 40, 2) := by decide +kernel
set_option maxRecDepth 100000 in
theorem ti_36_60 : dp_tab 36 60 = (.goto 4, 3) := by decide +kernel
set_option maxRecDepth 100000 in
theorem ti_36_63 : dp_tab 36 63 = (.iconst (-1), 1) := by decide +kernel
set_option maxRecDepth 100000 in
theorem ti_36_64 : dp_tab 36 64 = (.ireturn, 1) := by decide +kernel
set_option maxRecDepth 100000 in
theorem ti_37_0 : dp_tab 37 0 = (.aload_n 0, 1) := by decide +kernel
set_option maxRecDepth 100000 in
theorem ti_37_1 : dp_tab 37 1 = (.getfield 26, 3) := by decide +kernel
set_option maxRecDepth 100000 in
theorem ti_37_4 : dp_tab 37 4 = (.invokevirtual 132, 3) := by decide +kernel
set_option maxRecDepth 100000 in
theorem ti_37_7 : dp_tab 37 7 = (.istore_n 1, 1) := by decide +kernel
set_option maxRecDepth 100000 in
theorem ti_37_8 : dp_tab 37 8 = (.iload_n 1, 1) := by decide +kernel
set_option maxRecDepth 100000 in
theorem ti_37_9 : dp_tab 37 9 = (.ifCond .gt 5, 3) := by decide +kernel
set_option maxRecDepth 100000 in
theorem ti_37_12 : dp_tab 37 12 = (.dconst 0, 1) := by decide +kernel
set_option maxRecDepth 100000 in
theorem ti_37_13 : dp_tab 37 13 = (.dreturn, 1) := by decide +kernel
set_option maxRecDepth 100000 in
theorem ti_37_14 : dp_tab 37 14 = (.aload_n 0, 1) := by decide +kernel
set_option maxRecDepth 100000 in
theorem ti_37_15 : dp_tab 37 15 = (.getfield 26, 3) := by decide +kernel
set_option maxRecDepth 100000 in
theorem ti_37_18 : dp_tab 37 18 = (.invokevirtual 180, 3) := by decide +kernel
set_option maxRecDepth 100000 in
theorem ti_37_21 : dp_tab 37 21 = (.i2d, 1) := by decide +kernel
set_option maxRecDepth 100000 in
theorem ti_37_22 : dp_tab 37 22 = (.iload_n 1, 1) := by decide +kernel
set_option maxRecDepth 100000 in
theorem ti_37_23 : dp_tab 37 23 = (.i2d, 1) := by decide +kernel
set_option maxRecDepth 100000 in
theorem ti_37_24 : dp_tab 37 24 = (.ddiv, 1) := by decide +kernel
set_option maxRecDepth 100000 in
theorem ti_37_25 : dp_tab 37 25 = (.dreturn, 1) := by decide +kernel
set_option maxRecDepth 100000 in
theorem ti_38_0 : dp_tab 38 0 = (.iload_n 0, 1) := by decide +kernel
set_option maxRecDepth 100000 in
theorem ti_38_1 : dp_tab 38 1 = (.ifCond .lt 9, 3) := by decide +kernel
set_option maxRecDepth 100000 in
theorem ti_38_4 : dp_tab 38 4 = (.iload_n 0, 1) := by decide +kernel
set_option maxRecDepth 100000 in
theorem ti_38_5 : dp_tab 38 5 = (.bipush 40, 2) := by decide +kernel
set_option maxRecDepth 100000 in
theorem ti_38_7 : dp_tab 38 7 = (.if_icmp .lt 13, 3) := by decide +kernel
set_option maxRecDepth 100000 in
theorem ti_38_10 : dp_tab 38 10 = (.new 197, 3) := by decide +kernel
set_option maxRecDepth 100000 in
theorem ti_38_13 : dp_tab 38 13 = (.dup, 1) := by decide +kernel
set_option maxRecDepth 100000 in
theorem ti_38_14 : dp_tab 38 14 = (.ldc 199, 2) := by decide +kernel
set_option maxRecDepth 100000 in
theorem ti_38_16 : dp_tab 38 16 = (.invokespecial 201, 3) := by decide +kernel
set_option maxRecDepth 100000 in
theorem ti_38_19 : dp_tab 38 19 = (.athrow, 1) := by decide +kernel
set_option maxRecDepth 100000 in
theorem ti_38_20 : dp_tab 38 20 = (.return_, 1) := by decide +kernel
set_option maxRecDepth 100000 in
theorem ti_39_0 : dp_tab 39 0 = (.iload_n 0, 1) := by decide +kernel
set_option maxRecDepth 100000 in
theorem ti_39_1 : dp_tab 39 1 = (.ifCond .lt 9, 3) := by decide +kernel
set_option maxRecDepth 100000 in
theorem ti_39_4 : dp_tab 39 4 = (.iload_n 0, 1) := by decide +kernel
set_option maxRecDepth 100000 in
theorem ti_39_5 : dp_tab 39 5 = (.bipush 20, 2) := by decide +kernel
set_option maxRecDepth 100000 in
theorem ti_39_7 : dp_tab 39 7 = (.if_icmp .lt 13, 3) := by decide +kernel
set_option maxRecDepth 100000 in
theorem ti_39_10 : dp_tab 39 10 = (.new 197, 3) := by decide +kernel
set_option maxRecDepth 100000 in
theorem ti_39_13 : dp_tab 39 13 = (.dup, 1) := by decide +kernel
set_option maxRecDepth 100000 in
theorem ti_39_14 : dp_tab 39 14 = (.ldc 202, 2) := by decide +kernel
set_option maxRecDepth 100000 in
theorem ti_39_16 : dp_tab 39 16 = (.invokespecial 201, 3) := by decide +kernel
set_option maxRecDepth 100000 in
theorem ti_39_19 : dp_tab 39 19 = (.athrow, 1) := by decide +kernel
set_option maxRecDepth 100000 in
theorem ti_39_20 : dp_tab 39 20 = (.return_, 1) := by decide +kernel
set_option maxRecDepth 100000 in
theorem ti_40_0 : dp_tab 40 0 = (.iload_n 1, 1) := by decide +kernel
set_option maxRecDepth 100000 in
theorem ti_40_1 : dp_tab 40 1 = (.ifCond .lt 14, 3) := by decide +kernel
set_option maxRecDepth 100000 in
theorem ti_40_4 : dp_tab 40 4 = (.iload_n 1, 1) := by decide +kernel
set_option maxRecDepth 100000 in
theorem ti_40_5 : dp_tab 40 5 = (.aload_n 0, 1) := by decide +kernel
set_option maxRecDepth 100000 in
theorem ti_40_6 : dp_tab 40 6 = (.getfield 10, 3) := by decide +kernel
set_option maxRecDepth 100000 in
theorem ti_40_9 : dp_tab 40 9 = (.getfield 50, 3) := by decide +kernel
set_option maxRecDepth 100000 in
theorem ti_40_12 : dp_tab 40 12 = (.if_icmp .lt 13, 3) := by decide +kernel
set_option maxRecDepth 100000 in
theorem ti_40_15 : dp_tab 40 15 = (.new 197, 3) := by decide +kernel
set_option maxRecDepth 100000 in
theorem ti_40_18 : dp_tab 40 18 = (.dup, 1) := by decide +kernel
set_option maxRecDepth 100000 in
theorem ti_40_19 : dp_tab 40 19 = (.ldc 204, 2) := by decide +kernel
set_option maxRecDepth 100000 in
theorem ti_40_21 : dp_tab 40 21 = (.invokespecial 201, 3) := by decide +kernel
set_option maxRecDepth 100000 in
theorem ti_40_24 : dp_tab 40 24 = (.athrow, 1) := by decide +kernel
set_option maxRecDepth 100000 in
theorem ti_40_25 : dp_tab 40 25 = (.return_, 1) := by decide +kernel
set_option maxRecDepth 100000 in
theorem ti_41_0 : dp_tab 41 0 = (.iload_n 1, 1) := by decide +kernel
set_option maxRecDepth 100000 in
theorem ti_41_1 : dp_tab 41 1 = (.ifCond .lt 14, 3) := by decide +kernel
set_option maxRecDepth 100000 in
theorem ti_41_4 : dp_tab 41 4 = (.iload_n 1, 1) := by decide +kernel
set_option maxRecDepth 100000 in
theorem ti_41_5 : dp_tab 41 5 = (.aload_n 0, 1) := by decide +kernel
set_option maxRecDepth 100000 in
theorem ti_41_6 : dp_tab 41 6 = (.getfield 19, 3) := by decide +kernel
set_option maxRecDepth 100000 in
theorem ti_41_9 : dp_tab 41 9 = (.getfield 86, 3) := by decide +kernel
set_option maxRecDepth 100000 in
theorem ti_41_12 : dp_tab 41 12 = (.if_icmp .lt 13, 3) := by decide +kernel
set_option maxRecDepth 100000 in
theorem ti_41_15 : dp_tab 41 15 = (.new 197, 3) := by decide +kernel
set_option maxRecDepth 100000 in
theorem ti_41_18 : dp_tab 41 18 = (.dup, 1) := by decide +kernel
set_option maxRecDepth 100000 in
theorem ti_41_19 : dp_tab 41 19 = (.ldc 206, 2) := by decide +kernel
set_option maxRecDepth 100000 in
theorem ti_41_21 : dp_tab 41 21 = (.invokespecial 201, 3) := by decide +kernel
set_option maxRecDepth 100000 in
theorem ti_41_24 : dp_tab 41 24 = (.athrow, 1) := by decide +kernel
set_option maxRecDepth 100000 in
theorem ti_41_25 : dp_tab 41 25 = (.return_, 1) := by decide +kernel
set_option maxRecDepth 100000 in
theorem ti_42_0 : dp_tab 42 0 = (.iload_n 0, 1) := by decide +kernel
set_option maxRecDepth 100000 in
theorem ti_42_1 : dp_tab 42 1 = (.ifCond .lt 8, 3) := by decide +kernel
set_option maxRecDepth 100000 in
theorem ti_42_4 : dp_tab 42 4 = (.iload_n 0, 1) := by decide +kernel
set_option maxRecDepth 100000 in
theorem ti_42_5 : dp_tab 42 5 = (.iload_n 1, 1) := by decide +kernel
set_option maxRecDepth 100000 in
theorem ti_42_6 : dp_tab 42 6 = (.if_icmp .lt 13, 3) := by decide +kernel
set_option maxRecDepth 100000 in
theorem ti_42_9 : dp_tab 42 9 = (.new 197, 3) := by decide +kernel
set_option maxRecDepth 100000 in
theorem ti_42_12 : dp_tab 42 12 = (.dup, 1) := by decide +kernel
set_option maxRecDepth 100000 in
theorem ti_42_13 : dp_tab 42 13 = (.ldc 208, 2) := by decide +kernel
set_option maxRecDepth 100000 in
theorem ti_42_15 : dp_tab 42 15 = (.invokespecial 201, 3) := by decide +kernel
set_option maxRecDepth 100000 in
theorem ti_42_18 : dp_tab 42 18 = (.athrow, 1) := by decide +kernel
set_option maxRecDepth 100000 in
theorem ti_42_19 : dp_tab 42 19 = (.return_, 1) := by decide +kernel
set_option maxRecDepth 100000 in
theorem ti_43_0 : dp_tab 43 0 = (.iload_n 0, 1) := by decide +kernel
set_option maxRecDepth 100000 in
theorem ti_43_1 : dp_tab 43 1 = (.ifCond .lt 8, 3) := by decide +kernel
set_option maxRecDepth 100000 in
theorem ti_43_4 : dp_tab 43 4 = (.iload_n 0, 1) := by decide +kernel
set_option maxRecDepth 100000 in
theorem ti_43_5 : dp_tab 43 5 = (.iload_n 1, 1) := by decide +kernel
set_option maxRecDepth 100000 in
theorem ti_43_6 : dp_tab 43 6 = (.if_icmp .lt 13, 3) := by decide +kernel
set_option maxRecDepth 100000 in
theorem ti_43_9 : dp_tab 43 9 = (.new 197, 3) := by decide +kernel
set_option maxRecDepth 100000 in
theorem ti_43_12 : dp_tab 43 12 = (.dup, 1) := by decide +kernel
set_option maxRecDepth 100000 in
theorem ti_43_13 : dp_tab 43 13 = (.ldc 210, 2) := by decide +kernel
set_option maxRecDepth 100000 in
theorem ti_43_15 : dp_tab 43 15 = (.invokespecial 201, 3) := by decide +kernel
set_option maxRecDepth 100000 in
theorem ti_43_18 : dp_tab 43 18 = (.athrow, 1) := by decide +kernel
set_option maxRecDepth 100000 in
theorem ti_43_19 : dp_tab 43 19 = (.return_, 1) := by decide +kernel
set_option maxRecDepth 100000 in
theorem ti_44_0 : dp_tab 44 0 = (.iload_n 0, 1) := by decide +kernel
set_option maxRecDepth 100000 in
theorem ti_44_1 : dp_tab 44 1 = (.iconst 1, 1) := by decide +kernel
set_option maxRecDepth 100000 in
theorem ti_44_2 : dp_tab 44 2 = (.if_icmp .lt 9, 3) := by decide +kernel
set_option maxRecDepth 100000 in
theorem ti_44_5 : dp_tab 44 5 = (.iload_n 0, 1) := by decide +kernel
set_option maxRecDepth 100000 in
theorem ti_44_6 : dp_tab 44 6 = (.bipush 30, 2) := by decide +kernel
set_option maxRecDepth 100000 in
theorem ti_44_8 : dp_tab 44 8 = (.if_icmp .le 13, 3) := by decide +kernel
set_option maxRecDepth 100000 in
theorem ti_44_11 : dp_tab 44 11 = (.new 81, 3) := by decide +kernel
set_option maxRecDepth 100000 in
theorem ti_44_14 : dp_tab 44 14 = (.dup, 1) := by decide +kernel
set_option maxRecDepth 100000 in
theorem ti_44_15 : dp_tab 44 15 = (.ldc 212, 2) := by decide +kernel
set_option maxRecDepth 100000 in
theorem ti_44_17 : dp_tab 44 17 = (.invokespecial 85, 3) := by decide +kernel
set_option maxRecDepth 100000 in
theorem ti_44_20 : dp_tab 44 20 = (.athrow, 1) := by decide +kernel
set_option maxRecDepth 100000 in
theorem ti_44_21 : dp_tab 44 21 = (.return_, 1) := by decide +kernel
set_option maxRecDepth 100000 in
theorem ti_45_0 : dp_tab 45 0 = (.iload_n 2, 1) := by decide +kernel
set_option maxRecDepth 100000 in
theorem ti_45_1 : dp_tab 45 1 = (.tableswitch 56 0 2 #[27, 37, 46], 27) := by decide +kernel
set_option maxRecDepth 100000 in
theorem ti_45_28 : dp_tab 45 28 = (.aload_n 0, 1) := by decide +kernel
set_option maxRecDepth 100000 in
theorem ti_45_29 : dp_tab 45 29 = (.getfield 10, 3) := by decide +kernel
set_option maxRecDepth 100000 in
theorem ti_45_32 : dp_tab 45 32 = (.getfield 64, 3) := by decide +kernel
set_option maxRecDepth 100000 in
theorem ti_45_35 : dp_tab 45 35 = (.iload_n 1, 1) := by decide +kernel
set_option maxRecDepth 100000 in
theorem ti_45_36 : dp_tab 45 36 = (.iaload, 1) := by decide +kernel
set_option maxRecDepth 100000 in
theorem ti_45_37 : dp_tab 45 37 = (.ireturn, 1) := by decide +kernel
set_option maxRecDepth 100000 in
theorem ti_45_38 : dp_tab 45 38 = (.aload_n 0, 1) := by decide +kernel
set_option maxRecDepth 100000 in
theorem ti_45_39 : dp_tab 45 39 = (.getfield 10, 3) := by decide +kernel
set_option maxRecDepth 100000 in
theorem ti_45_42 : dp_tab 45 42 = (.iload_n 1, 1) := by decide +kernel
set_option maxRecDepth 100000 in
theorem ti_45_43 : dp_tab 45 43 = (.invokevirtual 214, 3) := by decide +kernel
set_option maxRecDepth 100000 in
theorem ti_45_46 : dp_tab 45 46 = (.ireturn, 1) := by decide +kernel
set_option maxRecDepth 100000 in
theorem ti_45_47 : dp_tab 45 47 = (.aload_n 0, 1) := by decide +kernel
set_option maxRecDepth 100000 in
theorem ti_45_48 : dp_tab 45 48 = (.getfield 26, 3) := by decide +kernel
set_option maxRecDepth 100000 in
theorem ti_45_51 : dp_tab 45 51 = (.getfield 217, 3) := by decide +kernel
set_option maxRecDepth 100000 in
theorem ti_45_54 : dp_tab 45 54 = (.iload_n 1, 1) := by decide +kernel
set_option maxRecDepth 100000 in
theorem ti_45_55 : dp_tab 45 55 = (.iaload, 1) := by decide +kernel
set_option maxRecDepth 100000 in
theorem ti_45_56 : dp_tab 45 56 = (.ireturn, 1) := by decide +kernel
set_option maxRecDepth 100000 in
theorem ti_45_57 : dp_tab 45 57 = (.aload_n 0, 1) := by decide +kernel
set_option maxRecDepth 100000 in
theorem ti_45_58 : dp_tab 45 58 = (.getfield 26, 3) := by decide +kernel
set_option maxRecDepth 100000 in
theorem ti_45_61 : dp_tab 45 61 = (.iload_n 1, 1) := by decide +kernel
set_option maxRecDepth 100000 in
theorem ti_45_62 : dp_tab 45 62 = (.invokevirtual 220, 3) := by decide +kernel
set_option maxRecDepth 100000 in
theorem ti_45_65 : dp_tab 45 65 = (.ireturn, 1) := by decide +kernel
set_option maxRecDepth 100000 in
theorem ti_46_0 : dp_tab 46 0 = (.iload_n 2, 1) := by decide +kernel
set_option maxRecDepth 100000 in
theorem ti_46_1 : dp_tab 46 1 = (.tableswitch 88 0 4 #[35, 45, 55, 65, 78], 35) := by decide +kernel
set_option maxRecDepth 100000 in
theorem ti_46_36 : dp_tab 46 36 = (.aload_n 0, 1) := by decide +kernel
set_option maxRecDepth 100000 in
theorem ti_46_37 : dp_tab 46 37 = (.getfield 26, 3) := by decide +kernel
set_option maxRecDepth 100000 in
theorem ti_46_40 : dp_tab 46 40 = (.getfield 91, 3) := by decide +kernel
set_option maxRecDepth 100000 in
theorem ti_46_43 : dp_tab 46 43 = (.iload_n 1, 1) := by decide +kernel
set_option maxRecDepth 100000 in
theorem ti_46_44 : dp_tab 46 44 = (.iaload, 1) := by decide +kernel
set_option maxRecDepth 100000 in
theorem ti_46_45 : dp_tab 46 45 = (.ireturn, 1) := by decide +kernel
set_option maxRecDepth 100000 in
theorem ti_46_46 : dp_tab 46 46 = (.aload_n 0, 1) := by decide +kernel
set_option maxRecDepth 100000 in
theorem ti_46_47 : dp_tab 46 47 = (.getfield 19, 3) := by decide +kernel
set_option maxRecDepth 100000 in
theorem ti_46_50 : dp_tab 46 50 = (.getfield 97, 3) := by decide +kernel
set_option maxRecDepth 100000 in
theorem ti_46_53 : dp_tab 46 53 = (.iload_n 1, 1) := by decide +kernel
set_option maxRecDepth 100000 in
theorem ti_46_54 : dp_tab 46 54 = (.iaload, 1) := by decide +kernel
set_option maxRecDepth 100000 in
theorem ti_46_55 : dp_tab 46 55 = (.ireturn, 1) := by decide +kernel
set_option maxRecDepth 100000 in
theorem ti_46_56 : dp_tab 46 56 = (.aload_n 0, 1) := by decide +kernel
set_option maxRecDepth 100000 in
theorem ti_46_57 : dp_tab 46 57 = (.getfield 19, 3) := by decide +kernel
set_option maxRecDepth 100000 in
theorem ti_46_60 : dp_tab 46 60 = (.getfield 115, 3) := by decide +kernel
set_option maxRecDepth 100000 in
theorem ti_46_63 : dp_tab 46 63 = (.iload_n 1, 1) := by decide +kernel
set_option maxRecDepth 100000 in
theorem ti_46_64 : dp_tab 46 64 = (.iaload, 1) := by decide +kernel
set_option maxRecDepth 100000 in
theorem ti_46_65 : dp_tab 46 65 = (.ireturn, 1) := by decide +kernel
set_option maxRecDepth 100000 in
theorem ti_46_66 : dp_tab 46 66 = (.aload_n 0, 1) := by decide +kernel
set_option maxRecDepth 100000 in
theorem ti_46_67 : dp_tab 46 67 = (.getfield 26, 3) := by decide +kernel
set_option maxRecDepth 100000 in
theorem ti_46_70 : dp_tab 46 70 = (.getfield 223, 3) := by decide +kernel
set_option maxRecDepth 100000 in
theorem ti_46_73 : dp_tab 46 73 = (.iload_n 1, 1) := by decide +kernel
set_option maxRecDepth 100000 in
theorem ti_46_74 : dp_tab 46 74 = (.iaload, 1) := by decide +kernel
set_option maxRecDepth 100000 in
theorem ti_46_75 : dp_tab 46 75 = (.invokestatic 226, 3) := by decide +kernel
set_option maxRecDepth 100000 in
theorem ti_46_78 : dp_tab 46 78 = (.ireturn, 1) := by decide +kernel
set_option maxRecDepth 100000 in
theorem ti_46_79 : dp_tab 46 79 = (.aload_n 0, 1) := by decide +kernel
set_option maxRecDepth 100000 in
theorem ti_46_80 : dp_tab 46 80 = (.getfield 26, 3) := by decide +kernel
set_option maxRecDepth 100000 in
theorem ti_46_83 : dp_tab 46 83 = (.getfield 231, 3) := by decide +kernel
set_option maxRecDepth 100000 in
theorem ti_46_86 : dp_tab 46 86 = (.iload_n 1, 1) := by decide +kernel
set_option maxRecDepth 100000 in
theorem ti_46_87 : dp_tab 46 87 = (.iaload, 1) := by decide +kernel
set_option maxRecDepth 100000 in
theorem ti_46_88 : dp_tab 46 88 = (.ireturn, 1) := by decide +kernel
set_option maxRecDepth 100000 in
theorem ti_46_89 : dp_tab 46 89 = (.aload_n 0, 1) := by decide +kernel
set_option maxRecDepth 100000 in
theorem ti_46_90 : dp_tab 46 90 = (.iload_n 1, 1) := by decide +kernel
set_option maxRecDepth 100000 in
theorem ti_46_91 : dp_tab 46 91 = (.invokevirtual 160, 3) := by decide +kernel
set_option maxRecDepth 100000 in
theorem ti_46_94 : dp_tab 46 94 = (.ireturn, 1) := by decide +kernel
set_option maxRecDepth 100000 in
theorem ti_47_0 : dp_tab 47 0 = (.iload_n 1, 1) := by decide +kernel
set_option maxRecDepth 100000 in
theorem ti_47_1 : dp_tab 47 1 = (.tableswitch 87 0 5 #[39, 47, 55, 63, 71, 79], 39) := by decide +kernel
set_option maxRecDepth 100000 in
theorem ti_47_40 : dp_tab 47 40 = (.aload_n 0, 1) := by decide +kernel
set_option maxRecDepth 100000 in
theorem ti_47_41 : dp_tab 47 41 = (.getfield 10, 3) := by decide +kernel
set_option maxRecDepth 100000 in
theorem ti_47_44 : dp_tab 47 44 = (.getfield 50, 3) := by decide +kernel
set_option maxRecDepth 100000 in
theorem ti_47_47 : dp_tab 47 47 = (.ireturn, 1) := by decide +kernel
set_option maxRecDepth 100000 in
theorem ti_47_48 : dp_tab 47 48 = (.aload_n 0, 1) := by decide +kernel
set_option maxRecDepth 100000 in
theorem ti_47_49 : dp_tab 47 49 = (.getfield 19, 3) := by decide +kernel
set_option maxRecDepth 100000 in
theorem ti_47_52 : dp_tab 47 52 = (.getfield 86, 3) := by decide +kernel
set_option maxRecDepth 100000 in
theorem ti_47_55 : dp_tab 47 55 = (.ireturn, 1) := by decide +kernel
set_option maxRecDepth 100000 in
theorem ti_47_56 : dp_tab 47 56 = (.aload_n 0, 1) := by decide +kernel
set_option maxRecDepth 100000 in
theorem ti_47_57 : dp_tab 47 57 = (.getfield 10, 3) := by decide +kernel
set_option maxRecDepth 100000 in
theorem ti_47_60 : dp_tab 47 60 = (.invokevirtual 234, 3) := by decide +kernel
set_option maxRecDepth 100000 in
theorem ti_47_63 : dp_tab 47 63 = (.ireturn, 1) := by decide +kernel
set_option maxRecDepth 100000 in
theorem ti_47_64 : dp_tab 47 64 = (.aload_n 0, 1) := by decide +kernel
set_option maxRecDepth 100000 in
theorem ti_47_65 : dp_tab 47 65 = (.getfield 10, 3) := by decide +kernel
set_option maxRecDepth 100000 in
theorem ti_47_68 : dp_tab 47 68 = (.invokevirtual 237, 3) := by decide +kernel
set_option maxRecDepth 100000 in
theorem ti_47_71 : dp_tab 47 71 = (.ireturn, 1) := by decide +kernel
set_option maxRecDepth 100000 in
theorem ti_47_72 : dp_tab 47 72 = (.aload_n 0, 1) := by decide +kernel
set_option maxRecDepth 100000 in
theorem ti_47_73 : dp_tab 47 73 = (.getfield 26, 3) := by decide +kernel
set_option maxRecDepth 100000 in
theorem ti_47_76 : dp_tab 47 76 = (.getfield 240, 3) := by decide +kernel
set_option maxRecDepth 100000 in
theorem ti_47_79 : dp_tab 47 79 = (.ireturn, 1) := by decide +kernel
set_option maxRecDepth 100000 in
theorem ti_47_80 : dp_tab 47 80 = (.aload_n 0, 1) := by decide +kernel
set_option maxRecDepth 100000 in
theorem ti_47_81 : dp_tab 47 81 = (.getfield 26, 3) := by decide +kernel
set_option maxRecDepth 100000 in
theorem ti_47_84 : dp_tab 47 84 = (.invokevirtual 132, 3) := by decide +kernel
set_option maxRecDepth 100000 in
theorem ti_47_87 : dp_tab 47 87 = (.ireturn, 1) := by decide +kernel
set_option maxRecDepth 100000 in
theorem ti_47_88 : dp_tab 47 88 = (.aload_n 0, 1) := by decide +kernel
set_option maxRecDepth 100000 in
theorem ti_47_89 : dp_tab 47 89 = (.getfield 26, 3) := by decide +kernel
set_option maxRecDepth 100000 in
theorem ti_47_92 : dp_tab 47 92 = (.invokevirtual 180, 3) := by decide +kernel
set_option maxRecDepth 100000 in
theorem ti_47_95 : dp_tab 47 95 = (.ireturn, 1) := by decide +kernel
set_option maxRecDepth 100000 in
theorem ti_48_0 : dp_tab 48 0 = (.aload_n 0, 1) := by decide +kernel
set_option maxRecDepth 100000 in
theorem ti_48_1 : dp_tab 48 1 = (.getfield 10, 3) := by decide +kernel
set_option maxRecDepth 100000 in
theorem ti_48_4 : dp_tab 48 4 = (.iload_n 3, 1) := by decide +kernel
set_option maxRecDepth 100000 in
theorem ti_48_5 : dp_tab 48 5 = (.aload_n 0, 1) := by decide +kernel
set_option maxRecDepth 100000 in
theorem ti_48_6 : dp_tab 48 6 = (.getfield 19, 3) := by decide +kernel
set_option maxRecDepth 100000 in
theorem ti_48_9 : dp_tab 48 9 = (.getfield 108, 3) := by decide +kernel
set_option maxRecDepth 100000 in
theorem ti_48_12 : dp_tab 48 12 = (.iload_n 2, 1) := by decide +kernel
set_option maxRecDepth 100000 in
theorem ti_48_13 : dp_tab 48 13 = (.aaload, 1) := by decide +kernel
set_option maxRecDepth 100000 in
theorem ti_48_14 : dp_tab 48 14 = (.aload_n 0, 1) := by decide +kernel
set_option maxRecDepth 100000 in
theorem ti_48_15 : dp_tab 48 15 = (.getfield 19, 3) := by decide +kernel
set_option maxRecDepth 100000 in
theorem ti_48_18 : dp_tab 48 18 = (.getfield 97, 3) := by decide +kernel
set_option maxRecDepth 100000 in
theorem ti_48_21 : dp_tab 48 21 = (.iload_n 2, 1) := by decide +kernel
set_option maxRecDepth 100000 in
theorem ti_48_22 : dp_tab 48 22 = (.iaload, 1) := by decide +kernel
set_option maxRecDepth 100000 in
theorem ti_48_23 : dp_tab 48 23 = (.aload_n 1, 1) := by decide +kernel
set_option maxRecDepth 100000 in
theorem ti_48_24 : dp_tab 48 24 = (.getfield 217, 3) := by decide +kernel
set_option maxRecDepth 100000 in
theorem ti_48_27 : dp_tab 48 27 = (.iload_n 3, 1) := by decide +kernel
set_option maxRecDepth 100000 in
theorem ti_48_28 : dp_tab 48 28 = (.iaload, 1) := by decide +kernel
set_option maxRecDepth 100000 in
theorem ti_48_29 : dp_tab 48 29 = (.invokevirtual 243, 3) := by decide +kernel
set_option maxRecDepth 100000 in
theorem ti_48_32 : dp_tab 48 32 = (.ireturn, 1) := by decide +kernel
set_option maxRecDepth 100000 in
theorem ti_49_0 : dp_tab 49 0 = (.iload 4, 2) := by decide +kernel
set_option maxRecDepth 100000 in
theorem ti_49_2 : dp_tab 49 2 = (.aload_n 0, 1) := by decide +kernel
set_option maxRecDepth 100000 in
theorem ti_49_3 : dp_tab 49 3 = (.getfield 19, 3) := by decide +kernel
set_option maxRecDepth 100000 in
theorem ti_49_6 : dp_tab 49 6 = (.getfield 115, 3) := by decide +kernel
set_option maxRecDepth 100000 in
theorem ti_49_9 : dp_tab 49 9 = (.iload_n 2, 1) := by decide +kernel
set_option maxRecDepth 100000 in
theorem ti_49_10 : dp_tab 49 10 = (.iaload, 1) := by decide +kernel
set_option maxRecDepth 100000 in
theorem ti_49_11 : dp_tab 49 11 = (.if_icmp .lt 16, 3) := by decide +kernel
set_option maxRecDepth 100000 in
theorem ti_49_14 : dp_tab 49 14 = (.aload_n 1, 1) := by decide +kernel
set_option maxRecDepth 100000 in
theorem ti_49_15 : dp_tab 49 15 = (.iload_n 2, 1) := by decide +kernel
set_option maxRecDepth 100000 in
theorem ti_49_16 : dp_tab 49 16 = (.iload_n 3, 1) := by decide +kernel
set_option maxRecDepth 100000 in
theorem ti_49_17 : dp_tab 49 17 = (.invokevirtual 247, 3) := by decide +kernel
set_option maxRecDepth 100000 in
theorem ti_49_20 : dp_tab 49 20 = (.ifCond .ne 7, 3) := by decide +kernel
set_option maxRecDepth 100000 in
theorem ti_49_23 : dp_tab 49 23 = (.iconst 1, 1) := by decide +kernel
set_option maxRecDepth 100000 in
theorem ti_49_24 : dp_tab 49 24 = (.goto 4, 3) := by decide +kernel
set_option maxRecDepth 100000 in
theorem ti_49_27 : dp_tab 49 27 = (.iconst 0, 1) := by decide +kernel
set_option maxRecDepth 100000 in
theorem ti_49_28 : dp_tab 49 28 = (.ireturn, 1) := by decide +kernel
set_option maxRecDepth 100000 in
theorem ti_50_0 : dp_tab 50 0 = (.iconst 0, 1) := by decide +kernel
set_option maxRecDepth 100000 in
theorem ti_50_1 : dp_tab 50 1 = (.istore_n 2, 1) := by decide +kernel
set_option maxRecDepth 100000 in
theorem ti_50_2 : dp_tab 50 2 = (.iconst 0, 1) := by decide +kernel
set_option maxRecDepth 100000 in
theorem ti_50_3 : dp_tab 50 3 = (.istore_n 3, 1) := by decide +kernel
set_option maxRecDepth 100000 in
theorem ti_50_4 : dp_tab 50 4 = (.iload_n 3, 1) := by decide +kernel
set_option maxRecDepth 100000 in
theorem ti_50_5 : dp_tab 50 5 = (.aload_n 0, 1) := by decide +kernel
set_option maxRecDepth 100000 in
theorem ti_50_6 : dp_tab 50 6 = (.getfield 10, 3) := by decide +kernel
set_option maxRecDepth 100000 in
theorem ti_50_9 : dp_tab 50 9 = (.getfield 50, 3) := by decide +kernel
set_option maxRecDepth 100000 in
theorem ti_50_12 : dp_tab 50 12 = (.if_icmp .ge 39, 3) := by decide +kernel
set_option maxRecDepth 100000 in
theorem ti_50_15 : dp_tab 50 15 = (.aload_n 0, 1) := by decide +kernel
set_option maxRecDepth 100000 in
theorem ti_50_16 : dp_tab 50 16 = (.aload_n 0, 1) := by decide +kernel
set_option maxRecDepth 100000 in
theorem ti_50_17 : dp_tab 50 17 = (.getfield 26, 3) := by decide +kernel
set_option maxRecDepth 100000 in
theorem ti_50_20 : dp_tab 50 20 = (.iload_n 1, 1) := by decide +kernel
set_option maxRecDepth 100000 in
theorem ti_50_21 : dp_tab 50 21 = (.iload_n 3, 1) := by decide +kernel
set_option maxRecDepth 100000 in
theorem ti_50_22 : dp_tab 50 22 = (.invokevirtual 156, 3) := by decide +kernel
set_option maxRecDepth 100000 in
theorem ti_50_25 : dp_tab 50 25 = (.istore 4, 2) := by decide +kernel
set_option maxRecDepth 100000 in
theorem ti_50_27 : dp_tab 50 27 = (.aload_n 0, 1) := by decide +kernel
set_option maxRecDepth 100000 in
theorem ti_50_28 : dp_tab 50 28 = (.aload_n 0, 1) := by decide +kernel
set_option maxRecDepth 100000 in
theorem ti_50_29 : dp_tab 50 29 = (.getfield 26, 3) := by decide +kernel
set_option maxRecDepth 100000 in
theorem ti_50_32 : dp_tab 50 32 = (.iload_n 1, 1) := by decide +kernel
set_option maxRecDepth 100000 in
theorem ti_50_33 : dp_tab 50 33 = (.iload_n 3, 1) := by decide +kernel
set_option maxRecDepth 100000 in
theorem ti_50_34 : dp_tab 50 34 = (.iload 4, 2) := by decide +kernel
set_option maxRecDepth 100000 in
theorem ti_50_36 : dp_tab 50 36 = (.invokevirtual 251, 3) := by decide +kernel
set_option maxRecDepth 100000 in
theorem ti_50_39 : dp_tab 50 39 = (.ifCond .eq 6, 3) := by decide +kernel
set_option maxRecDepth 100000 in
theorem ti_50_42 : dp_tab 50 42 = (.iinc 2 1, 3) := by decide +kernel
set_option maxRecDepth 100000 in
theorem ti_50_45 : dp_tab 50 45 = (.iinc 3 1, 3) := by decide +kernel
set_option maxRecDepth 100000 in
theorem ti_50_48 : dp_tab 50 48 = (.goto (-44), 3) := by decide +kernel
set_option maxRecDepth 100000 in
theorem ti_50_51 : dp_tab 50 51 = (.iload_n 2, 1) := by decide +kernel
set_option maxRecDepth 100000 in
theorem ti_50_52 : dp_tab 50 52 = (.ireturn, 1) := by decide +kernel
set_option maxRecDepth 100000 in
theorem ti_51_0 : dp_tab 51 0 = (.iconst (-1), 1) := by decide +kernel
set_option maxRecDepth 100000 in
theorem ti_51_1 : dp_tab 51 1 = (.istore_n 3, 1) := by decide +kernel
set_option maxRecDepth 100000 in
theorem ti_51_2 : dp_tab 51 2 = (.iconst (-1), 1) := by decide +kernel
set_option maxRecDepth 100000 in
theorem ti_51_3 : dp_tab 51 3 = (.istore 4, 2) := by decide +kernel
set_option maxRecDepth 100000 in
theorem ti_51_5 : dp_tab 51 5 = (.iconst 0, 1) := by decide +kernel
set_option maxRecDepth 100000 in
theorem ti_51_6 : dp_tab 51 6 = (.istore 5, 2) := by decide +kernel
set_option maxRecDepth 100000 in
theorem ti_51_8 : dp_tab 51 8 = (.iload 5, 2) := by decide +kernel
set_option maxRecDepth 100000 in
theorem ti_51_10 : dp_tab 51 10 = (.aload_n 0, 1) := by decide +kernel
set_option maxRecDepth 100000 in
theorem ti_51_11 : dp_tab 51 11 = (.getfield 10, 3) := by decide +kernel
set_option maxRecDepth 100000 in
theorem ti_51_14 : dp_tab 51 14 = (.getfield 50, 3) := by decide +kernel
set_option maxRecDepth 100000 in
theorem ti_51_17 : dp_tab 51 17 = (.if_icmp .ge 46, 3) := by decide +kernel
set_option maxRecDepth 100000 in
theorem ti_51_20 : dp_tab 51 20 = (.aload_n 0, 1) := by decide +kernel
set_option maxRecDepth 100000 in
theorem ti_51_21 : dp_tab 51 21 = (.aload_n 1, 1) := by decide +kernel
set_option maxRecDepth 100000 in
theorem ti_51_22 : dp_tab 51 22 = (.iload_n 2, 1) := by decide +kernel
set_option maxRecDepth 100000 in
theorem ti_51_23 : dp_tab 51 23 = (.iload 5, 2) := by decide +kernel
set_option maxRecDepth 100000 in
theorem ti_51_25 : dp_tab 51 25 = (.invokevirtual 156, 3) := by decide +kernel
set_option maxRecDepth 100000 in
theorem ti_51_28 : dp_tab 51 28 = (.istore 6, 2) := by decide +kernel
set_option maxRecDepth 100000 in
theorem ti_51_30 : dp_tab 51 30 = (.iload 6, 2) := by decide +kernel
set_option maxRecDepth 100000 in
theorem ti_51_32 : dp_tab 51 32 = (.iload 4, 2) := by decide +kernel
set_option maxRecDepth 100000 in
theorem ti_51_34 : dp_tab 51 34 = (.if_icmp .le 23, 3) := by decide +kernel
set_option maxRecDepth 100000 in
theorem ti_51_37 : dp_tab 51 37 = (.aload_n 0, 1) := by decide +kernel
set_option maxRecDepth 100000 in
theorem ti_51_38 : dp_tab 51 38 = (.aload_n 1, 1) := by decide +kernel
set_option maxRecDepth 100000 in
theorem ti_51_39 : dp_tab 51 39 = (.iload_n 2, 1) := by decide +kernel
set_option maxRecDepth 100000 in
theorem ti_51_40 : dp_tab 51 40 = (.iload 5, 2) := by decide +kernel
set_option maxRecDepth 100000 in
theorem ti_51_42 : dp_tab 51 42 = (.iload 6, 2) := by decide +kernel
set_option maxRecDepth 100000 in
theorem ti_51_44 : dp_tab 51 44 = (.invokevirtual 251, 3) := by decide +kernel
set_option maxRecDepth 100000 in
theorem ti_51_47 : dp_tab 51 47 = (.ifCond .eq 10, 3) := by decide +kernel
set_option maxRecDepth 100000 in
theorem ti_51_50 : dp_tab 51 50 = (.iload 6, 2) := by decide +kernel
set_option maxRecDepth 100000 in
theorem ti_51_52 : dp_tab 51 52 = (.istore 4, 2) := by decide +kernel
set_option maxRecDepth 100000 in
theorem ti_51_54 : dp_tab 51 54 = (.iload 5, 2) := by decide +kernel
set_option maxRecDepth 100000 in
theorem ti_51_56 : dp_tab 51 56 = (.istore_n 3, 1) := by decide +kernel
set_option maxRecDepth 100000 in
theorem ti_51_57 : dp_tab 51 57 = (.iinc 5 1, 3) := by decide +kernel
set_option maxRecDepth 100000 in
theorem ti_51_60 : dp_tab 51 60 = (.goto (-52), 3) := by decide +kernel
set_option maxRecDepth 100000 in
theorem ti_51_63 : dp_tab 51 63 = (.iload_n 3, 1) := by decide +kernel
set_option maxRecDepth 100000 in
theorem ti_51_64 : dp_tab 51 64 = (.ireturn, 1) := by decide +kernel
set_option maxRecDepth 100000 in
theorem ti_52_0 : dp_tab 52 0 = (.iconst 0, 1) := by decide +kernel
set_option maxRecDepth 100000 in
theorem ti_52_1 : dp_tab 52 1 = (.istore_n 3, 1) := by decide +kernel
set_option maxRecDepth 100000 in
theorem ti_52_2 : dp_tab 52 2 = (.iload_n 3, 1) := by decide +kernel
set_option maxRecDepth 100000 in
theorem ti_52_3 : dp_tab 52 3 = (.aload_n 0, 1) := by decide +kernel
set_option maxRecDepth 100000 in
theorem ti_52_4 : dp_tab 52 4 = (.getfield 10, 3) := by decide +kernel
set_option maxRecDepth 100000 in
theorem ti_52_7 : dp_tab 52 7 = (.getfield 50, 3) := by decide +kernel
set_option maxRecDepth 100000 in
theorem ti_52_10 : dp_tab 52 10 = (.if_icmp .ge 50, 3) := by decide +kernel
set_option maxRecDepth 100000 in
theorem ti_52_13 : dp_tab 52 13 = (.aload_n 0, 1) := by decide +kernel
set_option maxRecDepth 100000 in
theorem ti_52_14 : dp_tab 52 14 = (.aload_n 0, 1) := by decide +kernel
set_option maxRecDepth 100000 in
theorem ti_52_15 : dp_tab 52 15 = (.getfield 26, 3) := by decide +kernel
set_option maxRecDepth 100000 in
theorem ti_52_18 : dp_tab 52 18 = (.iload_n 1, 1) := by decide +kernel
set_option maxRecDepth 100000 in
theorem ti_52_19 : dp_tab 52 19 = (.iload_n 3, 1) := by decide +kernel
set_option maxRecDepth 100000 in
theorem ti_52_20 : dp_tab 52 20 = (.invokevirtual 156, 3) := by decide +kernel
set_option maxRecDepth 100000 in
theorem ti_52_23 : dp_tab 52 23 = (.istore 4, 2) := by decide +kernel
set_option maxRecDepth 100000 in
theorem ti_52_25 : dp_tab 52 25 = (.aload_n 0, 1) := by decide +kernel
set_option maxRecDepth 100000 in
theorem ti_52_26 : dp_tab 52 26 = (.aload_n 0, 1) := by decide +kernel
set_option maxRecDepth 100000 in
theorem ti_52_27 : dp_tab 52 27 = (.getfield 26, 3) := by decide +kernel
set_option maxRecDepth 100000 in
theorem ti_52_30 : dp_tab 52 30 = (.iload_n 1, 1) := by decide +kernel
set_option maxRecDepth 100000 in
theorem ti_52_31 : dp_tab 52 31 = (.iload_n 3, 1) := by decide +kernel
set_option maxRecDepth 100000 in
theorem ti_52_32 : dp_tab 52 32 = (.iload 4, 2) := by decide +kernel
set_option maxRecDepth 100000 in
theorem ti_52_34 : dp_tab 52 34 = (.invokevirtual 251, 3) := by decide +kernel
set_option maxRecDepth 100000 in
theorem ti_52_37 : dp_tab 52 37 = (.ifCond .eq 17, 3) := by decide +kernel
set_option maxRecDepth 100000 in
theorem ti_52_40 : dp_tab 52 40 = (.aload_n 0, 1) := by decide +kernel
set_option maxRecDepth 100000 in
theorem ti_52_41 : dp_tab 52 41 = (.iload_n 1, 1) := by decide +kernel
set_option maxRecDepth 100000 in
theorem ti_52_42 : dp_tab 52 42 = (.iload_n 3, 1) := by decide +kernel
set_option maxRecDepth 100000 in
theorem ti_52_43 : dp_tab 52 43 = (.iload 4, 2) := by decide +kernel
set_option maxRecDepth 100000 in
theorem ti_52_45 : dp_tab 52 45 = (.invokevirtual 255, 3) := by decide +kernel
set_option maxRecDepth 100000 in
theorem ti_52_48 : dp_tab 52 48 = (.iload_n 2, 1) := by decide +kernel
set_option maxRecDepth 100000 in
theorem ti_52_49 : dp_tab 52 49 = (.if_icmp .ne 5, 3) := by decide +kernel
set_option maxRecDepth 100000 in
theorem ti_52_52 : dp_tab 52 52 = (.iload_n 3, 1) := by decide +kernel
set_option maxRecDepth 100000 in
theorem ti_52_53 : dp_tab 52 53 = (.ireturn, 1) := by decide +kernel
set_option maxRecDepth 100000 in
theorem ti_52_54 : dp_tab 52 54 = (.iinc 3 1, 3) := by decide +kernel
set_option maxRecDepth 100000 in
theorem ti_52_57 : dp_tab 52 57 = (.goto (-55), 3) := by decide +kernel
set_option maxRecDepth 100000 in
theorem ti_52_60 : dp_tab 52 60 = (.iconst (-1), 1) := by decide +kernel
set_option maxRecDepth 100000 in
theorem ti_52_61 : dp_tab 52 61 = (.ireturn, 1) := by decide +kernel
set_option maxRecDepth 100000 in
theorem ti_53_0 : dp_tab 53 0 = (.iconst 0, 1) := by decide +kernel
set_option maxRecDepth 100000 in
theorem ti_53_1 : dp_tab 53 1 = (.istore 4, 2) := by decide +kernel
set_option maxRecDepth 100000 in
theorem ti_53_3 : dp_tab 53 3 = (.iconst 0, 1) := by decide +kernel
set_option maxRecDepth 100000 in
theorem ti_53_4 : dp_tab 53 4 = (.istore 5, 2) := by decide +kernel
set_option maxRecDepth 100000 in
theorem ti_53_6 : dp_tab 53 6 = (.iload 5, 2) := by decide +kernel
set_option maxRecDepth 100000 in
theorem ti_53_8 : dp_tab 53 8 = (.aload_n 0, 1) := by decide +kernel
set_option maxRecDepth 100000 in
theorem ti_53_9 : dp_tab 53 9 = (.getfield 10, 3) := by decide +kernel
set_option maxRecDepth 100000 in
theorem ti_53_12 : dp_tab 53 12 = (.getfield 50, 3) := by decide +kernel
set_option maxRecDepth 100000 in
theorem ti_53_15 : dp_tab 53 15 = (.if_icmp .ge 71, 3) := by decide +kernel
set_option maxRecDepth 100000 in
theorem ti_53_18 : dp_tab 53 18 = (.aload_n 0, 1) := by decide +kernel
set_option maxRecDepth 100000 in
theorem ti_53_19 : dp_tab 53 19 = (.aload_n 0, 1) := by decide +kernel
set_option maxRecDepth 100000 in
theorem ti_53_20 : dp_tab 53 20 = (.getfield 26, 3) := by decide +kernel
set_option maxRecDepth 100000 in
theorem ti_53_23 : dp_tab 53 23 = (.iload_n 1, 1) := by decide +kernel
set_option maxRecDepth 100000 in
theorem ti_53_24 : dp_tab 53 24 = (.iload 5, 2) := by decide +kernel
set_option maxRecDepth 100000 in
theorem ti_53_26 : dp_tab 53 26 = (.invokevirtual 156, 3) := by decide +kernel
set_option maxRecDepth 100000 in
theorem ti_53_29 : dp_tab 53 29 = (.istore 6, 2) := by decide +kernel
set_option maxRecDepth 100000 in
theorem ti_53_31 : dp_tab 53 31 = (.iload 6, 2) := by decide +kernel
set_option maxRecDepth 100000 in
theorem ti_53_33 : dp_tab 53 33 = (.iload_n 3, 1) := by decide +kernel
set_option maxRecDepth 100000 in
theorem ti_53_34 : dp_tab 53 34 = (.if_icmp .gt 15, 3) := by decide +kernel
set_option maxRecDepth 100000 in
theorem ti_53_37 : dp_tab 53 37 = (.iload 6, 2) := by decide +kernel
set_option maxRecDepth 100000 in
theorem ti_53_39 : dp_tab 53 39 = (.iload_n 3, 1) := by decide +kernel
set_option maxRecDepth 100000 in
theorem ti_53_40 : dp_tab 53 40 = (.if_icmp .ne 13, 3) := by decide +kernel
set_option maxRecDepth 100000 in
theorem ti_53_43 : dp_tab 53 43 = (.iload 5, 2) := by decide +kernel
set_option maxRecDepth 100000 in
theorem ti_53_45 : dp_tab 53 45 = (.iload_n 2, 1) := by decide +kernel
set_option maxRecDepth 100000 in
theorem ti_53_46 : dp_tab 53 46 = (.if_icmp .ge 7, 3) := by decide +kernel
set_option maxRecDepth 100000 in
theorem ti_53_49 : dp_tab 53 49 = (.iconst 1, 1) := by decide +kernel
set_option maxRecDepth 100000 in
theorem ti_53_50 : dp_tab 53 50 = (.goto 4, 3) := by decide +kernel
set_option maxRecDepth 100000 in
theorem ti_53_53 : dp_tab 53 53 = (.iconst 0, 1) := by decide +kernel
set_option maxRecDepth 100000 in
theorem ti_53_54 : dp_tab 53 54 = (.istore 7, 2) := by decide +kernel
set_option maxRecDepth 100000 in
theorem ti_53_56 : dp_tab 53 56 = (.iload 7, 2) := by decide +kernel
set_option maxRecDepth 100000 in
theorem ti_53_58 : dp_tab 53 58 = (.ifCond .eq 22, 3) := by decide +kernel
set_option maxRecDepth 100000 in
theorem ti_53_61 : dp_tab 53 61 = (.aload_n 0, 1) := by decide +kernel
set_option maxRecDepth 100000 in
theorem ti_53_62 : dp_tab 53 62 = (.aload_n 0, 1) := by decide +kernel
set_option maxRecDepth 100000 in
theorem ti_53_63 : dp_tab 53 63 = (.getfield 26, 3) := by decide +kernel
set_option maxRecDepth 100000 in
theorem ti_53_66 : dp_tab 53 66 = (.iload_n 1, 1) := by decide +kernel
set_option maxRecDepth 100000 in
theorem ti_53_67 : dp_tab 53 67 = (.iload 5, 2) := by decide +kernel
set_option maxRecDepth 100000 in
theorem ti_53_69 : dp_tab 53 69 = (.iload 6, 2) := by decide +kernel
set_option maxRecDepth 100000 in
theorem ti_53_71 : dp_tab 53 71 = (.invokevirtual 251, 3) := by decide +kernel
set_option maxRecDepth 100000 in
theorem ti_53_74 : dp_tab 53 74 = (.ifCond .eq 6, 3) := by decide +kernel
set_option maxRecDepth 100000 in
theorem ti_53_77 : dp_tab 53 77 = (.iinc 4 1, 3) := by decide +kernel
set_option maxRecDepth 100000 in
theorem ti_53_80 : dp_tab 53 80 = (.iinc 5 1, 3) := by decide +kernel
set_option maxRecDepth 100000 in
theorem ti_53_83 : dp_tab 53 83 = (.goto (-77), 3) := by decide +kernel
set_option maxRecDepth 100000 in
theorem ti_53_86 : dp_tab 53 86 = (.iload 4, 2) := by decide +kernel
set_option maxRecDepth 100000 in
theorem ti_53_88 : dp_tab 53 88 = (.ireturn, 1) := by decide +kernel
set_option maxRecDepth 100000 in
theorem ti_54_0 : dp_tab 54 0 = (.iconst 2, 1) := by decide +kernel
set_option maxRecDepth 100000 in
theorem ti_54_1 : dp_tab 54 1 = (.aload_n 0, 1) := by decide +kernel
set_option maxRecDepth 100000 in
theorem ti_54_2 : dp_tab 54 2 = (.aload_n 1, 1) := by decide +kernel
set_option maxRecDepth 100000 in
theorem ti_54_3 : dp_tab 54 3 = (.iload_n 2, 1) := by decide +kernel
set_option maxRecDepth 100000 in
theorem ti_54_4 : dp_tab 54 4 = (.iload_n 3, 1) := by decide +kernel
set_option maxRecDepth 100000 in
theorem ti_54_5 : dp_tab 54 5 = (.invokevirtual 156, 3) := by decide +kernel
set_option maxRecDepth 100000 in
theorem ti_54_8 : dp_tab 54 8 = (.bipush 20, 2) := by decide +kernel
set_option maxRecDepth 100000 in
theorem ti_54_10 : dp_tab 54 10 = (.idiv, 1) := by decide +kernel
set_option maxRecDepth 100000 in
theorem ti_54_11 : dp_tab 54 11 = (.iadd, 1) := by decide +kernel
set_option maxRecDepth 100000 in
theorem ti_54_12 : dp_tab 54 12 = (.ireturn, 1) := by decide +kernel
set_option maxRecDepth 100000 in
theorem ti_55_0 : dp_tab 55 0 = (.aload_n 0, 1) := by decide +kernel
set_option maxRecDepth 100000 in
theorem ti_55_1 : dp_tab 55 1 = (.aload_n 1, 1) := by decide +kernel
set_option maxRecDepth 100000 in
theorem ti_55_2 : dp_tab 55 2 = (.iload_n 2, 1) := by decide +kernel
set_option maxRecDepth 100000 in
theorem ti_55_3 : dp_tab 55 3 = (.invokevirtual 268, 3) := by decide +kernel
set_option maxRecDepth 100000 in
theorem ti_55_6 : dp_tab 55 6 = (.istore_n 3, 1) := by decide +kernel
set_option maxRecDepth 100000 in
theorem ti_55_7 : dp_tab 55 7 = (.iload_n 3, 1) := by decide +kernel
set_option maxRecDepth 100000 in
theorem ti_55_8 : dp_tab 55 8 = (.iconst (-1), 1) := by decide +kernel
set_option maxRecDepth 100000 in
theorem ti_55_9 : dp_tab 55 9 = (.if_icmp .ne 5, 3) := by decide +kernel
set_option maxRecDepth 100000 in
theorem ti_55_12 : dp_tab 55 12 = (.iconst (-1), 1) := by decide +kernel
set_option maxRecDepth 100000 in
theorem ti_55_13 : dp_tab 55 13 = (.ireturn, 1) := by decide +kernel
set_option maxRecDepth 100000 in
theorem ti_55_14 : dp_tab 55 14 = (.aload_n 0, 1) := by decide +kernel
set_option maxRecDepth 100000 in
theorem ti_55_15 : dp_tab 55 15 = (.aload_n 1, 1) := by decide +kernel
set_option maxRecDepth 100000 in
theorem ti_55_16 : dp_tab 55 16 = (.iload_n 2, 1) := by decide +kernel
set_option maxRecDepth 100000 in
theorem ti_55_17 : dp_tab 55 17 = (.iload_n 3, 1) := by decide +kernel
set_option maxRecDepth 100000 in
theorem ti_55_18 : dp_tab 55 18 = (.invokevirtual 271, 3) := by decide +kernel
set_option maxRecDepth 100000 in
theorem ti_55_21 : dp_tab 55 21 = (.istore 4, 2) := by decide +kernel
set_option maxRecDepth 100000 in
theorem ti_55_23 : dp_tab 55 23 = (.aload_n 1, 1) := by decide +kernel
set_option maxRecDepth 100000 in
theorem ti_55_24 : dp_tab 55 24 = (.getfield 91, 3) := by decide +kernel
set_option maxRecDepth 100000 in
theorem ti_55_27 : dp_tab 55 27 = (.iload_n 2, 1) := by decide +kernel
set_option maxRecDepth 100000 in
theorem ti_55_28 : dp_tab 55 28 = (.iaload, 1) := by decide +kernel
set_option maxRecDepth 100000 in
theorem ti_55_29 : dp_tab 55 29 = (.iload 4, 2) := by decide +kernel
set_option maxRecDepth 100000 in
theorem ti_55_31 : dp_tab 55 31 = (.if_icmp .ge 5, 3) := by decide +kernel
set_option maxRecDepth 100000 in
theorem ti_55_34 : dp_tab 55 34 = (.iconst (-1), 1) := by decide +kernel
set_option maxRecDepth 100000 in
theorem ti_55_35 : dp_tab 55 35 = (.ireturn, 1) := by decide +kernel
set_option maxRecDepth 100000 in
theorem ti_55_36 : dp_tab 55 36 = (.aload_n 1, 1) := by decide +kernel
set_option maxRecDepth 100000 in
theorem ti_55_37 : dp_tab 55 37 = (.iload_n 2, 1) := by decide +kernel
set_option maxRecDepth 100000 in
theorem ti_55_38 : dp_tab 55 38 = (.iload_n 3, 1) := by decide +kernel
set_option maxRecDepth 100000 in
theorem ti_55_39 : dp_tab 55 39 = (.iload 4, 2) := by decide +kernel
set_option maxRecDepth 100000 in
theorem ti_55_41 : dp_tab 55 41 = (.invokevirtual 274, 3) := by decide +kernel
set_option maxRecDepth 100000 in
theorem ti_55_44 : dp_tab 55 44 = (.iload_n 3, 1) := by decide +kernel
set_option maxRecDepth 100000 in
theorem ti_55_45 : dp_tab 55 45 = (.ireturn, 1) := by decide +kernel
set_option maxRecDepth 100000 in
theorem ti_56_0 : dp_tab 56 0 = (.iconst 0, 1) := by decide +kernel
set_option maxRecDepth 100000 in
theorem ti_56_1 : dp_tab 56 1 = (.istore_n 3, 1) := by decide +kernel
set_option maxRecDepth 100000 in
theorem ti_56_2 : dp_tab 56 2 = (.iload_n 3, 1) := by decide +kernel
set_option maxRecDepth 100000 in
theorem ti_56_3 : dp_tab 56 3 = (.iload_n 2, 1) := by decide +kernel
set_option maxRecDepth 100000 in
theorem ti_56_4 : dp_tab 56 4 = (.if_icmp .ge 57, 3) := by decide +kernel
set_option maxRecDepth 100000 in
theorem ti_56_7 : dp_tab 56 7 = (.iconst 0, 1) := by decide +kernel
set_option maxRecDepth 100000 in
theorem ti_56_8 : dp_tab 56 8 = (.istore 4, 2) := by decide +kernel
set_option maxRecDepth 100000 in
theorem ti_56_10 : dp_tab 56 10 = (.iload 4, 2) := by decide +kernel
set_option maxRecDepth 100000 in
theorem ti_56_12 : dp_tab 56 12 = (.aload_n 0, 1) := by decide +kernel
set_option maxRecDepth 100000 in
theorem ti_56_13 : dp_tab 56 13 = (.getfield 19, 3) := by decide +kernel
set_option maxRecDepth 100000 in
theorem ti_56_16 : dp_tab 56 16 = (.getfield 86, 3) := by decide +kernel
set_option maxRecDepth 100000 in
theorem ti_56_19 : dp_tab 56 19 = (.if_icmp .ge 25, 3) := by decide +kernel
set_option maxRecDepth 100000 in
theorem ti_56_22 : dp_tab 56 22 = (.aload_n 0, 1) := by decide +kernel
set_option maxRecDepth 100000 in
theorem ti_56_23 : dp_tab 56 23 = (.aload_n 1, 1) := by decide +kernel
set_option maxRecDepth 100000 in
theorem ti_56_24 : dp_tab 56 24 = (.iload 4, 2) := by decide +kernel
set_option maxRecDepth 100000 in
theorem ti_56_26 : dp_tab 56 26 = (.invokevirtual 125, 3) := by decide +kernel
set_option maxRecDepth 100000 in
theorem ti_56_29 : dp_tab 56 29 = (.pop, 1) := by decide +kernel
set_option maxRecDepth 100000 in
theorem ti_56_30 : dp_tab 56 30 = (.aload_n 0, 1) := by decide +kernel
set_option maxRecDepth 100000 in
theorem ti_56_31 : dp_tab 56 31 = (.aload_n 1, 1) := by decide +kernel
set_option maxRecDepth 100000 in
theorem ti_56_32 : dp_tab 56 32 = (.iload 4, 2) := by decide +kernel
set_option maxRecDepth 100000 in
theorem ti_56_34 : dp_tab 56 34 = (.invokevirtual 125, 3) := by decide +kernel
set_option maxRecDepth 100000 in
theorem ti_56_37 : dp_tab 56 37 = (.pop, 1) := by decide +kernel
set_option maxRecDepth 100000 in
theorem ti_56_38 : dp_tab 56 38 = (.iinc 4 1, 3) := by decide +kernel
set_option maxRecDepth 100000 in
theorem ti_56_41 : dp_tab 56 41 = (.goto (-31), 3) := by decide +kernel
set_option maxRecDepth 100000 in
theorem ti_56_44 : dp_tab 56 44 = (.aload_n 1, 1) := by decide +kernel
set_option maxRecDepth 100000 in
theorem ti_56_45 : dp_tab 56 45 = (.aload_n 0, 1) := by decide +kernel
set_option maxRecDepth 100000 in
theorem ti_56_46 : dp_tab 56 46 = (.getfield 10, 3) := by decide +kernel
set_option maxRecDepth 100000 in
theorem ti_56_49 : dp_tab 56 49 = (.getfield 50, 3) := by decide +kernel
set_option maxRecDepth 100000 in
theorem ti_56_52 : dp_tab 56 52 = (.invokevirtual 278, 3) := by decide +kernel
set_option maxRecDepth 100000 in
theorem ti_56_55 : dp_tab 56 55 = (.iinc 3 1, 3) := by decide +kernel
set_option maxRecDepth 100000 in
theorem ti_56_58 : dp_tab 56 58 = (.goto (-56), 3) := by decide +kernel
set_option maxRecDepth 100000 in
theorem ti_56_61 : dp_tab 56 61 = (.return_, 1) := by decide +kernel
set_option maxRecDepth 100000 in
theorem ti_57_0 : dp_tab 57 0 = (.iconst 0, 1) := by decide +kernel
set_option maxRecDepth 100000 in
theorem ti_57_1 : dp_tab 57 1 = (.istore_n 2, 1) := by decide +kernel
set_option maxRecDepth 100000 in
theorem ti_57_2 : dp_tab 57 2 = (.iload_n 2, 1) := by decide +kernel
set_option maxRecDepth 100000 in
theorem ti_57_3 : dp_tab 57 3 = (.aload_n 0, 1) := by decide +kernel
set_option maxRecDepth 100000 in
theorem ti_57_4 : dp_tab 57 4 = (.getfield 19, 3) := by decide +kernel
set_option maxRecDepth 100000 in
theorem ti_57_7 : dp_tab 57 7 = (.getfield 86, 3) := by decide +kernel
set_option maxRecDepth 100000 in
theorem ti_57_10 : dp_tab 57 10 = (.if_icmp .ge 39, 3) := by decide +kernel
set_option maxRecDepth 100000 in
theorem ti_57_13 : dp_tab 57 13 = (.aload_n 0, 1) := by decide +kernel
set_option maxRecDepth 100000 in
theorem ti_57_14 : dp_tab 57 14 = (.aload_n 1, 1) := by decide +kernel
set_option maxRecDepth 100000 in
theorem ti_57_15 : dp_tab 57 15 = (.iload_n 2, 1) := by decide +kernel
set_option maxRecDepth 100000 in
theorem ti_57_16 : dp_tab 57 16 = (.invokevirtual 268, 3) := by decide +kernel
set_option maxRecDepth 100000 in
theorem ti_57_19 : dp_tab 57 19 = (.istore_n 3, 1) := by decide +kernel
set_option maxRecDepth 100000 in
theorem ti_57_20 : dp_tab 57 20 = (.iload_n 3, 1) := by decide +kernel
set_option maxRecDepth 100000 in
theorem ti_57_21 : dp_tab 57 21 = (.iconst (-1), 1) := by decide +kernel
set_option maxRecDepth 100000 in
theorem ti_57_22 : dp_tab 57 22 = (.if_icmp .eq 21, 3) := by decide +kernel
set_option maxRecDepth 100000 in
theorem ti_57_25 : dp_tab 57 25 = (.aload_n 0, 1) := by decide +kernel
set_option maxRecDepth 100000 in
theorem ti_57_26 : dp_tab 57 26 = (.aload_n 1, 1) := by decide +kernel
set_option maxRecDepth 100000 in
theorem ti_57_27 : dp_tab 57 27 = (.iload_n 2, 1) := by decide +kernel
set_option maxRecDepth 100000 in
theorem ti_57_28 : dp_tab 57 28 = (.iload_n 3, 1) := by decide +kernel
set_option maxRecDepth 100000 in
theorem ti_57_29 : dp_tab 57 29 = (.invokevirtual 271, 3) := by decide +kernel
set_option maxRecDepth 100000 in
theorem ti_57_32 : dp_tab 57 32 = (.aload_n 1, 1) := by decide +kernel
set_option maxRecDepth 100000 in
theorem ti_57_33 : dp_tab 57 33 = (.getfield 91, 3) := by decide +kernel
set_option maxRecDepth 100000 in
theorem ti_57_36 : dp_tab 57 36 = (.iload_n 2, 1) := by decide +kernel
set_option maxRecDepth 100000 in
theorem ti_57_37 : dp_tab 57 37 = (.iaload, 1) := by decide +kernel
set_option maxRecDepth 100000 in
theorem ti_57_38 : dp_tab 57 38 = (.if_icmp .le 5, 3) := by decide +kernel
set_option maxRecDepth 100000 in
theorem ti_57_41 : dp_tab 57 41 = (.iconst 1, 1) := by decide +kernel
set_option maxRecDepth 100000 in
theorem ti_57_42 : dp_tab 57 42 = (.ireturn, 1) := by decide +kernel
set_option maxRecDepth 100000 in
theorem ti_57_43 : dp_tab 57 43 = (.iinc 2 1, 3) := by decide +kernel
set_option maxRecDepth 100000 in
theorem ti_57_46 : dp_tab 57 46 = (.goto (-44), 3) := by decide +kernel
set_option maxRecDepth 100000 in
theorem ti_57_49 : dp_tab 57 49 = (.iconst 0, 1) := by decide +kernel
set_option maxRecDepth 100000 in
theorem ti_57_50 : dp_tab 57 50 = (.ireturn, 1) := by decide +kernel
set_option maxRecDepth 100000 in
theorem ti_58_0 : dp_tab 58 0 = (.iload_n 2, 1) := by decide +kernel
set_option maxRecDepth 100000 in
theorem ti_58_1 : dp_tab 58 1 = (.istore_n 3, 1) := by decide +kernel
set_option maxRecDepth 100000 in
theorem ti_58_2 : dp_tab 58 2 = (.iload_n 3, 1) := by decide +kernel
set_option maxRecDepth 100000 in
theorem ti_58_3 : dp_tab 58 3 = (.iconst 1, 1) := by decide +kernel
set_option maxRecDepth 100000 in
theorem ti_58_4 : dp_tab 58 4 = (.iadd, 1) := by decide +kernel
set_option maxRecDepth 100000 in
theorem ti_58_5 : dp_tab 58 5 = (.iload_n 1, 1) := by decide +kernel
set_option maxRecDepth 100000 in
theorem ti_58_6 : dp_tab 58 6 = (.if_icmp .ge 17, 3) := by decide +kernel
set_option maxRecDepth 100000 in
theorem ti_58_9 : dp_tab 58 9 = (.aload_n 0, 1) := by decide +kernel
set_option maxRecDepth 100000 in
theorem ti_58_10 : dp_tab 58 10 = (.iload_n 3, 1) := by decide +kernel
set_option maxRecDepth 100000 in
theorem ti_58_11 : dp_tab 58 11 = (.aload_n 0, 1) := by decide +kernel
set_option maxRecDepth 100000 in
theorem ti_58_12 : dp_tab 58 12 = (.iload_n 3, 1) := by decide +kernel
set_option maxRecDepth 100000 in
theorem ti_58_13 : dp_tab 58 13 = (.iconst 1, 1) := by decide +kernel
set_option maxRecDepth 100000 in
theorem ti_58_14 : dp_tab 58 14 = (.iadd, 1) := by decide +kernel
set_option maxRecDepth 100000 in
theorem ti_58_15 : dp_tab 58 15 = (.iaload, 1) := by decide +kernel
set_option maxRecDepth 100000 in
theorem ti_58_16 : dp_tab 58 16 = (.iastore, 1) := by decide +kernel
set_option maxRecDepth 100000 in
theorem ti_58_17 : dp_tab 58 17 = (.iinc 3 1, 3) := by decide +kernel
set_option maxRecDepth 100000 in
theorem ti_58_20 : dp_tab 58 20 = (.goto (-18), 3) := by decide +kernel
set_option maxRecDepth 100000 in
theorem ti_58_23 : dp_tab 58 23 = (.iload_n 1, 1) := by decide +kernel
set_option maxRecDepth 100000 in
theorem ti_58_24 : dp_tab 58 24 = (.iconst 1, 1) := by decide +kernel
set_option maxRecDepth 100000 in
theorem ti_58_25 : dp_tab 58 25 = (.isub, 1) := by decide +kernel
set_option maxRecDepth 100000 in
theorem ti_58_26 : dp_tab 58 26 = (.ireturn, 1) := by decide +kernel
