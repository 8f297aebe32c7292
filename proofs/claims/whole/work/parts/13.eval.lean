/-! rows that evaluate the tables (printed by wip/whole/tl_gen.py) -/
theorem kI_m1 : dp_kI (-1) = (-1 : Int32) := by decide +kernel
theorem kI_0 : dp_kI 0 = nI 0 := by decide +kernel
theorem kI_1 : dp_kI 1 = nI 1 := by decide +kernel
theorem kI_2 : dp_kI 2 = nI 2 := by decide +kernel
theorem kI_3 : dp_kI 3 = nI 3 := by decide +kernel
theorem kI_4 : dp_kI 4 = nI 4 := by decide +kernel
theorem kI_5 : dp_kI 5 = nI 5 := by decide +kernel
theorem kB_6 : dp_kB 6 = nI 6 := by decide +kernel
theorem kB_7 : dp_kB 7 = nI 7 := by decide +kernel
theorem kB_8 : dp_kB 8 = nI 8 := by decide +kernel
theorem kB_10 : dp_kB 10 = nI 10 := by decide +kernel
theorem kB_12 : dp_kB 12 = nI 12 := by decide +kernel
theorem kB_14 : dp_kB 14 = nI 14 := by decide +kernel
theorem kB_16 : dp_kB 16 = nI 16 := by decide +kernel
theorem kB_19 : dp_kB 19 = nI 19 := by decide +kernel
theorem kB_20 : dp_kB 20 = nI 20 := by decide +kernel
theorem kB_30 : dp_kB 30 = nI 30 := by decide +kernel
theorem kB_31 : dp_kB 31 = nI 31 := by decide +kernel
theorem kB_39 : dp_kB 39 = nI 39 := by decide +kernel
theorem kB_40 : dp_kB 40 = nI 40 := by decide +kernel
theorem kB_63 : dp_kB 63 = nI 63 := by decide +kernel
theorem kB_100 : dp_kB 100 = nI 100 := by decide +kernel
theorem kS_999 : dp_kS 999 = nI 999 := by decide +kernel
theorem kS_9999 : dp_kS 9999 = nI 9999 := by decide +kernel
theorem jt_1_8 : dp_jt 1 8 = 9 := rfl
theorem jt_1_9 : dp_jt 1 9 = 10 := rfl
theorem jt_1_10 : dp_jt 1 10 = 11 := rfl
theorem jt_1_12 : dp_jt 1 12 = 13 := rfl
theorem jt_1_14 : dp_jt 1 14 = 15 := rfl
theorem jt_1_27 : dp_jt 1 27 = 28 := rfl
theorem jt_1_35 : dp_jt 1 35 = 36 := rfl
theorem jt_1_37 : dp_jt 1 37 = 38 := rfl
theorem jt_1_39 : dp_jt 1 39 = 40 := rfl
theorem jt_1_42 : dp_jt 1 42 = 43 := rfl
theorem jt_1_45 : dp_jt 1 45 = 46 := rfl
theorem jt_1_46 : dp_jt 1 46 = 47 := rfl
theorem jt_1_47 : dp_jt 1 47 = 48 := rfl
theorem jt_1_49 : dp_jt 1 49 = 50 := rfl
theorem jt_1_55 : dp_jt 1 55 = 56 := rfl
theorem jt_1_56 : dp_jt 1 56 = 57 := rfl
theorem jt_1_62 : dp_jt 1 62 = 63 := rfl
theorem jt_1_63 : dp_jt 1 63 = 64 := rfl
theorem jt_1_65 : dp_jt 1 65 = 66 := rfl
theorem jt_1_69 : dp_jt 1 69 = 70 := rfl
theorem jt_1_71 : dp_jt 1 71 = 72 := rfl
theorem jt_1_78 : dp_jt 1 78 = 79 := rfl
theorem jt_1_79 : dp_jt 1 79 = 80 := rfl
theorem jt_1_87 : dp_jt 1 87 = 88 := rfl
theorem jt_1_88 : dp_jt 1 88 = 89 := rfl
theorem jt_2_9 : dp_jt 2 9 = 11 := rfl
theorem jt_2_12 : dp_jt 2 12 = 14 := rfl
theorem jt_3_37 : dp_jt 3 37 = 40 := rfl
theorem jt_3_42 : dp_jt 3 42 = 45 := rfl
theorem jt_3_47 : dp_jt 3 47 = 50 := rfl
theorem jt_3_74 : dp_jt 3 74 = 77 := rfl
theorem jt_3_136 : dp_jt 3 136 = 139 := rfl
theorem jt_3_141 : dp_jt 3 141 = 144 := rfl
theorem jt_3_167 : dp_jt 3 167 = 170 := rfl
theorem jt_4_19 : dp_jt 4 19 = 23 := rfl
theorem jt_4_57 : dp_jt 4 57 = 61 := rfl
theorem jt_6_10 : dp_jt 6 10 = 16 := rfl
theorem jt_6_13 : dp_jt 6 13 = 19 := rfl
theorem jt_6_16 : dp_jt 6 16 = 22 := rfl
theorem jt_6_17 : dp_jt 6 17 = 23 := rfl
theorem jt_7_7 : dp_jt 7 7 = 14 := rfl
theorem jt_7_10 : dp_jt 7 10 = 17 := rfl
theorem jt_7_13 : dp_jt 7 13 = 20 := rfl
theorem jt_7_18 : dp_jt 7 18 = 25 := rfl
theorem jt_7_21 : dp_jt 7 21 = 28 := rfl
theorem jt_7_23 : dp_jt 7 23 = 30 := rfl
theorem jt_7_26 : dp_jt 7 26 = 33 := rfl
theorem jt_7_41 : dp_jt 7 41 = 48 := rfl
theorem jt_7_108 : dp_jt 7 108 = 115 := rfl
theorem jt_8_6 : dp_jt 8 6 = 14 := rfl
theorem jt_8_13 : dp_jt 8 13 = 21 := rfl
theorem jt_9_5 : dp_jt 9 5 = 14 := rfl
theorem jt_9_6 : dp_jt 9 6 = 15 := rfl
theorem jt_9_9 : dp_jt 9 9 = 18 := rfl
theorem jt_9_10 : dp_jt 9 10 = 19 := rfl
theorem jt_9_11 : dp_jt 9 11 = 20 := rfl
theorem jt_9_13 : dp_jt 9 13 = 22 := rfl
theorem jt_9_18 : dp_jt 9 18 = 27 := rfl
theorem jt_9_19 : dp_jt 9 19 = 28 := rfl
theorem jt_9_22 : dp_jt 9 22 = 31 := rfl
theorem jt_9_23 : dp_jt 9 23 = 32 := rfl
theorem jt_9_26 : dp_jt 9 26 = 35 := rfl
theorem jt_9_33 : dp_jt 9 33 = 42 := rfl
theorem jt_10_7 : dp_jt 10 7 = 17 := rfl
theorem jt_10_9 : dp_jt 10 9 = 19 := rfl
theorem jt_10_10 : dp_jt 10 10 = 20 := rfl
theorem jt_10_11 : dp_jt 10 11 = 21 := rfl
theorem jt_10_19 : dp_jt 10 19 = 29 := rfl
theorem jt_10_20 : dp_jt 10 20 = 30 := rfl
theorem jt_10_21 : dp_jt 10 21 = 31 := rfl
theorem jt_10_22 : dp_jt 10 22 = 32 := rfl
theorem jt_10_23 : dp_jt 10 23 = 33 := rfl
theorem jt_10_27 : dp_jt 10 27 = 37 := rfl
theorem jt_10_30 : dp_jt 10 30 = 40 := rfl
theorem jt_10_35 : dp_jt 10 35 = 45 := rfl
theorem jt_10_39 : dp_jt 10 39 = 49 := rfl
theorem jt_10_50 : dp_jt 10 50 = 60 := rfl
theorem jt_11_4 : dp_jt 11 4 = 15 := rfl
theorem jt_11_7 : dp_jt 11 7 = 18 := rfl
theorem jt_11_9 : dp_jt 11 9 = 20 := rfl
theorem jt_11_11 : dp_jt 11 11 = 22 := rfl
theorem jt_11_16 : dp_jt 11 16 = 27 := rfl
theorem jt_11_28 : dp_jt 11 28 = 39 := rfl
theorem jt_12_9 : dp_jt 12 9 = 21 := rfl
theorem jt_12_11 : dp_jt 12 11 = 23 := rfl
theorem jt_12_13 : dp_jt 12 13 = 25 := rfl
theorem jt_12_16 : dp_jt 12 16 = 28 := rfl
theorem jt_12_39 : dp_jt 12 39 = 51 := rfl
theorem jt_12_48 : dp_jt 12 48 = 60 := rfl
theorem jt_13_9 : dp_jt 13 9 = 22 := rfl
theorem jt_13_13 : dp_jt 13 13 = 26 := rfl
theorem jt_13_35 : dp_jt 13 35 = 48 := rfl
theorem jt_14_13 : dp_jt 14 13 = 27 := rfl
theorem jt_14_17 : dp_jt 14 17 = 31 := rfl
theorem jt_14_22 : dp_jt 14 22 = 36 := rfl
theorem jt_15_4 : dp_jt 15 4 = 19 := rfl
theorem jt_15_11 : dp_jt 15 11 = 26 := rfl
theorem jt_15_14 : dp_jt 15 14 = 29 := rfl
theorem jt_15_71 : dp_jt 15 71 = 86 := rfl
theorem jt_16_6 : dp_jt 16 6 = 22 := rfl
theorem jt_16_9 : dp_jt 16 9 = 25 := rfl
theorem jt_16_30 : dp_jt 16 30 = 46 := rfl
theorem jt_16_31 : dp_jt 16 31 = 47 := rfl
theorem jt_16_60 : dp_jt 16 60 = 76 := rfl
theorem jt_17_m12 : dp_jt 17 (-12) = 5 := rfl
theorem jt_17_7 : dp_jt 17 7 = 24 := rfl
theorem jt_17_8 : dp_jt 17 8 = 25 := rfl
theorem jt_17_9 : dp_jt 17 9 = 26 := rfl
theorem jt_17_25 : dp_jt 17 25 = 42 := rfl
theorem jt_17_46 : dp_jt 17 46 = 63 := rfl
theorem jt_18_6 : dp_jt 18 6 = 24 := rfl
theorem jt_18_8 : dp_jt 18 8 = 26 := rfl
theorem jt_18_9 : dp_jt 18 9 = 27 := rfl
theorem jt_18_12 : dp_jt 18 12 = 30 := rfl
theorem jt_19_m15 : dp_jt 19 (-15) = 4 := rfl
theorem jt_19_7 : dp_jt 19 7 = 26 := rfl
theorem jt_19_12 : dp_jt 19 12 = 31 := rfl
theorem jt_19_25 : dp_jt 19 25 = 44 := rfl
theorem jt_19_90 : dp_jt 19 90 = 109 := rfl
theorem jt_20_m18 : dp_jt 20 (-18) = 2 := rfl
theorem jt_20_7 : dp_jt 20 7 = 27 := rfl
theorem jt_20_8 : dp_jt 20 8 = 28 := rfl
theorem jt_21_4 : dp_jt 21 4 = 25 := rfl
theorem jt_21_5 : dp_jt 21 5 = 26 := rfl
theorem jt_21_13 : dp_jt 21 13 = 34 := rfl
theorem jt_21_43 : dp_jt 21 43 = 64 := rfl
theorem jt_22_m18 : dp_jt 22 (-18) = 4 := rfl
theorem jt_22_13 : dp_jt 22 13 = 35 := rfl
theorem jt_22_21 : dp_jt 22 21 = 43 := rfl
theorem jt_23_4 : dp_jt 23 4 = 27 := rfl
theorem jt_23_7 : dp_jt 23 7 = 30 := rfl
theorem jt_23_22 : dp_jt 23 22 = 45 := rfl
theorem jt_24_m20 : dp_jt 24 (-20) = 4 := rfl
theorem jt_24_4 : dp_jt 24 4 = 28 := rfl
theorem jt_24_5 : dp_jt 24 5 = 29 := rfl
theorem jt_25_m21 : dp_jt 25 (-21) = 4 := rfl
theorem jt_25_m19 : dp_jt 25 (-19) = 6 := rfl
theorem jt_25_5 : dp_jt 25 5 = 30 := rfl
theorem jt_25_7 : dp_jt 25 7 = 32 := rfl
theorem jt_25_12 : dp_jt 25 12 = 37 := rfl
theorem jt_26_m16 : dp_jt 26 (-16) = 10 := rfl
theorem jt_26_9 : dp_jt 26 9 = 35 := rfl
theorem jt_26_14 : dp_jt 26 14 = 40 := rfl
theorem jt_27_m23 : dp_jt 27 (-23) = 4 := rfl
theorem jt_27_4 : dp_jt 27 4 = 31 := rfl
theorem jt_27_5 : dp_jt 27 5 = 32 := rfl
theorem jt_27_8 : dp_jt 27 8 = 35 := rfl
theorem jt_27_9 : dp_jt 27 9 = 36 := rfl
theorem jt_28_m24 : dp_jt 28 (-24) = 4 := rfl
theorem jt_28_5 : dp_jt 28 5 = 33 := rfl
theorem jt_28_8 : dp_jt 28 8 = 36 := rfl
theorem jt_28_9 : dp_jt 28 9 = 37 := rfl
theorem jt_28_12 : dp_jt 28 12 = 40 := rfl
theorem jt_28_26 : dp_jt 28 26 = 54 := rfl
theorem jt_29_m27 : dp_jt 29 (-27) = 2 := rfl
theorem jt_29_m23 : dp_jt 29 (-23) = 6 := rfl
theorem jt_29_4 : dp_jt 29 4 = 33 := rfl
theorem jt_29_1597 : dp_jt 29 1597 = 1626 := rfl
theorem jt_30_m26 : dp_jt 30 (-26) = 4 := rfl
theorem jt_30_m24 : dp_jt 30 (-24) = 6 := rfl
theorem jt_31_5 : dp_jt 31 5 = 36 := rfl
theorem jt_31_9 : dp_jt 31 9 = 40 := rfl
theorem jt_32_m28 : dp_jt 32 (-28) = 4 := rfl
theorem jt_32_7 : dp_jt 32 7 = 39 := rfl
theorem jt_32_13 : dp_jt 32 13 = 45 := rfl
theorem jt_33_m22 : dp_jt 33 (-22) = 11 := rfl
theorem jt_33_23 : dp_jt 33 23 = 56 := rfl
theorem jt_34_8 : dp_jt 34 8 = 42 := rfl
theorem jt_34_15 : dp_jt 34 15 = 49 := rfl
theorem jt_34_23 : dp_jt 34 23 = 57 := rfl
theorem jt_34_67 : dp_jt 34 67 = 101 := rfl
theorem jt_35_9 : dp_jt 35 9 = 44 := rfl
theorem jt_35_13 : dp_jt 35 13 = 48 := rfl
theorem jt_36_m32 : dp_jt 36 (-32) = 4 := rfl
theorem jt_36_4 : dp_jt 36 4 = 40 := rfl
theorem jt_36_9 : dp_jt 36 9 = 45 := rfl
theorem jt_37_5 : dp_jt 37 5 = 42 := rfl
theorem jt_37_8 : dp_jt 37 8 = 45 := rfl
theorem jt_37_17 : dp_jt 37 17 = 54 := rfl
theorem jt_38_5 : dp_jt 38 5 = 43 := rfl
theorem jt_39_m34 : dp_jt 39 (-34) = 5 := rfl
theorem jt_39_6 : dp_jt 39 6 = 45 := rfl
theorem jt_39_21 : dp_jt 39 21 = 60 := rfl
theorem jt_39_113 : dp_jt 39 113 = 152 := rfl
theorem jt_39_181 : dp_jt 39 181 = 220 := rfl
theorem jt_39_225 : dp_jt 39 225 = 264 := rfl
theorem jt_39_293 : dp_jt 39 293 = 332 := rfl
theorem jt_39_361 : dp_jt 39 361 = 400 := rfl
theorem jt_39_417 : dp_jt 39 417 = 456 := rfl
theorem jt_39_485 : dp_jt 39 485 = 524 := rfl
theorem jt_39_553 : dp_jt 39 553 = 592 := rfl
theorem jt_39_621 : dp_jt 39 621 = 660 := rfl
theorem jt_39_689 : dp_jt 39 689 = 728 := rfl
theorem jt_39_745 : dp_jt 39 745 = 784 := rfl
theorem jt_39_801 : dp_jt 39 801 = 840 := rfl
theorem jt_39_869 : dp_jt 39 869 = 908 := rfl
theorem jt_39_937 : dp_jt 39 937 = 976 := rfl
theorem jt_39_1005 : dp_jt 39 1005 = 1044 := rfl
theorem jt_39_1073 : dp_jt 39 1073 = 1112 := rfl
theorem jt_39_1129 : dp_jt 39 1129 = 1168 := rfl
theorem jt_39_1185 : dp_jt 39 1185 = 1224 := rfl
theorem jt_39_1253 : dp_jt 39 1253 = 1292 := rfl
theorem jt_39_1321 : dp_jt 39 1321 = 1360 := rfl
theorem jt_39_1389 : dp_jt 39 1389 = 1428 := rfl
theorem jt_39_1445 : dp_jt 39 1445 = 1484 := rfl
theorem jt_39_1513 : dp_jt 39 1513 = 1552 := rfl
theorem jt_39_1526 : dp_jt 39 1526 = 1565 := rfl
theorem jt_39_1567 : dp_jt 39 1567 = 1606 := rfl
theorem jt_39_1581 : dp_jt 39 1581 = 1620 := rfl
theorem jt_40_13 : dp_jt 40 13 = 53 := rfl
theorem jt_40_18 : dp_jt 40 18 = 58 := rfl
theorem jt_41_m31 : dp_jt 41 (-31) = 10 := rfl
theorem jt_43_m31 : dp_jt 43 (-31) = 12 := rfl
theorem jt_43_7 : dp_jt 43 7 = 50 := rfl
theorem jt_44_m31 : dp_jt 44 (-31) = 13 := rfl
theorem jt_44_13 : dp_jt 44 13 = 57 := rfl
theorem jt_45_m43 : dp_jt 45 (-43) = 2 := rfl
theorem jt_45_m40 : dp_jt 45 (-40) = 5 := rfl
theorem jt_45_9 : dp_jt 45 9 = 54 := rfl
theorem jt_45_93 : dp_jt 45 93 = 138 := rfl
theorem jt_46_m44 : dp_jt 46 (-44) = 2 := rfl
theorem jt_46_7 : dp_jt 46 7 = 53 := rfl
theorem jt_46_14 : dp_jt 46 14 = 60 := rfl
theorem jt_46_24 : dp_jt 46 24 = 70 := rfl
theorem jt_46_28 : dp_jt 46 28 = 74 := rfl
theorem jt_46_45 : dp_jt 46 45 = 91 := rfl
theorem jt_47_4 : dp_jt 47 4 = 51 := rfl
theorem jt_47_10 : dp_jt 47 10 = 57 := rfl
theorem jt_47_11 : dp_jt 47 11 = 58 := rfl
theorem jt_47_28 : dp_jt 47 28 = 75 := rfl
theorem jt_48_m44 : dp_jt 48 (-44) = 4 := rfl
theorem jt_49_5 : dp_jt 49 5 = 54 := rfl
theorem jt_50_4 : dp_jt 50 4 = 54 := rfl
theorem jt_51_33 : dp_jt 51 33 = 84 := rfl
theorem jt_52_25 : dp_jt 52 25 = 77 := rfl
theorem jt_53_m23 : dp_jt 53 (-23) = 30 := rfl
theorem jt_55_8 : dp_jt 55 8 = 63 := rfl
theorem jt_56_6 : dp_jt 56 6 = 62 := rfl
theorem jt_57_m55 : dp_jt 57 (-55) = 2 := rfl
theorem jt_57_m48 : dp_jt 57 (-48) = 9 := rfl
theorem jt_57_m22 : dp_jt 57 (-22) = 35 := rfl
theorem jt_57_18 : dp_jt 57 18 = 75 := rfl
theorem jt_58_m56 : dp_jt 58 (-56) = 2 := rfl
theorem jt_58_22 : dp_jt 58 22 = 80 := rfl
theorem jt_59_73 : dp_jt 59 73 = 132 := rfl
theorem jt_60_m52 : dp_jt 60 (-52) = 8 := rfl
theorem jt_60_4 : dp_jt 60 4 = 64 := rfl
theorem jt_61_m47 : dp_jt 61 (-47) = 14 := rfl
theorem jt_62_18 : dp_jt 62 18 = 80 := rfl
theorem jt_62_25 : dp_jt 62 25 = 87 := rfl
theorem jt_66_16 : dp_jt 66 16 = 82 := rfl
theorem jt_67_m26 : dp_jt 67 (-26) = 41 := rfl
theorem jt_68_12 : dp_jt 68 12 = 80 := rfl
theorem jt_69_25 : dp_jt 69 25 = 94 := rfl
theorem jt_71_m36 : dp_jt 71 (-36) = 35 := rfl
theorem jt_71_7 : dp_jt 71 7 = 78 := rfl
theorem jt_71_62 : dp_jt 71 62 = 133 := rfl
theorem jt_72_m36 : dp_jt 72 (-36) = 36 := rfl
theorem jt_72_m20 : dp_jt 72 (-20) = 52 := rfl
theorem jt_73_m65 : dp_jt 73 (-65) = 8 := rfl
theorem jt_74_m26 : dp_jt 74 (-26) = 48 := rfl
theorem jt_74_6 : dp_jt 74 6 = 80 := rfl
theorem jt_75_5 : dp_jt 75 5 = 80 := rfl
theorem jt_75_13 : dp_jt 75 13 = 88 := rfl
theorem jt_78_13 : dp_jt 78 13 = 91 := rfl
theorem jt_79_m21 : dp_jt 79 (-21) = 58 := rfl
theorem jt_79_20 : dp_jt 79 20 = 99 := rfl
theorem jt_81_m34 : dp_jt 81 (-34) = 47 := rfl
theorem jt_82_55 : dp_jt 82 55 = 137 := rfl
theorem jt_83_m77 : dp_jt 83 (-77) = 6 := rfl
theorem jt_84_7 : dp_jt 84 7 = 91 := rfl
theorem jt_84_76 : dp_jt 84 76 = 160 := rfl
theorem jt_85_7 : dp_jt 85 7 = 92 := rfl
theorem jt_87_27 : dp_jt 87 27 = 114 := rfl
theorem jt_88_4 : dp_jt 88 4 = 92 := rfl
theorem jt_88_7 : dp_jt 88 7 = 95 := rfl
theorem jt_89_10 : dp_jt 89 10 = 99 := rfl
theorem jt_90_9 : dp_jt 90 9 = 99 := rfl
theorem jt_91_m25 : dp_jt 91 (-25) = 66 := rfl
theorem jt_92_14 : dp_jt 92 14 = 106 := rfl
theorem jt_92_16 : dp_jt 92 16 = 108 := rfl
theorem jt_93_24 : dp_jt 93 24 = 117 := rfl
theorem jt_97_21 : dp_jt 97 21 = 118 := rfl
theorem jt_98_m70 : dp_jt 98 (-70) = 28 := rfl
theorem jt_104_5 : dp_jt 104 5 = 109 := rfl
theorem jt_105_m21 : dp_jt 105 (-21) = 84 := rfl
theorem jt_111_m33 : dp_jt 111 (-33) = 78 := rfl
theorem jt_112_m110 : dp_jt 112 (-110) = 2 := rfl
theorem jt_114_m24 : dp_jt 114 (-24) = 90 := rfl
theorem jt_115_m24 : dp_jt 115 (-24) = 91 := rfl
theorem jt_115_12 : dp_jt 115 12 = 127 := rfl
theorem jt_119_6 : dp_jt 119 6 = 125 := rfl
theorem jt_121_7 : dp_jt 121 7 = 128 := rfl
theorem jt_122_10 : dp_jt 122 10 = 132 := rfl
theorem jt_125_4 : dp_jt 125 4 = 129 := rfl
theorem jt_128_26 : dp_jt 128 26 = 154 := rfl
theorem jt_130_m68 : dp_jt 130 (-68) = 62 := rfl
theorem jt_134_m55 : dp_jt 134 (-55) = 79 := rfl
theorem jt_135_m94 : dp_jt 135 (-94) = 41 := rfl
theorem jt_151_m31 : dp_jt 151 (-31) = 120 := rfl
theorem jt_151_17 : dp_jt 151 17 = 168 := rfl
theorem jt_157_m78 : dp_jt 157 (-78) = 79 := rfl
theorem jt_165_m19 : dp_jt 165 (-19) = 146 := rfl
theorem jt_167_110 : dp_jt 167 110 = 277 := rfl
theorem jt_177_18 : dp_jt 177 18 = 195 := rfl
theorem jt_177_24 : dp_jt 177 24 = 201 := rfl
theorem jt_192_m20 : dp_jt 192 (-20) = 172 := rfl
theorem jt_195_5 : dp_jt 195 5 = 200 := rfl
theorem jt_198_m25 : dp_jt 198 (-25) = 173 := rfl
theorem jt_202_15 : dp_jt 202 15 = 217 := rfl
theorem jt_212_5 : dp_jt 212 5 = 217 := rfl
theorem jt_212_26 : dp_jt 212 26 = 238 := rfl
theorem jt_217_1403 : dp_jt 217 1403 = 1620 := rfl
theorem jt_235_m31 : dp_jt 235 (-31) = 204 := rfl
theorem jt_239_5 : dp_jt 239 5 = 244 := rfl
theorem jt_246_15 : dp_jt 246 15 = 261 := rfl
theorem jt_247_24 : dp_jt 247 24 = 271 := rfl
theorem jt_256_5 : dp_jt 256 5 = 261 := rfl
theorem jt_261_1359 : dp_jt 261 1359 = 1620 := rfl
theorem jt_268_m27 : dp_jt 268 (-27) = 241 := rfl
theorem jt_274_m112 : dp_jt 274 (-112) = 162 := rfl
theorem jt_307_5 : dp_jt 307 5 = 312 := rfl
theorem jt_314_15 : dp_jt 314 15 = 329 := rfl
theorem jt_324_5 : dp_jt 324 5 = 329 := rfl
theorem jt_329_1291 : dp_jt 329 1291 = 1620 := rfl
theorem jt_375_5 : dp_jt 375 5 = 380 := rfl
theorem jt_382_15 : dp_jt 382 15 = 397 := rfl
theorem jt_392_5 : dp_jt 392 5 = 397 := rfl
theorem jt_397_1223 : dp_jt 397 1223 = 1620 := rfl
theorem jt_431_5 : dp_jt 431 5 = 436 := rfl
theorem jt_438_15 : dp_jt 438 15 = 453 := rfl
theorem jt_448_5 : dp_jt 448 5 = 453 := rfl
theorem jt_453_1167 : dp_jt 453 1167 = 1620 := rfl
theorem jt_499_5 : dp_jt 499 5 = 504 := rfl
theorem jt_506_15 : dp_jt 506 15 = 521 := rfl
theorem jt_516_5 : dp_jt 516 5 = 521 := rfl
theorem jt_521_1099 : dp_jt 521 1099 = 1620 := rfl
theorem jt_567_5 : dp_jt 567 5 = 572 := rfl
theorem jt_574_15 : dp_jt 574 15 = 589 := rfl
theorem jt_584_5 : dp_jt 584 5 = 589 := rfl
theorem jt_589_1031 : dp_jt 589 1031 = 1620 := rfl
theorem jt_635_5 : dp_jt 635 5 = 640 := rfl
theorem jt_642_15 : dp_jt 642 15 = 657 := rfl
theorem jt_652_5 : dp_jt 652 5 = 657 := rfl
theorem jt_657_963 : dp_jt 657 963 = 1620 := rfl
theorem jt_703_5 : dp_jt 703 5 = 708 := rfl
theorem jt_710_15 : dp_jt 710 15 = 725 := rfl
theorem jt_720_5 : dp_jt 720 5 = 725 := rfl
theorem jt_725_895 : dp_jt 725 895 = 1620 := rfl
theorem jt_759_5 : dp_jt 759 5 = 764 := rfl
theorem jt_766_15 : dp_jt 766 15 = 781 := rfl
theorem jt_776_5 : dp_jt 776 5 = 781 := rfl
theorem jt_781_839 : dp_jt 781 839 = 1620 := rfl
theorem jt_815_5 : dp_jt 815 5 = 820 := rfl
theorem jt_822_15 : dp_jt 822 15 = 837 := rfl
theorem jt_832_5 : dp_jt 832 5 = 837 := rfl
theorem jt_837_783 : dp_jt 837 783 = 1620 := rfl
theorem jt_883_5 : dp_jt 883 5 = 888 := rfl
theorem jt_890_15 : dp_jt 890 15 = 905 := rfl
theorem jt_900_5 : dp_jt 900 5 = 905 := rfl
theorem jt_905_715 : dp_jt 905 715 = 1620 := rfl
theorem jt_951_5 : dp_jt 951 5 = 956 := rfl
theorem jt_958_15 : dp_jt 958 15 = 973 := rfl
theorem jt_968_5 : dp_jt 968 5 = 973 := rfl
theorem jt_973_647 : dp_jt 973 647 = 1620 := rfl
theorem jt_1019_5 : dp_jt 1019 5 = 1024 := rfl
theorem jt_1026_15 : dp_jt 1026 15 = 1041 := rfl
theorem jt_1036_5 : dp_jt 1036 5 = 1041 := rfl
theorem jt_1041_579 : dp_jt 1041 579 = 1620 := rfl
theorem jt_1087_5 : dp_jt 1087 5 = 1092 := rfl
theorem jt_1094_15 : dp_jt 1094 15 = 1109 := rfl
theorem jt_1104_5 : dp_jt 1104 5 = 1109 := rfl
theorem jt_1109_511 : dp_jt 1109 511 = 1620 := rfl
theorem jt_1143_5 : dp_jt 1143 5 = 1148 := rfl
theorem jt_1150_15 : dp_jt 1150 15 = 1165 := rfl
theorem jt_1160_5 : dp_jt 1160 5 = 1165 := rfl
theorem jt_1165_455 : dp_jt 1165 455 = 1620 := rfl
theorem jt_1199_5 : dp_jt 1199 5 = 1204 := rfl
theorem jt_1206_15 : dp_jt 1206 15 = 1221 := rfl
theorem jt_1216_5 : dp_jt 1216 5 = 1221 := rfl
theorem jt_1221_399 : dp_jt 1221 399 = 1620 := rfl
theorem jt_1267_5 : dp_jt 1267 5 = 1272 := rfl
theorem jt_1274_15 : dp_jt 1274 15 = 1289 := rfl
theorem jt_1284_5 : dp_jt 1284 5 = 1289 := rfl
theorem jt_1289_331 : dp_jt 1289 331 = 1620 := rfl
theorem jt_1335_5 : dp_jt 1335 5 = 1340 := rfl
theorem jt_1342_15 : dp_jt 1342 15 = 1357 := rfl
theorem jt_1352_5 : dp_jt 1352 5 = 1357 := rfl
theorem jt_1357_263 : dp_jt 1357 263 = 1620 := rfl
theorem jt_1403_5 : dp_jt 1403 5 = 1408 := rfl
theorem jt_1410_15 : dp_jt 1410 15 = 1425 := rfl
theorem jt_1420_5 : dp_jt 1420 5 = 1425 := rfl
theorem jt_1425_195 : dp_jt 1425 195 = 1620 := rfl
theorem jt_1459_5 : dp_jt 1459 5 = 1464 := rfl
theorem jt_1466_15 : dp_jt 1466 15 = 1481 := rfl
theorem jt_1476_5 : dp_jt 1476 5 = 1481 := rfl
theorem jt_1481_139 : dp_jt 1481 139 = 1620 := rfl
theorem jt_1527_5 : dp_jt 1527 5 = 1532 := rfl
theorem jt_1534_15 : dp_jt 1534 15 = 1549 := rfl
theorem jt_1544_5 : dp_jt 1544 5 = 1549 := rfl
theorem jt_1549_71 : dp_jt 1549 71 = 1620 := rfl
theorem jt_1560_60 : dp_jt 1560 60 = 1620 := rfl
theorem jt_1582_21 : dp_jt 1582 21 = 1603 := rfl
theorem jt_1590_11 : dp_jt 1590 11 = 1601 := rfl
theorem jt_1598_5 : dp_jt 1598 5 = 1603 := rfl
theorem jt_1603_17 : dp_jt 1603 17 = 1620 := rfl
theorem jt_1615_5 : dp_jt 1615 5 = 1620 := rfl
theorem jt_1623_m1600 : dp_jt 1623 (-1600) = 23 := rfl
theorem f4_0 : dp_f4 0 = 0 := rfl
theorem f4_1 : dp_f4 1 = 1 := rfl
theorem f4_2 : dp_f4 2 = 2 := rfl
theorem f4_3 : dp_f4 3 = 3 := rfl
theorem fd_2_9 : dp_fld 2 9 = some (2, 0) := by decide +kernel
theorem fd_3_44 : dp_fld 3 44 = some (2, 0) := by decide +kernel
theorem fd_2_17 : dp_fld 2 17 = some (2, 1) := by decide +kernel
theorem fd_3_69 : dp_fld 3 69 = some (2, 1) := by decide +kernel
theorem fd_2_20 : dp_fld 2 20 = some (2, 2) := by decide +kernel
theorem fd_3_64 : dp_fld 3 64 = some (2, 2) := by decide +kernel
theorem fd_2_23 : dp_fld 2 23 = some (2, 3) := by decide +kernel
theorem fd_2_26 : dp_fld 2 26 = some (2, 4) := by decide +kernel
theorem fd_2_35 : dp_fld 2 35 = some (2, 5) := by decide +kernel
theorem fd_3_50 : dp_fld 3 50 = some (2, 5) := by decide +kernel
theorem fd_1_11 : dp_fld 1 11 = some (1, 0) := by decide +kernel
theorem fd_3_108 : dp_fld 3 108 = some (1, 0) := by decide +kernel
theorem fd_1_16 : dp_fld 1 16 = some (1, 1) := by decide +kernel
theorem fd_3_97 : dp_fld 3 97 = some (1, 1) := by decide +kernel
theorem fd_1_20 : dp_fld 1 20 = some (1, 2) := by decide +kernel
theorem fd_3_115 : dp_fld 3 115 = some (1, 2) := by decide +kernel
theorem fd_3_86 : dp_fld 3 86 = some (1, 3) := by decide +kernel
theorem fd_0_9 : dp_fld 0 9 = some (0, 0) := by decide +kernel
theorem fd_3_217 : dp_fld 3 217 = some (0, 0) := by decide +kernel
theorem fd_0_15 : dp_fld 0 15 = some (0, 1) := by decide +kernel
theorem fd_3_91 : dp_fld 3 91 = some (0, 1) := by decide +kernel
theorem fd_0_18 : dp_fld 0 18 = some (0, 2) := by decide +kernel
theorem fd_3_231 : dp_fld 3 231 = some (0, 2) := by decide +kernel
theorem fd_0_21 : dp_fld 0 21 = some (0, 3) := by decide +kernel
theorem fd_3_223 : dp_fld 3 223 = some (0, 3) := by decide +kernel
theorem fd_0_30 : dp_fld 0 30 = some (0, 4) := by decide +kernel
theorem fd_3_240 : dp_fld 3 240 = some (0, 4) := by decide +kernel
theorem fd_3_10 : dp_fld 3 10 = some (3, 0) := by decide +kernel
theorem fd_3_19 : dp_fld 3 19 = some (3, 1) := by decide +kernel
theorem fd_3_26 : dp_fld 3 26 = some (3, 2) := by decide +kernel
theorem fd_3_30 : dp_fld 3 30 = some (3, 3) := by decide +kernel
theorem fd_3_33 : dp_fld 3 33 = some (3, 4) := by decide +kernel
theorem fd_4_19 : dp_fld 4 19 = some (4, 0) := by decide +kernel
theorem fd_4_23 : dp_fld 4 23 = some (4, 1) := by decide +kernel
theorem fd_4_30 : dp_fld 4 30 = some (4, 2) := by decide +kernel
theorem fd_4_100 : dp_fld 4 100 = some (4, 3) := by decide +kernel
theorem fd_4_9 : dp_fld 4 9 = some (4, 4) := by decide +kernel
theorem fd_4_13 : dp_fld 4 13 = some (4, 5) := by decide +kernel
theorem fd_4_16 : dp_fld 4 16 = some (4, 6) := by decide +kernel
set_option maxRecDepth 100000 in
theorem iv_1_23 : dp_iv 1 23 = some (123, 2, 0, 0, true, 7, 4) := rfl
theorem nt_1_23 : dp_nat 1 23 = none := by decide +kernel
set_option maxRecDepth 100000 in
theorem iv_5_162 : dp_iv 5 162 = some (40, 1, 0, 0, false, 3, 2) := rfl
theorem nt_5_162 : dp_nat 5 162 = none := by decide +kernel
set_option maxRecDepth 100000 in
theorem iv_3_172 : dp_iv 3 172 = some (0, 2, 0, 0, false, 0, 2) := rfl
theorem nt_3_172 : dp_nat 3 172 = none := by decide +kernel
theorem iv_0_24 : dp_iv 0 24 = none := by decide +kernel
theorem nt_0_24 : dp_nat 0 24 = some 202 := by decide +kernel
set_option maxRecDepth 100000 in
theorem iv_3_176 : dp_iv 3 176 = some (66, 2, 0, 0, false, 3, 4) := rfl
theorem nt_3_176 : dp_nat 3 176 = none := by decide +kernel
set_option maxRecDepth 100000 in
theorem iv_3_268 : dp_iv 3 268 = some (59, 3, 0, 0, false, 3, 7) := rfl
theorem nt_3_268 : dp_nat 3 268 = none := by decide +kernel
set_option maxRecDepth 100000 in
theorem iv_3_156 : dp_iv 3 156 = some (56, 4, 0, 0, false, 3, 4) := rfl
theorem nt_3_156 : dp_nat 3 156 = none := by decide +kernel
set_option maxRecDepth 100000 in
theorem iv_3_243 : dp_iv 3 243 = some (13, 5, 0, 0, false, 2, 9) := rfl
theorem nt_3_243 : dp_nat 3 243 = none := by decide +kernel
set_option maxRecDepth 100000 in
theorem iv_2_47 : dp_iv 2 47 = some (12, 3, 0, 0, false, 2, 3) := rfl
theorem nt_2_47 : dp_nat 2 47 = none := by decide +kernel
theorem iv_2_51 : dp_iv 2 51 = none := by decide +kernel
theorem nt_2_51 : dp_nat 2 51 = some 200 := by decide +kernel
set_option maxRecDepth 100000 in
theorem iv_2_56 : dp_iv 2 56 = some (11, 2, 0, 0, false, 2, 3) := rfl
theorem nt_2_56 : dp_nat 2 56 = none := by decide +kernel
theorem iv_2_59 : dp_iv 2 59 = none := by decide +kernel
theorem nt_2_59 : dp_nat 2 59 = some 201 := by decide +kernel
set_option maxRecDepth 100000 in
theorem iv_3_251 : dp_iv 3 251 = some (57, 5, 0, 0, false, 3, 5) := rfl
theorem nt_3_251 : dp_nat 3 251 = none := by decide +kernel
set_option maxRecDepth 100000 in
theorem iv_3_247 : dp_iv 3 247 = some (1, 3, 0, 0, false, 0, 3) := rfl
theorem nt_3_247 : dp_nat 3 247 = none := by decide +kernel
set_option maxRecDepth 100000 in
theorem iv_3_271 : dp_iv 3 271 = some (63, 4, 0, 0, false, 3, 4) := rfl
theorem nt_3_271 : dp_nat 3 271 = none := by decide +kernel
set_option maxRecDepth 100000 in
theorem iv_3_136 : dp_iv 3 136 = some (65, 3, 0, 0, false, 3, 5) := rfl
theorem nt_3_136 : dp_nat 3 136 = none := by decide +kernel
set_option maxRecDepth 100000 in
theorem iv_3_125 : dp_iv 3 125 = some (64, 3, 0, 0, false, 3, 5) := rfl
theorem nt_3_125 : dp_nat 3 125 = none := by decide +kernel
set_option maxRecDepth 100000 in
theorem iv_3_274 : dp_iv 3 274 = some (2, 4, 0, 0, false, 0, 4) := rfl
theorem nt_3_274 : dp_nat 3 274 = none := by decide +kernel
set_option maxRecDepth 100000 in
theorem iv_3_278 : dp_iv 3 278 = some (3, 2, 0, 0, false, 0, 3) := rfl
theorem nt_3_278 : dp_nat 3 278 = none := by decide +kernel
set_option maxRecDepth 100000 in
theorem iv_5_166 : dp_iv 5 166 = some (41, 1, 0, 0, false, 3, 2) := rfl
theorem nt_5_166 : dp_nat 5 166 = none := by decide +kernel
set_option maxRecDepth 100000 in
theorem iv_3_132 : dp_iv 3 132 = some (5, 1, 0, 0, false, 0, 3) := rfl
theorem nt_3_132 : dp_nat 3 132 = none := by decide +kernel
set_option maxRecDepth 100000 in
theorem iv_0_38 : dp_iv 0 38 = some (122, 1, 0, 0, true, 6, 1) := rfl
theorem nt_0_38 : dp_nat 0 38 = none := by decide +kernel
set_option maxRecDepth 100000 in
theorem iv_3_180 : dp_iv 3 180 = some (6, 1, 0, 0, false, 0, 3) := rfl
theorem nt_3_180 : dp_nat 3 180 = none := by decide +kernel
set_option maxRecDepth 100000 in
theorem iv_5_171 : dp_iv 5 171 = some (42, 1, 0, 0, false, 3, 4) := rfl
theorem nt_5_171 : dp_nat 5 171 = none := by decide +kernel
set_option maxRecDepth 100000 in
theorem iv_3_149 : dp_iv 3 149 = some (55, 2, 0, 0, false, 3, 2) := rfl
theorem nt_3_149 : dp_nat 3 149 = none := by decide +kernel
set_option maxRecDepth 100000 in
theorem iv_3_234 : dp_iv 3 234 = some (16, 1, 0, 0, false, 2, 3) := rfl
theorem nt_3_234 : dp_nat 3 234 = none := by decide +kernel
set_option maxRecDepth 100000 in
theorem iv_3_237 : dp_iv 3 237 = some (15, 1, 0, 0, false, 2, 3) := rfl
theorem nt_3_237 : dp_nat 3 237 = none := by decide +kernel
set_option maxRecDepth 100000 in
theorem iv_3_185 : dp_iv 3 185 = some (45, 2, 0, 0, true, 3, 3) := rfl
theorem nt_3_185 : dp_nat 3 185 = none := by decide +kernel
set_option maxRecDepth 100000 in
theorem iv_3_189 : dp_iv 3 189 = some (43, 3, 0, 0, false, 3, 7) := rfl
theorem nt_3_189 : dp_nat 3 189 = none := by decide +kernel
set_option maxRecDepth 100000 in
theorem iv_3_143 : dp_iv 3 143 = some (53, 3, 0, 0, false, 3, 3) := rfl
theorem nt_3_143 : dp_nat 3 143 = none := by decide +kernel
set_option maxRecDepth 100000 in
theorem iv_3_214 : dp_iv 3 214 = some (14, 2, 0, 0, false, 2, 4) := rfl
theorem nt_3_214 : dp_nat 3 214 = none := by decide +kernel
set_option maxRecDepth 100000 in
theorem iv_3_220 : dp_iv 3 220 = some (4, 2, 0, 0, false, 0, 4) := rfl
theorem nt_3_220 : dp_nat 3 220 = none := by decide +kernel
set_option maxRecDepth 100000 in
theorem iv_0_34 : dp_iv 0 34 = some (1, 3, 0, 0, false, 0, 3) := rfl
theorem nt_0_34 : dp_nat 0 34 = none := by decide +kernel
set_option maxRecDepth 100000 in
theorem iv_3_192 : dp_iv 3 192 = some (44, 3, 0, 0, false, 3, 7) := rfl
theorem nt_3_192 : dp_nat 3 192 = none := by decide +kernel
set_option maxRecDepth 100000 in
theorem iv_3_146 : dp_iv 3 146 = some (54, 3, 0, 0, false, 3, 3) := rfl
theorem nt_3_146 : dp_nat 3 146 = none := by decide +kernel
set_option maxRecDepth 100000 in
theorem iv_3_226 : dp_iv 3 226 = some (122, 1, 0, 0, true, 6, 1) := rfl
theorem nt_3_226 : dp_nat 3 226 = none := by decide +kernel
set_option maxRecDepth 100000 in
theorem iv_3_160 : dp_iv 3 160 = some (58, 2, 0, 0, false, 3, 5) := rfl
theorem nt_3_160 : dp_nat 3 160 = none := by decide +kernel
set_option maxRecDepth 100000 in
theorem iv_5_88 : dp_iv 5 88 = some (124, 4, 2, 12, true, 5, 5) := rfl
theorem nt_5_88 : dp_nat 5 88 = none := by decide +kernel
set_option maxRecDepth 100000 in
theorem iv_5_7 : dp_iv 5 7 = some (18, 3, 2, 12, false, 3, 4) := rfl
theorem nt_5_7 : dp_nat 5 7 = none := by decide +kernel
set_option maxRecDepth 100000 in
theorem iv_3_37 : dp_iv 3 37 = some (46, 1, 1, 6, true, 3, 1) := rfl
theorem nt_3_37 : dp_nat 3 37 = none := by decide +kernel
set_option maxRecDepth 100000 in
theorem iv_3_41 : dp_iv 3 41 = some (47, 1, 1, 6, true, 3, 1) := rfl
theorem nt_3_41 : dp_nat 3 41 = none := by decide +kernel
set_option maxRecDepth 100000 in
theorem iv_3_47 : dp_iv 3 47 = some (8, 1, 0, 0, false, 2, 2) := rfl
theorem nt_3_47 : dp_nat 3 47 = none := by decide +kernel
set_option maxRecDepth 100000 in
theorem iv_2_29 : dp_iv 2 29 = some (123, 2, 0, 0, true, 7, 4) := rfl
theorem nt_2_29 : dp_nat 2 29 = none := by decide +kernel
set_option maxRecDepth 100000 in
theorem iv_2_39 : dp_iv 2 39 = some (9, 2, 0, 0, false, 2, 5) := rfl
theorem nt_2_39 : dp_nat 2 39 = none := by decide +kernel
set_option maxRecDepth 100000 in
theorem iv_2_43 : dp_iv 2 43 = some (10, 2, 0, 0, false, 2, 2) := rfl
theorem nt_2_43 : dp_nat 2 43 = none := by decide +kernel
set_option maxRecDepth 100000 in
theorem iv_5_97 : dp_iv 5 97 = some (125, 2, 1, 6, true, 5, 3) := rfl
theorem nt_5_97 : dp_nat 5 97 = none := by decide +kernel
set_option maxRecDepth 100000 in
theorem iv_5_15 : dp_iv 5 15 = some (19, 1, 1, 6, false, 3, 1) := rfl
theorem nt_5_15 : dp_nat 5 15 = none := by decide +kernel
set_option maxRecDepth 100000 in
theorem iv_5_101 : dp_iv 5 101 = some (126, 4, 3, 18, true, 5, 5) := rfl
theorem nt_5_101 : dp_nat 5 101 = none := by decide +kernel
set_option maxRecDepth 100000 in
theorem iv_5_21 : dp_iv 5 21 = some (20, 3, 3, 18, false, 3, 4) := rfl
theorem nt_5_21 : dp_nat 5 21 = none := by decide +kernel
set_option maxRecDepth 100000 in
theorem iv_3_61 : dp_iv 3 61 = some (48, 2, 1, 6, false, 3, 2) := rfl
theorem nt_3_61 : dp_nat 3 61 = none := by decide +kernel
set_option maxRecDepth 100000 in
theorem iv_5_104 : dp_iv 5 104 = some (127, 4, 2, 12, true, 5, 5) := rfl
theorem nt_5_104 : dp_nat 5 104 = none := by decide +kernel
set_option maxRecDepth 100000 in
theorem iv_5_24 : dp_iv 5 24 = some (21, 3, 2, 12, false, 3, 4) := rfl
theorem nt_5_24 : dp_nat 5 24 = none := by decide +kernel
set_option maxRecDepth 100000 in
theorem iv_3_73 : dp_iv 3 73 = some (50, 2, 1, 6, true, 3, 2) := rfl
theorem nt_3_73 : dp_nat 3 73 = none := by decide +kernel
set_option maxRecDepth 100000 in
theorem iv_3_77 : dp_iv 3 77 = some (67, 3, 0, 0, true, 3, 4) := rfl
theorem nt_3_77 : dp_nat 3 77 = none := by decide +kernel
set_option maxRecDepth 100000 in
theorem iv_5_107 : dp_iv 5 107 = some (128, 3, 2, 12, true, 5, 4) := rfl
theorem nt_5_107 : dp_nat 5 107 = none := by decide +kernel
set_option maxRecDepth 100000 in
theorem iv_5_27 : dp_iv 5 27 = some (22, 2, 2, 12, false, 3, 3) := rfl
theorem nt_5_27 : dp_nat 5 27 = none := by decide +kernel
set_option maxRecDepth 100000 in
theorem iv_5_111 : dp_iv 5 111 = some (129, 4, 4, 24, true, 5, 5) := rfl
theorem nt_5_111 : dp_nat 5 111 = none := by decide +kernel
set_option maxRecDepth 100000 in
theorem iv_5_33 : dp_iv 5 33 = some (23, 3, 4, 24, false, 3, 4) := rfl
theorem nt_5_33 : dp_nat 5 33 = none := by decide +kernel
set_option maxRecDepth 100000 in
theorem iv_3_94 : dp_iv 3 94 = some (49, 2, 1, 6, false, 3, 2) := rfl
theorem nt_3_94 : dp_nat 3 94 = none := by decide +kernel
set_option maxRecDepth 100000 in
theorem iv_3_102 : dp_iv 3 102 = some (7, 3, 0, 0, false, 1, 4) := rfl
theorem nt_3_102 : dp_nat 3 102 = none := by decide +kernel
set_option maxRecDepth 100000 in
theorem iv_5_114 : dp_iv 5 114 = some (130, 4, 3, 18, true, 5, 5) := rfl
theorem nt_5_114 : dp_nat 5 114 = none := by decide +kernel
set_option maxRecDepth 100000 in
theorem iv_5_36 : dp_iv 5 36 = some (24, 3, 3, 18, false, 3, 4) := rfl
theorem nt_5_36 : dp_nat 5 36 = none := by decide +kernel
set_option maxRecDepth 100000 in
theorem iv_5_117 : dp_iv 5 117 = some (131, 4, 2, 12, true, 5, 5) := rfl
theorem nt_5_117 : dp_nat 5 117 = none := by decide +kernel
set_option maxRecDepth 100000 in
theorem iv_5_39 : dp_iv 5 39 = some (25, 3, 2, 12, false, 3, 4) := rfl
theorem nt_5_39 : dp_nat 5 39 = none := by decide +kernel
set_option maxRecDepth 100000 in
theorem iv_5_120 : dp_iv 5 120 = some (132, 4, 2, 12, true, 5, 5) := rfl
theorem nt_5_120 : dp_nat 5 120 = none := by decide +kernel
set_option maxRecDepth 100000 in
theorem iv_5_42 : dp_iv 5 42 = some (26, 3, 2, 12, false, 3, 3) := rfl
theorem nt_5_42 : dp_nat 5 42 = none := by decide +kernel
theorem iv_3_120 : dp_iv 3 120 = none := by decide +kernel
theorem nt_3_120 : dp_nat 3 120 = some 200 := by decide +kernel
set_option maxRecDepth 100000 in
theorem iv_5_123 : dp_iv 5 123 = some (133, 3, 1, 6, true, 5, 4) := rfl
theorem nt_5_123 : dp_nat 5 123 = none := by decide +kernel
set_option maxRecDepth 100000 in
theorem iv_5_45 : dp_iv 5 45 = some (27, 2, 1, 6, false, 3, 2) := rfl
theorem nt_5_45 : dp_nat 5 45 = none := by decide +kernel
set_option maxRecDepth 100000 in
theorem iv_5_126 : dp_iv 5 126 = some (134, 3, 1, 6, true, 5, 4) := rfl
theorem nt_5_126 : dp_nat 5 126 = none := by decide +kernel
set_option maxRecDepth 100000 in
theorem iv_5_48 : dp_iv 5 48 = some (28, 2, 1, 6, false, 3, 3) := rfl
theorem nt_5_48 : dp_nat 5 48 = none := by decide +kernel
set_option maxRecDepth 100000 in
theorem iv_3_129 : dp_iv 3 129 = some (52, 1, 1, 6, true, 3, 1) := rfl
theorem nt_3_129 : dp_nat 3 129 = none := by decide +kernel
set_option maxRecDepth 100000 in
theorem iv_5_129 : dp_iv 5 129 = some (135, 4, 2, 12, true, 5, 5) := rfl
theorem nt_5_129 : dp_nat 5 129 = none := by decide +kernel
set_option maxRecDepth 100000 in
theorem iv_5_51 : dp_iv 5 51 = some (29, 3, 2, 12, false, 3, 3) := rfl
theorem nt_5_51 : dp_nat 5 51 = none := by decide +kernel
set_option maxRecDepth 100000 in
theorem iv_3_140 : dp_iv 3 140 = some (51, 2, 1, 6, true, 3, 2) := rfl
theorem nt_3_140 : dp_nat 3 140 = none := by decide +kernel
set_option maxRecDepth 100000 in
theorem iv_5_132 : dp_iv 5 132 = some (136, 4, 2, 12, true, 5, 5) := rfl
theorem nt_5_132 : dp_nat 5 132 = none := by decide +kernel
set_option maxRecDepth 100000 in
theorem iv_5_54 : dp_iv 5 54 = some (30, 3, 2, 12, false, 3, 3) := rfl
theorem nt_5_54 : dp_nat 5 54 = none := by decide +kernel
set_option maxRecDepth 100000 in
theorem iv_5_135 : dp_iv 5 135 = some (137, 4, 2, 12, true, 5, 5) := rfl
theorem nt_5_135 : dp_nat 5 135 = none := by decide +kernel
set_option maxRecDepth 100000 in
theorem iv_5_57 : dp_iv 5 57 = some (31, 3, 2, 12, false, 3, 3) := rfl
theorem nt_5_57 : dp_nat 5 57 = none := by decide +kernel
set_option maxRecDepth 100000 in
theorem iv_5_138 : dp_iv 5 138 = some (138, 4, 2, 12, true, 5, 5) := rfl
theorem nt_5_138 : dp_nat 5 138 = none := by decide +kernel
set_option maxRecDepth 100000 in
theorem iv_5_60 : dp_iv 5 60 = some (32, 3, 2, 12, false, 3, 3) := rfl
theorem nt_5_60 : dp_nat 5 60 = none := by decide +kernel
set_option maxRecDepth 100000 in
theorem iv_5_141 : dp_iv 5 141 = some (139, 3, 1, 6, true, 5, 4) := rfl
theorem nt_5_141 : dp_nat 5 141 = none := by decide +kernel
set_option maxRecDepth 100000 in
theorem iv_5_63 : dp_iv 5 63 = some (33, 2, 1, 6, false, 3, 2) := rfl
theorem nt_5_63 : dp_nat 5 63 = none := by decide +kernel
set_option maxRecDepth 100000 in
theorem iv_5_144 : dp_iv 5 144 = some (140, 3, 1, 6, true, 5, 4) := rfl
theorem nt_5_144 : dp_nat 5 144 = none := by decide +kernel
set_option maxRecDepth 100000 in
theorem iv_5_66 : dp_iv 5 66 = some (34, 2, 1, 6, false, 3, 2) := rfl
theorem nt_5_66 : dp_nat 5 66 = none := by decide +kernel
set_option maxRecDepth 100000 in
theorem iv_3_153 : dp_iv 3 153 = some (11, 2, 0, 0, false, 2, 3) := rfl
theorem nt_3_153 : dp_nat 3 153 = none := by decide +kernel
set_option maxRecDepth 100000 in
theorem iv_5_147 : dp_iv 5 147 = some (141, 4, 2, 12, true, 5, 5) := rfl
theorem nt_5_147 : dp_nat 5 147 = none := by decide +kernel
set_option maxRecDepth 100000 in
theorem iv_5_69 : dp_iv 5 69 = some (35, 3, 2, 12, false, 3, 3) := rfl
theorem nt_5_69 : dp_nat 5 69 = none := by decide +kernel
set_option maxRecDepth 100000 in
theorem iv_5_150 : dp_iv 5 150 = some (142, 4, 2, 12, true, 5, 5) := rfl
theorem nt_5_150 : dp_nat 5 150 = none := by decide +kernel
set_option maxRecDepth 100000 in
theorem iv_5_72 : dp_iv 5 72 = some (36, 3, 2, 12, false, 3, 3) := rfl
theorem nt_5_72 : dp_nat 5 72 = none := by decide +kernel
set_option maxRecDepth 100000 in
theorem iv_3_163 : dp_iv 3 163 = some (60, 3, 0, 0, false, 3, 5) := rfl
theorem nt_3_163 : dp_nat 3 163 = none := by decide +kernel
set_option maxRecDepth 100000 in
theorem iv_3_255 : dp_iv 3 255 = some (61, 4, 0, 0, false, 3, 8) := rfl
theorem nt_3_255 : dp_nat 3 255 = none := by decide +kernel
set_option maxRecDepth 100000 in
theorem iv_5_153 : dp_iv 5 153 = some (143, 4, 2, 12, true, 5, 5) := rfl
theorem nt_5_153 : dp_nat 5 153 = none := by decide +kernel
set_option maxRecDepth 100000 in
theorem iv_5_75 : dp_iv 5 75 = some (37, 3, 2, 12, false, 3, 4) := rfl
theorem nt_5_75 : dp_nat 5 75 = none := by decide +kernel
set_option maxRecDepth 100000 in
theorem iv_3_166 : dp_iv 3 166 = some (17, 3, 0, 0, false, 2, 5) := rfl
theorem nt_3_166 : dp_nat 3 166 = none := by decide +kernel
set_option maxRecDepth 100000 in
theorem iv_5_156 : dp_iv 5 156 = some (144, 3, 1, 6, true, 5, 4) := rfl
theorem nt_5_156 : dp_nat 5 156 = none := by decide +kernel
set_option maxRecDepth 100000 in
theorem iv_5_78 : dp_iv 5 78 = some (38, 2, 1, 6, false, 3, 6) := rfl
theorem nt_5_78 : dp_nat 5 78 = none := by decide +kernel
set_option maxRecDepth 100000 in
theorem iv_3_169 : dp_iv 3 169 = some (62, 3, 0, 0, false, 3, 7) := rfl
theorem nt_3_169 : dp_nat 3 169 = none := by decide +kernel
theorem iv_3_259 : dp_iv 3 259 = none := by decide +kernel
theorem nt_3_259 : dp_nat 3 259 = some 202 := by decide +kernel
theorem iv_3_265 : dp_iv 3 265 = none := by decide +kernel
theorem nt_3_265 : dp_nat 3 265 = some 201 := by decide +kernel
set_option maxRecDepth 100000 in
theorem iv_5_159 : dp_iv 5 159 = some (145, 4, 2, 12, true, 5, 5) := rfl
theorem nt_5_159 : dp_nat 5 159 = none := by decide +kernel
set_option maxRecDepth 100000 in
theorem iv_5_81 : dp_iv 5 81 = some (39, 3, 2, 12, false, 3, 3) := rfl
theorem nt_5_81 : dp_nat 5 81 = none := by decide +kernel
set_option maxRecDepth 100000 in
theorem iv_5_94 : dp_iv 5 94 = some (68, 1, 0, 0, false, 4, 1) := rfl
theorem nt_5_94 : dp_nat 5 94 = none := by decide +kernel
set_option maxRecDepth 100000 in
theorem iv_5_93 : dp_iv 5 93 = some (78, 3, 0, 0, false, 4, 4) := rfl
theorem nt_5_93 : dp_nat 5 93 = none := by decide +kernel
set_option maxRecDepth 100000 in
theorem iv_4_33 : dp_iv 4 33 = some (74, 1, 0, 0, true, 4, 1) := rfl
theorem nt_4_33 : dp_nat 4 33 = none := by decide +kernel
set_option maxRecDepth 100000 in
theorem iv_4_26 : dp_iv 4 26 = some (70, 3, 0, 0, true, 4, 3) := rfl
theorem nt_4_26 : dp_nat 4 26 = none := by decide +kernel
set_option maxRecDepth 100000 in
theorem iv_4_37 : dp_iv 4 37 = some (73, 1, 0, 0, true, 4, 1) := rfl
theorem nt_4_37 : dp_nat 4 37 = none := by decide +kernel
set_option maxRecDepth 100000 in
theorem iv_4_40 : dp_iv 4 40 = some (69, 2, 0, 0, false, 4, 2) := rfl
theorem nt_4_40 : dp_nat 4 40 = none := by decide +kernel
set_option maxRecDepth 100000 in
theorem iv_5_100 : dp_iv 5 100 = some (79, 1, 0, 0, false, 4, 1) := rfl
theorem nt_5_100 : dp_nat 5 100 = none := by decide +kernel
set_option maxRecDepth 100000 in
theorem iv_5_103 : dp_iv 5 103 = some (80, 3, 0, 0, false, 4, 4) := rfl
theorem nt_5_103 : dp_nat 5 103 = none := by decide +kernel
set_option maxRecDepth 100000 in
theorem iv_4_44 : dp_iv 4 44 = some (71, 2, 0, 0, false, 4, 2) := rfl
theorem nt_4_44 : dp_nat 4 44 = none := by decide +kernel
set_option maxRecDepth 100000 in
theorem iv_4_47 : dp_iv 4 47 = some (75, 3, 0, 0, false, 4, 3) := rfl
theorem nt_4_47 : dp_nat 4 47 = none := by decide +kernel
set_option maxRecDepth 100000 in
theorem iv_5_106 : dp_iv 5 106 = some (81, 3, 0, 0, false, 4, 6) := rfl
theorem nt_5_106 : dp_nat 5 106 = none := by decide +kernel
theorem iv_4_51 : dp_iv 4 51 = none := by decide +kernel
theorem nt_4_51 : dp_nat 4 51 = some 202 := by decide +kernel
set_option maxRecDepth 100000 in
theorem iv_5_110 : dp_iv 5 110 = some (82, 2, 0, 0, false, 4, 2) := rfl
theorem nt_5_110 : dp_nat 5 110 = none := by decide +kernel
set_option maxRecDepth 100000 in
theorem iv_4_57 : dp_iv 4 57 = some (77, 4, 0, 0, false, 4, 4) := rfl
theorem nt_4_57 : dp_nat 4 57 = none := by decide +kernel
set_option maxRecDepth 100000 in
theorem iv_5_113 : dp_iv 5 113 = some (84, 3, 0, 0, false, 4, 4) := rfl
theorem nt_5_113 : dp_nat 5 113 = none := by decide +kernel
set_option maxRecDepth 100000 in
theorem iv_4_64 : dp_iv 4 64 = some (72, 2, 0, 0, false, 4, 2) := rfl
theorem nt_4_64 : dp_nat 4 64 = none := by decide +kernel
set_option maxRecDepth 100000 in
theorem iv_4_61 : dp_iv 4 61 = some (76, 3, 0, 0, false, 4, 3) := rfl
theorem nt_4_61 : dp_nat 4 61 = none := by decide +kernel
set_option maxRecDepth 100000 in
theorem iv_4_67 : dp_iv 4 67 = some (83, 3, 0, 0, false, 4, 4) := rfl
theorem nt_4_67 : dp_nat 4 67 = none := by decide +kernel
set_option maxRecDepth 100000 in
theorem iv_5_116 : dp_iv 5 116 = some (85, 3, 0, 0, false, 4, 6) := rfl
theorem nt_5_116 : dp_nat 5 116 = none := by decide +kernel
set_option maxRecDepth 100000 in
theorem iv_5_119 : dp_iv 5 119 = some (86, 3, 0, 0, false, 4, 4) := rfl
theorem nt_5_119 : dp_nat 5 119 = none := by decide +kernel
set_option maxRecDepth 100000 in
theorem iv_5_122 : dp_iv 5 122 = some (87, 3, 0, 0, false, 4, 3) := rfl
theorem nt_5_122 : dp_nat 5 122 = none := by decide +kernel
theorem iv_4_70 : dp_iv 4 70 = none := by decide +kernel
theorem nt_4_70 : dp_nat 4 70 = some 200 := by decide +kernel
set_option maxRecDepth 100000 in
theorem iv_5_125 : dp_iv 5 125 = some (96, 2, 0, 0, false, 4, 2) := rfl
theorem nt_5_125 : dp_nat 5 125 = none := by decide +kernel
set_option maxRecDepth 100000 in
theorem iv_4_97 : dp_iv 4 97 = some (95, 2, 0, 0, false, 4, 4) := rfl
theorem nt_4_97 : dp_nat 4 97 = none := by decide +kernel
set_option maxRecDepth 100000 in
theorem iv_4_91 : dp_iv 4 91 = some (92, 3, 0, 0, false, 4, 6) := rfl
theorem nt_4_91 : dp_nat 4 91 = none := by decide +kernel
set_option maxRecDepth 100000 in
theorem iv_4_87 : dp_iv 4 87 = some (91, 3, 0, 0, false, 4, 3) := rfl
theorem nt_4_87 : dp_nat 4 87 = none := by decide +kernel
set_option maxRecDepth 100000 in
theorem iv_4_84 : dp_iv 4 84 = some (90, 3, 0, 0, false, 4, 8) := rfl
theorem nt_4_84 : dp_nat 4 84 = none := by decide +kernel
set_option maxRecDepth 100000 in
theorem iv_4_75 : dp_iv 4 75 = some (88, 3, 0, 0, false, 4, 5) := rfl
theorem nt_4_75 : dp_nat 4 75 = none := by decide +kernel
set_option maxRecDepth 100000 in
theorem iv_4_78 : dp_iv 4 78 = some (89, 2, 0, 0, false, 4, 4) := rfl
theorem nt_4_78 : dp_nat 4 78 = none := by decide +kernel
theorem iv_4_81 : dp_iv 4 81 = none := by decide +kernel
theorem nt_4_81 : dp_nat 4 81 = some 201 := by decide +kernel
set_option maxRecDepth 100000 in
theorem iv_4_94 : dp_iv 4 94 = some (94, 3, 0, 0, false, 4, 3) := rfl
theorem nt_4_94 : dp_nat 4 94 = none := by decide +kernel
set_option maxRecDepth 100000 in
theorem iv_5_128 : dp_iv 5 128 = some (99, 2, 0, 0, false, 4, 2) := rfl
theorem nt_5_128 : dp_nat 5 128 = none := by decide +kernel
set_option maxRecDepth 100000 in
theorem iv_4_107 : dp_iv 4 107 = some (98, 2, 0, 0, false, 4, 4) := rfl
theorem nt_4_107 : dp_nat 4 107 = none := by decide +kernel
set_option maxRecDepth 100000 in
theorem iv_4_103 : dp_iv 4 103 = some (97, 1, 0, 0, false, 4, 3) := rfl
theorem nt_4_103 : dp_nat 4 103 = none := by decide +kernel
set_option maxRecDepth 100000 in
theorem iv_5_131 : dp_iv 5 131 = some (103, 3, 0, 0, false, 4, 3) := rfl
theorem nt_5_131 : dp_nat 5 131 = none := by decide +kernel
set_option maxRecDepth 100000 in
theorem iv_4_116 : dp_iv 4 116 = some (102, 3, 0, 0, false, 4, 3) := rfl
theorem nt_4_116 : dp_nat 4 116 = none := by decide +kernel
set_option maxRecDepth 100000 in
theorem iv_4_110 : dp_iv 4 110 = some (100, 2, 0, 0, false, 4, 4) := rfl
theorem nt_4_110 : dp_nat 4 110 = none := by decide +kernel
set_option maxRecDepth 100000 in
theorem iv_4_113 : dp_iv 4 113 = some (101, 2, 0, 0, false, 4, 4) := rfl
theorem nt_4_113 : dp_nat 4 113 = none := by decide +kernel
set_option maxRecDepth 100000 in
theorem iv_5_134 : dp_iv 5 134 = some (104, 3, 0, 0, false, 4, 3) := rfl
theorem nt_5_134 : dp_nat 5 134 = none := by decide +kernel
set_option maxRecDepth 100000 in
theorem iv_5_137 : dp_iv 5 137 = some (107, 3, 0, 0, false, 4, 3) := rfl
theorem nt_5_137 : dp_nat 5 137 = none := by decide +kernel
set_option maxRecDepth 100000 in
theorem iv_4_125 : dp_iv 4 125 = some (106, 3, 0, 0, false, 4, 3) := rfl
theorem nt_4_125 : dp_nat 4 125 = none := by decide +kernel
set_option maxRecDepth 100000 in
theorem iv_4_119 : dp_iv 4 119 = some (105, 2, 0, 0, false, 4, 4) := rfl
theorem nt_4_119 : dp_nat 4 119 = none := by decide +kernel
set_option maxRecDepth 100000 in
theorem iv_4_122 : dp_iv 4 122 = some (93, 2, 0, 0, false, 4, 4) := rfl
theorem nt_4_122 : dp_nat 4 122 = none := by decide +kernel
set_option maxRecDepth 100000 in
theorem iv_5_140 : dp_iv 5 140 = some (108, 3, 0, 0, false, 4, 3) := rfl
theorem nt_5_140 : dp_nat 5 140 = none := by decide +kernel
set_option maxRecDepth 100000 in
theorem iv_5_143 : dp_iv 5 143 = some (110, 2, 0, 0, false, 4, 2) := rfl
theorem nt_5_143 : dp_nat 5 143 = none := by decide +kernel
set_option maxRecDepth 100000 in
theorem iv_4_128 : dp_iv 4 128 = some (109, 2, 0, 0, false, 4, 6) := rfl
theorem nt_4_128 : dp_nat 4 128 = none := by decide +kernel
set_option maxRecDepth 100000 in
theorem iv_5_146 : dp_iv 5 146 = some (111, 2, 0, 0, false, 4, 2) := rfl
theorem nt_5_146 : dp_nat 5 146 = none := by decide +kernel
set_option maxRecDepth 100000 in
theorem iv_5_149 : dp_iv 5 149 = some (112, 3, 0, 0, false, 4, 3) := rfl
theorem nt_5_149 : dp_nat 5 149 = none := by decide +kernel
set_option maxRecDepth 100000 in
theorem iv_5_152 : dp_iv 5 152 = some (113, 3, 0, 0, false, 4, 3) := rfl
theorem nt_5_152 : dp_nat 5 152 = none := by decide +kernel
set_option maxRecDepth 100000 in
theorem iv_5_155 : dp_iv 5 155 = some (114, 3, 0, 0, false, 4, 6) := rfl
theorem nt_5_155 : dp_nat 5 155 = none := by decide +kernel
set_option maxRecDepth 100000 in
theorem iv_5_158 : dp_iv 5 158 = some (115, 2, 0, 0, false, 4, 7) := rfl
theorem nt_5_158 : dp_nat 5 158 = none := by decide +kernel
set_option maxRecDepth 100000 in
theorem iv_5_161 : dp_iv 5 161 = some (117, 3, 2, 448, false, 4, 7) := rfl
theorem nt_5_161 : dp_nat 5 161 = none := by decide +kernel
theorem iv_4_131 : dp_iv 4 131 = none := by decide +kernel
theorem nt_4_131 : dp_nat 4 131 = some 203 := by decide +kernel
set_option maxRecDepth 100000 in
theorem iv_4_136 : dp_iv 4 136 = some (116, 4, 0, 0, false, 4, 4) := rfl
theorem nt_4_136 : dp_nat 4 136 = none := by decide +kernel
set_option maxRecDepth 100000 in
theorem iv_5_165 : dp_iv 5 165 = some (119, 1, 2, 448, false, 4, 5) := rfl
theorem nt_5_165 : dp_nat 5 165 = none := by decide +kernel
set_option maxRecDepth 100000 in
theorem iv_4_140 : dp_iv 4 140 = some (118, 1, 0, 0, false, 4, 2) := rfl
theorem nt_4_140 : dp_nat 4 140 = none := by decide +kernel
set_option maxRecDepth 100000 in
theorem iv_5_170 : dp_iv 5 170 = some (120, 1, 0, 0, false, 4, 1) := rfl
theorem nt_5_170 : dp_nat 5 170 = none := by decide +kernel
set_option maxRecDepth 100000 in
theorem iv_5_175 : dp_iv 5 175 = some (121, 1, 0, 0, false, 4, 7) := rfl
theorem nt_5_175 : dp_nat 5 175 = none := by decide +kernel
set_option maxRecDepth 100000 in
theorem ow_0 : dp_ow 0 = 0 := by decide +kernel
set_option maxRecDepth 100000 in
theorem mc_0 : dp_mc 0 = 0 := by decide +kernel
set_option maxRecDepth 100000 in
theorem ms_0 : dp_ms 0 = 0 := by decide +kernel
set_option maxRecDepth 100000 in
theorem rk_0 : dp_rk 0 = 0 := by decide +kernel
set_option maxRecDepth 100000 in
theorem mL_0 : dp_mL 0 = 2 := by decide +kernel
set_option maxRecDepth 100000 in
theorem hh_0 : dp_hh 0 = [] := by decide +kernel
set_option maxRecDepth 100000 in
theorem ow_1 : dp_ow 1 = 0 := by decide +kernel
set_option maxRecDepth 100000 in
theorem mc_1 : dp_mc 1 = 0 := by decide +kernel
set_option maxRecDepth 100000 in
theorem ms_1 : dp_ms 1 = 0 := by decide +kernel
set_option maxRecDepth 100000 in
theorem rk_1 : dp_rk 1 = 4 := by decide +kernel
set_option maxRecDepth 100000 in
theorem mL_1 : dp_mL 1 = 3 := by decide +kernel
set_option maxRecDepth 100000 in
theorem hh_1 : dp_hh 1 = [] := by decide +kernel
set_option maxRecDepth 100000 in
theorem ow_2 : dp_ow 2 = 0 := by decide +kernel
set_option maxRecDepth 100000 in
theorem mc_2 : dp_mc 2 = 0 := by decide +kernel
set_option maxRecDepth 100000 in
theorem ms_2 : dp_ms 2 = 0 := by decide +kernel
set_option maxRecDepth 100000 in
theorem rk_2 : dp_rk 2 = 0 := by decide +kernel
set_option maxRecDepth 100000 in
theorem mL_2 : dp_mL 2 = 4 := by decide +kernel
set_option maxRecDepth 100000 in
theorem hh_2 : dp_hh 2 = [] := by decide +kernel
set_option maxRecDepth 100000 in
theorem ow_3 : dp_ow 3 = 0 := by decide +kernel
set_option maxRecDepth 100000 in
theorem mc_3 : dp_mc 3 = 0 := by decide +kernel
set_option maxRecDepth 100000 in
theorem ms_3 : dp_ms 3 = 0 := by decide +kernel
set_option maxRecDepth 100000 in
theorem rk_3 : dp_rk 3 = 0 := by decide +kernel
set_option maxRecDepth 100000 in
theorem mL_3 : dp_mL 3 = 3 := by decide +kernel
set_option maxRecDepth 100000 in
theorem hh_3 : dp_hh 3 = [] := by decide +kernel
set_option maxRecDepth 100000 in
theorem ow_4 : dp_ow 4 = 0 := by decide +kernel
set_option maxRecDepth 100000 in
theorem mc_4 : dp_mc 4 = 0 := by decide +kernel
set_option maxRecDepth 100000 in
theorem ms_4 : dp_ms 4 = 0 := by decide +kernel
set_option maxRecDepth 100000 in
theorem rk_4 : dp_rk 4 = 1 := by decide +kernel
set_option maxRecDepth 100000 in
theorem mL_4 : dp_mL 4 = 4 := by decide +kernel
set_option maxRecDepth 100000 in
theorem hh_4 : dp_hh 4 = [] := by decide +kernel
set_option maxRecDepth 100000 in
theorem ow_5 : dp_ow 5 = 0 := by decide +kernel
set_option maxRecDepth 100000 in
theorem mc_5 : dp_mc 5 = 0 := by decide +kernel
set_option maxRecDepth 100000 in
theorem ms_5 : dp_ms 5 = 0 := by decide +kernel
set_option maxRecDepth 100000 in
theorem rk_5 : dp_rk 5 = 1 := by decide +kernel
set_option maxRecDepth 100000 in
theorem mL_5 : dp_mL 5 = 3 := by decide +kernel
set_option maxRecDepth 100000 in
theorem hh_5 : dp_hh 5 = [] := by decide +kernel
set_option maxRecDepth 100000 in
theorem ow_6 : dp_ow 6 = 0 := by decide +kernel
set_option maxRecDepth 100000 in
theorem mc_6 : dp_mc 6 = 0 := by decide +kernel
set_option maxRecDepth 100000 in
theorem ms_6 : dp_ms 6 = 0 := by decide +kernel
set_option maxRecDepth 100000 in
theorem rk_6 : dp_rk 6 = 1 := by decide +kernel
set_option maxRecDepth 100000 in
theorem mL_6 : dp_mL 6 = 3 := by decide +kernel
set_option maxRecDepth 100000 in
theorem hh_6 : dp_hh 6 = [] := by decide +kernel
set_option maxRecDepth 100000 in
theorem ow_7 : dp_ow 7 = 1 := by decide +kernel
set_option maxRecDepth 100000 in
theorem mc_7 : dp_mc 7 = 0 := by decide +kernel
set_option maxRecDepth 100000 in
theorem ms_7 : dp_ms 7 = 0 := by decide +kernel
set_option maxRecDepth 100000 in
theorem rk_7 : dp_rk 7 = 1 := by decide +kernel
set_option maxRecDepth 100000 in
theorem mL_7 : dp_mL 7 = 4 := by decide +kernel
set_option maxRecDepth 100000 in
theorem hh_7 : dp_hh 7 = [] := by decide +kernel
set_option maxRecDepth 100000 in
theorem ow_8 : dp_ow 8 = 2 := by decide +kernel
set_option maxRecDepth 100000 in
theorem mc_8 : dp_mc 8 = 0 := by decide +kernel
set_option maxRecDepth 100000 in
theorem ms_8 : dp_ms 8 = 0 := by decide +kernel
set_option maxRecDepth 100000 in
theorem rk_8 : dp_rk 8 = 0 := by decide +kernel
set_option maxRecDepth 100000 in
theorem mL_8 : dp_mL 8 = 2 := by decide +kernel
set_option maxRecDepth 100000 in
theorem hh_8 : dp_hh 8 = [] := by decide +kernel
set_option maxRecDepth 100000 in
theorem ow_9 : dp_ow 9 = 2 := by decide +kernel
set_option maxRecDepth 100000 in
theorem mc_9 : dp_mc 9 = 0 := by decide +kernel
set_option maxRecDepth 100000 in
theorem ms_9 : dp_ms 9 = 0 := by decide +kernel
set_option maxRecDepth 100000 in
theorem rk_9 : dp_rk 9 = 0 := by decide +kernel
set_option maxRecDepth 100000 in
theorem mL_9 : dp_mL 9 = 5 := by decide +kernel
set_option maxRecDepth 100000 in
theorem hh_9 : dp_hh 9 = [] := by decide +kernel
set_option maxRecDepth 100000 in
theorem ow_10 : dp_ow 10 = 2 := by decide +kernel
set_option maxRecDepth 100000 in
theorem mc_10 : dp_mc 10 = 0 := by decide +kernel
set_option maxRecDepth 100000 in
theorem ms_10 : dp_ms 10 = 0 := by decide +kernel
set_option maxRecDepth 100000 in
theorem rk_10 : dp_rk 10 = 1 := by decide +kernel
set_option maxRecDepth 100000 in
theorem mL_10 : dp_mL 10 = 2 := by decide +kernel
set_option maxRecDepth 100000 in
theorem hh_10 : dp_hh 10 = [] := by decide +kernel
set_option maxRecDepth 100000 in
theorem ow_11 : dp_ow 11 = 2 := by decide +kernel
set_option maxRecDepth 100000 in
theorem mc_11 : dp_mc 11 = 0 := by decide +kernel
set_option maxRecDepth 100000 in
theorem ms_11 : dp_ms 11 = 0 := by decide +kernel
set_option maxRecDepth 100000 in
theorem rk_11 : dp_rk 11 = 1 := by decide +kernel
set_option maxRecDepth 100000 in
theorem mL_11 : dp_mL 11 = 3 := by decide +kernel
set_option maxRecDepth 100000 in
theorem hh_11 : dp_hh 11 = [] := by decide +kernel
set_option maxRecDepth 100000 in
theorem ow_12 : dp_ow 12 = 2 := by decide +kernel
set_option maxRecDepth 100000 in
theorem mc_12 : dp_mc 12 = 0 := by decide +kernel
set_option maxRecDepth 100000 in
theorem ms_12 : dp_ms 12 = 0 := by decide +kernel
set_option maxRecDepth 100000 in
theorem rk_12 : dp_rk 12 = 1 := by decide +kernel
set_option maxRecDepth 100000 in
theorem mL_12 : dp_mL 12 = 3 := by decide +kernel
set_option maxRecDepth 100000 in
theorem hh_12 : dp_hh 12 = [] := by decide +kernel
set_option maxRecDepth 100000 in
theorem ow_13 : dp_ow 13 = 2 := by decide +kernel
set_option maxRecDepth 100000 in
theorem mc_13 : dp_mc 13 = 0 := by decide +kernel
set_option maxRecDepth 100000 in
theorem ms_13 : dp_ms 13 = 0 := by decide +kernel
set_option maxRecDepth 100000 in
theorem rk_13 : dp_rk 13 = 1 := by decide +kernel
set_option maxRecDepth 100000 in
theorem mL_13 : dp_mL 13 = 9 := by decide +kernel
set_option maxRecDepth 100000 in
theorem hh_13 : dp_hh 13 = [] := by decide +kernel
set_option maxRecDepth 100000 in
theorem ow_14 : dp_ow 14 = 2 := by decide +kernel
set_option maxRecDepth 100000 in
theorem mc_14 : dp_mc 14 = 0 := by decide +kernel
set_option maxRecDepth 100000 in
theorem ms_14 : dp_ms 14 = 0 := by decide +kernel
set_option maxRecDepth 100000 in
theorem rk_14 : dp_rk 14 = 1 := by decide +kernel
set_option maxRecDepth 100000 in
theorem mL_14 : dp_mL 14 = 4 := by decide +kernel
set_option maxRecDepth 100000 in
theorem hh_14 : dp_hh 14 = [] := by decide +kernel
set_option maxRecDepth 100000 in
theorem ow_15 : dp_ow 15 = 2 := by decide +kernel
set_option maxRecDepth 100000 in
theorem mc_15 : dp_mc 15 = 0 := by decide +kernel
set_option maxRecDepth 100000 in
theorem ms_15 : dp_ms 15 = 0 := by decide +kernel
set_option maxRecDepth 100000 in
theorem rk_15 : dp_rk 15 = 1 := by decide +kernel
set_option maxRecDepth 100000 in
theorem mL_15 : dp_mL 15 = 3 := by decide +kernel
set_option maxRecDepth 100000 in
theorem hh_15 : dp_hh 15 = [] := by decide +kernel
set_option maxRecDepth 100000 in
theorem ow_16 : dp_ow 16 = 2 := by decide +kernel
set_option maxRecDepth 100000 in
theorem mc_16 : dp_mc 16 = 0 := by decide +kernel
set_option maxRecDepth 100000 in
theorem ms_16 : dp_ms 16 = 0 := by decide +kernel
set_option maxRecDepth 100000 in
theorem rk_16 : dp_rk 16 = 1 := by decide +kernel
set_option maxRecDepth 100000 in
theorem mL_16 : dp_mL 16 = 3 := by decide +kernel
set_option maxRecDepth 100000 in
theorem hh_16 : dp_hh 16 = [] := by decide +kernel
set_option maxRecDepth 100000 in
theorem ow_17 : dp_ow 17 = 2 := by decide +kernel
set_option maxRecDepth 100000 in
theorem mc_17 : dp_mc 17 = 0 := by decide +kernel
set_option maxRecDepth 100000 in
theorem ms_17 : dp_ms 17 = 0 := by decide +kernel
set_option maxRecDepth 100000 in
theorem rk_17 : dp_rk 17 = 1 := by decide +kernel
set_option maxRecDepth 100000 in
theorem mL_17 : dp_mL 17 = 5 := by decide +kernel
set_option maxRecDepth 100000 in
theorem hh_17 : dp_hh 17 = [] := by decide +kernel
set_option maxRecDepth 100000 in
theorem ow_18 : dp_ow 18 = 3 := by decide +kernel
set_option maxRecDepth 100000 in
theorem mc_18 : dp_mc 18 = 2 := by decide +kernel
set_option maxRecDepth 100000 in
theorem ms_18 : dp_ms 18 = 12 := by decide +kernel
set_option maxRecDepth 100000 in
theorem rk_18 : dp_rk 18 = 1 := by decide +kernel
set_option maxRecDepth 100000 in
theorem mL_18 : dp_mL 18 = 4 := by decide +kernel
set_option maxRecDepth 100000 in
theorem hh_18 : dp_hh 18 = [] := by decide +kernel
set_option maxRecDepth 100000 in
theorem ow_19 : dp_ow 19 = 3 := by decide +kernel
set_option maxRecDepth 100000 in
theorem mc_19 : dp_mc 19 = 1 := by decide +kernel
set_option maxRecDepth 100000 in
theorem ms_19 : dp_ms 19 = 6 := by decide +kernel
set_option maxRecDepth 100000 in
theorem rk_19 : dp_rk 19 = 1 := by decide +kernel
set_option maxRecDepth 100000 in
theorem mL_19 : dp_mL 19 = 1 := by decide +kernel
set_option maxRecDepth 100000 in
theorem hh_19 : dp_hh 19 = [] := by decide +kernel
set_option maxRecDepth 100000 in
theorem ow_20 : dp_ow 20 = 3 := by decide +kernel
set_option maxRecDepth 100000 in
theorem mc_20 : dp_mc 20 = 3 := by decide +kernel
set_option maxRecDepth 100000 in
theorem ms_20 : dp_ms 20 = 18 := by decide +kernel
set_option maxRecDepth 100000 in
theorem rk_20 : dp_rk 20 = 1 := by decide +kernel
set_option maxRecDepth 100000 in
theorem mL_20 : dp_mL 20 = 4 := by decide +kernel
set_option maxRecDepth 100000 in
theorem hh_20 : dp_hh 20 = [] := by decide +kernel
set_option maxRecDepth 100000 in
theorem ow_21 : dp_ow 21 = 3 := by decide +kernel
set_option maxRecDepth 100000 in
theorem mc_21 : dp_mc 21 = 2 := by decide +kernel
set_option maxRecDepth 100000 in
theorem ms_21 : dp_ms 21 = 12 := by decide +kernel
set_option maxRecDepth 100000 in
theorem rk_21 : dp_rk 21 = 1 := by decide +kernel
set_option maxRecDepth 100000 in
theorem mL_21 : dp_mL 21 = 4 := by decide +kernel
set_option maxRecDepth 100000 in
theorem hh_21 : dp_hh 21 = [] := by decide +kernel
set_option maxRecDepth 100000 in
theorem ow_22 : dp_ow 22 = 3 := by decide +kernel
set_option maxRecDepth 100000 in
theorem mc_22 : dp_mc 22 = 2 := by decide +kernel
set_option maxRecDepth 100000 in
theorem ms_22 : dp_ms 22 = 12 := by decide +kernel
set_option maxRecDepth 100000 in
theorem rk_22 : dp_rk 22 = 1 := by decide +kernel
set_option maxRecDepth 100000 in
theorem mL_22 : dp_mL 22 = 3 := by decide +kernel
set_option maxRecDepth 100000 in
theorem hh_22 : dp_hh 22 = [] := by decide +kernel
set_option maxRecDepth 100000 in
theorem ow_23 : dp_ow 23 = 3 := by decide +kernel
set_option maxRecDepth 100000 in
theorem mc_23 : dp_mc 23 = 4 := by decide +kernel
set_option maxRecDepth 100000 in
theorem ms_23 : dp_ms 23 = 24 := by decide +kernel
set_option maxRecDepth 100000 in
theorem rk_23 : dp_rk 23 = 1 := by decide +kernel
set_option maxRecDepth 100000 in
theorem mL_23 : dp_mL 23 = 4 := by decide +kernel
set_option maxRecDepth 100000 in
theorem hh_23 : dp_hh 23 = [] := by decide +kernel
set_option maxRecDepth 100000 in
theorem ow_24 : dp_ow 24 = 3 := by decide +kernel
set_option maxRecDepth 100000 in
theorem mc_24 : dp_mc 24 = 3 := by decide +kernel
set_option maxRecDepth 100000 in
theorem ms_24 : dp_ms 24 = 18 := by decide +kernel
set_option maxRecDepth 100000 in
theorem rk_24 : dp_rk 24 = 1 := by decide +kernel
set_option maxRecDepth 100000 in
theorem mL_24 : dp_mL 24 = 4 := by decide +kernel
set_option maxRecDepth 100000 in
theorem hh_24 : dp_hh 24 = [] := by decide +kernel
set_option maxRecDepth 100000 in
theorem ow_25 : dp_ow 25 = 3 := by decide +kernel
set_option maxRecDepth 100000 in
theorem mc_25 : dp_mc 25 = 2 := by decide +kernel
set_option maxRecDepth 100000 in
theorem ms_25 : dp_ms 25 = 12 := by decide +kernel
set_option maxRecDepth 100000 in
theorem rk_25 : dp_rk 25 = 1 := by decide +kernel
set_option maxRecDepth 100000 in
theorem mL_25 : dp_mL 25 = 4 := by decide +kernel
set_option maxRecDepth 100000 in
theorem hh_25 : dp_hh 25 = [] := by decide +kernel
set_option maxRecDepth 100000 in
theorem ow_26 : dp_ow 26 = 3 := by decide +kernel
set_option maxRecDepth 100000 in
theorem mc_26 : dp_mc 26 = 2 := by decide +kernel
set_option maxRecDepth 100000 in
theorem ms_26 : dp_ms 26 = 12 := by decide +kernel
set_option maxRecDepth 100000 in
theorem rk_26 : dp_rk 26 = 1 := by decide +kernel
set_option maxRecDepth 100000 in
theorem mL_26 : dp_mL 26 = 3 := by decide +kernel
set_option maxRecDepth 100000 in
theorem hh_26 : dp_hh 26 = [] := by decide +kernel
set_option maxRecDepth 100000 in
theorem ow_27 : dp_ow 27 = 3 := by decide +kernel
set_option maxRecDepth 100000 in
theorem mc_27 : dp_mc 27 = 1 := by decide +kernel
set_option maxRecDepth 100000 in
theorem ms_27 : dp_ms 27 = 6 := by decide +kernel
set_option maxRecDepth 100000 in
theorem rk_27 : dp_rk 27 = 1 := by decide +kernel
set_option maxRecDepth 100000 in
theorem mL_27 : dp_mL 27 = 2 := by decide +kernel
set_option maxRecDepth 100000 in
theorem hh_27 : dp_hh 27 = [] := by decide +kernel
set_option maxRecDepth 100000 in
theorem ow_28 : dp_ow 28 = 3 := by decide +kernel
set_option maxRecDepth 100000 in
theorem mc_28 : dp_mc 28 = 1 := by decide +kernel
set_option maxRecDepth 100000 in
theorem ms_28 : dp_ms 28 = 6 := by decide +kernel
set_option maxRecDepth 100000 in
theorem rk_28 : dp_rk 28 = 1 := by decide +kernel
set_option maxRecDepth 100000 in
theorem mL_28 : dp_mL 28 = 3 := by decide +kernel
set_option maxRecDepth 100000 in
theorem hh_28 : dp_hh 28 = [] := by decide +kernel
set_option maxRecDepth 100000 in
theorem ow_29 : dp_ow 29 = 3 := by decide +kernel
set_option maxRecDepth 100000 in
theorem mc_29 : dp_mc 29 = 2 := by decide +kernel
set_option maxRecDepth 100000 in
theorem ms_29 : dp_ms 29 = 12 := by decide +kernel
set_option maxRecDepth 100000 in
theorem rk_29 : dp_rk 29 = 1 := by decide +kernel
set_option maxRecDepth 100000 in
theorem mL_29 : dp_mL 29 = 3 := by decide +kernel
set_option maxRecDepth 100000 in
theorem hh_29 : dp_hh 29 = [] := by decide +kernel
set_option maxRecDepth 100000 in
theorem ow_30 : dp_ow 30 = 3 := by decide +kernel
set_option maxRecDepth 100000 in
theorem mc_30 : dp_mc 30 = 2 := by decide +kernel
set_option maxRecDepth 100000 in
theorem ms_30 : dp_ms 30 = 12 := by decide +kernel
set_option maxRecDepth 100000 in
theorem rk_30 : dp_rk 30 = 1 := by decide +kernel
set_option maxRecDepth 100000 in
theorem mL_30 : dp_mL 30 = 3 := by decide +kernel
set_option maxRecDepth 100000 in
theorem hh_30 : dp_hh 30 = [] := by decide +kernel
set_option maxRecDepth 100000 in
theorem ow_31 : dp_ow 31 = 3 := by decide +kernel
set_option maxRecDepth 100000 in
theorem mc_31 : dp_mc 31 = 2 := by decide +kernel
set_option maxRecDepth 100000 in
theorem ms_31 : dp_ms 31 = 12 := by decide +kernel
set_option maxRecDepth 100000 in
theorem rk_31 : dp_rk 31 = 1 := by decide +kernel
set_option maxRecDepth 100000 in
theorem mL_31 : dp_mL 31 = 3 := by decide +kernel
set_option maxRecDepth 100000 in
theorem hh_31 : dp_hh 31 = [] := by decide +kernel
set_option maxRecDepth 100000 in
theorem ow_32 : dp_ow 32 = 3 := by decide +kernel
set_option maxRecDepth 100000 in
theorem mc_32 : dp_mc 32 = 2 := by decide +kernel
set_option maxRecDepth 100000 in
theorem ms_32 : dp_ms 32 = 12 := by decide +kernel
set_option maxRecDepth 100000 in
theorem rk_32 : dp_rk 32 = 1 := by decide +kernel
set_option maxRecDepth 100000 in
theorem mL_32 : dp_mL 32 = 3 := by decide +kernel
set_option maxRecDepth 100000 in
theorem hh_32 : dp_hh 32 = [] := by decide +kernel
set_option maxRecDepth 100000 in
theorem ow_33 : dp_ow 33 = 3 := by decide +kernel
set_option maxRecDepth 100000 in
theorem mc_33 : dp_mc 33 = 1 := by decide +kernel
set_option maxRecDepth 100000 in
theorem ms_33 : dp_ms 33 = 6 := by decide +kernel
set_option maxRecDepth 100000 in
theorem rk_33 : dp_rk 33 = 1 := by decide +kernel
set_option maxRecDepth 100000 in
theorem mL_33 : dp_mL 33 = 2 := by decide +kernel
set_option maxRecDepth 100000 in
theorem hh_33 : dp_hh 33 = [] := by decide +kernel
set_option maxRecDepth 100000 in
theorem ow_34 : dp_ow 34 = 3 := by decide +kernel
set_option maxRecDepth 100000 in
theorem mc_34 : dp_mc 34 = 1 := by decide +kernel
set_option maxRecDepth 100000 in
theorem ms_34 : dp_ms 34 = 6 := by decide +kernel
set_option maxRecDepth 100000 in
theorem rk_34 : dp_rk 34 = 1 := by decide +kernel
set_option maxRecDepth 100000 in
theorem mL_34 : dp_mL 34 = 2 := by decide +kernel
set_option maxRecDepth 100000 in
theorem hh_34 : dp_hh 34 = [] := by decide +kernel
set_option maxRecDepth 100000 in
theorem ow_35 : dp_ow 35 = 3 := by decide +kernel
set_option maxRecDepth 100000 in
theorem mc_35 : dp_mc 35 = 2 := by decide +kernel
set_option maxRecDepth 100000 in
theorem ms_35 : dp_ms 35 = 12 := by decide +kernel
set_option maxRecDepth 100000 in
theorem rk_35 : dp_rk 35 = 1 := by decide +kernel
set_option maxRecDepth 100000 in
theorem mL_35 : dp_mL 35 = 3 := by decide +kernel
set_option maxRecDepth 100000 in
theorem hh_35 : dp_hh 35 = [] := by decide +kernel
set_option maxRecDepth 100000 in
theorem ow_36 : dp_ow 36 = 3 := by decide +kernel
set_option maxRecDepth 100000 in
theorem mc_36 : dp_mc 36 = 2 := by decide +kernel
set_option maxRecDepth 100000 in
theorem ms_36 : dp_ms 36 = 12 := by decide +kernel
set_option maxRecDepth 100000 in
theorem rk_36 : dp_rk 36 = 1 := by decide +kernel
set_option maxRecDepth 100000 in
theorem mL_36 : dp_mL 36 = 3 := by decide +kernel
set_option maxRecDepth 100000 in
theorem hh_36 : dp_hh 36 = [] := by decide +kernel
set_option maxRecDepth 100000 in
theorem ow_37 : dp_ow 37 = 3 := by decide +kernel
set_option maxRecDepth 100000 in
theorem mc_37 : dp_mc 37 = 2 := by decide +kernel
set_option maxRecDepth 100000 in
theorem ms_37 : dp_ms 37 = 12 := by decide +kernel
set_option maxRecDepth 100000 in
theorem rk_37 : dp_rk 37 = 1 := by decide +kernel
set_option maxRecDepth 100000 in
theorem mL_37 : dp_mL 37 = 4 := by decide +kernel
set_option maxRecDepth 100000 in
theorem hh_37 : dp_hh 37 = [] := by decide +kernel
set_option maxRecDepth 100000 in
theorem ow_38 : dp_ow 38 = 3 := by decide +kernel
set_option maxRecDepth 100000 in
theorem mc_38 : dp_mc 38 = 1 := by decide +kernel
set_option maxRecDepth 100000 in
theorem ms_38 : dp_ms 38 = 6 := by decide +kernel
set_option maxRecDepth 100000 in
theorem rk_38 : dp_rk 38 = 1 := by decide +kernel
set_option maxRecDepth 100000 in
theorem mL_38 : dp_mL 38 = 6 := by decide +kernel
set_option maxRecDepth 100000 in
theorem hh_38 : dp_hh 38 = [] := by decide +kernel
set_option maxRecDepth 100000 in
theorem ow_39 : dp_ow 39 = 3 := by decide +kernel
set_option maxRecDepth 100000 in
theorem mc_39 : dp_mc 39 = 2 := by decide +kernel
set_option maxRecDepth 100000 in
theorem ms_39 : dp_ms 39 = 12 := by decide +kernel
set_option maxRecDepth 100000 in
theorem rk_39 : dp_rk 39 = 1 := by decide +kernel
set_option maxRecDepth 100000 in
theorem mL_39 : dp_mL 39 = 3 := by decide +kernel
set_option maxRecDepth 100000 in
theorem hh_39 : dp_hh 39 = [] := by decide +kernel
set_option maxRecDepth 100000 in
theorem ow_40 : dp_ow 40 = 3 := by decide +kernel
set_option maxRecDepth 100000 in
theorem mc_40 : dp_mc 40 = 0 := by decide +kernel
set_option maxRecDepth 100000 in
theorem ms_40 : dp_ms 40 = 0 := by decide +kernel
set_option maxRecDepth 100000 in
theorem rk_40 : dp_rk 40 = 1 := by decide +kernel
set_option maxRecDepth 100000 in
theorem mL_40 : dp_mL 40 = 2 := by decide +kernel
set_option maxRecDepth 100000 in
theorem hh_40 : dp_hh 40 = [] := by decide +kernel
set_option maxRecDepth 100000 in
theorem ow_41 : dp_ow 41 = 3 := by decide +kernel
set_option maxRecDepth 100000 in
theorem mc_41 : dp_mc 41 = 0 := by decide +kernel
set_option maxRecDepth 100000 in
theorem ms_41 : dp_ms 41 = 0 := by decide +kernel
set_option maxRecDepth 100000 in
theorem rk_41 : dp_rk 41 = 3 := by decide +kernel
set_option maxRecDepth 100000 in
theorem mL_41 : dp_mL 41 = 2 := by decide +kernel
set_option maxRecDepth 100000 in
theorem hh_41 : dp_hh 41 = [] := by decide +kernel
set_option maxRecDepth 100000 in
theorem ow_42 : dp_ow 42 = 3 := by decide +kernel
set_option maxRecDepth 100000 in
theorem mc_42 : dp_mc 42 = 0 := by decide +kernel
set_option maxRecDepth 100000 in
theorem ms_42 : dp_ms 42 = 0 := by decide +kernel
set_option maxRecDepth 100000 in
theorem rk_42 : dp_rk 42 = 2 := by decide +kernel
set_option maxRecDepth 100000 in
theorem mL_42 : dp_mL 42 = 4 := by decide +kernel
set_option maxRecDepth 100000 in
theorem hh_42 : dp_hh 42 = [] := by decide +kernel
set_option maxRecDepth 100000 in
theorem ow_43 : dp_ow 43 = 3 := by decide +kernel
set_option maxRecDepth 100000 in
theorem mc_43 : dp_mc 43 = 0 := by decide +kernel
set_option maxRecDepth 100000 in
theorem ms_43 : dp_ms 43 = 0 := by decide +kernel
set_option maxRecDepth 100000 in
theorem rk_43 : dp_rk 43 = 2 := by decide +kernel
set_option maxRecDepth 100000 in
theorem mL_43 : dp_mL 43 = 7 := by decide +kernel
set_option maxRecDepth 100000 in
theorem hh_43 : dp_hh 43 = [] := by decide +kernel
set_option maxRecDepth 100000 in
theorem ow_44 : dp_ow 44 = 3 := by decide +kernel
set_option maxRecDepth 100000 in
theorem mc_44 : dp_mc 44 = 0 := by decide +kernel
set_option maxRecDepth 100000 in
theorem ms_44 : dp_ms 44 = 0 := by decide +kernel
set_option maxRecDepth 100000 in
theorem rk_44 : dp_rk 44 = 2 := by decide +kernel
set_option maxRecDepth 100000 in
theorem mL_44 : dp_mL 44 = 7 := by decide +kernel
set_option maxRecDepth 100000 in
theorem hh_44 : dp_hh 44 = [] := by decide +kernel
set_option maxRecDepth 100000 in
theorem ow_45 : dp_ow 45 = 3 := by decide +kernel
set_option maxRecDepth 100000 in
theorem mc_45 : dp_mc 45 = 0 := by decide +kernel
set_option maxRecDepth 100000 in
theorem ms_45 : dp_ms 45 = 0 := by decide +kernel
set_option maxRecDepth 100000 in
theorem rk_45 : dp_rk 45 = 2 := by decide +kernel
set_option maxRecDepth 100000 in
theorem mL_45 : dp_mL 45 = 3 := by decide +kernel
set_option maxRecDepth 100000 in
theorem hh_45 : dp_hh 45 = [] := by decide +kernel
set_option maxRecDepth 100000 in
theorem ow_46 : dp_ow 46 = 3 := by decide +kernel
set_option maxRecDepth 100000 in
theorem mc_46 : dp_mc 46 = 1 := by decide +kernel
set_option maxRecDepth 100000 in
theorem ms_46 : dp_ms 46 = 6 := by decide +kernel
set_option maxRecDepth 100000 in
theorem rk_46 : dp_rk 46 = 0 := by decide +kernel
set_option maxRecDepth 100000 in
theorem mL_46 : dp_mL 46 = 1 := by decide +kernel
set_option maxRecDepth 100000 in
theorem hh_46 : dp_hh 46 = [] := by decide +kernel
set_option maxRecDepth 100000 in
theorem ow_47 : dp_ow 47 = 3 := by decide +kernel
set_option maxRecDepth 100000 in
theorem mc_47 : dp_mc 47 = 1 := by decide +kernel
set_option maxRecDepth 100000 in
theorem ms_47 : dp_ms 47 = 6 := by decide +kernel
set_option maxRecDepth 100000 in
theorem rk_47 : dp_rk 47 = 0 := by decide +kernel
set_option maxRecDepth 100000 in
theorem mL_47 : dp_mL 47 = 1 := by decide +kernel
set_option maxRecDepth 100000 in
theorem hh_47 : dp_hh 47 = [] := by decide +kernel
set_option maxRecDepth 100000 in
theorem ow_48 : dp_ow 48 = 3 := by decide +kernel
set_option maxRecDepth 100000 in
theorem mc_48 : dp_mc 48 = 1 := by decide +kernel
set_option maxRecDepth 100000 in
theorem ms_48 : dp_ms 48 = 6 := by decide +kernel
set_option maxRecDepth 100000 in
theorem rk_48 : dp_rk 48 = 0 := by decide +kernel
set_option maxRecDepth 100000 in
theorem mL_48 : dp_mL 48 = 2 := by decide +kernel
set_option maxRecDepth 100000 in
theorem hh_48 : dp_hh 48 = [] := by decide +kernel
set_option maxRecDepth 100000 in
theorem ow_49 : dp_ow 49 = 3 := by decide +kernel
set_option maxRecDepth 100000 in
theorem mc_49 : dp_mc 49 = 1 := by decide +kernel
set_option maxRecDepth 100000 in
theorem ms_49 : dp_ms 49 = 6 := by decide +kernel
set_option maxRecDepth 100000 in
theorem rk_49 : dp_rk 49 = 0 := by decide +kernel
set_option maxRecDepth 100000 in
theorem mL_49 : dp_mL 49 = 2 := by decide +kernel
set_option maxRecDepth 100000 in
theorem hh_49 : dp_hh 49 = [] := by decide +kernel
set_option maxRecDepth 100000 in
theorem ow_50 : dp_ow 50 = 3 := by decide +kernel
set_option maxRecDepth 100000 in
theorem mc_50 : dp_mc 50 = 1 := by decide +kernel
set_option maxRecDepth 100000 in
theorem ms_50 : dp_ms 50 = 6 := by decide +kernel
set_option maxRecDepth 100000 in
theorem rk_50 : dp_rk 50 = 0 := by decide +kernel
set_option maxRecDepth 100000 in
theorem mL_50 : dp_mL 50 = 2 := by decide +kernel
set_option maxRecDepth 100000 in
theorem hh_50 : dp_hh 50 = [] := by decide +kernel
set_option maxRecDepth 100000 in
theorem ow_51 : dp_ow 51 = 3 := by decide +kernel
set_option maxRecDepth 100000 in
theorem mc_51 : dp_mc 51 = 1 := by decide +kernel
set_option maxRecDepth 100000 in
theorem ms_51 : dp_ms 51 = 6 := by decide +kernel
set_option maxRecDepth 100000 in
theorem rk_51 : dp_rk 51 = 0 := by decide +kernel
set_option maxRecDepth 100000 in
theorem mL_51 : dp_mL 51 = 2 := by decide +kernel
set_option maxRecDepth 100000 in
theorem hh_51 : dp_hh 51 = [] := by decide +kernel
set_option maxRecDepth 100000 in
theorem ow_52 : dp_ow 52 = 3 := by decide +kernel
set_option maxRecDepth 100000 in
theorem mc_52 : dp_mc 52 = 1 := by decide +kernel
set_option maxRecDepth 100000 in
theorem ms_52 : dp_ms 52 = 6 := by decide +kernel
set_option maxRecDepth 100000 in
theorem rk_52 : dp_rk 52 = 0 := by decide +kernel
set_option maxRecDepth 100000 in
theorem mL_52 : dp_mL 52 = 1 := by decide +kernel
set_option maxRecDepth 100000 in
theorem hh_52 : dp_hh 52 = [] := by decide +kernel
set_option maxRecDepth 100000 in
theorem ow_53 : dp_ow 53 = 3 := by decide +kernel
set_option maxRecDepth 100000 in
theorem mc_53 : dp_mc 53 = 0 := by decide +kernel
set_option maxRecDepth 100000 in
theorem ms_53 : dp_ms 53 = 0 := by decide +kernel
set_option maxRecDepth 100000 in
theorem rk_53 : dp_rk 53 = 1 := by decide +kernel
set_option maxRecDepth 100000 in
theorem mL_53 : dp_mL 53 = 3 := by decide +kernel
set_option maxRecDepth 100000 in
theorem hh_53 : dp_hh 53 = [] := by decide +kernel
set_option maxRecDepth 100000 in
theorem ow_54 : dp_ow 54 = 3 := by decide +kernel
set_option maxRecDepth 100000 in
theorem mc_54 : dp_mc 54 = 0 := by decide +kernel
set_option maxRecDepth 100000 in
theorem ms_54 : dp_ms 54 = 0 := by decide +kernel
set_option maxRecDepth 100000 in
theorem rk_54 : dp_rk 54 = 1 := by decide +kernel
set_option maxRecDepth 100000 in
theorem mL_54 : dp_mL 54 = 3 := by decide +kernel
set_option maxRecDepth 100000 in
theorem hh_54 : dp_hh 54 = [] := by decide +kernel
set_option maxRecDepth 100000 in
theorem ow_55 : dp_ow 55 = 3 := by decide +kernel
set_option maxRecDepth 100000 in
theorem mc_55 : dp_mc 55 = 0 := by decide +kernel
set_option maxRecDepth 100000 in
theorem ms_55 : dp_ms 55 = 0 := by decide +kernel
set_option maxRecDepth 100000 in
theorem rk_55 : dp_rk 55 = 1 := by decide +kernel
set_option maxRecDepth 100000 in
theorem mL_55 : dp_mL 55 = 2 := by decide +kernel
set_option maxRecDepth 100000 in
theorem hh_55 : dp_hh 55 = [] := by decide +kernel
set_option maxRecDepth 100000 in
theorem ow_56 : dp_ow 56 = 3 := by decide +kernel
set_option maxRecDepth 100000 in
theorem mc_56 : dp_mc 56 = 0 := by decide +kernel
set_option maxRecDepth 100000 in
theorem ms_56 : dp_ms 56 = 0 := by decide +kernel
set_option maxRecDepth 100000 in
theorem rk_56 : dp_rk 56 = 1 := by decide +kernel
set_option maxRecDepth 100000 in
theorem mL_56 : dp_mL 56 = 4 := by decide +kernel
set_option maxRecDepth 100000 in
theorem hh_56 : dp_hh 56 = [] := by decide +kernel
set_option maxRecDepth 100000 in
theorem ow_57 : dp_ow 57 = 3 := by decide +kernel
set_option maxRecDepth 100000 in
theorem mc_57 : dp_mc 57 = 0 := by decide +kernel
set_option maxRecDepth 100000 in
theorem ms_57 : dp_ms 57 = 0 := by decide +kernel
set_option maxRecDepth 100000 in
theorem rk_57 : dp_rk 57 = 4 := by decide +kernel
set_option maxRecDepth 100000 in
theorem mL_57 : dp_mL 57 = 5 := by decide +kernel
set_option maxRecDepth 100000 in
theorem hh_57 : dp_hh 57 = [] := by decide +kernel
set_option maxRecDepth 100000 in
theorem ow_58 : dp_ow 58 = 3 := by decide +kernel
set_option maxRecDepth 100000 in
theorem mc_58 : dp_mc 58 = 0 := by decide +kernel
set_option maxRecDepth 100000 in
theorem ms_58 : dp_ms 58 = 0 := by decide +kernel
set_option maxRecDepth 100000 in
theorem rk_58 : dp_rk 58 = 1 := by decide +kernel
set_option maxRecDepth 100000 in
theorem mL_58 : dp_mL 58 = 5 := by decide +kernel
set_option maxRecDepth 100000 in
theorem hh_58 : dp_hh 58 = [] := by decide +kernel
set_option maxRecDepth 100000 in
theorem ow_59 : dp_ow 59 = 3 := by decide +kernel
set_option maxRecDepth 100000 in
theorem mc_59 : dp_mc 59 = 0 := by decide +kernel
set_option maxRecDepth 100000 in
theorem ms_59 : dp_ms 59 = 0 := by decide +kernel
set_option maxRecDepth 100000 in
theorem rk_59 : dp_rk 59 = 1 := by decide +kernel
set_option maxRecDepth 100000 in
theorem mL_59 : dp_mL 59 = 7 := by decide +kernel
set_option maxRecDepth 100000 in
theorem hh_59 : dp_hh 59 = [] := by decide +kernel
set_option maxRecDepth 100000 in
theorem ow_60 : dp_ow 60 = 3 := by decide +kernel
set_option maxRecDepth 100000 in
theorem mc_60 : dp_mc 60 = 0 := by decide +kernel
set_option maxRecDepth 100000 in
theorem ms_60 : dp_ms 60 = 0 := by decide +kernel
set_option maxRecDepth 100000 in
theorem rk_60 : dp_rk 60 = 1 := by decide +kernel
set_option maxRecDepth 100000 in
theorem mL_60 : dp_mL 60 = 5 := by decide +kernel
set_option maxRecDepth 100000 in
theorem hh_60 : dp_hh 60 = [] := by decide +kernel
set_option maxRecDepth 100000 in
theorem ow_61 : dp_ow 61 = 3 := by decide +kernel
set_option maxRecDepth 100000 in
theorem mc_61 : dp_mc 61 = 0 := by decide +kernel
set_option maxRecDepth 100000 in
theorem ms_61 : dp_ms 61 = 0 := by decide +kernel
set_option maxRecDepth 100000 in
theorem rk_61 : dp_rk 61 = 1 := by decide +kernel
set_option maxRecDepth 100000 in
theorem mL_61 : dp_mL 61 = 8 := by decide +kernel
set_option maxRecDepth 100000 in
theorem hh_61 : dp_hh 61 = [] := by decide +kernel
set_option maxRecDepth 100000 in
theorem ow_62 : dp_ow 62 = 3 := by decide +kernel
set_option maxRecDepth 100000 in
theorem mc_62 : dp_mc 62 = 0 := by decide +kernel
set_option maxRecDepth 100000 in
theorem ms_62 : dp_ms 62 = 0 := by decide +kernel
set_option maxRecDepth 100000 in
theorem rk_62 : dp_rk 62 = 1 := by decide +kernel
set_option maxRecDepth 100000 in
theorem mL_62 : dp_mL 62 = 7 := by decide +kernel
set_option maxRecDepth 100000 in
theorem hh_62 : dp_hh 62 = [] := by decide +kernel
set_option maxRecDepth 100000 in
theorem ow_63 : dp_ow 63 = 3 := by decide +kernel
set_option maxRecDepth 100000 in
theorem mc_63 : dp_mc 63 = 0 := by decide +kernel
set_option maxRecDepth 100000 in
theorem ms_63 : dp_ms 63 = 0 := by decide +kernel
set_option maxRecDepth 100000 in
theorem rk_63 : dp_rk 63 = 1 := by decide +kernel
set_option maxRecDepth 100000 in
theorem mL_63 : dp_mL 63 = 4 := by decide +kernel
set_option maxRecDepth 100000 in
theorem hh_63 : dp_hh 63 = [] := by decide +kernel
set_option maxRecDepth 100000 in
theorem ow_64 : dp_ow 64 = 3 := by decide +kernel
set_option maxRecDepth 100000 in
theorem mc_64 : dp_mc 64 = 0 := by decide +kernel
set_option maxRecDepth 100000 in
theorem ms_64 : dp_ms 64 = 0 := by decide +kernel
set_option maxRecDepth 100000 in
theorem rk_64 : dp_rk 64 = 1 := by decide +kernel
set_option maxRecDepth 100000 in
theorem mL_64 : dp_mL 64 = 5 := by decide +kernel
set_option maxRecDepth 100000 in
theorem hh_64 : dp_hh 64 = [] := by decide +kernel
set_option maxRecDepth 100000 in
theorem ow_65 : dp_ow 65 = 3 := by decide +kernel
set_option maxRecDepth 100000 in
theorem mc_65 : dp_mc 65 = 0 := by decide +kernel
set_option maxRecDepth 100000 in
theorem ms_65 : dp_ms 65 = 0 := by decide +kernel
set_option maxRecDepth 100000 in
theorem rk_65 : dp_rk 65 = 0 := by decide +kernel
set_option maxRecDepth 100000 in
theorem mL_65 : dp_mL 65 = 5 := by decide +kernel
set_option maxRecDepth 100000 in
theorem hh_65 : dp_hh 65 = [] := by decide +kernel
set_option maxRecDepth 100000 in
theorem ow_66 : dp_ow 66 = 3 := by decide +kernel
set_option maxRecDepth 100000 in
theorem mc_66 : dp_mc 66 = 0 := by decide +kernel
set_option maxRecDepth 100000 in
theorem ms_66 : dp_ms 66 = 0 := by decide +kernel
set_option maxRecDepth 100000 in
theorem rk_66 : dp_rk 66 = 4 := by decide +kernel
set_option maxRecDepth 100000 in
theorem mL_66 : dp_mL 66 = 4 := by decide +kernel
set_option maxRecDepth 100000 in
theorem hh_66 : dp_hh 66 = [] := by decide +kernel
set_option maxRecDepth 100000 in
theorem ow_67 : dp_ow 67 = 3 := by decide +kernel
set_option maxRecDepth 100000 in
theorem mc_67 : dp_mc 67 = 0 := by decide +kernel
set_option maxRecDepth 100000 in
theorem ms_67 : dp_ms 67 = 0 := by decide +kernel
set_option maxRecDepth 100000 in
theorem rk_67 : dp_rk 67 = 1 := by decide +kernel
set_option maxRecDepth 100000 in
theorem mL_67 : dp_mL 67 = 4 := by decide +kernel
set_option maxRecDepth 100000 in
theorem hh_67 : dp_hh 67 = [] := by decide +kernel
set_option maxRecDepth 100000 in
theorem ow_68 : dp_ow 68 = 4 := by decide +kernel
set_option maxRecDepth 100000 in
theorem mc_68 : dp_mc 68 = 0 := by decide +kernel
set_option maxRecDepth 100000 in
theorem ms_68 : dp_ms 68 = 0 := by decide +kernel
set_option maxRecDepth 100000 in
theorem rk_68 : dp_rk 68 = 1 := by decide +kernel
set_option maxRecDepth 100000 in
theorem mL_68 : dp_mL 68 = 1 := by decide +kernel
set_option maxRecDepth 100000 in
theorem hh_68 : dp_hh 68 = [] := by decide +kernel
set_option maxRecDepth 100000 in
theorem ow_69 : dp_ow 69 = 4 := by decide +kernel
set_option maxRecDepth 100000 in
theorem mc_69 : dp_mc 69 = 0 := by decide +kernel
set_option maxRecDepth 100000 in
theorem ms_69 : dp_ms 69 = 0 := by decide +kernel
set_option maxRecDepth 100000 in
theorem rk_69 : dp_rk 69 = 1 := by decide +kernel
set_option maxRecDepth 100000 in
theorem mL_69 : dp_mL 69 = 2 := by decide +kernel
set_option maxRecDepth 100000 in
theorem hh_69 : dp_hh 69 = [] := by decide +kernel
set_option maxRecDepth 100000 in
theorem ow_70 : dp_ow 70 = 4 := by decide +kernel
set_option maxRecDepth 100000 in
theorem mc_70 : dp_mc 70 = 0 := by decide +kernel
set_option maxRecDepth 100000 in
theorem ms_70 : dp_ms 70 = 0 := by decide +kernel
set_option maxRecDepth 100000 in
theorem rk_70 : dp_rk 70 = 4 := by decide +kernel
set_option maxRecDepth 100000 in
theorem mL_70 : dp_mL 70 = 3 := by decide +kernel
set_option maxRecDepth 100000 in
theorem hh_70 : dp_hh 70 = [] := by decide +kernel
set_option maxRecDepth 100000 in
theorem ow_71 : dp_ow 71 = 4 := by decide +kernel
set_option maxRecDepth 100000 in
theorem mc_71 : dp_mc 71 = 0 := by decide +kernel
set_option maxRecDepth 100000 in
theorem ms_71 : dp_ms 71 = 0 := by decide +kernel
set_option maxRecDepth 100000 in
theorem rk_71 : dp_rk 71 = 4 := by decide +kernel
set_option maxRecDepth 100000 in
theorem mL_71 : dp_mL 71 = 2 := by decide +kernel
set_option maxRecDepth 100000 in
theorem hh_71 : dp_hh 71 = [] := by decide +kernel
set_option maxRecDepth 100000 in
theorem ow_72 : dp_ow 72 = 4 := by decide +kernel
set_option maxRecDepth 100000 in
theorem mc_72 : dp_mc 72 = 0 := by decide +kernel
set_option maxRecDepth 100000 in
theorem ms_72 : dp_ms 72 = 0 := by decide +kernel
set_option maxRecDepth 100000 in
theorem rk_72 : dp_rk 72 = 4 := by decide +kernel
set_option maxRecDepth 100000 in
theorem mL_72 : dp_mL 72 = 2 := by decide +kernel
set_option maxRecDepth 100000 in
theorem hh_72 : dp_hh 72 = [] := by decide +kernel
set_option maxRecDepth 100000 in
theorem ow_73 : dp_ow 73 = 4 := by decide +kernel
set_option maxRecDepth 100000 in
theorem mc_73 : dp_mc 73 = 0 := by decide +kernel
set_option maxRecDepth 100000 in
theorem ms_73 : dp_ms 73 = 0 := by decide +kernel
set_option maxRecDepth 100000 in
theorem rk_73 : dp_rk 73 = 4 := by decide +kernel
set_option maxRecDepth 100000 in
theorem mL_73 : dp_mL 73 = 1 := by decide +kernel
set_option maxRecDepth 100000 in
theorem hh_73 : dp_hh 73 = [] := by decide +kernel
set_option maxRecDepth 100000 in
theorem ow_74 : dp_ow 74 = 4 := by decide +kernel
set_option maxRecDepth 100000 in
theorem mc_74 : dp_mc 74 = 0 := by decide +kernel
set_option maxRecDepth 100000 in
theorem ms_74 : dp_ms 74 = 0 := by decide +kernel
set_option maxRecDepth 100000 in
theorem rk_74 : dp_rk 74 = 4 := by decide +kernel
set_option maxRecDepth 100000 in
theorem mL_74 : dp_mL 74 = 1 := by decide +kernel
set_option maxRecDepth 100000 in
theorem hh_74 : dp_hh 74 = [] := by decide +kernel
set_option maxRecDepth 100000 in
theorem ow_75 : dp_ow 75 = 4 := by decide +kernel
set_option maxRecDepth 100000 in
theorem mc_75 : dp_mc 75 = 0 := by decide +kernel
set_option maxRecDepth 100000 in
theorem ms_75 : dp_ms 75 = 0 := by decide +kernel
set_option maxRecDepth 100000 in
theorem rk_75 : dp_rk 75 = 1 := by decide +kernel
set_option maxRecDepth 100000 in
theorem mL_75 : dp_mL 75 = 3 := by decide +kernel
set_option maxRecDepth 100000 in
theorem hh_75 : dp_hh 75 = [] := by decide +kernel
set_option maxRecDepth 100000 in
theorem ow_76 : dp_ow 76 = 4 := by decide +kernel
set_option maxRecDepth 100000 in
theorem mc_76 : dp_mc 76 = 0 := by decide +kernel
set_option maxRecDepth 100000 in
theorem ms_76 : dp_ms 76 = 0 := by decide +kernel
set_option maxRecDepth 100000 in
theorem rk_76 : dp_rk 76 = 1 := by decide +kernel
set_option maxRecDepth 100000 in
theorem mL_76 : dp_mL 76 = 3 := by decide +kernel
set_option maxRecDepth 100000 in
theorem hh_76 : dp_hh 76 = [] := by decide +kernel
set_option maxRecDepth 100000 in
theorem ow_77 : dp_ow 77 = 4 := by decide +kernel
set_option maxRecDepth 100000 in
theorem mc_77 : dp_mc 77 = 0 := by decide +kernel
set_option maxRecDepth 100000 in
theorem ms_77 : dp_ms 77 = 0 := by decide +kernel
set_option maxRecDepth 100000 in
theorem rk_77 : dp_rk 77 = 0 := by decide +kernel
set_option maxRecDepth 100000 in
theorem mL_77 : dp_mL 77 = 4 := by decide +kernel
set_option maxRecDepth 100000 in
theorem hh_77 : dp_hh 77 = [] := by decide +kernel
set_option maxRecDepth 100000 in
theorem ow_78 : dp_ow 78 = 4 := by decide +kernel
set_option maxRecDepth 100000 in
theorem mc_78 : dp_mc 78 = 0 := by decide +kernel
set_option maxRecDepth 100000 in
theorem ms_78 : dp_ms 78 = 0 := by decide +kernel
set_option maxRecDepth 100000 in
theorem rk_78 : dp_rk 78 = 1 := by decide +kernel
set_option maxRecDepth 100000 in
theorem mL_78 : dp_mL 78 = 4 := by decide +kernel
set_option maxRecDepth 100000 in
theorem hh_78 : dp_hh 78 = [] := by decide +kernel
set_option maxRecDepth 100000 in
theorem ow_79 : dp_ow 79 = 4 := by decide +kernel
set_option maxRecDepth 100000 in
theorem mc_79 : dp_mc 79 = 0 := by decide +kernel
set_option maxRecDepth 100000 in
theorem ms_79 : dp_ms 79 = 0 := by decide +kernel
set_option maxRecDepth 100000 in
theorem rk_79 : dp_rk 79 = 1 := by decide +kernel
set_option maxRecDepth 100000 in
theorem mL_79 : dp_mL 79 = 1 := by decide +kernel
set_option maxRecDepth 100000 in
theorem hh_79 : dp_hh 79 = [] := by decide +kernel
set_option maxRecDepth 100000 in
theorem ow_80 : dp_ow 80 = 4 := by decide +kernel
set_option maxRecDepth 100000 in
theorem mc_80 : dp_mc 80 = 0 := by decide +kernel
set_option maxRecDepth 100000 in
theorem ms_80 : dp_ms 80 = 0 := by decide +kernel
set_option maxRecDepth 100000 in
theorem rk_80 : dp_rk 80 = 1 := by decide +kernel
set_option maxRecDepth 100000 in
theorem mL_80 : dp_mL 80 = 4 := by decide +kernel
set_option maxRecDepth 100000 in
theorem hh_80 : dp_hh 80 = [] := by decide +kernel
set_option maxRecDepth 100000 in
theorem ow_81 : dp_ow 81 = 4 := by decide +kernel
set_option maxRecDepth 100000 in
theorem mc_81 : dp_mc 81 = 0 := by decide +kernel
set_option maxRecDepth 100000 in
theorem ms_81 : dp_ms 81 = 0 := by decide +kernel
set_option maxRecDepth 100000 in
theorem rk_81 : dp_rk 81 = 1 := by decide +kernel
set_option maxRecDepth 100000 in
theorem mL_81 : dp_mL 81 = 6 := by decide +kernel
set_option maxRecDepth 100000 in
theorem hh_81 : dp_hh 81 = [] := by decide +kernel
set_option maxRecDepth 100000 in
theorem ow_82 : dp_ow 82 = 4 := by decide +kernel
set_option maxRecDepth 100000 in
theorem mc_82 : dp_mc 82 = 0 := by decide +kernel
set_option maxRecDepth 100000 in
theorem ms_82 : dp_ms 82 = 0 := by decide +kernel
set_option maxRecDepth 100000 in
theorem rk_82 : dp_rk 82 = 1 := by decide +kernel
set_option maxRecDepth 100000 in
theorem mL_82 : dp_mL 82 = 2 := by decide +kernel
set_option maxRecDepth 100000 in
theorem hh_82 : dp_hh 82 = [] := by decide +kernel
set_option maxRecDepth 100000 in
theorem ow_83 : dp_ow 83 = 4 := by decide +kernel
set_option maxRecDepth 100000 in
theorem mc_83 : dp_mc 83 = 0 := by decide +kernel
set_option maxRecDepth 100000 in
theorem ms_83 : dp_ms 83 = 0 := by decide +kernel
set_option maxRecDepth 100000 in
theorem rk_83 : dp_rk 83 = 1 := by decide +kernel
set_option maxRecDepth 100000 in
theorem mL_83 : dp_mL 83 = 4 := by decide +kernel
set_option maxRecDepth 100000 in
theorem hh_83 : dp_hh 83 = [] := by decide +kernel
set_option maxRecDepth 100000 in
theorem ow_84 : dp_ow 84 = 4 := by decide +kernel
set_option maxRecDepth 100000 in
theorem mc_84 : dp_mc 84 = 0 := by decide +kernel
set_option maxRecDepth 100000 in
theorem ms_84 : dp_ms 84 = 0 := by decide +kernel
set_option maxRecDepth 100000 in
theorem rk_84 : dp_rk 84 = 1 := by decide +kernel
set_option maxRecDepth 100000 in
theorem mL_84 : dp_mL 84 = 4 := by decide +kernel
set_option maxRecDepth 100000 in
theorem hh_84 : dp_hh 84 = [] := by decide +kernel
set_option maxRecDepth 100000 in
theorem ow_85 : dp_ow 85 = 4 := by decide +kernel
set_option maxRecDepth 100000 in
theorem mc_85 : dp_mc 85 = 0 := by decide +kernel
set_option maxRecDepth 100000 in
theorem ms_85 : dp_ms 85 = 0 := by decide +kernel
set_option maxRecDepth 100000 in
theorem rk_85 : dp_rk 85 = 1 := by decide +kernel
set_option maxRecDepth 100000 in
theorem mL_85 : dp_mL 85 = 6 := by decide +kernel
set_option maxRecDepth 100000 in
theorem hh_85 : dp_hh 85 = [] := by decide +kernel
set_option maxRecDepth 100000 in
theorem ow_86 : dp_ow 86 = 4 := by decide +kernel
set_option maxRecDepth 100000 in
theorem mc_86 : dp_mc 86 = 0 := by decide +kernel
set_option maxRecDepth 100000 in
theorem ms_86 : dp_ms 86 = 0 := by decide +kernel
set_option maxRecDepth 100000 in
theorem rk_86 : dp_rk 86 = 1 := by decide +kernel
set_option maxRecDepth 100000 in
theorem mL_86 : dp_mL 86 = 4 := by decide +kernel
set_option maxRecDepth 100000 in
theorem hh_86 : dp_hh 86 = [] := by decide +kernel
set_option maxRecDepth 100000 in
theorem ow_87 : dp_ow 87 = 4 := by decide +kernel
set_option maxRecDepth 100000 in
theorem mc_87 : dp_mc 87 = 0 := by decide +kernel
set_option maxRecDepth 100000 in
theorem ms_87 : dp_ms 87 = 0 := by decide +kernel
set_option maxRecDepth 100000 in
theorem rk_87 : dp_rk 87 = 1 := by decide +kernel
set_option maxRecDepth 100000 in
theorem mL_87 : dp_mL 87 = 3 := by decide +kernel
set_option maxRecDepth 100000 in
theorem hh_87 : dp_hh 87 = [] := by decide +kernel
set_option maxRecDepth 100000 in
theorem ow_88 : dp_ow 88 = 4 := by decide +kernel
set_option maxRecDepth 100000 in
theorem mc_88 : dp_mc 88 = 0 := by decide +kernel
set_option maxRecDepth 100000 in
theorem ms_88 : dp_ms 88 = 0 := by decide +kernel
set_option maxRecDepth 100000 in
theorem rk_88 : dp_rk 88 = 1 := by decide +kernel
set_option maxRecDepth 100000 in
theorem mL_88 : dp_mL 88 = 5 := by decide +kernel
set_option maxRecDepth 100000 in
theorem hh_88 : dp_hh 88 = [] := by decide +kernel
set_option maxRecDepth 100000 in
theorem ow_89 : dp_ow 89 = 4 := by decide +kernel
set_option maxRecDepth 100000 in
theorem mc_89 : dp_mc 89 = 0 := by decide +kernel
set_option maxRecDepth 100000 in
theorem ms_89 : dp_ms 89 = 0 := by decide +kernel
set_option maxRecDepth 100000 in
theorem rk_89 : dp_rk 89 = 1 := by decide +kernel
set_option maxRecDepth 100000 in
theorem mL_89 : dp_mL 89 = 4 := by decide +kernel
set_option maxRecDepth 100000 in
theorem hh_89 : dp_hh 89 = [] := by decide +kernel
set_option maxRecDepth 100000 in
theorem ow_90 : dp_ow 90 = 4 := by decide +kernel
set_option maxRecDepth 100000 in
theorem mc_90 : dp_mc 90 = 0 := by decide +kernel
set_option maxRecDepth 100000 in
theorem ms_90 : dp_ms 90 = 0 := by decide +kernel
set_option maxRecDepth 100000 in
theorem rk_90 : dp_rk 90 = 1 := by decide +kernel
set_option maxRecDepth 100000 in
theorem mL_90 : dp_mL 90 = 8 := by decide +kernel
set_option maxRecDepth 100000 in
theorem hh_90 : dp_hh 90 = [] := by decide +kernel
set_option maxRecDepth 100000 in
theorem ow_91 : dp_ow 91 = 4 := by decide +kernel
set_option maxRecDepth 100000 in
theorem mc_91 : dp_mc 91 = 0 := by decide +kernel
set_option maxRecDepth 100000 in
theorem ms_91 : dp_ms 91 = 0 := by decide +kernel
set_option maxRecDepth 100000 in
theorem rk_91 : dp_rk 91 = 4 := by decide +kernel
set_option maxRecDepth 100000 in
theorem mL_91 : dp_mL 91 = 3 := by decide +kernel
set_option maxRecDepth 100000 in
theorem hh_91 : dp_hh 91 = [] := by decide +kernel
set_option maxRecDepth 100000 in
theorem ow_92 : dp_ow 92 = 4 := by decide +kernel
set_option maxRecDepth 100000 in
theorem mc_92 : dp_mc 92 = 0 := by decide +kernel
set_option maxRecDepth 100000 in
theorem ms_92 : dp_ms 92 = 0 := by decide +kernel
set_option maxRecDepth 100000 in
theorem rk_92 : dp_rk 92 = 1 := by decide +kernel
set_option maxRecDepth 100000 in
theorem mL_92 : dp_mL 92 = 6 := by decide +kernel
set_option maxRecDepth 100000 in
theorem hh_92 : dp_hh 92 = [] := by decide +kernel
set_option maxRecDepth 100000 in
theorem ow_93 : dp_ow 93 = 4 := by decide +kernel
set_option maxRecDepth 100000 in
theorem mc_93 : dp_mc 93 = 0 := by decide +kernel
set_option maxRecDepth 100000 in
theorem ms_93 : dp_ms 93 = 0 := by decide +kernel
set_option maxRecDepth 100000 in
theorem rk_93 : dp_rk 93 = 1 := by decide +kernel
set_option maxRecDepth 100000 in
theorem mL_93 : dp_mL 93 = 4 := by decide +kernel
set_option maxRecDepth 100000 in
theorem hh_93 : dp_hh 93 = [] := by decide +kernel
set_option maxRecDepth 100000 in
theorem ow_94 : dp_ow 94 = 4 := by decide +kernel
set_option maxRecDepth 100000 in
theorem mc_94 : dp_mc 94 = 0 := by decide +kernel
set_option maxRecDepth 100000 in
theorem ms_94 : dp_ms 94 = 0 := by decide +kernel
set_option maxRecDepth 100000 in
theorem rk_94 : dp_rk 94 = 1 := by decide +kernel
set_option maxRecDepth 100000 in
theorem mL_94 : dp_mL 94 = 3 := by decide +kernel
set_option maxRecDepth 100000 in
theorem hh_94 : dp_hh 94 = [] := by decide +kernel
set_option maxRecDepth 100000 in
theorem ow_95 : dp_ow 95 = 4 := by decide +kernel
set_option maxRecDepth 100000 in
theorem mc_95 : dp_mc 95 = 0 := by decide +kernel
set_option maxRecDepth 100000 in
theorem ms_95 : dp_ms 95 = 0 := by decide +kernel
set_option maxRecDepth 100000 in
theorem rk_95 : dp_rk 95 = 1 := by decide +kernel
set_option maxRecDepth 100000 in
theorem mL_95 : dp_mL 95 = 4 := by decide +kernel
set_option maxRecDepth 100000 in
theorem hh_95 : dp_hh 95 = [] := by decide +kernel
set_option maxRecDepth 100000 in
theorem ow_96 : dp_ow 96 = 4 := by decide +kernel
set_option maxRecDepth 100000 in
theorem mc_96 : dp_mc 96 = 0 := by decide +kernel
set_option maxRecDepth 100000 in
theorem ms_96 : dp_ms 96 = 0 := by decide +kernel
set_option maxRecDepth 100000 in
theorem rk_96 : dp_rk 96 = 1 := by decide +kernel
set_option maxRecDepth 100000 in
theorem mL_96 : dp_mL 96 = 2 := by decide +kernel
set_option maxRecDepth 100000 in
theorem hh_96 : dp_hh 96 = [] := by decide +kernel
set_option maxRecDepth 100000 in
theorem ow_97 : dp_ow 97 = 4 := by decide +kernel
set_option maxRecDepth 100000 in
theorem mc_97 : dp_mc 97 = 0 := by decide +kernel
set_option maxRecDepth 100000 in
theorem ms_97 : dp_ms 97 = 0 := by decide +kernel
set_option maxRecDepth 100000 in
theorem rk_97 : dp_rk 97 = 1 := by decide +kernel
set_option maxRecDepth 100000 in
theorem mL_97 : dp_mL 97 = 3 := by decide +kernel
set_option maxRecDepth 100000 in
theorem hh_97 : dp_hh 97 = [] := by decide +kernel
set_option maxRecDepth 100000 in
theorem ow_98 : dp_ow 98 = 4 := by decide +kernel
set_option maxRecDepth 100000 in
theorem mc_98 : dp_mc 98 = 0 := by decide +kernel
set_option maxRecDepth 100000 in
theorem ms_98 : dp_ms 98 = 0 := by decide +kernel
set_option maxRecDepth 100000 in
theorem rk_98 : dp_rk 98 = 1 := by decide +kernel
set_option maxRecDepth 100000 in
theorem mL_98 : dp_mL 98 = 4 := by decide +kernel
set_option maxRecDepth 100000 in
theorem hh_98 : dp_hh 98 = [] := by decide +kernel
set_option maxRecDepth 100000 in
theorem ow_99 : dp_ow 99 = 4 := by decide +kernel
set_option maxRecDepth 100000 in
theorem mc_99 : dp_mc 99 = 0 := by decide +kernel
set_option maxRecDepth 100000 in
theorem ms_99 : dp_ms 99 = 0 := by decide +kernel
set_option maxRecDepth 100000 in
theorem rk_99 : dp_rk 99 = 1 := by decide +kernel
set_option maxRecDepth 100000 in
theorem mL_99 : dp_mL 99 = 2 := by decide +kernel
set_option maxRecDepth 100000 in
theorem hh_99 : dp_hh 99 = [] := by decide +kernel
set_option maxRecDepth 100000 in
theorem ow_100 : dp_ow 100 = 4 := by decide +kernel
set_option maxRecDepth 100000 in
theorem mc_100 : dp_mc 100 = 0 := by decide +kernel
set_option maxRecDepth 100000 in
theorem ms_100 : dp_ms 100 = 0 := by decide +kernel
set_option maxRecDepth 100000 in
theorem rk_100 : dp_rk 100 = 1 := by decide +kernel
set_option maxRecDepth 100000 in
theorem mL_100 : dp_mL 100 = 4 := by decide +kernel
set_option maxRecDepth 100000 in
theorem hh_100 : dp_hh 100 = [] := by decide +kernel
set_option maxRecDepth 100000 in
theorem ow_101 : dp_ow 101 = 4 := by decide +kernel
set_option maxRecDepth 100000 in
theorem mc_101 : dp_mc 101 = 0 := by decide +kernel
set_option maxRecDepth 100000 in
theorem ms_101 : dp_ms 101 = 0 := by decide +kernel
set_option maxRecDepth 100000 in
theorem rk_101 : dp_rk 101 = 1 := by decide +kernel
set_option maxRecDepth 100000 in
theorem mL_101 : dp_mL 101 = 4 := by decide +kernel
set_option maxRecDepth 100000 in
theorem hh_101 : dp_hh 101 = [] := by decide +kernel
set_option maxRecDepth 100000 in
theorem ow_102 : dp_ow 102 = 4 := by decide +kernel
set_option maxRecDepth 100000 in
theorem mc_102 : dp_mc 102 = 0 := by decide +kernel
set_option maxRecDepth 100000 in
theorem ms_102 : dp_ms 102 = 0 := by decide +kernel
set_option maxRecDepth 100000 in
theorem rk_102 : dp_rk 102 = 1 := by decide +kernel
set_option maxRecDepth 100000 in
theorem mL_102 : dp_mL 102 = 3 := by decide +kernel
set_option maxRecDepth 100000 in
theorem hh_102 : dp_hh 102 = [] := by decide +kernel
set_option maxRecDepth 100000 in
theorem ow_103 : dp_ow 103 = 4 := by decide +kernel
set_option maxRecDepth 100000 in
theorem mc_103 : dp_mc 103 = 0 := by decide +kernel
set_option maxRecDepth 100000 in
theorem ms_103 : dp_ms 103 = 0 := by decide +kernel
set_option maxRecDepth 100000 in
theorem rk_103 : dp_rk 103 = 1 := by decide +kernel
set_option maxRecDepth 100000 in
theorem mL_103 : dp_mL 103 = 3 := by decide +kernel
set_option maxRecDepth 100000 in
theorem hh_103 : dp_hh 103 = [] := by decide +kernel
set_option maxRecDepth 100000 in
theorem ow_104 : dp_ow 104 = 4 := by decide +kernel
set_option maxRecDepth 100000 in
theorem mc_104 : dp_mc 104 = 0 := by decide +kernel
set_option maxRecDepth 100000 in
theorem ms_104 : dp_ms 104 = 0 := by decide +kernel
set_option maxRecDepth 100000 in
theorem rk_104 : dp_rk 104 = 1 := by decide +kernel
set_option maxRecDepth 100000 in
theorem mL_104 : dp_mL 104 = 3 := by decide +kernel
set_option maxRecDepth 100000 in
theorem hh_104 : dp_hh 104 = [] := by decide +kernel
set_option maxRecDepth 100000 in
theorem ow_105 : dp_ow 105 = 4 := by decide +kernel
set_option maxRecDepth 100000 in
theorem mc_105 : dp_mc 105 = 0 := by decide +kernel
set_option maxRecDepth 100000 in
theorem ms_105 : dp_ms 105 = 0 := by decide +kernel
set_option maxRecDepth 100000 in
theorem rk_105 : dp_rk 105 = 1 := by decide +kernel
set_option maxRecDepth 100000 in
theorem mL_105 : dp_mL 105 = 4 := by decide +kernel
set_option maxRecDepth 100000 in
theorem hh_105 : dp_hh 105 = [] := by decide +kernel
set_option maxRecDepth 100000 in
theorem ow_106 : dp_ow 106 = 4 := by decide +kernel
set_option maxRecDepth 100000 in
theorem mc_106 : dp_mc 106 = 0 := by decide +kernel
set_option maxRecDepth 100000 in
theorem ms_106 : dp_ms 106 = 0 := by decide +kernel
set_option maxRecDepth 100000 in
theorem rk_106 : dp_rk 106 = 1 := by decide +kernel
set_option maxRecDepth 100000 in
theorem mL_106 : dp_mL 106 = 3 := by decide +kernel
set_option maxRecDepth 100000 in
theorem hh_106 : dp_hh 106 = [] := by decide +kernel
set_option maxRecDepth 100000 in
theorem ow_107 : dp_ow 107 = 4 := by decide +kernel
set_option maxRecDepth 100000 in
theorem mc_107 : dp_mc 107 = 0 := by decide +kernel
set_option maxRecDepth 100000 in
theorem ms_107 : dp_ms 107 = 0 := by decide +kernel
set_option maxRecDepth 100000 in
theorem rk_107 : dp_rk 107 = 1 := by decide +kernel
set_option maxRecDepth 100000 in
theorem mL_107 : dp_mL 107 = 3 := by decide +kernel
set_option maxRecDepth 100000 in
theorem hh_107 : dp_hh 107 = [] := by decide +kernel
set_option maxRecDepth 100000 in
theorem ow_108 : dp_ow 108 = 4 := by decide +kernel
set_option maxRecDepth 100000 in
theorem mc_108 : dp_mc 108 = 0 := by decide +kernel
set_option maxRecDepth 100000 in
theorem ms_108 : dp_ms 108 = 0 := by decide +kernel
set_option maxRecDepth 100000 in
theorem rk_108 : dp_rk 108 = 1 := by decide +kernel
set_option maxRecDepth 100000 in
theorem mL_108 : dp_mL 108 = 3 := by decide +kernel
set_option maxRecDepth 100000 in
theorem hh_108 : dp_hh 108 = [] := by decide +kernel
set_option maxRecDepth 100000 in
theorem ow_109 : dp_ow 109 = 4 := by decide +kernel
set_option maxRecDepth 100000 in
theorem mc_109 : dp_mc 109 = 0 := by decide +kernel
set_option maxRecDepth 100000 in
theorem ms_109 : dp_ms 109 = 0 := by decide +kernel
set_option maxRecDepth 100000 in
theorem rk_109 : dp_rk 109 = 1 := by decide +kernel
set_option maxRecDepth 100000 in
theorem mL_109 : dp_mL 109 = 6 := by decide +kernel
set_option maxRecDepth 100000 in
theorem hh_109 : dp_hh 109 = [] := by decide +kernel
set_option maxRecDepth 100000 in
theorem ow_110 : dp_ow 110 = 4 := by decide +kernel
set_option maxRecDepth 100000 in
theorem mc_110 : dp_mc 110 = 0 := by decide +kernel
set_option maxRecDepth 100000 in
theorem ms_110 : dp_ms 110 = 0 := by decide +kernel
set_option maxRecDepth 100000 in
theorem rk_110 : dp_rk 110 = 1 := by decide +kernel
set_option maxRecDepth 100000 in
theorem mL_110 : dp_mL 110 = 2 := by decide +kernel
set_option maxRecDepth 100000 in
theorem hh_110 : dp_hh 110 = [] := by decide +kernel
set_option maxRecDepth 100000 in
theorem ow_111 : dp_ow 111 = 4 := by decide +kernel
set_option maxRecDepth 100000 in
theorem mc_111 : dp_mc 111 = 0 := by decide +kernel
set_option maxRecDepth 100000 in
theorem ms_111 : dp_ms 111 = 0 := by decide +kernel
set_option maxRecDepth 100000 in
theorem rk_111 : dp_rk 111 = 1 := by decide +kernel
set_option maxRecDepth 100000 in
theorem mL_111 : dp_mL 111 = 2 := by decide +kernel
set_option maxRecDepth 100000 in
theorem hh_111 : dp_hh 111 = [] := by decide +kernel
set_option maxRecDepth 100000 in
theorem ow_112 : dp_ow 112 = 4 := by decide +kernel
set_option maxRecDepth 100000 in
theorem mc_112 : dp_mc 112 = 0 := by decide +kernel
set_option maxRecDepth 100000 in
theorem ms_112 : dp_ms 112 = 0 := by decide +kernel
set_option maxRecDepth 100000 in
theorem rk_112 : dp_rk 112 = 1 := by decide +kernel
set_option maxRecDepth 100000 in
theorem mL_112 : dp_mL 112 = 3 := by decide +kernel
set_option maxRecDepth 100000 in
theorem hh_112 : dp_hh 112 = [] := by decide +kernel
set_option maxRecDepth 100000 in
theorem ow_113 : dp_ow 113 = 4 := by decide +kernel
set_option maxRecDepth 100000 in
theorem mc_113 : dp_mc 113 = 0 := by decide +kernel
set_option maxRecDepth 100000 in
theorem ms_113 : dp_ms 113 = 0 := by decide +kernel
set_option maxRecDepth 100000 in
theorem rk_113 : dp_rk 113 = 1 := by decide +kernel
set_option maxRecDepth 100000 in
theorem mL_113 : dp_mL 113 = 3 := by decide +kernel
set_option maxRecDepth 100000 in
theorem hh_113 : dp_hh 113 = [] := by decide +kernel
set_option maxRecDepth 100000 in
theorem ow_114 : dp_ow 114 = 4 := by decide +kernel
set_option maxRecDepth 100000 in
theorem mc_114 : dp_mc 114 = 0 := by decide +kernel
set_option maxRecDepth 100000 in
theorem ms_114 : dp_ms 114 = 0 := by decide +kernel
set_option maxRecDepth 100000 in
theorem rk_114 : dp_rk 114 = 1 := by decide +kernel
set_option maxRecDepth 100000 in
theorem mL_114 : dp_mL 114 = 6 := by decide +kernel
set_option maxRecDepth 100000 in
theorem hh_114 : dp_hh 114 = [] := by decide +kernel
set_option maxRecDepth 100000 in
theorem ow_115 : dp_ow 115 = 4 := by decide +kernel
set_option maxRecDepth 100000 in
theorem mc_115 : dp_mc 115 = 0 := by decide +kernel
set_option maxRecDepth 100000 in
theorem ms_115 : dp_ms 115 = 0 := by decide +kernel
set_option maxRecDepth 100000 in
theorem rk_115 : dp_rk 115 = 1 := by decide +kernel
set_option maxRecDepth 100000 in
theorem mL_115 : dp_mL 115 = 7 := by decide +kernel
set_option maxRecDepth 100000 in
theorem hh_115 : dp_hh 115 = [] := by decide +kernel
set_option maxRecDepth 100000 in
theorem ow_116 : dp_ow 116 = 4 := by decide +kernel
set_option maxRecDepth 100000 in
theorem mc_116 : dp_mc 116 = 0 := by decide +kernel
set_option maxRecDepth 100000 in
theorem ms_116 : dp_ms 116 = 0 := by decide +kernel
set_option maxRecDepth 100000 in
theorem rk_116 : dp_rk 116 = 0 := by decide +kernel
set_option maxRecDepth 100000 in
theorem mL_116 : dp_mL 116 = 4 := by decide +kernel
set_option maxRecDepth 100000 in
theorem hh_116 : dp_hh 116 = [] := by decide +kernel
set_option maxRecDepth 100000 in
theorem ow_117 : dp_ow 117 = 4 := by decide +kernel
set_option maxRecDepth 100000 in
theorem mc_117 : dp_mc 117 = 2 := by decide +kernel
set_option maxRecDepth 100000 in
theorem ms_117 : dp_ms 117 = 448 := by decide +kernel
set_option maxRecDepth 100000 in
theorem rk_117 : dp_rk 117 = 1 := by decide +kernel
set_option maxRecDepth 100000 in
theorem mL_117 : dp_mL 117 = 7 := by decide +kernel
set_option maxRecDepth 100000 in
theorem hh_117 : dp_hh 117 = [] := by decide +kernel
set_option maxRecDepth 100000 in
theorem ow_118 : dp_ow 118 = 4 := by decide +kernel
set_option maxRecDepth 100000 in
theorem mc_118 : dp_mc 118 = 0 := by decide +kernel
set_option maxRecDepth 100000 in
theorem ms_118 : dp_ms 118 = 0 := by decide +kernel
set_option maxRecDepth 100000 in
theorem rk_118 : dp_rk 118 = 4 := by decide +kernel
set_option maxRecDepth 100000 in
theorem mL_118 : dp_mL 118 = 2 := by decide +kernel
set_option maxRecDepth 100000 in
theorem hh_118 : dp_hh 118 = [] := by decide +kernel
set_option maxRecDepth 100000 in
theorem ow_119 : dp_ow 119 = 4 := by decide +kernel
set_option maxRecDepth 100000 in
theorem mc_119 : dp_mc 119 = 2 := by decide +kernel
set_option maxRecDepth 100000 in
theorem ms_119 : dp_ms 119 = 448 := by decide +kernel
set_option maxRecDepth 100000 in
theorem rk_119 : dp_rk 119 = 1 := by decide +kernel
set_option maxRecDepth 100000 in
theorem mL_119 : dp_mL 119 = 5 := by decide +kernel
set_option maxRecDepth 100000 in
theorem hh_119 : dp_hh 119 = [] := by decide +kernel
set_option maxRecDepth 100000 in
theorem ow_120 : dp_ow 120 = 4 := by decide +kernel
set_option maxRecDepth 100000 in
theorem mc_120 : dp_mc 120 = 0 := by decide +kernel
set_option maxRecDepth 100000 in
theorem ms_120 : dp_ms 120 = 0 := by decide +kernel
set_option maxRecDepth 100000 in
theorem rk_120 : dp_rk 120 = 3 := by decide +kernel
set_option maxRecDepth 100000 in
theorem mL_120 : dp_mL 120 = 1 := by decide +kernel
set_option maxRecDepth 100000 in
theorem hh_120 : dp_hh 120 = [] := by decide +kernel
set_option maxRecDepth 100000 in
theorem ow_121 : dp_ow 121 = 4 := by decide +kernel
set_option maxRecDepth 100000 in
theorem mc_121 : dp_mc 121 = 0 := by decide +kernel
set_option maxRecDepth 100000 in
theorem ms_121 : dp_ms 121 = 0 := by decide +kernel
set_option maxRecDepth 100000 in
theorem rk_121 : dp_rk 121 = 2 := by decide +kernel
set_option maxRecDepth 100000 in
theorem mL_121 : dp_mL 121 = 7 := by decide +kernel
set_option maxRecDepth 100000 in
theorem hh_121 : dp_hh 121 = [] := by decide +kernel
set_option maxRecDepth 100000 in
theorem ow_122 : dp_ow 122 = 6 := by decide +kernel
set_option maxRecDepth 100000 in
theorem mc_122 : dp_mc 122 = 0 := by decide +kernel
set_option maxRecDepth 100000 in
theorem ms_122 : dp_ms 122 = 0 := by decide +kernel
set_option maxRecDepth 100000 in
theorem rk_122 : dp_rk 122 = 1 := by decide +kernel
set_option maxRecDepth 100000 in
theorem mL_122 : dp_mL 122 = 1 := by decide +kernel
set_option maxRecDepth 100000 in
theorem hh_122 : dp_hh 122 = [] := by decide +kernel
set_option maxRecDepth 100000 in
theorem ow_123 : dp_ow 123 = 7 := by decide +kernel
set_option maxRecDepth 100000 in
theorem mc_123 : dp_mc 123 = 0 := by decide +kernel
set_option maxRecDepth 100000 in
theorem ms_123 : dp_ms 123 = 0 := by decide +kernel
set_option maxRecDepth 100000 in
theorem rk_123 : dp_rk 123 = 0 := by decide +kernel
set_option maxRecDepth 100000 in
theorem mL_123 : dp_mL 123 = 4 := by decide +kernel
set_option maxRecDepth 100000 in
theorem hh_123 : dp_hh 123 = [] := by decide +kernel
set_option maxRecDepth 100000 in
theorem ow_124 : dp_ow 124 = 5 := by decide +kernel
set_option maxRecDepth 100000 in
theorem mc_124 : dp_mc 124 = 2 := by decide +kernel
set_option maxRecDepth 100000 in
theorem ms_124 : dp_ms 124 = 12 := by decide +kernel
set_option maxRecDepth 100000 in
theorem rk_124 : dp_rk 124 = 1 := by decide +kernel
set_option maxRecDepth 100000 in
theorem mL_124 : dp_mL 124 = 5 := by decide +kernel
set_option maxRecDepth 100000 in
theorem hh_124 : dp_hh 124 = [(0, 10, 13, 13)] := by decide +kernel
set_option maxRecDepth 100000 in
theorem ow_125 : dp_ow 125 = 5 := by decide +kernel
set_option maxRecDepth 100000 in
theorem mc_125 : dp_mc 125 = 1 := by decide +kernel
set_option maxRecDepth 100000 in
theorem ms_125 : dp_ms 125 = 6 := by decide +kernel
set_option maxRecDepth 100000 in
theorem rk_125 : dp_rk 125 = 1 := by decide +kernel
set_option maxRecDepth 100000 in
theorem mL_125 : dp_mL 125 = 3 := by decide +kernel
set_option maxRecDepth 100000 in
theorem hh_125 : dp_hh 125 = [(0, 8, 11, 19)] := by decide +kernel
set_option maxRecDepth 100000 in
theorem ow_126 : dp_ow 126 = 5 := by decide +kernel
set_option maxRecDepth 100000 in
theorem mc_126 : dp_mc 126 = 3 := by decide +kernel
set_option maxRecDepth 100000 in
theorem ms_126 : dp_ms 126 = 18 := by decide +kernel
set_option maxRecDepth 100000 in
theorem rk_126 : dp_rk 126 = 1 := by decide +kernel
set_option maxRecDepth 100000 in
theorem mL_126 : dp_mL 126 = 5 := by decide +kernel
set_option maxRecDepth 100000 in
theorem hh_126 : dp_hh 126 = [(0, 10, 13, 13), (0, 10, 17, 19)] := by decide +kernel
set_option maxRecDepth 100000 in
theorem ow_127 : dp_ow 127 = 5 := by decide +kernel
set_option maxRecDepth 100000 in
theorem mc_127 : dp_mc 127 = 2 := by decide +kernel
set_option maxRecDepth 100000 in
theorem ms_127 : dp_ms 127 = 12 := by decide +kernel
set_option maxRecDepth 100000 in
theorem rk_127 : dp_rk 127 = 1 := by decide +kernel
set_option maxRecDepth 100000 in
theorem mL_127 : dp_mL 127 = 5 := by decide +kernel
set_option maxRecDepth 100000 in
theorem hh_127 : dp_hh 127 = [(0, 10, 13, 13)] := by decide +kernel
set_option maxRecDepth 100000 in
theorem ow_128 : dp_ow 128 = 5 := by decide +kernel
set_option maxRecDepth 100000 in
theorem mc_128 : dp_mc 128 = 2 := by decide +kernel
set_option maxRecDepth 100000 in
theorem ms_128 : dp_ms 128 = 12 := by decide +kernel
set_option maxRecDepth 100000 in
theorem rk_128 : dp_rk 128 = 1 := by decide +kernel
set_option maxRecDepth 100000 in
theorem mL_128 : dp_mL 128 = 4 := by decide +kernel
set_option maxRecDepth 100000 in
theorem hh_128 : dp_hh 128 = [(0, 9, 12, 31), (0, 9, 15, 19)] := by decide +kernel
set_option maxRecDepth 100000 in
theorem ow_129 : dp_ow 129 = 5 := by decide +kernel
set_option maxRecDepth 100000 in
theorem mc_129 : dp_mc 129 = 4 := by decide +kernel
set_option maxRecDepth 100000 in
theorem ms_129 : dp_ms 129 = 24 := by decide +kernel
set_option maxRecDepth 100000 in
theorem rk_129 : dp_rk 129 = 1 := by decide +kernel
set_option maxRecDepth 100000 in
theorem mL_129 : dp_mL 129 = 5 := by decide +kernel
set_option maxRecDepth 100000 in
theorem hh_129 : dp_hh 129 = [(0, 10, 13, 13), (0, 10, 17, 19)] := by decide +kernel
set_option maxRecDepth 100000 in
theorem ow_130 : dp_ow 130 = 5 := by decide +kernel
set_option maxRecDepth 100000 in
theorem mc_130 : dp_mc 130 = 3 := by decide +kernel
set_option maxRecDepth 100000 in
theorem ms_130 : dp_ms 130 = 18 := by decide +kernel
set_option maxRecDepth 100000 in
theorem rk_130 : dp_rk 130 = 1 := by decide +kernel
set_option maxRecDepth 100000 in
theorem mL_130 : dp_mL 130 = 5 := by decide +kernel
set_option maxRecDepth 100000 in
theorem hh_130 : dp_hh 130 = [(0, 10, 13, 13), (0, 10, 17, 19)] := by decide +kernel
set_option maxRecDepth 100000 in
theorem ow_131 : dp_ow 131 = 5 := by decide +kernel
set_option maxRecDepth 100000 in
theorem mc_131 : dp_mc 131 = 2 := by decide +kernel
set_option maxRecDepth 100000 in
theorem ms_131 : dp_ms 131 = 12 := by decide +kernel
set_option maxRecDepth 100000 in
theorem rk_131 : dp_rk 131 = 1 := by decide +kernel
set_option maxRecDepth 100000 in
theorem mL_131 : dp_mL 131 = 5 := by decide +kernel
set_option maxRecDepth 100000 in
theorem hh_131 : dp_hh 131 = [(0, 10, 13, 13), (0, 10, 17, 31)] := by decide +kernel
set_option maxRecDepth 100000 in
theorem ow_132 : dp_ow 132 = 5 := by decide +kernel
set_option maxRecDepth 100000 in
theorem mc_132 : dp_mc 132 = 2 := by decide +kernel
set_option maxRecDepth 100000 in
theorem ms_132 : dp_ms 132 = 12 := by decide +kernel
set_option maxRecDepth 100000 in
theorem rk_132 : dp_rk 132 = 1 := by decide +kernel
set_option maxRecDepth 100000 in
theorem mL_132 : dp_mL 132 = 5 := by decide +kernel
set_option maxRecDepth 100000 in
theorem hh_132 : dp_hh 132 = [(0, 10, 13, 13), (0, 10, 17, 31)] := by decide +kernel
set_option maxRecDepth 100000 in
theorem ow_133 : dp_ow 133 = 5 := by decide +kernel
set_option maxRecDepth 100000 in
theorem mc_133 : dp_mc 133 = 1 := by decide +kernel
set_option maxRecDepth 100000 in
theorem ms_133 : dp_ms 133 = 6 := by decide +kernel
set_option maxRecDepth 100000 in
theorem rk_133 : dp_rk 133 = 1 := by decide +kernel
set_option maxRecDepth 100000 in
theorem mL_133 : dp_mL 133 = 4 := by decide +kernel
set_option maxRecDepth 100000 in
theorem hh_133 : dp_hh 133 = [(0, 9, 12, 13)] := by decide +kernel
set_option maxRecDepth 100000 in
theorem ow_134 : dp_ow 134 = 5 := by decide +kernel
set_option maxRecDepth 100000 in
theorem mc_134 : dp_mc 134 = 1 := by decide +kernel
set_option maxRecDepth 100000 in
theorem ms_134 : dp_ms 134 = 6 := by decide +kernel
set_option maxRecDepth 100000 in
theorem rk_134 : dp_rk 134 = 1 := by decide +kernel
set_option maxRecDepth 100000 in
theorem mL_134 : dp_mL 134 = 4 := by decide +kernel
set_option maxRecDepth 100000 in
theorem hh_134 : dp_hh 134 = [(0, 9, 12, 31)] := by decide +kernel
set_option maxRecDepth 100000 in
theorem ow_135 : dp_ow 135 = 5 := by decide +kernel
set_option maxRecDepth 100000 in
theorem mc_135 : dp_mc 135 = 2 := by decide +kernel
set_option maxRecDepth 100000 in
theorem ms_135 : dp_ms 135 = 12 := by decide +kernel
set_option maxRecDepth 100000 in
theorem rk_135 : dp_rk 135 = 1 := by decide +kernel
set_option maxRecDepth 100000 in
theorem mL_135 : dp_mL 135 = 5 := by decide +kernel
set_option maxRecDepth 100000 in
theorem hh_135 : dp_hh 135 = [(0, 10, 13, 13)] := by decide +kernel
set_option maxRecDepth 100000 in
theorem ow_136 : dp_ow 136 = 5 := by decide +kernel
set_option maxRecDepth 100000 in
theorem mc_136 : dp_mc 136 = 2 := by decide +kernel
set_option maxRecDepth 100000 in
theorem ms_136 : dp_ms 136 = 12 := by decide +kernel
set_option maxRecDepth 100000 in
theorem rk_136 : dp_rk 136 = 1 := by decide +kernel
set_option maxRecDepth 100000 in
theorem mL_136 : dp_mL 136 = 5 := by decide +kernel
set_option maxRecDepth 100000 in
theorem hh_136 : dp_hh 136 = [(0, 10, 13, 13)] := by decide +kernel
set_option maxRecDepth 100000 in
theorem ow_137 : dp_ow 137 = 5 := by decide +kernel
set_option maxRecDepth 100000 in
theorem mc_137 : dp_mc 137 = 2 := by decide +kernel
set_option maxRecDepth 100000 in
theorem ms_137 : dp_ms 137 = 12 := by decide +kernel
set_option maxRecDepth 100000 in
theorem rk_137 : dp_rk 137 = 1 := by decide +kernel
set_option maxRecDepth 100000 in
theorem mL_137 : dp_mL 137 = 5 := by decide +kernel
set_option maxRecDepth 100000 in
theorem hh_137 : dp_hh 137 = [(0, 10, 13, 13)] := by decide +kernel
set_option maxRecDepth 100000 in
theorem ow_138 : dp_ow 138 = 5 := by decide +kernel
set_option maxRecDepth 100000 in
theorem mc_138 : dp_mc 138 = 2 := by decide +kernel
set_option maxRecDepth 100000 in
theorem ms_138 : dp_ms 138 = 12 := by decide +kernel
set_option maxRecDepth 100000 in
theorem rk_138 : dp_rk 138 = 1 := by decide +kernel
set_option maxRecDepth 100000 in
theorem mL_138 : dp_mL 138 = 5 := by decide +kernel
set_option maxRecDepth 100000 in
theorem hh_138 : dp_hh 138 = [(0, 10, 13, 13)] := by decide +kernel
set_option maxRecDepth 100000 in
theorem ow_139 : dp_ow 139 = 5 := by decide +kernel
set_option maxRecDepth 100000 in
theorem mc_139 : dp_mc 139 = 1 := by decide +kernel
set_option maxRecDepth 100000 in
theorem ms_139 : dp_ms 139 = 6 := by decide +kernel
set_option maxRecDepth 100000 in
theorem rk_139 : dp_rk 139 = 1 := by decide +kernel
set_option maxRecDepth 100000 in
theorem mL_139 : dp_mL 139 = 4 := by decide +kernel
set_option maxRecDepth 100000 in
theorem hh_139 : dp_hh 139 = [(0, 9, 12, 13)] := by decide +kernel
set_option maxRecDepth 100000 in
theorem ow_140 : dp_ow 140 = 5 := by decide +kernel
set_option maxRecDepth 100000 in
theorem mc_140 : dp_mc 140 = 1 := by decide +kernel
set_option maxRecDepth 100000 in
theorem ms_140 : dp_ms 140 = 6 := by decide +kernel
set_option maxRecDepth 100000 in
theorem rk_140 : dp_rk 140 = 1 := by decide +kernel
set_option maxRecDepth 100000 in
theorem mL_140 : dp_mL 140 = 4 := by decide +kernel
set_option maxRecDepth 100000 in
theorem hh_140 : dp_hh 140 = [(0, 9, 12, 13)] := by decide +kernel
set_option maxRecDepth 100000 in
theorem ow_141 : dp_ow 141 = 5 := by decide +kernel
set_option maxRecDepth 100000 in
theorem mc_141 : dp_mc 141 = 2 := by decide +kernel
set_option maxRecDepth 100000 in
theorem ms_141 : dp_ms 141 = 12 := by decide +kernel
set_option maxRecDepth 100000 in
theorem rk_141 : dp_rk 141 = 1 := by decide +kernel
set_option maxRecDepth 100000 in
theorem mL_141 : dp_mL 141 = 5 := by decide +kernel
set_option maxRecDepth 100000 in
theorem hh_141 : dp_hh 141 = [(0, 10, 13, 13)] := by decide +kernel
set_option maxRecDepth 100000 in
theorem ow_142 : dp_ow 142 = 5 := by decide +kernel
set_option maxRecDepth 100000 in
theorem mc_142 : dp_mc 142 = 2 := by decide +kernel
set_option maxRecDepth 100000 in
theorem ms_142 : dp_ms 142 = 12 := by decide +kernel
set_option maxRecDepth 100000 in
theorem rk_142 : dp_rk 142 = 1 := by decide +kernel
set_option maxRecDepth 100000 in
theorem mL_142 : dp_mL 142 = 5 := by decide +kernel
set_option maxRecDepth 100000 in
theorem hh_142 : dp_hh 142 = [(0, 10, 13, 13)] := by decide +kernel
set_option maxRecDepth 100000 in
theorem ow_143 : dp_ow 143 = 5 := by decide +kernel
set_option maxRecDepth 100000 in
theorem mc_143 : dp_mc 143 = 2 := by decide +kernel
set_option maxRecDepth 100000 in
theorem ms_143 : dp_ms 143 = 12 := by decide +kernel
set_option maxRecDepth 100000 in
theorem rk_143 : dp_rk 143 = 1 := by decide +kernel
set_option maxRecDepth 100000 in
theorem mL_143 : dp_mL 143 = 5 := by decide +kernel
set_option maxRecDepth 100000 in
theorem hh_143 : dp_hh 143 = [(0, 10, 13, 13)] := by decide +kernel
set_option maxRecDepth 100000 in
theorem ow_144 : dp_ow 144 = 5 := by decide +kernel
set_option maxRecDepth 100000 in
theorem mc_144 : dp_mc 144 = 1 := by decide +kernel
set_option maxRecDepth 100000 in
theorem ms_144 : dp_ms 144 = 6 := by decide +kernel
set_option maxRecDepth 100000 in
theorem rk_144 : dp_rk 144 = 1 := by decide +kernel
set_option maxRecDepth 100000 in
theorem mL_144 : dp_mL 144 = 4 := by decide +kernel
set_option maxRecDepth 100000 in
theorem hh_144 : dp_hh 144 = [(0, 9, 12, 13)] := by decide +kernel
set_option maxRecDepth 100000 in
theorem ow_145 : dp_ow 145 = 5 := by decide +kernel
set_option maxRecDepth 100000 in
theorem mc_145 : dp_mc 145 = 2 := by decide +kernel
set_option maxRecDepth 100000 in
theorem ms_145 : dp_ms 145 = 12 := by decide +kernel
set_option maxRecDepth 100000 in
theorem rk_145 : dp_rk 145 = 1 := by decide +kernel
set_option maxRecDepth 100000 in
theorem mL_145 : dp_mL 145 = 5 := by decide +kernel
set_option maxRecDepth 100000 in
theorem hh_145 : dp_hh 145 = [(0, 10, 13, 31), (0, 10, 17, 13)] := by decide +kernel
set_option maxRecDepth 100000 in
theorem ow_146 : dp_ow 146 = 5 := by decide +kernel
set_option maxRecDepth 100000 in
theorem mc_146 : dp_mc 146 = 601024 := by decide +kernel
set_option maxRecDepth 100000 in
theorem ms_146 : dp_ms 146 = 7293034 := by decide +kernel
set_option maxRecDepth 100000 in
theorem rk_146 : dp_rk 146 = 4 := by decide +kernel
set_option maxRecDepth 100000 in
theorem mL_146 : dp_mL 146 = 9 := by decide +kernel
set_option maxRecDepth 100000 in
theorem hh_146 : dp_hh 146 = [] := by decide +kernel
set_option maxRecDepth 100000 in
theorem ti_0_0 : dp_tab 0 0 = (.aload_n 1, 1) := by decide +kernel
set_option maxRecDepth 100000 in
theorem ti_0_1 : dp_tab 0 1 = (.getfield 9, 3) := by decide +kernel
set_option maxRecDepth 100000 in
theorem ti_0_4 : dp_tab 0 4 = (.iconst 0, 1) := by decide +kernel
set_option maxRecDepth 100000 in
theorem ti_0_5 : dp_tab 0 5 = (.aload_n 0, 1) := by decide +kernel
set_option maxRecDepth 100000 in
theorem ti_0_6 : dp_tab 0 6 = (.getfield 9, 3) := by decide +kernel
set_option maxRecDepth 100000 in
theorem ti_0_9 : dp_tab 0 9 = (.iconst 0, 1) := by decide +kernel
set_option maxRecDepth 100000 in
theorem ti_0_10 : dp_tab 0 10 = (.bipush 16, 2) := by decide +kernel
set_option maxRecDepth 100000 in
theorem ti_0_12 : dp_tab 0 12 = (.invokestatic 24, 3) := by decide +kernel
set_option maxRecDepth 100000 in
theorem ti_0_15 : dp_tab 0 15 = (.aload_n 1, 1) := by decide +kernel
set_option maxRecDepth 100000 in
theorem ti_0_16 : dp_tab 0 16 = (.getfield 15, 3) := by decide +kernel
set_option maxRecDepth 100000 in
theorem ti_0_19 : dp_tab 0 19 = (.iconst 0, 1) := by decide +kernel
set_option maxRecDepth 100000 in
theorem ti_0_20 : dp_tab 0 20 = (.aload_n 0, 1) := by decide +kernel
set_option maxRecDepth 100000 in
theorem ti_0_21 : dp_tab 0 21 = (.getfield 15, 3) := by decide +kernel
set_option maxRecDepth 100000 in
theorem ti_0_24 : dp_tab 0 24 = (.iconst 0, 1) := by decide +kernel
set_option maxRecDepth 100000 in
theorem ti_0_25 : dp_tab 0 25 = (.bipush 6, 2) := by decide +kernel
set_option maxRecDepth 100000 in
theorem ti_0_27 : dp_tab 0 27 = (.invokestatic 24, 3) := by decide +kernel
set_option maxRecDepth 100000 in
theorem ti_0_30 : dp_tab 0 30 = (.aload_n 1, 1) := by decide +kernel
set_option maxRecDepth 100000 in
theorem ti_0_31 : dp_tab 0 31 = (.getfield 18, 3) := by decide +kernel
set_option maxRecDepth 100000 in
theorem ti_0_34 : dp_tab 0 34 = (.iconst 0, 1) := by decide +kernel
set_option maxRecDepth 100000 in
theorem ti_0_35 : dp_tab 0 35 = (.aload_n 0, 1) := by decide +kernel
set_option maxRecDepth 100000 in
theorem ti_0_36 : dp_tab 0 36 = (.getfield 18, 3) := by decide +kernel
set_option maxRecDepth 100000 in
theorem ti_0_39 : dp_tab 0 39 = (.iconst 0, 1) := by decide +kernel
set_option maxRecDepth 100000 in
theorem ti_0_40 : dp_tab 0 40 = (.bipush 6, 2) := by decide +kernel
set_option maxRecDepth 100000 in
theorem ti_0_42 : dp_tab 0 42 = (.invokestatic 24, 3) := by decide +kernel
set_option maxRecDepth 100000 in
theorem ti_0_45 : dp_tab 0 45 = (.aload_n 1, 1) := by decide +kernel
set_option maxRecDepth 100000 in
theorem ti_0_46 : dp_tab 0 46 = (.getfield 21, 3) := by decide +kernel
set_option maxRecDepth 100000 in
theorem ti_0_49 : dp_tab 0 49 = (.iconst 0, 1) := by decide +kernel
set_option maxRecDepth 100000 in
theorem ti_0_50 : dp_tab 0 50 = (.aload_n 0, 1) := by decide +kernel
set_option maxRecDepth 100000 in
theorem ti_0_51 : dp_tab 0 51 = (.getfield 21, 3) := by decide +kernel
set_option maxRecDepth 100000 in
theorem ti_0_54 : dp_tab 0 54 = (.iconst 0, 1) := by decide +kernel
set_option maxRecDepth 100000 in
theorem ti_0_55 : dp_tab 0 55 = (.bipush 6, 2) := by decide +kernel
set_option maxRecDepth 100000 in
theorem ti_0_57 : dp_tab 0 57 = (.invokestatic 24, 3) := by decide +kernel
set_option maxRecDepth 100000 in
theorem ti_0_60 : dp_tab 0 60 = (.aload_n 0, 1) := by decide +kernel
set_option maxRecDepth 100000 in
theorem ti_0_61 : dp_tab 0 61 = (.aload_n 1, 1) := by decide +kernel
set_option maxRecDepth 100000 in
theorem ti_0_62 : dp_tab 0 62 = (.getfield 30, 3) := by decide +kernel
set_option maxRecDepth 100000 in
theorem ti_0_65 : dp_tab 0 65 = (.putfield 30, 3) := by decide +kernel
set_option maxRecDepth 100000 in
theorem ti_0_68 : dp_tab 0 68 = (.return_, 1) := by decide +kernel
set_option maxRecDepth 100000 in
theorem ti_1_0 : dp_tab 1 0 = (.aload_n 0, 1) := by decide +kernel
set_option maxRecDepth 100000 in
theorem ti_1_1 : dp_tab 1 1 = (.getfield 21, 3) := by decide +kernel
set_option maxRecDepth 100000 in
theorem ti_1_4 : dp_tab 1 4 = (.iload_n 1, 1) := by decide +kernel
set_option maxRecDepth 100000 in
theorem ti_1_5 : dp_tab 1 5 = (.iaload, 1) := by decide +kernel
set_option maxRecDepth 100000 in
theorem ti_1_6 : dp_tab 1 6 = (.iload_n 2, 1) := by decide +kernel
set_option maxRecDepth 100000 in
theorem ti_1_7 : dp_tab 1 7 = (.ishr, 1) := by decide +kernel
set_option maxRecDepth 100000 in
theorem ti_1_8 : dp_tab 1 8 = (.iconst 1, 1) := by decide +kernel
set_option maxRecDepth 100000 in
theorem ti_1_9 : dp_tab 1 9 = (.iand, 1) := by decide +kernel
set_option maxRecDepth 100000 in
theorem ti_1_10 : dp_tab 1 10 = (.iconst 1, 1) := by decide +kernel
set_option maxRecDepth 100000 in
theorem ti_1_11 : dp_tab 1 11 = (.if_icmp .ne 7, 3) := by decide +kernel
set_option maxRecDepth 100000 in
theorem ti_1_14 : dp_tab 1 14 = (.iconst 1, 1) := by decide +kernel
set_option maxRecDepth 100000 in
theorem ti_1_15 : dp_tab 1 15 = (.goto 4, 3) := by decide +kernel
set_option maxRecDepth 100000 in
theorem ti_1_18 : dp_tab 1 18 = (.iconst 0, 1) := by decide +kernel
set_option maxRecDepth 100000 in
theorem ti_1_19 : dp_tab 1 19 = (.ireturn, 1) := by decide +kernel
set_option maxRecDepth 100000 in
theorem ti_2_0 : dp_tab 2 0 = (.aload_n 0, 1) := by decide +kernel
set_option maxRecDepth 100000 in
theorem ti_2_1 : dp_tab 2 1 = (.getfield 15, 3) := by decide +kernel
set_option maxRecDepth 100000 in
theorem ti_2_4 : dp_tab 2 4 = (.iload_n 1, 1) := by decide +kernel
set_option maxRecDepth 100000 in
theorem ti_2_5 : dp_tab 2 5 = (.dup2, 1) := by decide +kernel
set_option maxRecDepth 100000 in
theorem ti_2_6 : dp_tab 2 6 = (.iaload, 1) := by decide +kernel
set_option maxRecDepth 100000 in
theorem ti_2_7 : dp_tab 2 7 = (.iload_n 3, 1) := by decide +kernel
set_option maxRecDepth 100000 in
theorem ti_2_8 : dp_tab 2 8 = (.isub, 1) := by decide +kernel
set_option maxRecDepth 100000 in
theorem ti_2_9 : dp_tab 2 9 = (.iastore, 1) := by decide +kernel
set_option maxRecDepth 100000 in
theorem ti_2_10 : dp_tab 2 10 = (.aload_n 0, 1) := by decide +kernel
set_option maxRecDepth 100000 in
theorem ti_2_11 : dp_tab 2 11 = (.getfield 18, 3) := by decide +kernel
set_option maxRecDepth 100000 in
theorem ti_2_14 : dp_tab 2 14 = (.iload_n 1, 1) := by decide +kernel
set_option maxRecDepth 100000 in
theorem ti_2_15 : dp_tab 2 15 = (.dup2, 1) := by decide +kernel
set_option maxRecDepth 100000 in
theorem ti_2_16 : dp_tab 2 16 = (.iaload, 1) := by decide +kernel
set_option maxRecDepth 100000 in
theorem ti_2_17 : dp_tab 2 17 = (.iload_n 3, 1) := by decide +kernel
set_option maxRecDepth 100000 in
theorem ti_2_18 : dp_tab 2 18 = (.iadd, 1) := by decide +kernel
set_option maxRecDepth 100000 in
theorem ti_2_19 : dp_tab 2 19 = (.iastore, 1) := by decide +kernel
set_option maxRecDepth 100000 in
theorem ti_2_20 : dp_tab 2 20 = (.aload_n 0, 1) := by decide +kernel
set_option maxRecDepth 100000 in
theorem ti_2_21 : dp_tab 2 21 = (.getfield 21, 3) := by decide +kernel
set_option maxRecDepth 100000 in
theorem ti_2_24 : dp_tab 2 24 = (.iload_n 1, 1) := by decide +kernel
set_option maxRecDepth 100000 in
theorem ti_2_25 : dp_tab 2 25 = (.dup2, 1) := by decide +kernel
set_option maxRecDepth 100000 in
theorem ti_2_26 : dp_tab 2 26 = (.iaload, 1) := by decide +kernel
set_option maxRecDepth 100000 in
theorem ti_2_27 : dp_tab 2 27 = (.iconst 1, 1) := by decide +kernel
set_option maxRecDepth 100000 in
theorem ti_2_28 : dp_tab 2 28 = (.iload_n 2, 1) := by decide +kernel
set_option maxRecDepth 100000 in
theorem ti_2_29 : dp_tab 2 29 = (.ishl, 1) := by decide +kernel
set_option maxRecDepth 100000 in
theorem ti_2_30 : dp_tab 2 30 = (.ior, 1) := by decide +kernel
set_option maxRecDepth 100000 in
theorem ti_2_31 : dp_tab 2 31 = (.iastore, 1) := by decide +kernel
set_option maxRecDepth 100000 in
theorem ti_2_32 : dp_tab 2 32 = (.return_, 1) := by decide +kernel
set_option maxRecDepth 100000 in
theorem ti_3_0 : dp_tab 3 0 = (.iconst 0, 1) := by decide +kernel
set_option maxRecDepth 100000 in
theorem ti_3_1 : dp_tab 3 1 = (.istore_n 2, 1) := by decide +kernel
set_option maxRecDepth 100000 in
theorem ti_3_2 : dp_tab 3 2 = (.iload_n 2, 1) := by decide +kernel
set_option maxRecDepth 100000 in
theorem ti_3_3 : dp_tab 3 3 = (.iload_n 1, 1) := by decide +kernel
set_option maxRecDepth 100000 in
theorem ti_3_4 : dp_tab 3 4 = (.if_icmp .ge 19, 3) := by decide +kernel
set_option maxRecDepth 100000 in
theorem ti_3_7 : dp_tab 3 7 = (.aload_n 0, 1) := by decide +kernel
set_option maxRecDepth 100000 in
theorem ti_3_8 : dp_tab 3 8 = (.getfield 9, 3) := by decide +kernel
set_option maxRecDepth 100000 in
theorem ti_3_11 : dp_tab 3 11 = (.iload_n 2, 1) := by decide +kernel
set_option maxRecDepth 100000 in
theorem ti_3_12 : dp_tab 3 12 = (.dup2, 1) := by decide +kernel
set_option maxRecDepth 100000 in
theorem ti_3_13 : dp_tab 3 13 = (.iaload, 1) := by decide +kernel
set_option maxRecDepth 100000 in
theorem ti_3_14 : dp_tab 3 14 = (.iconst 1, 1) := by decide +kernel
set_option maxRecDepth 100000 in
theorem ti_3_15 : dp_tab 3 15 = (.iadd, 1) := by decide +kernel
set_option maxRecDepth 100000 in
theorem ti_3_16 : dp_tab 3 16 = (.iastore, 1) := by decide +kernel
set_option maxRecDepth 100000 in
theorem ti_3_17 : dp_tab 3 17 = (.iinc 2 1, 3) := by decide +kernel
set_option maxRecDepth 100000 in
theorem ti_3_20 : dp_tab 3 20 = (.goto (-18), 3) := by decide +kernel
set_option maxRecDepth 100000 in
theorem ti_3_23 : dp_tab 3 23 = (.aload_n 0, 1) := by decide +kernel
set_option maxRecDepth 100000 in
theorem ti_3_24 : dp_tab 3 24 = (.dup, 1) := by decide +kernel
set_option maxRecDepth 100000 in
theorem ti_3_25 : dp_tab 3 25 = (.getfield 30, 3) := by decide +kernel
set_option maxRecDepth 100000 in
theorem ti_3_28 : dp_tab 3 28 = (.iconst 1, 1) := by decide +kernel
set_option maxRecDepth 100000 in
theorem ti_3_29 : dp_tab 3 29 = (.iadd, 1) := by decide +kernel
set_option maxRecDepth 100000 in
theorem ti_3_30 : dp_tab 3 30 = (.putfield 30, 3) := by decide +kernel
set_option maxRecDepth 100000 in
theorem ti_3_33 : dp_tab 3 33 = (.return_, 1) := by decide +kernel
set_option maxRecDepth 100000 in
theorem ti_4_0 : dp_tab 4 0 = (.iconst 0, 1) := by decide +kernel
set_option maxRecDepth 100000 in
theorem ti_4_1 : dp_tab 4 1 = (.istore_n 2, 1) := by decide +kernel
set_option maxRecDepth 100000 in
theorem ti_4_2 : dp_tab 4 2 = (.iconst 0, 1) := by decide +kernel
set_option maxRecDepth 100000 in
theorem ti_4_3 : dp_tab 4 3 = (.istore_n 3, 1) := by decide +kernel
set_option maxRecDepth 100000 in
theorem ti_4_4 : dp_tab 4 4 = (.iload_n 3, 1) := by decide +kernel
set_option maxRecDepth 100000 in
theorem ti_4_5 : dp_tab 4 5 = (.bipush 6, 2) := by decide +kernel
set_option maxRecDepth 100000 in
theorem ti_4_7 : dp_tab 4 7 = (.if_icmp .ge 21, 3) := by decide +kernel
set_option maxRecDepth 100000 in
theorem ti_4_10 : dp_tab 4 10 = (.aload_n 0, 1) := by decide +kernel
set_option maxRecDepth 100000 in
theorem ti_4_11 : dp_tab 4 11 = (.iload_n 3, 1) := by decide +kernel
set_option maxRecDepth 100000 in
theorem ti_4_12 : dp_tab 4 12 = (.iload_n 1, 1) := by decide +kernel
set_option maxRecDepth 100000 in
theorem ti_4_13 : dp_tab 4 13 = (.invokevirtual 34, 3) := by decide +kernel
set_option maxRecDepth 100000 in
theorem ti_4_16 : dp_tab 4 16 = (.ifCond .eq 6, 3) := by decide +kernel
set_option maxRecDepth 100000 in
theorem ti_4_19 : dp_tab 4 19 = (.iinc 2 1, 3) := by decide +kernel
set_option maxRecDepth 100000 in
theorem ti_4_22 : dp_tab 4 22 = (.iinc 3 1, 3) := by decide +kernel
set_option maxRecDepth 100000 in
theorem ti_4_25 : dp_tab 4 25 = (.goto (-21), 3) := by decide +kernel
set_option maxRecDepth 100000 in
theorem ti_4_28 : dp_tab 4 28 = (.iload_n 2, 1) := by decide +kernel
set_option maxRecDepth 100000 in
theorem ti_4_29 : dp_tab 4 29 = (.ireturn, 1) := by decide +kernel
set_option maxRecDepth 100000 in
theorem ti_5_0 : dp_tab 5 0 = (.iconst 0, 1) := by decide +kernel
set_option maxRecDepth 100000 in
theorem ti_5_1 : dp_tab 5 1 = (.istore_n 1, 1) := by decide +kernel
set_option maxRecDepth 100000 in
theorem ti_5_2 : dp_tab 5 2 = (.iconst 0, 1) := by decide +kernel
set_option maxRecDepth 100000 in
theorem ti_5_3 : dp_tab 5 3 = (.istore_n 2, 1) := by decide +kernel
set_option maxRecDepth 100000 in
theorem ti_5_4 : dp_tab 5 4 = (.iload_n 2, 1) := by decide +kernel
set_option maxRecDepth 100000 in
theorem ti_5_5 : dp_tab 5 5 = (.bipush 6, 2) := by decide +kernel
set_option maxRecDepth 100000 in
theorem ti_5_7 : dp_tab 5 7 = (.if_icmp .ge 21, 3) := by decide +kernel
set_option maxRecDepth 100000 in
theorem ti_5_10 : dp_tab 5 10 = (.iload_n 1, 1) := by decide +kernel
set_option maxRecDepth 100000 in
theorem ti_5_11 : dp_tab 5 11 = (.aload_n 0, 1) := by decide +kernel
set_option maxRecDepth 100000 in
theorem ti_5_12 : dp_tab 5 12 = (.getfield 21, 3) := by decide +kernel
set_option maxRecDepth 100000 in
theorem ti_5_15 : dp_tab 5 15 = (.iload_n 2, 1) := by decide +kernel
set_option maxRecDepth 100000 in
theorem ti_5_16 : dp_tab 5 16 = (.iaload, 1) := by decide +kernel
set_option maxRecDepth 100000 in
theorem ti_5_17 : dp_tab 5 17 = (.invokestatic 38, 3) := by decide +kernel
set_option maxRecDepth 100000 in
theorem ti_5_20 : dp_tab 5 20 = (.iadd, 1) := by decide +kernel
set_option maxRecDepth 100000 in
theorem ti_5_21 : dp_tab 5 21 = (.istore_n 1, 1) := by decide +kernel
set_option maxRecDepth 100000 in
theorem ti_5_22 : dp_tab 5 22 = (.iinc 2 1, 3) := by decide +kernel
set_option maxRecDepth 100000 in
theorem ti_5_25 : dp_tab 5 25 = (.goto (-21), 3) := by decide +kernel
set_option maxRecDepth 100000 in
theorem ti_5_28 : dp_tab 5 28 = (.iload_n 1, 1) := by decide +kernel
set_option maxRecDepth 100000 in
theorem ti_5_29 : dp_tab 5 29 = (.ireturn, 1) := by decide +kernel
set_option maxRecDepth 100000 in
theorem ti_6_0 : dp_tab 6 0 = (.iconst 0, 1) := by decide +kernel
set_option maxRecDepth 100000 in
theorem ti_6_1 : dp_tab 6 1 = (.istore_n 1, 1) := by decide +kernel
set_option maxRecDepth 100000 in
theorem ti_6_2 : dp_tab 6 2 = (.iconst 0, 1) := by decide +kernel
set_option maxRecDepth 100000 in
theorem ti_6_3 : dp_tab 6 3 = (.istore_n 2, 1) := by decide +kernel
set_option maxRecDepth 100000 in
theorem ti_6_4 : dp_tab 6 4 = (.iload_n 2, 1) := by decide +kernel
set_option maxRecDepth 100000 in
theorem ti_6_5 : dp_tab 6 5 = (.bipush 6, 2) := by decide +kernel
set_option maxRecDepth 100000 in
theorem ti_6_7 : dp_tab 6 7 = (.if_icmp .ge 18, 3) := by decide +kernel
set_option maxRecDepth 100000 in
theorem ti_6_10 : dp_tab 6 10 = (.iload_n 1, 1) := by decide +kernel
set_option maxRecDepth 100000 in
theorem ti_6_11 : dp_tab 6 11 = (.aload_n 0, 1) := by decide +kernel
set_option maxRecDepth 100000 in
theorem ti_6_12 : dp_tab 6 12 = (.getfield 18, 3) := by decide +kernel
set_option maxRecDepth 100000 in
theorem ti_6_15 : dp_tab 6 15 = (.iload_n 2, 1) := by decide +kernel
set_option maxRecDepth 100000 in
theorem ti_6_16 : dp_tab 6 16 = (.iaload, 1) := by decide +kernel
set_option maxRecDepth 100000 in
theorem ti_6_17 : dp_tab 6 17 = (.iadd, 1) := by decide +kernel
set_option maxRecDepth 100000 in
theorem ti_6_18 : dp_tab 6 18 = (.istore_n 1, 1) := by decide +kernel
set_option maxRecDepth 100000 in
theorem ti_6_19 : dp_tab 6 19 = (.iinc 2 1, 3) := by decide +kernel
set_option maxRecDepth 100000 in
theorem ti_6_22 : dp_tab 6 22 = (.goto (-18), 3) := by decide +kernel
set_option maxRecDepth 100000 in
theorem ti_6_25 : dp_tab 6 25 = (.iload_n 1, 1) := by decide +kernel
set_option maxRecDepth 100000 in
theorem ti_6_26 : dp_tab 6 26 = (.ireturn, 1) := by decide +kernel
set_option maxRecDepth 100000 in
theorem ti_7_0 : dp_tab 7 0 = (.iconst 0, 1) := by decide +kernel
set_option maxRecDepth 100000 in
theorem ti_7_1 : dp_tab 7 1 = (.istore_n 3, 1) := by decide +kernel
set_option maxRecDepth 100000 in
theorem ti_7_2 : dp_tab 7 2 = (.iload_n 3, 1) := by decide +kernel
set_option maxRecDepth 100000 in
theorem ti_7_3 : dp_tab 7 3 = (.aload_n 0, 1) := by decide +kernel
set_option maxRecDepth 100000 in
theorem ti_7_4 : dp_tab 7 4 = (.getfield 16, 3) := by decide +kernel
set_option maxRecDepth 100000 in
theorem ti_7_7 : dp_tab 7 7 = (.iload_n 1, 1) := by decide +kernel
set_option maxRecDepth 100000 in
theorem ti_7_8 : dp_tab 7 8 = (.iaload, 1) := by decide +kernel
set_option maxRecDepth 100000 in
theorem ti_7_9 : dp_tab 7 9 = (.if_icmp .ge 23, 3) := by decide +kernel
set_option maxRecDepth 100000 in
theorem ti_7_12 : dp_tab 7 12 = (.aload_n 0, 1) := by decide +kernel
set_option maxRecDepth 100000 in
theorem ti_7_13 : dp_tab 7 13 = (.getfield 11, 3) := by decide +kernel
set_option maxRecDepth 100000 in
theorem ti_7_16 : dp_tab 7 16 = (.iload_n 1, 1) := by decide +kernel
set_option maxRecDepth 100000 in
theorem ti_7_17 : dp_tab 7 17 = (.aaload, 1) := by decide +kernel
set_option maxRecDepth 100000 in
theorem ti_7_18 : dp_tab 7 18 = (.iload_n 3, 1) := by decide +kernel
set_option maxRecDepth 100000 in
theorem ti_7_19 : dp_tab 7 19 = (.iaload, 1) := by decide +kernel
set_option maxRecDepth 100000 in
theorem ti_7_20 : dp_tab 7 20 = (.iload_n 2, 1) := by decide +kernel
set_option maxRecDepth 100000 in
theorem ti_7_21 : dp_tab 7 21 = (.if_icmp .ne 5, 3) := by decide +kernel
set_option maxRecDepth 100000 in
theorem ti_7_24 : dp_tab 7 24 = (.iload_n 3, 1) := by decide +kernel
set_option maxRecDepth 100000 in
theorem ti_7_25 : dp_tab 7 25 = (.ireturn, 1) := by decide +kernel
set_option maxRecDepth 100000 in
theorem ti_7_26 : dp_tab 7 26 = (.iinc 3 1, 3) := by decide +kernel
set_option maxRecDepth 100000 in
theorem ti_7_29 : dp_tab 7 29 = (.goto (-27), 3) := by decide +kernel
set_option maxRecDepth 100000 in
theorem ti_7_32 : dp_tab 7 32 = (.iconst (-1), 1) := by decide +kernel
set_option maxRecDepth 100000 in
theorem ti_7_33 : dp_tab 7 33 = (.ireturn, 1) := by decide +kernel
set_option maxRecDepth 100000 in
theorem ti_8_0 : dp_tab 8 0 = (.aload_n 0, 1) := by decide +kernel
set_option maxRecDepth 100000 in
theorem ti_8_1 : dp_tab 8 1 = (.getfield 26, 3) := by decide +kernel
set_option maxRecDepth 100000 in
theorem ti_8_4 : dp_tab 8 4 = (.iconst 0, 1) := by decide +kernel
set_option maxRecDepth 100000 in
theorem ti_8_5 : dp_tab 8 5 = (.invokestatic 29, 3) := by decide +kernel
set_option maxRecDepth 100000 in
theorem ti_8_8 : dp_tab 8 8 = (.iconst 0, 1) := by decide +kernel
set_option maxRecDepth 100000 in
theorem ti_8_9 : dp_tab 8 9 = (.istore_n 1, 1) := by decide +kernel
set_option maxRecDepth 100000 in
theorem ti_8_10 : dp_tab 8 10 = (.iload_n 1, 1) := by decide +kernel
set_option maxRecDepth 100000 in
theorem ti_8_11 : dp_tab 8 11 = (.aload_n 0, 1) := by decide +kernel
set_option maxRecDepth 100000 in
theorem ti_8_12 : dp_tab 8 12 = (.getfield 35, 3) := by decide +kernel
set_option maxRecDepth 100000 in
theorem ti_8_15 : dp_tab 8 15 = (.if_icmp .ge 14, 3) := by decide +kernel
set_option maxRecDepth 100000 in
theorem ti_8_18 : dp_tab 8 18 = (.aload_n 0, 1) := by decide +kernel
set_option maxRecDepth 100000 in
theorem ti_8_19 : dp_tab 8 19 = (.iload_n 1, 1) := by decide +kernel
set_option maxRecDepth 100000 in
theorem ti_8_20 : dp_tab 8 20 = (.invokevirtual 39, 3) := by decide +kernel
set_option maxRecDepth 100000 in
theorem ti_8_23 : dp_tab 8 23 = (.iinc 1 1, 3) := by decide +kernel
set_option maxRecDepth 100000 in
theorem ti_8_26 : dp_tab 8 26 = (.goto (-16), 3) := by decide +kernel
set_option maxRecDepth 100000 in
theorem ti_8_29 : dp_tab 8 29 = (.return_, 1) := by decide +kernel
set_option maxRecDepth 100000 in
theorem ti_9_0 : dp_tab 9 0 = (.aload_n 0, 1) := by decide +kernel
set_option maxRecDepth 100000 in
theorem ti_9_1 : dp_tab 9 1 = (.getfield 23, 3) := by decide +kernel
set_option maxRecDepth 100000 in
theorem ti_9_4 : dp_tab 9 4 = (.iload_n 1, 1) := by decide +kernel
set_option maxRecDepth 100000 in
theorem ti_9_5 : dp_tab 9 5 = (.aaload, 1) := by decide +kernel
set_option maxRecDepth 100000 in
theorem ti_9_6 : dp_tab 9 6 = (.astore_n 2, 1) := by decide +kernel
set_option maxRecDepth 100000 in
theorem ti_9_7 : dp_tab 9 7 = (.aload_n 2, 1) := by decide +kernel
set_option maxRecDepth 100000 in
theorem ti_9_8 : dp_tab 9 8 = (.iconst 0, 1) := by decide +kernel
set_option maxRecDepth 100000 in
theorem ti_9_9 : dp_tab 9 9 = (.invokestatic 29, 3) := by decide +kernel
set_option maxRecDepth 100000 in
theorem ti_9_12 : dp_tab 9 12 = (.iconst 0, 1) := by decide +kernel
set_option maxRecDepth 100000 in
theorem ti_9_13 : dp_tab 9 13 = (.istore_n 3, 1) := by decide +kernel
set_option maxRecDepth 100000 in
theorem ti_9_14 : dp_tab 9 14 = (.iload_n 3, 1) := by decide +kernel
set_option maxRecDepth 100000 in
theorem ti_9_15 : dp_tab 9 15 = (.aload_n 0, 1) := by decide +kernel
set_option maxRecDepth 100000 in
theorem ti_9_16 : dp_tab 9 16 = (.getfield 20, 3) := by decide +kernel
set_option maxRecDepth 100000 in
theorem ti_9_19 : dp_tab 9 19 = (.iload_n 1, 1) := by decide +kernel
set_option maxRecDepth 100000 in
theorem ti_9_20 : dp_tab 9 20 = (.iaload, 1) := by decide +kernel
set_option maxRecDepth 100000 in
theorem ti_9_21 : dp_tab 9 21 = (.if_icmp .ge 43, 3) := by decide +kernel
set_option maxRecDepth 100000 in
theorem ti_9_24 : dp_tab 9 24 = (.aload_n 0, 1) := by decide +kernel
set_option maxRecDepth 100000 in
theorem ti_9_25 : dp_tab 9 25 = (.aload_n 0, 1) := by decide +kernel
set_option maxRecDepth 100000 in
theorem ti_9_26 : dp_tab 9 26 = (.getfield 17, 3) := by decide +kernel
set_option maxRecDepth 100000 in
theorem ti_9_29 : dp_tab 9 29 = (.iload_n 1, 1) := by decide +kernel
set_option maxRecDepth 100000 in
theorem ti_9_30 : dp_tab 9 30 = (.aaload, 1) := by decide +kernel
set_option maxRecDepth 100000 in
theorem ti_9_31 : dp_tab 9 31 = (.iload_n 3, 1) := by decide +kernel
set_option maxRecDepth 100000 in
theorem ti_9_32 : dp_tab 9 32 = (.iaload, 1) := by decide +kernel
set_option maxRecDepth 100000 in
theorem ti_9_33 : dp_tab 9 33 = (.invokevirtual 43, 3) := by decide +kernel
set_option maxRecDepth 100000 in
theorem ti_9_36 : dp_tab 9 36 = (.istore 4, 2) := by decide +kernel
set_option maxRecDepth 100000 in
theorem ti_9_38 : dp_tab 9 38 = (.iload 4, 2) := by decide +kernel
set_option maxRecDepth 100000 in
theorem ti_9_40 : dp_tab 9 40 = (.ifCond .lt 18, 3) := by decide +kernel
set_option maxRecDepth 100000 in
theorem ti_9_43 : dp_tab 9 43 = (.iload 4, 2) := by decide +kernel
set_option maxRecDepth 100000 in
theorem ti_9_45 : dp_tab 9 45 = (.bipush 20, 2) := by decide +kernel
set_option maxRecDepth 100000 in
theorem ti_9_47 : dp_tab 9 47 = (.if_icmp .ge 11, 3) := by decide +kernel
set_option maxRecDepth 100000 in
theorem ti_9_50 : dp_tab 9 50 = (.aload_n 2, 1) := by decide +kernel
set_option maxRecDepth 100000 in
theorem ti_9_51 : dp_tab 9 51 = (.iload 4, 2) := by decide +kernel
set_option maxRecDepth 100000 in
theorem ti_9_53 : dp_tab 9 53 = (.dup2, 1) := by decide +kernel
set_option maxRecDepth 100000 in
theorem ti_9_54 : dp_tab 9 54 = (.iaload, 1) := by decide +kernel
set_option maxRecDepth 100000 in
theorem ti_9_55 : dp_tab 9 55 = (.iconst 1, 1) := by decide +kernel
set_option maxRecDepth 100000 in
theorem ti_9_56 : dp_tab 9 56 = (.iadd, 1) := by decide +kernel
set_option maxRecDepth 100000 in
theorem ti_9_57 : dp_tab 9 57 = (.iastore, 1) := by decide +kernel
set_option maxRecDepth 100000 in
theorem ti_9_58 : dp_tab 9 58 = (.iinc 3 1, 3) := by decide +kernel
set_option maxRecDepth 100000 in
theorem ti_9_61 : dp_tab 9 61 = (.goto (-47), 3) := by decide +kernel
set_option maxRecDepth 100000 in
theorem ti_9_64 : dp_tab 9 64 = (.iconst 0, 1) := by decide +kernel
set_option maxRecDepth 100000 in
theorem ti_9_65 : dp_tab 9 65 = (.istore_n 3, 1) := by decide +kernel
set_option maxRecDepth 100000 in
theorem ti_9_66 : dp_tab 9 66 = (.iload_n 3, 1) := by decide +kernel
set_option maxRecDepth 100000 in
theorem ti_9_67 : dp_tab 9 67 = (.bipush 20, 2) := by decide +kernel
set_option maxRecDepth 100000 in
theorem ti_9_69 : dp_tab 9 69 = (.if_icmp .ge 25, 3) := by decide +kernel
set_option maxRecDepth 100000 in
theorem ti_9_72 : dp_tab 9 72 = (.aload_n 2, 1) := by decide +kernel
set_option maxRecDepth 100000 in
theorem ti_9_73 : dp_tab 9 73 = (.iload_n 3, 1) := by decide +kernel
set_option maxRecDepth 100000 in
theorem ti_9_74 : dp_tab 9 74 = (.iaload, 1) := by decide +kernel
set_option maxRecDepth 100000 in
theorem ti_9_75 : dp_tab 9 75 = (.ifCond .le 13, 3) := by decide +kernel
set_option maxRecDepth 100000 in
theorem ti_9_78 : dp_tab 9 78 = (.aload_n 0, 1) := by decide +kernel
set_option maxRecDepth 100000 in
theorem ti_9_79 : dp_tab 9 79 = (.getfield 26, 3) := by decide +kernel
set_option maxRecDepth 100000 in
theorem ti_9_82 : dp_tab 9 82 = (.iload_n 3, 1) := by decide +kernel
set_option maxRecDepth 100000 in
theorem ti_9_83 : dp_tab 9 83 = (.dup2, 1) := by decide +kernel
set_option maxRecDepth 100000 in
theorem ti_9_84 : dp_tab 9 84 = (.iaload, 1) := by decide +kernel
set_option maxRecDepth 100000 in
theorem ti_9_85 : dp_tab 9 85 = (.iconst 1, 1) := by decide +kernel
set_option maxRecDepth 100000 in
theorem ti_9_86 : dp_tab 9 86 = (.iadd, 1) := by decide +kernel
set_option maxRecDepth 100000 in
theorem ti_9_87 : dp_tab 9 87 = (.iastore, 1) := by decide +kernel
set_option maxRecDepth 100000 in
theorem ti_9_88 : dp_tab 9 88 = (.iinc 3 1, 3) := by decide +kernel
set_option maxRecDepth 100000 in
theorem ti_9_91 : dp_tab 9 91 = (.goto (-25), 3) := by decide +kernel
set_option maxRecDepth 100000 in
theorem ti_9_94 : dp_tab 9 94 = (.return_, 1) := by decide +kernel
set_option maxRecDepth 100000 in
theorem ti_10_0 : dp_tab 10 0 = (.iload_n 1, 1) := by decide +kernel
set_option maxRecDepth 100000 in
theorem ti_10_1 : dp_tab 10 1 = (.ifCond .lt 9, 3) := by decide +kernel
set_option maxRecDepth 100000 in
theorem ti_10_4 : dp_tab 10 4 = (.iload_n 1, 1) := by decide +kernel
set_option maxRecDepth 100000 in
theorem ti_10_5 : dp_tab 10 5 = (.bipush 40, 2) := by decide +kernel
set_option maxRecDepth 100000 in
theorem ti_10_7 : dp_tab 10 7 = (.if_icmp .lt 7, 3) := by decide +kernel
set_option maxRecDepth 100000 in
theorem ti_10_10 : dp_tab 10 10 = (.iconst (-1), 1) := by decide +kernel
set_option maxRecDepth 100000 in
theorem ti_10_11 : dp_tab 10 11 = (.goto 9, 3) := by decide +kernel
set_option maxRecDepth 100000 in
theorem ti_10_14 : dp_tab 10 14 = (.aload_n 0, 1) := by decide +kernel
set_option maxRecDepth 100000 in
theorem ti_10_15 : dp_tab 10 15 = (.getfield 9, 3) := by decide +kernel
set_option maxRecDepth 100000 in
theorem ti_10_18 : dp_tab 10 18 = (.iload_n 1, 1) := by decide +kernel
set_option maxRecDepth 100000 in
theorem ti_10_19 : dp_tab 10 19 = (.iaload, 1) := by decide +kernel
set_option maxRecDepth 100000 in
theorem ti_10_20 : dp_tab 10 20 = (.ireturn, 1) := by decide +kernel
set_option maxRecDepth 100000 in
theorem ti_11_0 : dp_tab 11 0 = (.iload_n 1, 1) := by decide +kernel
set_option maxRecDepth 100000 in
theorem ti_11_1 : dp_tab 11 1 = (.ifCond .lt 9, 3) := by decide +kernel
set_option maxRecDepth 100000 in
theorem ti_11_4 : dp_tab 11 4 = (.iload_n 1, 1) := by decide +kernel
set_option maxRecDepth 100000 in
theorem ti_11_5 : dp_tab 11 5 = (.bipush 20, 2) := by decide +kernel
set_option maxRecDepth 100000 in
theorem ti_11_7 : dp_tab 11 7 = (.if_icmp .lt 7, 3) := by decide +kernel
set_option maxRecDepth 100000 in
theorem ti_11_10 : dp_tab 11 10 = (.iconst 0, 1) := by decide +kernel
set_option maxRecDepth 100000 in
theorem ti_11_11 : dp_tab 11 11 = (.goto 9, 3) := by decide +kernel
set_option maxRecDepth 100000 in
theorem ti_11_14 : dp_tab 11 14 = (.aload_n 0, 1) := by decide +kernel
set_option maxRecDepth 100000 in
theorem ti_11_15 : dp_tab 11 15 = (.getfield 26, 3) := by decide +kernel
set_option maxRecDepth 100000 in
theorem ti_11_18 : dp_tab 11 18 = (.iload_n 1, 1) := by decide +kernel
set_option maxRecDepth 100000 in
theorem ti_11_19 : dp_tab 11 19 = (.iaload, 1) := by decide +kernel
set_option maxRecDepth 100000 in
theorem ti_11_20 : dp_tab 11 20 = (.istore_n 2, 1) := by decide +kernel
set_option maxRecDepth 100000 in
theorem ti_11_21 : dp_tab 11 21 = (.bipush 10, 2) := by decide +kernel
set_option maxRecDepth 100000 in
theorem ti_11_23 : dp_tab 11 23 = (.aload_n 0, 1) := by decide +kernel
set_option maxRecDepth 100000 in
theorem ti_11_24 : dp_tab 11 24 = (.getfield 35, 3) := by decide +kernel
set_option maxRecDepth 100000 in
theorem ti_11_27 : dp_tab 11 27 = (.iconst 1, 1) := by decide +kernel
set_option maxRecDepth 100000 in
theorem ti_11_28 : dp_tab 11 28 = (.iadd, 1) := by decide +kernel
set_option maxRecDepth 100000 in
theorem ti_11_29 : dp_tab 11 29 = (.imul, 1) := by decide +kernel
set_option maxRecDepth 100000 in
theorem ti_11_30 : dp_tab 11 30 = (.iload_n 2, 1) := by decide +kernel
set_option maxRecDepth 100000 in
theorem ti_11_31 : dp_tab 11 31 = (.iconst 1, 1) := by decide +kernel
set_option maxRecDepth 100000 in
theorem ti_11_32 : dp_tab 11 32 = (.iadd, 1) := by decide +kernel
set_option maxRecDepth 100000 in
theorem ti_11_33 : dp_tab 11 33 = (.idiv, 1) := by decide +kernel
set_option maxRecDepth 100000 in
theorem ti_11_34 : dp_tab 11 34 = (.ireturn, 1) := by decide +kernel
set_option maxRecDepth 100000 in
theorem ti_12_0 : dp_tab 12 0 = (.iload_n 2, 1) := by decide +kernel
set_option maxRecDepth 100000 in
theorem ti_12_1 : dp_tab 12 1 = (.ifCond .lt 9, 3) := by decide +kernel
set_option maxRecDepth 100000 in
theorem ti_12_4 : dp_tab 12 4 = (.iload_n 2, 1) := by decide +kernel
set_option maxRecDepth 100000 in
theorem ti_12_5 : dp_tab 12 5 = (.bipush 20, 2) := by decide +kernel
set_option maxRecDepth 100000 in
theorem ti_12_7 : dp_tab 12 7 = (.if_icmp .lt 7, 3) := by decide +kernel
set_option maxRecDepth 100000 in
theorem ti_12_10 : dp_tab 12 10 = (.iconst 0, 1) := by decide +kernel
set_option maxRecDepth 100000 in
theorem ti_12_11 : dp_tab 12 11 = (.goto 11, 3) := by decide +kernel
set_option maxRecDepth 100000 in
theorem ti_12_14 : dp_tab 12 14 = (.aload_n 0, 1) := by decide +kernel
set_option maxRecDepth 100000 in
theorem ti_12_15 : dp_tab 12 15 = (.getfield 23, 3) := by decide +kernel
set_option maxRecDepth 100000 in
theorem ti_12_18 : dp_tab 12 18 = (.iload_n 1, 1) := by decide +kernel
set_option maxRecDepth 100000 in
theorem ti_12_19 : dp_tab 12 19 = (.aaload, 1) := by decide +kernel
set_option maxRecDepth 100000 in
theorem ti_12_20 : dp_tab 12 20 = (.iload_n 2, 1) := by decide +kernel
set_option maxRecDepth 100000 in
theorem ti_12_21 : dp_tab 12 21 = (.iaload, 1) := by decide +kernel
set_option maxRecDepth 100000 in
theorem ti_12_22 : dp_tab 12 22 = (.ireturn, 1) := by decide +kernel
set_option maxRecDepth 100000 in
theorem ti_13_0 : dp_tab 13 0 = (.iconst 0, 1) := by decide +kernel
set_option maxRecDepth 100000 in
theorem ti_13_1 : dp_tab 13 1 = (.istore 5, 2) := by decide +kernel
set_option maxRecDepth 100000 in
theorem ti_13_3 : dp_tab 13 3 = (.iconst 0, 1) := by decide +kernel
set_option maxRecDepth 100000 in
theorem ti_13_4 : dp_tab 13 4 = (.istore 6, 2) := by decide +kernel
set_option maxRecDepth 100000 in
theorem ti_13_6 : dp_tab 13 6 = (.iconst 0, 1) := by decide +kernel
set_option maxRecDepth 100000 in
theorem ti_13_7 : dp_tab 13 7 = (.istore 7, 2) := by decide +kernel
set_option maxRecDepth 100000 in
theorem ti_13_9 : dp_tab 13 9 = (.iload 7, 2) := by decide +kernel
set_option maxRecDepth 100000 in
theorem ti_13_11 : dp_tab 13 11 = (.iload_n 3, 1) := by decide +kernel
set_option maxRecDepth 100000 in
theorem ti_13_12 : dp_tab 13 12 = (.if_icmp .ge 48, 3) := by decide +kernel
set_option maxRecDepth 100000 in
theorem ti_13_15 : dp_tab 13 15 = (.aload_n 0, 1) := by decide +kernel
set_option maxRecDepth 100000 in
theorem ti_13_16 : dp_tab 13 16 = (.iload_n 1, 1) := by decide +kernel
set_option maxRecDepth 100000 in
theorem ti_13_17 : dp_tab 13 17 = (.aload_n 2, 1) := by decide +kernel
set_option maxRecDepth 100000 in
theorem ti_13_18 : dp_tab 13 18 = (.iload 7, 2) := by decide +kernel
set_option maxRecDepth 100000 in
theorem ti_13_20 : dp_tab 13 20 = (.iaload, 1) := by decide +kernel
set_option maxRecDepth 100000 in
theorem ti_13_21 : dp_tab 13 21 = (.invokevirtual 47, 3) := by decide +kernel
set_option maxRecDepth 100000 in
theorem ti_13_24 : dp_tab 13 24 = (.istore 8, 2) := by decide +kernel
set_option maxRecDepth 100000 in
theorem ti_13_26 : dp_tab 13 26 = (.iload 8, 2) := by decide +kernel
set_option maxRecDepth 100000 in
theorem ti_13_28 : dp_tab 13 28 = (.ifCond .le 26, 3) := by decide +kernel
set_option maxRecDepth 100000 in
theorem ti_13_31 : dp_tab 13 31 = (.iinc 6 1, 3) := by decide +kernel
set_option maxRecDepth 100000 in
theorem ti_13_34 : dp_tab 13 34 = (.iload 5, 2) := by decide +kernel
set_option maxRecDepth 100000 in
theorem ti_13_36 : dp_tab 13 36 = (.iload 8, 2) := by decide +kernel
set_option maxRecDepth 100000 in
theorem ti_13_38 : dp_tab 13 38 = (.iconst 3, 1) := by decide +kernel
set_option maxRecDepth 100000 in
theorem ti_13_39 : dp_tab 13 39 = (.invokestatic 51, 3) := by decide +kernel
set_option maxRecDepth 100000 in
theorem ti_13_42 : dp_tab 13 42 = (.aload_n 0, 1) := by decide +kernel
set_option maxRecDepth 100000 in
theorem ti_13_43 : dp_tab 13 43 = (.aload_n 2, 1) := by decide +kernel
set_option maxRecDepth 100000 in
theorem ti_13_44 : dp_tab 13 44 = (.iload 7, 2) := by decide +kernel
set_option maxRecDepth 100000 in
theorem ti_13_46 : dp_tab 13 46 = (.iaload, 1) := by decide +kernel
set_option maxRecDepth 100000 in
theorem ti_13_47 : dp_tab 13 47 = (.invokevirtual 56, 3) := by decide +kernel
set_option maxRecDepth 100000 in
theorem ti_13_50 : dp_tab 13 50 = (.imul, 1) := by decide +kernel
set_option maxRecDepth 100000 in
theorem ti_13_51 : dp_tab 13 51 = (.iadd, 1) := by decide +kernel
set_option maxRecDepth 100000 in
theorem ti_13_52 : dp_tab 13 52 = (.istore 5, 2) := by decide +kernel
set_option maxRecDepth 100000 in
theorem ti_13_54 : dp_tab 13 54 = (.iinc 7 1, 3) := by decide +kernel
set_option maxRecDepth 100000 in
theorem ti_13_57 : dp_tab 13 57 = (.goto (-48), 3) := by decide +kernel
set_option maxRecDepth 100000 in
theorem ti_13_60 : dp_tab 13 60 = (.iload_n 3, 1) := by decide +kernel
set_option maxRecDepth 100000 in
theorem ti_13_61 : dp_tab 13 61 = (.iconst 2, 1) := by decide +kernel
set_option maxRecDepth 100000 in
theorem ti_13_62 : dp_tab 13 62 = (.if_icmp .lt 18, 3) := by decide +kernel
set_option maxRecDepth 100000 in
theorem ti_13_65 : dp_tab 13 65 = (.iload 6, 2) := by decide +kernel
set_option maxRecDepth 100000 in
theorem ti_13_67 : dp_tab 13 67 = (.iload_n 3, 1) := by decide +kernel
set_option maxRecDepth 100000 in
theorem ti_13_68 : dp_tab 13 68 = (.if_icmp .ne 12, 3) := by decide +kernel
set_option maxRecDepth 100000 in
theorem ti_13_71 : dp_tab 13 71 = (.iload 5, 2) := by decide +kernel
set_option maxRecDepth 100000 in
theorem ti_13_73 : dp_tab 13 73 = (.iload 5, 2) := by decide +kernel
set_option maxRecDepth 100000 in
theorem ti_13_75 : dp_tab 13 75 = (.iconst 2, 1) := by decide +kernel
set_option maxRecDepth 100000 in
theorem ti_13_76 : dp_tab 13 76 = (.idiv, 1) := by decide +kernel
set_option maxRecDepth 100000 in
theorem ti_13_77 : dp_tab 13 77 = (.iadd, 1) := by decide +kernel
set_option maxRecDepth 100000 in
theorem ti_13_78 : dp_tab 13 78 = (.istore 5, 2) := by decide +kernel
set_option maxRecDepth 100000 in
theorem ti_13_80 : dp_tab 13 80 = (.iload 5, 2) := by decide +kernel
set_option maxRecDepth 100000 in
theorem ti_13_82 : dp_tab 13 82 = (.iconst 3, 1) := by decide +kernel
set_option maxRecDepth 100000 in
theorem ti_13_83 : dp_tab 13 83 = (.iload 4, 2) := by decide +kernel
set_option maxRecDepth 100000 in
theorem ti_13_85 : dp_tab 13 85 = (.imul, 1) := by decide +kernel
set_option maxRecDepth 100000 in
theorem ti_13_86 : dp_tab 13 86 = (.isub, 1) := by decide +kernel
set_option maxRecDepth 100000 in
theorem ti_13_87 : dp_tab 13 87 = (.iconst 0, 1) := by decide +kernel
set_option maxRecDepth 100000 in
theorem ti_13_88 : dp_tab 13 88 = (.invokestatic 59, 3) := by decide +kernel
set_option maxRecDepth 100000 in
theorem ti_13_91 : dp_tab 13 91 = (.ireturn, 1) := by decide +kernel
set_option maxRecDepth 100000 in
theorem ti_14_0 : dp_tab 14 0 = (.iconst 0, 1) := by decide +kernel
set_option maxRecDepth 100000 in
theorem ti_14_1 : dp_tab 14 1 = (.istore_n 2, 1) := by decide +kernel
set_option maxRecDepth 100000 in
theorem ti_14_2 : dp_tab 14 2 = (.iconst 0, 1) := by decide +kernel
set_option maxRecDepth 100000 in
theorem ti_14_3 : dp_tab 14 3 = (.istore_n 3, 1) := by decide +kernel
set_option maxRecDepth 100000 in
theorem ti_14_4 : dp_tab 14 4 = (.iload_n 3, 1) := by decide +kernel
set_option maxRecDepth 100000 in
theorem ti_14_5 : dp_tab 14 5 = (.bipush 20, 2) := by decide +kernel
set_option maxRecDepth 100000 in
theorem ti_14_7 : dp_tab 14 7 = (.if_icmp .ge 23, 3) := by decide +kernel
set_option maxRecDepth 100000 in
theorem ti_14_10 : dp_tab 14 10 = (.aload_n 0, 1) := by decide +kernel
set_option maxRecDepth 100000 in
theorem ti_14_11 : dp_tab 14 11 = (.getfield 23, 3) := by decide +kernel
set_option maxRecDepth 100000 in
theorem ti_14_14 : dp_tab 14 14 = (.iload_n 1, 1) := by decide +kernel
set_option maxRecDepth 100000 in
theorem ti_14_15 : dp_tab 14 15 = (.aaload, 1) := by decide +kernel
set_option maxRecDepth 100000 in
theorem ti_14_16 : dp_tab 14 16 = (.iload_n 3, 1) := by decide +kernel
set_option maxRecDepth 100000 in
theorem ti_14_17 : dp_tab 14 17 = (.iaload, 1) := by decide +kernel
set_option maxRecDepth 100000 in
theorem ti_14_18 : dp_tab 14 18 = (.ifCond .le 6, 3) := by decide +kernel
set_option maxRecDepth 100000 in
theorem ti_14_21 : dp_tab 14 21 = (.iinc 2 1, 3) := by decide +kernel
set_option maxRecDepth 100000 in
theorem ti_14_24 : dp_tab 14 24 = (.iinc 3 1, 3) := by decide +kernel
set_option maxRecDepth 100000 in
theorem ti_14_27 : dp_tab 14 27 = (.goto (-23), 3) := by decide +kernel
set_option maxRecDepth 100000 in
theorem ti_14_30 : dp_tab 14 30 = (.iload_n 2, 1) := by decide +kernel
set_option maxRecDepth 100000 in
theorem ti_14_31 : dp_tab 14 31 = (.ireturn, 1) := by decide +kernel
set_option maxRecDepth 100000 in
theorem ti_15_0 : dp_tab 15 0 = (.iconst 0, 1) := by decide +kernel
set_option maxRecDepth 100000 in
theorem ti_15_1 : dp_tab 15 1 = (.istore_n 1, 1) := by decide +kernel
set_option maxRecDepth 100000 in
theorem ti_15_2 : dp_tab 15 2 = (.iconst 0, 1) := by decide +kernel
set_option maxRecDepth 100000 in
theorem ti_15_3 : dp_tab 15 3 = (.istore_n 2, 1) := by decide +kernel
set_option maxRecDepth 100000 in
theorem ti_15_4 : dp_tab 15 4 = (.iload_n 2, 1) := by decide +kernel
set_option maxRecDepth 100000 in
theorem ti_15_5 : dp_tab 15 5 = (.bipush 20, 2) := by decide +kernel
set_option maxRecDepth 100000 in
theorem ti_15_7 : dp_tab 15 7 = (.if_icmp .ge 21, 3) := by decide +kernel
set_option maxRecDepth 100000 in
theorem ti_15_10 : dp_tab 15 10 = (.aload_n 0, 1) := by decide +kernel
set_option maxRecDepth 100000 in
theorem ti_15_11 : dp_tab 15 11 = (.getfield 26, 3) := by decide +kernel
set_option maxRecDepth 100000 in
theorem ti_15_14 : dp_tab 15 14 = (.iload_n 2, 1) := by decide +kernel
set_option maxRecDepth 100000 in
theorem ti_15_15 : dp_tab 15 15 = (.iaload, 1) := by decide +kernel
set_option maxRecDepth 100000 in
theorem ti_15_16 : dp_tab 15 16 = (.ifCond .le 6, 3) := by decide +kernel
set_option maxRecDepth 100000 in
theorem ti_15_19 : dp_tab 15 19 = (.iinc 1 1, 3) := by decide +kernel
set_option maxRecDepth 100000 in
theorem ti_15_22 : dp_tab 15 22 = (.iinc 2 1, 3) := by decide +kernel
set_option maxRecDepth 100000 in
theorem ti_15_25 : dp_tab 15 25 = (.goto (-21), 3) := by decide +kernel
set_option maxRecDepth 100000 in
theorem ti_15_28 : dp_tab 15 28 = (.iload_n 1, 1) := by decide +kernel
set_option maxRecDepth 100000 in
theorem ti_15_29 : dp_tab 15 29 = (.ireturn, 1) := by decide +kernel
set_option maxRecDepth 100000 in
theorem ti_16_0 : dp_tab 16 0 = (.iconst 0, 1) := by decide +kernel
set_option maxRecDepth 100000 in
theorem ti_16_1 : dp_tab 16 1 = (.istore_n 1, 1) := by decide +kernel
set_option maxRecDepth 100000 in
theorem ti_16_2 : dp_tab 16 2 = (.iconst 0, 1) := by decide +kernel
set_option maxRecDepth 100000 in
theorem ti_16_3 : dp_tab 16 3 = (.istore_n 2, 1) := by decide +kernel
set_option maxRecDepth 100000 in
theorem ti_16_4 : dp_tab 16 4 = (.iload_n 2, 1) := by decide +kernel
set_option maxRecDepth 100000 in
theorem ti_16_5 : dp_tab 16 5 = (.aload_n 0, 1) := by decide +kernel
set_option maxRecDepth 100000 in
theorem ti_16_6 : dp_tab 16 6 = (.getfield 35, 3) := by decide +kernel
set_option maxRecDepth 100000 in
theorem ti_16_9 : dp_tab 16 9 = (.if_icmp .ge 18, 3) := by decide +kernel
set_option maxRecDepth 100000 in
theorem ti_16_12 : dp_tab 16 12 = (.iload_n 1, 1) := by decide +kernel
set_option maxRecDepth 100000 in
theorem ti_16_13 : dp_tab 16 13 = (.aload_n 0, 1) := by decide +kernel
set_option maxRecDepth 100000 in
theorem ti_16_14 : dp_tab 16 14 = (.getfield 20, 3) := by decide +kernel
set_option maxRecDepth 100000 in
theorem ti_16_17 : dp_tab 16 17 = (.iload_n 2, 1) := by decide +kernel
set_option maxRecDepth 100000 in
theorem ti_16_18 : dp_tab 16 18 = (.iaload, 1) := by decide +kernel
set_option maxRecDepth 100000 in
theorem ti_16_19 : dp_tab 16 19 = (.iadd, 1) := by decide +kernel
set_option maxRecDepth 100000 in
theorem ti_16_20 : dp_tab 16 20 = (.istore_n 1, 1) := by decide +kernel
set_option maxRecDepth 100000 in
theorem ti_16_21 : dp_tab 16 21 = (.iinc 2 1, 3) := by decide +kernel
set_option maxRecDepth 100000 in
theorem ti_16_24 : dp_tab 16 24 = (.goto (-20), 3) := by decide +kernel
set_option maxRecDepth 100000 in
theorem ti_16_27 : dp_tab 16 27 = (.iload_n 1, 1) := by decide +kernel
set_option maxRecDepth 100000 in
theorem ti_16_28 : dp_tab 16 28 = (.ireturn, 1) := by decide +kernel
set_option maxRecDepth 100000 in
theorem ti_17_0 : dp_tab 17 0 = (.iconst 0, 1) := by decide +kernel
set_option maxRecDepth 100000 in
theorem ti_17_1 : dp_tab 17 1 = (.istore_n 3, 1) := by decide +kernel
set_option maxRecDepth 100000 in
theorem ti_17_2 : dp_tab 17 2 = (.iconst 0, 1) := by decide +kernel
set_option maxRecDepth 100000 in
theorem ti_17_3 : dp_tab 17 3 = (.istore 4, 2) := by decide +kernel
set_option maxRecDepth 100000 in
theorem ti_17_5 : dp_tab 17 5 = (.iload 4, 2) := by decide +kernel
set_option maxRecDepth 100000 in
theorem ti_17_7 : dp_tab 17 7 = (.bipush 20, 2) := by decide +kernel
set_option maxRecDepth 100000 in
theorem ti_17_9 : dp_tab 17 9 = (.if_icmp .ge 33, 3) := by decide +kernel
set_option maxRecDepth 100000 in
theorem ti_17_12 : dp_tab 17 12 = (.iload_n 3, 1) := by decide +kernel
set_option maxRecDepth 100000 in
theorem ti_17_13 : dp_tab 17 13 = (.aload_n 0, 1) := by decide +kernel
set_option maxRecDepth 100000 in
theorem ti_17_14 : dp_tab 17 14 = (.getfield 23, 3) := by decide +kernel
set_option maxRecDepth 100000 in
theorem ti_17_17 : dp_tab 17 17 = (.iload_n 1, 1) := by decide +kernel
set_option maxRecDepth 100000 in
theorem ti_17_18 : dp_tab 17 18 = (.aaload, 1) := by decide +kernel
set_option maxRecDepth 100000 in
theorem ti_17_19 : dp_tab 17 19 = (.iload 4, 2) := by decide +kernel
set_option maxRecDepth 100000 in
theorem ti_17_21 : dp_tab 17 21 = (.iaload, 1) := by decide +kernel
set_option maxRecDepth 100000 in
theorem ti_17_22 : dp_tab 17 22 = (.aload_n 0, 1) := by decide +kernel
set_option maxRecDepth 100000 in
theorem ti_17_23 : dp_tab 17 23 = (.getfield 23, 3) := by decide +kernel
set_option maxRecDepth 100000 in
theorem ti_17_26 : dp_tab 17 26 = (.iload_n 2, 1) := by decide +kernel
set_option maxRecDepth 100000 in
theorem ti_17_27 : dp_tab 17 27 = (.aaload, 1) := by decide +kernel
set_option maxRecDepth 100000 in
theorem ti_17_28 : dp_tab 17 28 = (.iload 4, 2) := by decide +kernel
set_option maxRecDepth 100000 in
theorem ti_17_30 : dp_tab 17 30 = (.iaload, 1) := by decide +kernel
set_option maxRecDepth 100000 in
theorem ti_17_31 : dp_tab 17 31 = (.invokestatic 51, 3) := by decide +kernel
set_option maxRecDepth 100000 in
theorem ti_17_34 : dp_tab 17 34 = (.iadd, 1) := by decide +kernel
set_option maxRecDepth 100000 in
theorem ti_17_35 : dp_tab 17 35 = (.istore_n 3, 1) := by decide +kernel
set_option maxRecDepth 100000 in
theorem ti_17_36 : dp_tab 17 36 = (.iinc 4 1, 3) := by decide +kernel
set_option maxRecDepth 100000 in
theorem ti_17_39 : dp_tab 17 39 = (.goto (-34), 3) := by decide +kernel
set_option maxRecDepth 100000 in
theorem ti_17_42 : dp_tab 17 42 = (.iload_n 3, 1) := by decide +kernel
set_option maxRecDepth 100000 in
theorem ti_17_43 : dp_tab 17 43 = (.ireturn, 1) := by decide +kernel
set_option maxRecDepth 100000 in
theorem ti_18_0 : dp_tab 18 0 = (.iload_n 1, 1) := by decide +kernel
set_option maxRecDepth 100000 in
theorem ti_18_1 : dp_tab 18 1 = (.invokestatic 37, 3) := by decide +kernel
set_option maxRecDepth 100000 in
theorem ti_18_4 : dp_tab 18 4 = (.iload_n 2, 1) := by decide +kernel
set_option maxRecDepth 100000 in
theorem ti_18_5 : dp_tab 18 5 = (.invokestatic 41, 3) := by decide +kernel
set_option maxRecDepth 100000 in
theorem ti_18_8 : dp_tab 18 8 = (.aload_n 0, 1) := by decide +kernel
set_option maxRecDepth 100000 in
theorem ti_18_9 : dp_tab 18 9 = (.getfield 10, 3) := by decide +kernel
set_option maxRecDepth 100000 in
theorem ti_18_12 : dp_tab 18 12 = (.getfield 44, 3) := by decide +kernel
set_option maxRecDepth 100000 in
theorem ti_18_15 : dp_tab 18 15 = (.iload_n 1, 1) := by decide +kernel
set_option maxRecDepth 100000 in
theorem ti_18_16 : dp_tab 18 16 = (.iaload, 1) := by decide +kernel
set_option maxRecDepth 100000 in
theorem ti_18_17 : dp_tab 18 17 = (.istore_n 3, 1) := by decide +kernel
set_option maxRecDepth 100000 in
theorem ti_18_18 : dp_tab 18 18 = (.aload_n 0, 1) := by decide +kernel
set_option maxRecDepth 100000 in
theorem ti_18_19 : dp_tab 18 19 = (.getfield 10, 3) := by decide +kernel
set_option maxRecDepth 100000 in
theorem ti_18_22 : dp_tab 18 22 = (.getfield 44, 3) := by decide +kernel
set_option maxRecDepth 100000 in
theorem ti_18_25 : dp_tab 18 25 = (.iload_n 1, 1) := by decide +kernel
set_option maxRecDepth 100000 in
theorem ti_18_26 : dp_tab 18 26 = (.iload_n 2, 1) := by decide +kernel
set_option maxRecDepth 100000 in
theorem ti_18_27 : dp_tab 18 27 = (.iastore, 1) := by decide +kernel
set_option maxRecDepth 100000 in
theorem ti_18_28 : dp_tab 18 28 = (.aload_n 0, 1) := by decide +kernel
set_option maxRecDepth 100000 in
theorem ti_18_29 : dp_tab 18 29 = (.getfield 10, 3) := by decide +kernel
set_option maxRecDepth 100000 in
theorem ti_18_32 : dp_tab 18 32 = (.invokevirtual 47, 3) := by decide +kernel
set_option maxRecDepth 100000 in
theorem ti_18_35 : dp_tab 18 35 = (.iload_n 3, 1) := by decide +kernel
set_option maxRecDepth 100000 in
theorem ti_18_36 : dp_tab 18 36 = (.ireturn, 1) := by decide +kernel
set_option maxRecDepth 100000 in
theorem ti_19_0 : dp_tab 19 0 = (.aload_n 0, 1) := by decide +kernel
set_option maxRecDepth 100000 in
theorem ti_19_1 : dp_tab 19 1 = (.getfield 10, 3) := by decide +kernel
set_option maxRecDepth 100000 in
theorem ti_19_4 : dp_tab 19 4 = (.getfield 50, 3) := by decide +kernel
set_option maxRecDepth 100000 in
theorem ti_19_7 : dp_tab 19 7 = (.bipush 16, 2) := by decide +kernel
set_option maxRecDepth 100000 in
theorem ti_19_9 : dp_tab 19 9 = (.if_icmp .lt 13, 3) := by decide +kernel
set_option maxRecDepth 100000 in
theorem ti_19_12 : dp_tab 19 12 = (.new 54, 3) := by decide +kernel
set_option maxRecDepth 100000 in
theorem ti_19_15 : dp_tab 19 15 = (.dup, 1) := by decide +kernel
set_option maxRecDepth 100000 in
theorem ti_19_16 : dp_tab 19 16 = (.ldc 56, 2) := by decide +kernel
set_option maxRecDepth 100000 in
theorem ti_19_18 : dp_tab 19 18 = (.invokespecial 58, 3) := by decide +kernel
set_option maxRecDepth 100000 in
theorem ti_19_21 : dp_tab 19 21 = (.athrow, 1) := by decide +kernel
set_option maxRecDepth 100000 in
theorem ti_19_22 : dp_tab 19 22 = (.aload_n 0, 1) := by decide +kernel
set_option maxRecDepth 100000 in
theorem ti_19_23 : dp_tab 19 23 = (.getfield 10, 3) := by decide +kernel
set_option maxRecDepth 100000 in
theorem ti_19_26 : dp_tab 19 26 = (.dup, 1) := by decide +kernel
set_option maxRecDepth 100000 in
theorem ti_19_27 : dp_tab 19 27 = (.getfield 50, 3) := by decide +kernel
set_option maxRecDepth 100000 in
theorem ti_19_30 : dp_tab 19 30 = (.iconst 1, 1) := by decide +kernel
set_option maxRecDepth 100000 in
theorem ti_19_31 : dp_tab 19 31 = (.iadd, 1) := by decide +kernel
set_option maxRecDepth 100000 in
theorem ti_19_32 : dp_tab 19 32 = (.putfield 50, 3) := by decide +kernel
set_option maxRecDepth 100000 in
theorem ti_19_35 : dp_tab 19 35 = (.aload_n 0, 1) := by decide +kernel
set_option maxRecDepth 100000 in
theorem ti_19_36 : dp_tab 19 36 = (.getfield 10, 3) := by decide +kernel
set_option maxRecDepth 100000 in
theorem ti_19_39 : dp_tab 19 39 = (.getfield 50, 3) := by decide +kernel
set_option maxRecDepth 100000 in
theorem ti_19_42 : dp_tab 19 42 = (.iconst 1, 1) := by decide +kernel
set_option maxRecDepth 100000 in
theorem ti_19_43 : dp_tab 19 43 = (.isub, 1) := by decide +kernel
set_option maxRecDepth 100000 in
theorem ti_19_44 : dp_tab 19 44 = (.ireturn, 1) := by decide +kernel
set_option maxRecDepth 100000 in
theorem ti_20_0 : dp_tab 20 0 = (.aload_n 0, 1) := by decide +kernel
set_option maxRecDepth 100000 in
theorem ti_20_1 : dp_tab 20 1 = (.iload_n 1, 1) := by decide +kernel
set_option maxRecDepth 100000 in
theorem ti_20_2 : dp_tab 20 2 = (.invokevirtual 61, 3) := by decide +kernel
set_option maxRecDepth 100000 in
theorem ti_20_5 : dp_tab 20 5 = (.iload_n 2, 1) := by decide +kernel
set_option maxRecDepth 100000 in
theorem ti_20_6 : dp_tab 20 6 = (.invokestatic 37, 3) := by decide +kernel
set_option maxRecDepth 100000 in
theorem ti_20_9 : dp_tab 20 9 = (.aload_n 0, 1) := by decide +kernel
set_option maxRecDepth 100000 in
theorem ti_20_10 : dp_tab 20 10 = (.getfield 10, 3) := by decide +kernel
set_option maxRecDepth 100000 in
theorem ti_20_13 : dp_tab 20 13 = (.getfield 64, 3) := by decide +kernel
set_option maxRecDepth 100000 in
theorem ti_20_16 : dp_tab 20 16 = (.iload_n 1, 1) := by decide +kernel
set_option maxRecDepth 100000 in
theorem ti_20_17 : dp_tab 20 17 = (.iaload, 1) := by decide +kernel
set_option maxRecDepth 100000 in
theorem ti_20_18 : dp_tab 20 18 = (.istore_n 3, 1) := by decide +kernel
set_option maxRecDepth 100000 in
theorem ti_20_19 : dp_tab 20 19 = (.iload_n 3, 1) := by decide +kernel
set_option maxRecDepth 100000 in
theorem ti_20_20 : dp_tab 20 20 = (.bipush 12, 2) := by decide +kernel
set_option maxRecDepth 100000 in
theorem ti_20_22 : dp_tab 20 22 = (.if_icmp .lt 13, 3) := by decide +kernel
set_option maxRecDepth 100000 in
theorem ti_20_25 : dp_tab 20 25 = (.new 54, 3) := by decide +kernel
set_option maxRecDepth 100000 in
theorem ti_20_28 : dp_tab 20 28 = (.dup, 1) := by decide +kernel
set_option maxRecDepth 100000 in
theorem ti_20_29 : dp_tab 20 29 = (.ldc 67, 2) := by decide +kernel
set_option maxRecDepth 100000 in
theorem ti_20_31 : dp_tab 20 31 = (.invokespecial 58, 3) := by decide +kernel
set_option maxRecDepth 100000 in
theorem ti_20_34 : dp_tab 20 34 = (.athrow, 1) := by decide +kernel
set_option maxRecDepth 100000 in
theorem ti_20_35 : dp_tab 20 35 = (.aload_n 0, 1) := by decide +kernel
set_option maxRecDepth 100000 in
theorem ti_20_36 : dp_tab 20 36 = (.getfield 10, 3) := by decide +kernel
set_option maxRecDepth 100000 in
theorem ti_20_39 : dp_tab 20 39 = (.getfield 69, 3) := by decide +kernel
set_option maxRecDepth 100000 in
theorem ti_20_42 : dp_tab 20 42 = (.iload_n 1, 1) := by decide +kernel
set_option maxRecDepth 100000 in
theorem ti_20_43 : dp_tab 20 43 = (.aaload, 1) := by decide +kernel
set_option maxRecDepth 100000 in
theorem ti_20_44 : dp_tab 20 44 = (.iload_n 3, 1) := by decide +kernel
set_option maxRecDepth 100000 in
theorem ti_20_45 : dp_tab 20 45 = (.iload_n 2, 1) := by decide +kernel
set_option maxRecDepth 100000 in
theorem ti_20_46 : dp_tab 20 46 = (.iastore, 1) := by decide +kernel
set_option maxRecDepth 100000 in
theorem ti_20_47 : dp_tab 20 47 = (.aload_n 0, 1) := by decide +kernel
set_option maxRecDepth 100000 in
theorem ti_20_48 : dp_tab 20 48 = (.getfield 10, 3) := by decide +kernel
set_option maxRecDepth 100000 in
theorem ti_20_51 : dp_tab 20 51 = (.getfield 64, 3) := by decide +kernel
set_option maxRecDepth 100000 in
theorem ti_20_54 : dp_tab 20 54 = (.iload_n 1, 1) := by decide +kernel
set_option maxRecDepth 100000 in
theorem ti_20_55 : dp_tab 20 55 = (.iload_n 3, 1) := by decide +kernel
set_option maxRecDepth 100000 in
theorem ti_20_56 : dp_tab 20 56 = (.iconst 1, 1) := by decide +kernel
set_option maxRecDepth 100000 in
theorem ti_20_57 : dp_tab 20 57 = (.iadd, 1) := by decide +kernel
set_option maxRecDepth 100000 in
theorem ti_20_58 : dp_tab 20 58 = (.iastore, 1) := by decide +kernel
set_option maxRecDepth 100000 in
theorem ti_20_59 : dp_tab 20 59 = (.aload_n 0, 1) := by decide +kernel
set_option maxRecDepth 100000 in
theorem ti_20_60 : dp_tab 20 60 = (.getfield 10, 3) := by decide +kernel
set_option maxRecDepth 100000 in
theorem ti_20_63 : dp_tab 20 63 = (.invokevirtual 47, 3) := by decide +kernel
set_option maxRecDepth 100000 in
theorem ti_20_66 : dp_tab 20 66 = (.iload_n 3, 1) := by decide +kernel
set_option maxRecDepth 100000 in
theorem ti_20_67 : dp_tab 20 67 = (.iconst 1, 1) := by decide +kernel
set_option maxRecDepth 100000 in
theorem ti_20_68 : dp_tab 20 68 = (.iadd, 1) := by decide +kernel
set_option maxRecDepth 100000 in
theorem ti_20_69 : dp_tab 20 69 = (.ireturn, 1) := by decide +kernel
set_option maxRecDepth 100000 in
theorem ti_21_0 : dp_tab 21 0 = (.aload_n 0, 1) := by decide +kernel
set_option maxRecDepth 100000 in
theorem ti_21_1 : dp_tab 21 1 = (.iload_n 1, 1) := by decide +kernel
set_option maxRecDepth 100000 in
theorem ti_21_2 : dp_tab 21 2 = (.invokevirtual 61, 3) := by decide +kernel
set_option maxRecDepth 100000 in
theorem ti_21_5 : dp_tab 21 5 = (.iload_n 2, 1) := by decide +kernel
set_option maxRecDepth 100000 in
theorem ti_21_6 : dp_tab 21 6 = (.aload_n 0, 1) := by decide +kernel
set_option maxRecDepth 100000 in
theorem ti_21_7 : dp_tab 21 7 = (.getfield 10, 3) := by decide +kernel
set_option maxRecDepth 100000 in
theorem ti_21_10 : dp_tab 21 10 = (.getfield 64, 3) := by decide +kernel
set_option maxRecDepth 100000 in
theorem ti_21_13 : dp_tab 21 13 = (.iload_n 1, 1) := by decide +kernel
set_option maxRecDepth 100000 in
theorem ti_21_14 : dp_tab 21 14 = (.iaload, 1) := by decide +kernel
set_option maxRecDepth 100000 in
theorem ti_21_15 : dp_tab 21 15 = (.invokestatic 73, 3) := by decide +kernel
set_option maxRecDepth 100000 in
theorem ti_21_18 : dp_tab 21 18 = (.aload_n 0, 1) := by decide +kernel
set_option maxRecDepth 100000 in
theorem ti_21_19 : dp_tab 21 19 = (.getfield 10, 3) := by decide +kernel
set_option maxRecDepth 100000 in
theorem ti_21_22 : dp_tab 21 22 = (.getfield 69, 3) := by decide +kernel
set_option maxRecDepth 100000 in
theorem ti_21_25 : dp_tab 21 25 = (.iload_n 1, 1) := by decide +kernel
set_option maxRecDepth 100000 in
theorem ti_21_26 : dp_tab 21 26 = (.aaload, 1) := by decide +kernel
set_option maxRecDepth 100000 in
theorem ti_21_27 : dp_tab 21 27 = (.iload_n 2, 1) := by decide +kernel
set_option maxRecDepth 100000 in
theorem ti_21_28 : dp_tab 21 28 = (.iaload, 1) := by decide +kernel
set_option maxRecDepth 100000 in
theorem ti_21_29 : dp_tab 21 29 = (.istore_n 3, 1) := by decide +kernel
set_option maxRecDepth 100000 in
theorem ti_21_30 : dp_tab 21 30 = (.aload_n 0, 1) := by decide +kernel
set_option maxRecDepth 100000 in
theorem ti_21_31 : dp_tab 21 31 = (.getfield 10, 3) := by decide +kernel
set_option maxRecDepth 100000 in
theorem ti_21_34 : dp_tab 21 34 = (.getfield 64, 3) := by decide +kernel
set_option maxRecDepth 100000 in
theorem ti_21_37 : dp_tab 21 37 = (.iload_n 1, 1) := by decide +kernel
set_option maxRecDepth 100000 in
theorem ti_21_38 : dp_tab 21 38 = (.aload_n 0, 1) := by decide +kernel
set_option maxRecDepth 100000 in
theorem ti_21_39 : dp_tab 21 39 = (.getfield 10, 3) := by decide +kernel
set_option maxRecDepth 100000 in
theorem ti_21_42 : dp_tab 21 42 = (.getfield 69, 3) := by decide +kernel
set_option maxRecDepth 100000 in
theorem ti_21_45 : dp_tab 21 45 = (.iload_n 1, 1) := by decide +kernel
set_option maxRecDepth 100000 in
theorem ti_21_46 : dp_tab 21 46 = (.aaload, 1) := by decide +kernel
set_option maxRecDepth 100000 in
theorem ti_21_47 : dp_tab 21 47 = (.aload_n 0, 1) := by decide +kernel
set_option maxRecDepth 100000 in
theorem ti_21_48 : dp_tab 21 48 = (.getfield 10, 3) := by decide +kernel
set_option maxRecDepth 100000 in
theorem ti_21_51 : dp_tab 21 51 = (.getfield 64, 3) := by decide +kernel
set_option maxRecDepth 100000 in
theorem ti_21_54 : dp_tab 21 54 = (.iload_n 1, 1) := by decide +kernel
set_option maxRecDepth 100000 in
theorem ti_21_55 : dp_tab 21 55 = (.iaload, 1) := by decide +kernel
set_option maxRecDepth 100000 in
theorem ti_21_56 : dp_tab 21 56 = (.iload_n 2, 1) := by decide +kernel
set_option maxRecDepth 100000 in
theorem ti_21_57 : dp_tab 21 57 = (.invokestatic 77, 3) := by decide +kernel
set_option maxRecDepth 100000 in
theorem ti_21_60 : dp_tab 21 60 = (.iastore, 1) := by decide +kernel
set_option maxRecDepth 100000 in
theorem ti_21_61 : dp_tab 21 61 = (.aload_n 0, 1) := by decide +kernel
set_option maxRecDepth 100000 in
theorem ti_21_62 : dp_tab 21 62 = (.getfield 10, 3) := by decide +kernel
set_option maxRecDepth 100000 in
theorem ti_21_65 : dp_tab 21 65 = (.invokevirtual 47, 3) := by decide +kernel
set_option maxRecDepth 100000 in
theorem ti_21_68 : dp_tab 21 68 = (.iload_n 3, 1) := by decide +kernel
set_option maxRecDepth 100000 in
theorem ti_21_69 : dp_tab 21 69 = (.ireturn, 1) := by decide +kernel
set_option maxRecDepth 100000 in
theorem ti_22_0 : dp_tab 22 0 = (.iload_n 1, 1) := by decide +kernel
set_option maxRecDepth 100000 in
theorem ti_22_1 : dp_tab 22 1 = (.ifCond .lt 10, 3) := by decide +kernel
set_option maxRecDepth 100000 in
theorem ti_22_4 : dp_tab 22 4 = (.iload_n 1, 1) := by decide +kernel
set_option maxRecDepth 100000 in
theorem ti_22_5 : dp_tab 22 5 = (.sipush 999, 3) := by decide +kernel
set_option maxRecDepth 100000 in
theorem ti_22_8 : dp_tab 22 8 = (.if_icmp .le 13, 3) := by decide +kernel
set_option maxRecDepth 100000 in
theorem ti_22_11 : dp_tab 22 11 = (.new 81, 3) := by decide +kernel
set_option maxRecDepth 100000 in
theorem ti_22_14 : dp_tab 22 14 = (.dup, 1) := by decide +kernel
set_option maxRecDepth 100000 in
theorem ti_22_15 : dp_tab 22 15 = (.ldc 83, 2) := by decide +kernel
set_option maxRecDepth 100000 in
theorem ti_22_17 : dp_tab 22 17 = (.invokespecial 85, 3) := by decide +kernel
set_option maxRecDepth 100000 in
theorem ti_22_20 : dp_tab 22 20 = (.athrow, 1) := by decide +kernel
set_option maxRecDepth 100000 in
theorem ti_22_21 : dp_tab 22 21 = (.aload_n 0, 1) := by decide +kernel
set_option maxRecDepth 100000 in
theorem ti_22_22 : dp_tab 22 22 = (.getfield 19, 3) := by decide +kernel
set_option maxRecDepth 100000 in
theorem ti_22_25 : dp_tab 22 25 = (.getfield 86, 3) := by decide +kernel
set_option maxRecDepth 100000 in
theorem ti_22_28 : dp_tab 22 28 = (.istore_n 2, 1) := by decide +kernel
set_option maxRecDepth 100000 in
theorem ti_22_29 : dp_tab 22 29 = (.iload_n 2, 1) := by decide +kernel
set_option maxRecDepth 100000 in
theorem ti_22_30 : dp_tab 22 30 = (.bipush 6, 2) := by decide +kernel
set_option maxRecDepth 100000 in
theorem ti_22_32 : dp_tab 22 32 = (.if_icmp .lt 13, 3) := by decide +kernel
set_option maxRecDepth 100000 in
theorem ti_22_35 : dp_tab 22 35 = (.new 54, 3) := by decide +kernel
set_option maxRecDepth 100000 in
theorem ti_22_38 : dp_tab 22 38 = (.dup, 1) := by decide +kernel
set_option maxRecDepth 100000 in
theorem ti_22_39 : dp_tab 22 39 = (.ldc 89, 2) := by decide +kernel
set_option maxRecDepth 100000 in
theorem ti_22_41 : dp_tab 22 41 = (.invokespecial 58, 3) := by decide +kernel
set_option maxRecDepth 100000 in
theorem ti_22_44 : dp_tab 22 44 = (.athrow, 1) := by decide +kernel
set_option maxRecDepth 100000 in
theorem ti_22_45 : dp_tab 22 45 = (.aload_n 0, 1) := by decide +kernel
set_option maxRecDepth 100000 in
theorem ti_22_46 : dp_tab 22 46 = (.getfield 26, 3) := by decide +kernel
set_option maxRecDepth 100000 in
theorem ti_22_49 : dp_tab 22 49 = (.getfield 91, 3) := by decide +kernel
set_option maxRecDepth 100000 in
theorem ti_22_52 : dp_tab 22 52 = (.iload_n 2, 1) := by decide +kernel
set_option maxRecDepth 100000 in
theorem ti_22_53 : dp_tab 22 53 = (.iload_n 1, 1) := by decide +kernel
set_option maxRecDepth 100000 in
theorem ti_22_54 : dp_tab 22 54 = (.iastore, 1) := by decide +kernel
set_option maxRecDepth 100000 in
theorem ti_22_55 : dp_tab 22 55 = (.aload_n 0, 1) := by decide +kernel
set_option maxRecDepth 100000 in
theorem ti_22_56 : dp_tab 22 56 = (.getfield 19, 3) := by decide +kernel
set_option maxRecDepth 100000 in
theorem ti_22_59 : dp_tab 22 59 = (.iload_n 2, 1) := by decide +kernel
set_option maxRecDepth 100000 in
theorem ti_22_60 : dp_tab 22 60 = (.iconst 1, 1) := by decide +kernel
set_option maxRecDepth 100000 in
theorem ti_22_61 : dp_tab 22 61 = (.iadd, 1) := by decide +kernel
set_option maxRecDepth 100000 in
theorem ti_22_62 : dp_tab 22 62 = (.putfield 86, 3) := by decide +kernel
set_option maxRecDepth 100000 in
theorem ti_22_65 : dp_tab 22 65 = (.iload_n 2, 1) := by decide +kernel
set_option maxRecDepth 100000 in
theorem ti_22_66 : dp_tab 22 66 = (.ireturn, 1) := by decide +kernel
set_option maxRecDepth 100000 in
theorem ti_23_0 : dp_tab 23 0 = (.aload_n 0, 1) := by decide +kernel
set_option maxRecDepth 100000 in
theorem ti_23_1 : dp_tab 23 1 = (.iload_n 1, 1) := by decide +kernel
set_option maxRecDepth 100000 in
theorem ti_23_2 : dp_tab 23 2 = (.invokevirtual 94, 3) := by decide +kernel
set_option maxRecDepth 100000 in
theorem ti_23_5 : dp_tab 23 5 = (.iload_n 2, 1) := by decide +kernel
set_option maxRecDepth 100000 in
theorem ti_23_6 : dp_tab 23 6 = (.invokestatic 41, 3) := by decide +kernel
set_option maxRecDepth 100000 in
theorem ti_23_9 : dp_tab 23 9 = (.aload_n 0, 1) := by decide +kernel
set_option maxRecDepth 100000 in
theorem ti_23_10 : dp_tab 23 10 = (.getfield 19, 3) := by decide +kernel
set_option maxRecDepth 100000 in
theorem ti_23_13 : dp_tab 23 13 = (.getfield 97, 3) := by decide +kernel
set_option maxRecDepth 100000 in
theorem ti_23_16 : dp_tab 23 16 = (.iload_n 1, 1) := by decide +kernel
set_option maxRecDepth 100000 in
theorem ti_23_17 : dp_tab 23 17 = (.iaload, 1) := by decide +kernel
set_option maxRecDepth 100000 in
theorem ti_23_18 : dp_tab 23 18 = (.istore_n 3, 1) := by decide +kernel
set_option maxRecDepth 100000 in
theorem ti_23_19 : dp_tab 23 19 = (.iload_n 3, 1) := by decide +kernel
set_option maxRecDepth 100000 in
theorem ti_23_20 : dp_tab 23 20 = (.iconst 5, 1) := by decide +kernel
set_option maxRecDepth 100000 in
theorem ti_23_21 : dp_tab 23 21 = (.if_icmp .lt 13, 3) := by decide +kernel
set_option maxRecDepth 100000 in
theorem ti_23_24 : dp_tab 23 24 = (.new 54, 3) := by decide +kernel
set_option maxRecDepth 100000 in
theorem ti_23_27 : dp_tab 23 27 = (.dup, 1) := by decide +kernel
set_option maxRecDepth 100000 in
theorem ti_23_28 : dp_tab 23 28 = (.ldc 100, 2) := by decide +kernel
set_option maxRecDepth 100000 in
theorem ti_23_30 : dp_tab 23 30 = (.invokespecial 58, 3) := by decide +kernel
set_option maxRecDepth 100000 in
theorem ti_23_33 : dp_tab 23 33 = (.athrow, 1) := by decide +kernel
set_option maxRecDepth 100000 in
theorem ti_23_34 : dp_tab 23 34 = (.aload_n 0, 1) := by decide +kernel
set_option maxRecDepth 100000 in
theorem ti_23_35 : dp_tab 23 35 = (.getfield 19, 3) := by decide +kernel
set_option maxRecDepth 100000 in
theorem ti_23_38 : dp_tab 23 38 = (.iload_n 1, 1) := by decide +kernel
set_option maxRecDepth 100000 in
theorem ti_23_39 : dp_tab 23 39 = (.iload_n 2, 1) := by decide +kernel
set_option maxRecDepth 100000 in
theorem ti_23_40 : dp_tab 23 40 = (.invokevirtual 102, 3) := by decide +kernel
set_option maxRecDepth 100000 in
theorem ti_23_43 : dp_tab 23 43 = (.iconst (-1), 1) := by decide +kernel
set_option maxRecDepth 100000 in
theorem ti_23_44 : dp_tab 23 44 = (.if_icmp .eq 13, 3) := by decide +kernel
set_option maxRecDepth 100000 in
theorem ti_23_47 : dp_tab 23 47 = (.new 54, 3) := by decide +kernel
set_option maxRecDepth 100000 in
theorem ti_23_50 : dp_tab 23 50 = (.dup, 1) := by decide +kernel
set_option maxRecDepth 100000 in
theorem ti_23_51 : dp_tab 23 51 = (.ldc 106, 2) := by decide +kernel
set_option maxRecDepth 100000 in
theorem ti_23_53 : dp_tab 23 53 = (.invokespecial 58, 3) := by decide +kernel
set_option maxRecDepth 100000 in
theorem ti_23_56 : dp_tab 23 56 = (.athrow, 1) := by decide +kernel
set_option maxRecDepth 100000 in
theorem ti_23_57 : dp_tab 23 57 = (.aload_n 0, 1) := by decide +kernel
set_option maxRecDepth 100000 in
theorem ti_23_58 : dp_tab 23 58 = (.getfield 19, 3) := by decide +kernel
set_option maxRecDepth 100000 in
theorem ti_23_61 : dp_tab 23 61 = (.getfield 108, 3) := by decide +kernel
set_option maxRecDepth 100000 in
theorem ti_23_64 : dp_tab 23 64 = (.iload_n 1, 1) := by decide +kernel
set_option maxRecDepth 100000 in
theorem ti_23_65 : dp_tab 23 65 = (.aaload, 1) := by decide +kernel
set_option maxRecDepth 100000 in
theorem ti_23_66 : dp_tab 23 66 = (.iload_n 3, 1) := by decide +kernel
set_option maxRecDepth 100000 in
theorem ti_23_67 : dp_tab 23 67 = (.iload_n 2, 1) := by decide +kernel
set_option maxRecDepth 100000 in
theorem ti_23_68 : dp_tab 23 68 = (.iastore, 1) := by decide +kernel
set_option maxRecDepth 100000 in
theorem ti_23_69 : dp_tab 23 69 = (.aload_n 0, 1) := by decide +kernel
set_option maxRecDepth 100000 in
theorem ti_23_70 : dp_tab 23 70 = (.getfield 19, 3) := by decide +kernel
set_option maxRecDepth 100000 in
theorem ti_23_73 : dp_tab 23 73 = (.getfield 97, 3) := by decide +kernel
set_option maxRecDepth 100000 in
theorem ti_23_76 : dp_tab 23 76 = (.iload_n 1, 1) := by decide +kernel
set_option maxRecDepth 100000 in
theorem ti_23_77 : dp_tab 23 77 = (.iload_n 3, 1) := by decide +kernel
set_option maxRecDepth 100000 in
theorem ti_23_78 : dp_tab 23 78 = (.iconst 1, 1) := by decide +kernel
set_option maxRecDepth 100000 in
theorem ti_23_79 : dp_tab 23 79 = (.iadd, 1) := by decide +kernel
set_option maxRecDepth 100000 in
theorem ti_23_80 : dp_tab 23 80 = (.iastore, 1) := by decide +kernel
set_option maxRecDepth 100000 in
theorem ti_23_81 : dp_tab 23 81 = (.iload_n 3, 1) := by decide +kernel
set_option maxRecDepth 100000 in
theorem ti_23_82 : dp_tab 23 82 = (.iconst 1, 1) := by decide +kernel
set_option maxRecDepth 100000 in
theorem ti_23_83 : dp_tab 23 83 = (.iadd, 1) := by decide +kernel
set_option maxRecDepth 100000 in
theorem ti_23_84 : dp_tab 23 84 = (.ireturn, 1) := by decide +kernel
set_option maxRecDepth 100000 in
theorem ti_24_0 : dp_tab 24 0 = (.aload_n 0, 1) := by decide +kernel
set_option maxRecDepth 100000 in
theorem ti_24_1 : dp_tab 24 1 = (.iload_n 1, 1) := by decide +kernel
set_option maxRecDepth 100000 in
theorem ti_24_2 : dp_tab 24 2 = (.invokevirtual 94, 3) := by decide +kernel
set_option maxRecDepth 100000 in
theorem ti_24_5 : dp_tab 24 5 = (.iload_n 2, 1) := by decide +kernel
set_option maxRecDepth 100000 in
theorem ti_24_6 : dp_tab 24 6 = (.invokestatic 41, 3) := by decide +kernel
set_option maxRecDepth 100000 in
theorem ti_24_9 : dp_tab 24 9 = (.aload_n 0, 1) := by decide +kernel
set_option maxRecDepth 100000 in
theorem ti_24_10 : dp_tab 24 10 = (.getfield 19, 3) := by decide +kernel
set_option maxRecDepth 100000 in
theorem ti_24_13 : dp_tab 24 13 = (.iload_n 1, 1) := by decide +kernel
set_option maxRecDepth 100000 in
theorem ti_24_14 : dp_tab 24 14 = (.iload_n 2, 1) := by decide +kernel
set_option maxRecDepth 100000 in
theorem ti_24_15 : dp_tab 24 15 = (.invokevirtual 102, 3) := by decide +kernel
set_option maxRecDepth 100000 in
theorem ti_24_18 : dp_tab 24 18 = (.istore_n 3, 1) := by decide +kernel
set_option maxRecDepth 100000 in
theorem ti_24_19 : dp_tab 24 19 = (.iload_n 3, 1) := by decide +kernel
set_option maxRecDepth 100000 in
theorem ti_24_20 : dp_tab 24 20 = (.iconst (-1), 1) := by decide +kernel
set_option maxRecDepth 100000 in
theorem ti_24_21 : dp_tab 24 21 = (.if_icmp .ne 13, 3) := by decide +kernel
set_option maxRecDepth 100000 in
theorem ti_24_24 : dp_tab 24 24 = (.new 54, 3) := by decide +kernel
set_option maxRecDepth 100000 in
theorem ti_24_27 : dp_tab 24 27 = (.dup, 1) := by decide +kernel
set_option maxRecDepth 100000 in
theorem ti_24_28 : dp_tab 24 28 = (.ldc 111, 2) := by decide +kernel
set_option maxRecDepth 100000 in
theorem ti_24_30 : dp_tab 24 30 = (.invokespecial 58, 3) := by decide +kernel
set_option maxRecDepth 100000 in
theorem ti_24_33 : dp_tab 24 33 = (.athrow, 1) := by decide +kernel
set_option maxRecDepth 100000 in
theorem ti_24_34 : dp_tab 24 34 = (.aload_n 0, 1) := by decide +kernel
set_option maxRecDepth 100000 in
theorem ti_24_35 : dp_tab 24 35 = (.getfield 19, 3) := by decide +kernel
set_option maxRecDepth 100000 in
theorem ti_24_38 : dp_tab 24 38 = (.getfield 97, 3) := by decide +kernel
set_option maxRecDepth 100000 in
theorem ti_24_41 : dp_tab 24 41 = (.iload_n 1, 1) := by decide +kernel
set_option maxRecDepth 100000 in
theorem ti_24_42 : dp_tab 24 42 = (.aload_n 0, 1) := by decide +kernel
set_option maxRecDepth 100000 in
theorem ti_24_43 : dp_tab 24 43 = (.getfield 19, 3) := by decide +kernel
set_option maxRecDepth 100000 in
theorem ti_24_46 : dp_tab 24 46 = (.getfield 108, 3) := by decide +kernel
set_option maxRecDepth 100000 in
theorem ti_24_49 : dp_tab 24 49 = (.iload_n 1, 1) := by decide +kernel
set_option maxRecDepth 100000 in
theorem ti_24_50 : dp_tab 24 50 = (.aaload, 1) := by decide +kernel
set_option maxRecDepth 100000 in
theorem ti_24_51 : dp_tab 24 51 = (.aload_n 0, 1) := by decide +kernel
set_option maxRecDepth 100000 in
theorem ti_24_52 : dp_tab 24 52 = (.getfield 19, 3) := by decide +kernel
set_option maxRecDepth 100000 in
theorem ti_24_55 : dp_tab 24 55 = (.getfield 97, 3) := by decide +kernel
set_option maxRecDepth 100000 in
theorem ti_24_58 : dp_tab 24 58 = (.iload_n 1, 1) := by decide +kernel
set_option maxRecDepth 100000 in
theorem ti_24_59 : dp_tab 24 59 = (.iaload, 1) := by decide +kernel
set_option maxRecDepth 100000 in
theorem ti_24_60 : dp_tab 24 60 = (.iload_n 3, 1) := by decide +kernel
set_option maxRecDepth 100000 in
theorem ti_24_61 : dp_tab 24 61 = (.invokestatic 77, 3) := by decide +kernel
set_option maxRecDepth 100000 in
theorem ti_24_64 : dp_tab 24 64 = (.iastore, 1) := by decide +kernel
set_option maxRecDepth 100000 in
theorem ti_24_65 : dp_tab 24 65 = (.iload_n 3, 1) := by decide +kernel
set_option maxRecDepth 100000 in
theorem ti_24_66 : dp_tab 24 66 = (.ireturn, 1) := by decide +kernel
set_option maxRecDepth 100000 in
theorem ti_25_0 : dp_tab 25 0 = (.aload_n 0, 1) := by decide +kernel
set_option maxRecDepth 100000 in
theorem ti_25_1 : dp_tab 25 1 = (.iload_n 1, 1) := by decide +kernel
set_option maxRecDepth 100000 in
theorem ti_25_2 : dp_tab 25 2 = (.invokevirtual 94, 3) := by decide +kernel
set_option maxRecDepth 100000 in
theorem ti_25_5 : dp_tab 25 5 = (.iload_n 2, 1) := by decide +kernel
set_option maxRecDepth 100000 in
theorem ti_25_6 : dp_tab 25 6 = (.ifCond .lt 10, 3) := by decide +kernel
set_option maxRecDepth 100000 in
theorem ti_25_9 : dp_tab 25 9 = (.iload_n 2, 1) := by decide +kernel
set_option maxRecDepth 100000 in
theorem ti_25_10 : dp_tab 25 10 = (.sipush 999, 3) := by decide +kernel
set_option maxRecDepth 100000 in
theorem ti_25_13 : dp_tab 25 13 = (.if_icmp .le 13, 3) := by decide +kernel
set_option maxRecDepth 100000 in
theorem ti_25_16 : dp_tab 25 16 = (.new 81, 3) := by decide +kernel
set_option maxRecDepth 100000 in
theorem ti_25_19 : dp_tab 25 19 = (.dup, 1) := by decide +kernel
set_option maxRecDepth 100000 in
theorem ti_25_20 : dp_tab 25 20 = (.ldc 113, 2) := by decide +kernel
set_option maxRecDepth 100000 in
theorem ti_25_22 : dp_tab 25 22 = (.invokespecial 85, 3) := by decide +kernel
set_option maxRecDepth 100000 in
theorem ti_25_25 : dp_tab 25 25 = (.athrow, 1) := by decide +kernel
set_option maxRecDepth 100000 in
theorem ti_25_26 : dp_tab 25 26 = (.aload_n 0, 1) := by decide +kernel
set_option maxRecDepth 100000 in
theorem ti_25_27 : dp_tab 25 27 = (.getfield 19, 3) := by decide +kernel
set_option maxRecDepth 100000 in
theorem ti_25_30 : dp_tab 25 30 = (.getfield 115, 3) := by decide +kernel
set_option maxRecDepth 100000 in
theorem ti_25_33 : dp_tab 25 33 = (.iload_n 1, 1) := by decide +kernel
set_option maxRecDepth 100000 in
theorem ti_25_34 : dp_tab 25 34 = (.iaload, 1) := by decide +kernel
set_option maxRecDepth 100000 in
theorem ti_25_35 : dp_tab 25 35 = (.istore_n 3, 1) := by decide +kernel
set_option maxRecDepth 100000 in
theorem ti_25_36 : dp_tab 25 36 = (.aload_n 0, 1) := by decide +kernel
set_option maxRecDepth 100000 in
theorem ti_25_37 : dp_tab 25 37 = (.getfield 19, 3) := by decide +kernel
set_option maxRecDepth 100000 in
theorem ti_25_40 : dp_tab 25 40 = (.getfield 115, 3) := by decide +kernel
set_option maxRecDepth 100000 in
theorem ti_25_43 : dp_tab 25 43 = (.iload_n 1, 1) := by decide +kernel
set_option maxRecDepth 100000 in
theorem ti_25_44 : dp_tab 25 44 = (.iload_n 2, 1) := by decide +kernel
set_option maxRecDepth 100000 in
theorem ti_25_45 : dp_tab 25 45 = (.iastore, 1) := by decide +kernel
set_option maxRecDepth 100000 in
theorem ti_25_46 : dp_tab 25 46 = (.iload_n 3, 1) := by decide +kernel
set_option maxRecDepth 100000 in
theorem ti_25_47 : dp_tab 25 47 = (.ireturn, 1) := by decide +kernel
set_option maxRecDepth 100000 in
theorem ti_26_0 : dp_tab 26 0 = (.aload_n 0, 1) := by decide +kernel
set_option maxRecDepth 100000 in
theorem ti_26_1 : dp_tab 26 1 = (.iload_n 1, 1) := by decide +kernel
set_option maxRecDepth 100000 in
theorem ti_26_2 : dp_tab 26 2 = (.invokevirtual 94, 3) := by decide +kernel
set_option maxRecDepth 100000 in
theorem ti_26_5 : dp_tab 26 5 = (.iload_n 2, 1) := by decide +kernel
set_option maxRecDepth 100000 in
theorem ti_26_6 : dp_tab 26 6 = (.iconst 1, 1) := by decide +kernel
set_option maxRecDepth 100000 in
theorem ti_26_7 : dp_tab 26 7 = (.if_icmp .lt 10, 3) := by decide +kernel
set_option maxRecDepth 100000 in
theorem ti_26_10 : dp_tab 26 10 = (.iload_n 2, 1) := by decide +kernel
set_option maxRecDepth 100000 in
theorem ti_26_11 : dp_tab 26 11 = (.sipush 999, 3) := by decide +kernel
set_option maxRecDepth 100000 in
theorem ti_26_14 : dp_tab 26 14 = (.if_icmp .le 13, 3) := by decide +kernel
set_option maxRecDepth 100000 in
theorem ti_26_17 : dp_tab 26 17 = (.new 81, 3) := by decide +kernel
set_option maxRecDepth 100000 in
theorem ti_26_20 : dp_tab 26 20 = (.dup, 1) := by decide +kernel
set_option maxRecDepth 100000 in
theorem ti_26_21 : dp_tab 26 21 = (.ldc 118, 2) := by decide +kernel
set_option maxRecDepth 100000 in
theorem ti_26_23 : dp_tab 26 23 = (.invokespecial 85, 3) := by decide +kernel
set_option maxRecDepth 100000 in
theorem ti_26_26 : dp_tab 26 26 = (.athrow, 1) := by decide +kernel
set_option maxRecDepth 100000 in
theorem ti_26_27 : dp_tab 26 27 = (.aload_n 0, 1) := by decide +kernel
set_option maxRecDepth 100000 in
theorem ti_26_28 : dp_tab 26 28 = (.getfield 26, 3) := by decide +kernel
set_option maxRecDepth 100000 in
theorem ti_26_31 : dp_tab 26 31 = (.getfield 91, 3) := by decide +kernel
set_option maxRecDepth 100000 in
theorem ti_26_34 : dp_tab 26 34 = (.iload_n 1, 1) := by decide +kernel
set_option maxRecDepth 100000 in
theorem ti_26_35 : dp_tab 26 35 = (.aload_n 0, 1) := by decide +kernel
set_option maxRecDepth 100000 in
theorem ti_26_36 : dp_tab 26 36 = (.getfield 26, 3) := by decide +kernel
set_option maxRecDepth 100000 in
theorem ti_26_39 : dp_tab 26 39 = (.getfield 91, 3) := by decide +kernel
set_option maxRecDepth 100000 in
theorem ti_26_42 : dp_tab 26 42 = (.iload_n 1, 1) := by decide +kernel
set_option maxRecDepth 100000 in
theorem ti_26_43 : dp_tab 26 43 = (.iaload, 1) := by decide +kernel
set_option maxRecDepth 100000 in
theorem ti_26_44 : dp_tab 26 44 = (.iload_n 2, 1) := by decide +kernel
set_option maxRecDepth 100000 in
theorem ti_26_45 : dp_tab 26 45 = (.iadd, 1) := by decide +kernel
set_option maxRecDepth 100000 in
theorem ti_26_46 : dp_tab 26 46 = (.sipush 9999, 3) := by decide +kernel
set_option maxRecDepth 100000 in
theorem ti_26_49 : dp_tab 26 49 = (.invokestatic 120, 3) := by decide +kernel
set_option maxRecDepth 100000 in
theorem ti_26_52 : dp_tab 26 52 = (.iastore, 1) := by decide +kernel
set_option maxRecDepth 100000 in
theorem ti_26_53 : dp_tab 26 53 = (.aload_n 0, 1) := by decide +kernel
set_option maxRecDepth 100000 in
theorem ti_26_54 : dp_tab 26 54 = (.getfield 26, 3) := by decide +kernel
set_option maxRecDepth 100000 in
theorem ti_26_57 : dp_tab 26 57 = (.getfield 91, 3) := by decide +kernel
set_option maxRecDepth 100000 in
theorem ti_26_60 : dp_tab 26 60 = (.iload_n 1, 1) := by decide +kernel
set_option maxRecDepth 100000 in
theorem ti_26_61 : dp_tab 26 61 = (.iaload, 1) := by decide +kernel
set_option maxRecDepth 100000 in
theorem ti_26_62 : dp_tab 26 62 = (.ireturn, 1) := by decide +kernel
set_option maxRecDepth 100000 in
theorem ti_27_0 : dp_tab 27 0 = (.aload_n 0, 1) := by decide +kernel
set_option maxRecDepth 100000 in
theorem ti_27_1 : dp_tab 27 1 = (.iload_n 1, 1) := by decide +kernel
set_option maxRecDepth 100000 in
theorem ti_27_2 : dp_tab 27 2 = (.invokevirtual 94, 3) := by decide +kernel
set_option maxRecDepth 100000 in
theorem ti_27_5 : dp_tab 27 5 = (.aload_n 0, 1) := by decide +kernel
set_option maxRecDepth 100000 in
theorem ti_27_6 : dp_tab 27 6 = (.aload_n 0, 1) := by decide +kernel
set_option maxRecDepth 100000 in
theorem ti_27_7 : dp_tab 27 7 = (.getfield 26, 3) := by decide +kernel
set_option maxRecDepth 100000 in
theorem ti_27_10 : dp_tab 27 10 = (.iload_n 1, 1) := by decide +kernel
set_option maxRecDepth 100000 in
theorem ti_27_11 : dp_tab 27 11 = (.invokevirtual 125, 3) := by decide +kernel
set_option maxRecDepth 100000 in
theorem ti_27_14 : dp_tab 27 14 = (.ireturn, 1) := by decide +kernel
set_option maxRecDepth 100000 in
theorem ti_28_0 : dp_tab 28 0 = (.iload_n 1, 1) := by decide +kernel
set_option maxRecDepth 100000 in
theorem ti_28_1 : dp_tab 28 1 = (.invokestatic 129, 3) := by decide +kernel
set_option maxRecDepth 100000 in
theorem ti_28_4 : dp_tab 28 4 = (.aload_n 0, 1) := by decide +kernel
set_option maxRecDepth 100000 in
theorem ti_28_5 : dp_tab 28 5 = (.getfield 26, 3) := by decide +kernel
set_option maxRecDepth 100000 in
theorem ti_28_8 : dp_tab 28 8 = (.invokevirtual 132, 3) := by decide +kernel
set_option maxRecDepth 100000 in
theorem ti_28_11 : dp_tab 28 11 = (.istore_n 2, 1) := by decide +kernel
set_option maxRecDepth 100000 in
theorem ti_28_12 : dp_tab 28 12 = (.aload_n 0, 1) := by decide +kernel
set_option maxRecDepth 100000 in
theorem ti_28_13 : dp_tab 28 13 = (.aload_n 0, 1) := by decide +kernel
set_option maxRecDepth 100000 in
theorem ti_28_14 : dp_tab 28 14 = (.getfield 26, 3) := by decide +kernel
set_option maxRecDepth 100000 in
theorem ti_28_17 : dp_tab 28 17 = (.iload_n 1, 1) := by decide +kernel
set_option maxRecDepth 100000 in
theorem ti_28_18 : dp_tab 28 18 = (.invokevirtual 136, 3) := by decide +kernel
set_option maxRecDepth 100000 in
theorem ti_28_21 : dp_tab 28 21 = (.aload_n 0, 1) := by decide +kernel
set_option maxRecDepth 100000 in
theorem ti_28_22 : dp_tab 28 22 = (.getfield 26, 3) := by decide +kernel
set_option maxRecDepth 100000 in
theorem ti_28_25 : dp_tab 28 25 = (.invokevirtual 132, 3) := by decide +kernel
set_option maxRecDepth 100000 in
theorem ti_28_28 : dp_tab 28 28 = (.iload_n 2, 1) := by decide +kernel
set_option maxRecDepth 100000 in
theorem ti_28_29 : dp_tab 28 29 = (.isub, 1) := by decide +kernel
set_option maxRecDepth 100000 in
theorem ti_28_30 : dp_tab 28 30 = (.ireturn, 1) := by decide +kernel
set_option maxRecDepth 100000 in
theorem ti_29_0 : dp_tab 29 0 = (.aload_n 0, 1) := by decide +kernel
set_option maxRecDepth 100000 in
theorem ti_29_1 : dp_tab 29 1 = (.iload_n 1, 1) := by decide +kernel
set_option maxRecDepth 100000 in
theorem ti_29_2 : dp_tab 29 2 = (.invokevirtual 61, 3) := by decide +kernel
set_option maxRecDepth 100000 in
theorem ti_29_5 : dp_tab 29 5 = (.iload_n 2, 1) := by decide +kernel
set_option maxRecDepth 100000 in
theorem ti_29_6 : dp_tab 29 6 = (.iconst 4, 1) := by decide +kernel
set_option maxRecDepth 100000 in
theorem ti_29_7 : dp_tab 29 7 = (.invokestatic 140, 3) := by decide +kernel
set_option maxRecDepth 100000 in
theorem ti_29_10 : dp_tab 29 10 = (.aload_n 0, 1) := by decide +kernel
set_option maxRecDepth 100000 in
theorem ti_29_11 : dp_tab 29 11 = (.iload_n 1, 1) := by decide +kernel
set_option maxRecDepth 100000 in
theorem ti_29_12 : dp_tab 29 12 = (.iload_n 2, 1) := by decide +kernel
set_option maxRecDepth 100000 in
theorem ti_29_13 : dp_tab 29 13 = (.invokevirtual 143, 3) := by decide +kernel
set_option maxRecDepth 100000 in
theorem ti_29_16 : dp_tab 29 16 = (.ireturn, 1) := by decide +kernel
set_option maxRecDepth 100000 in
theorem ti_30_0 : dp_tab 30 0 = (.aload_n 0, 1) := by decide +kernel
set_option maxRecDepth 100000 in
theorem ti_30_1 : dp_tab 30 1 = (.iload_n 1, 1) := by decide +kernel
set_option maxRecDepth 100000 in
theorem ti_30_2 : dp_tab 30 2 = (.invokevirtual 61, 3) := by decide +kernel
set_option maxRecDepth 100000 in
theorem ti_30_5 : dp_tab 30 5 = (.iload_n 2, 1) := by decide +kernel
set_option maxRecDepth 100000 in
theorem ti_30_6 : dp_tab 30 6 = (.aload_n 0, 1) := by decide +kernel
set_option maxRecDepth 100000 in
theorem ti_30_7 : dp_tab 30 7 = (.getfield 10, 3) := by decide +kernel
set_option maxRecDepth 100000 in
theorem ti_30_10 : dp_tab 30 10 = (.getfield 64, 3) := by decide +kernel
set_option maxRecDepth 100000 in
theorem ti_30_13 : dp_tab 30 13 = (.iload_n 1, 1) := by decide +kernel
set_option maxRecDepth 100000 in
theorem ti_30_14 : dp_tab 30 14 = (.iaload, 1) := by decide +kernel
set_option maxRecDepth 100000 in
theorem ti_30_15 : dp_tab 30 15 = (.invokestatic 73, 3) := by decide +kernel
set_option maxRecDepth 100000 in
theorem ti_30_18 : dp_tab 30 18 = (.aload_n 0, 1) := by decide +kernel
set_option maxRecDepth 100000 in
theorem ti_30_19 : dp_tab 30 19 = (.getfield 10, 3) := by decide +kernel
set_option maxRecDepth 100000 in
theorem ti_30_22 : dp_tab 30 22 = (.getfield 69, 3) := by decide +kernel
set_option maxRecDepth 100000 in
theorem ti_30_25 : dp_tab 30 25 = (.iload_n 1, 1) := by decide +kernel
set_option maxRecDepth 100000 in
theorem ti_30_26 : dp_tab 30 26 = (.aaload, 1) := by decide +kernel
set_option maxRecDepth 100000 in
theorem ti_30_27 : dp_tab 30 27 = (.iload_n 2, 1) := by decide +kernel
set_option maxRecDepth 100000 in
theorem ti_30_28 : dp_tab 30 28 = (.iaload, 1) := by decide +kernel
set_option maxRecDepth 100000 in
theorem ti_30_29 : dp_tab 30 29 = (.ireturn, 1) := by decide +kernel
set_option maxRecDepth 100000 in
theorem ti_31_0 : dp_tab 31 0 = (.aload_n 0, 1) := by decide +kernel
set_option maxRecDepth 100000 in
theorem ti_31_1 : dp_tab 31 1 = (.iload_n 1, 1) := by decide +kernel
set_option maxRecDepth 100000 in
theorem ti_31_2 : dp_tab 31 2 = (.invokevirtual 94, 3) := by decide +kernel
set_option maxRecDepth 100000 in
theorem ti_31_5 : dp_tab 31 5 = (.iload_n 2, 1) := by decide +kernel
set_option maxRecDepth 100000 in
theorem ti_31_6 : dp_tab 31 6 = (.bipush 6, 2) := by decide +kernel
set_option maxRecDepth 100000 in
theorem ti_31_8 : dp_tab 31 8 = (.invokestatic 140, 3) := by decide +kernel
set_option maxRecDepth 100000 in
theorem ti_31_11 : dp_tab 31 11 = (.aload_n 0, 1) := by decide +kernel
set_option maxRecDepth 100000 in
theorem ti_31_12 : dp_tab 31 12 = (.iload_n 1, 1) := by decide +kernel
set_option maxRecDepth 100000 in
theorem ti_31_13 : dp_tab 31 13 = (.iload_n 2, 1) := by decide +kernel
set_option maxRecDepth 100000 in
theorem ti_31_14 : dp_tab 31 14 = (.invokevirtual 146, 3) := by decide +kernel
set_option maxRecDepth 100000 in
theorem ti_31_17 : dp_tab 31 17 = (.ireturn, 1) := by decide +kernel
set_option maxRecDepth 100000 in
theorem ti_32_0 : dp_tab 32 0 = (.aload_n 0, 1) := by decide +kernel
set_option maxRecDepth 100000 in
theorem ti_32_1 : dp_tab 32 1 = (.iload_n 1, 1) := by decide +kernel
set_option maxRecDepth 100000 in
theorem ti_32_2 : dp_tab 32 2 = (.invokevirtual 94, 3) := by decide +kernel
set_option maxRecDepth 100000 in
theorem ti_32_5 : dp_tab 32 5 = (.iload_n 2, 1) := by decide +kernel
set_option maxRecDepth 100000 in
theorem ti_32_6 : dp_tab 32 6 = (.aload_n 0, 1) := by decide +kernel
set_option maxRecDepth 100000 in
theorem ti_32_7 : dp_tab 32 7 = (.getfield 19, 3) := by decide +kernel
set_option maxRecDepth 100000 in
theorem ti_32_10 : dp_tab 32 10 = (.getfield 97, 3) := by decide +kernel
set_option maxRecDepth 100000 in
theorem ti_32_13 : dp_tab 32 13 = (.iload_n 1, 1) := by decide +kernel
set_option maxRecDepth 100000 in
theorem ti_32_14 : dp_tab 32 14 = (.iaload, 1) := by decide +kernel
set_option maxRecDepth 100000 in
theorem ti_32_15 : dp_tab 32 15 = (.invokestatic 73, 3) := by decide +kernel
set_option maxRecDepth 100000 in
theorem ti_32_18 : dp_tab 32 18 = (.aload_n 0, 1) := by decide +kernel
set_option maxRecDepth 100000 in
theorem ti_32_19 : dp_tab 32 19 = (.getfield 19, 3) := by decide +kernel
set_option maxRecDepth 100000 in
theorem ti_32_22 : dp_tab 32 22 = (.getfield 108, 3) := by decide +kernel
set_option maxRecDepth 100000 in
theorem ti_32_25 : dp_tab 32 25 = (.iload_n 1, 1) := by decide +kernel
set_option maxRecDepth 100000 in
theorem ti_32_26 : dp_tab 32 26 = (.aaload, 1) := by decide +kernel
set_option maxRecDepth 100000 in
theorem ti_32_27 : dp_tab 32 27 = (.iload_n 2, 1) := by decide +kernel
set_option maxRecDepth 100000 in
theorem ti_32_28 : dp_tab 32 28 = (.iaload, 1) := by decide +kernel
set_option maxRecDepth 100000 in
theorem ti_32_29 : dp_tab 32 29 = (.ireturn, 1) := by decide +kernel
set_option maxRecDepth 100000 in
theorem ti_33_0 : dp_tab 33 0 = (.iload_n 1, 1) := by decide +kernel
set_option maxRecDepth 100000 in
theorem ti_33_1 : dp_tab 33 1 = (.bipush 7, 2) := by decide +kernel
set_option maxRecDepth 100000 in
theorem ti_33_3 : dp_tab 33 3 = (.invokestatic 140, 3) := by decide +kernel
set_option maxRecDepth 100000 in
theorem ti_33_6 : dp_tab 33 6 = (.aload_n 0, 1) := by decide +kernel
set_option maxRecDepth 100000 in
theorem ti_33_7 : dp_tab 33 7 = (.iload_n 1, 1) := by decide +kernel
set_option maxRecDepth 100000 in
theorem ti_33_8 : dp_tab 33 8 = (.invokevirtual 149, 3) := by decide +kernel
set_option maxRecDepth 100000 in
theorem ti_33_11 : dp_tab 33 11 = (.ireturn, 1) := by decide +kernel
set_option maxRecDepth 100000 in
theorem ti_34_0 : dp_tab 34 0 = (.iload_n 1, 1) := by decide +kernel
set_option maxRecDepth 100000 in
theorem ti_34_1 : dp_tab 34 1 = (.invokestatic 41, 3) := by decide +kernel
set_option maxRecDepth 100000 in
theorem ti_34_4 : dp_tab 34 4 = (.aload_n 0, 1) := by decide +kernel
set_option maxRecDepth 100000 in
theorem ti_34_5 : dp_tab 34 5 = (.getfield 10, 3) := by decide +kernel
set_option maxRecDepth 100000 in
theorem ti_34_8 : dp_tab 34 8 = (.iload_n 1, 1) := by decide +kernel
set_option maxRecDepth 100000 in
theorem ti_34_9 : dp_tab 34 9 = (.invokevirtual 153, 3) := by decide +kernel
set_option maxRecDepth 100000 in
theorem ti_34_12 : dp_tab 34 12 = (.ireturn, 1) := by decide +kernel
set_option maxRecDepth 100000 in
theorem ti_35_0 : dp_tab 35 0 = (.aload_n 0, 1) := by decide +kernel
set_option maxRecDepth 100000 in
theorem ti_35_1 : dp_tab 35 1 = (.iload_n 1, 1) := by decide +kernel
set_option maxRecDepth 100000 in
theorem ti_35_2 : dp_tab 35 2 = (.invokevirtual 94, 3) := by decide +kernel
set_option maxRecDepth 100000 in
theorem ti_35_5 : dp_tab 35 5 = (.aload_n 0, 1) := by decide +kernel
set_option maxRecDepth 100000 in
theorem ti_35_6 : dp_tab 35 6 = (.iload_n 2, 1) := by decide +kernel
set_option maxRecDepth 100000 in
theorem ti_35_7 : dp_tab 35 7 = (.invokevirtual 61, 3) := by decide +kernel
set_option maxRecDepth 100000 in
theorem ti_35_10 : dp_tab 35 10 = (.aload_n 0, 1) := by decide +kernel
set_option maxRecDepth 100000 in
theorem ti_35_11 : dp_tab 35 11 = (.aload_n 0, 1) := by decide +kernel
set_option maxRecDepth 100000 in
theorem ti_35_12 : dp_tab 35 12 = (.getfield 26, 3) := by decide +kernel
set_option maxRecDepth 100000 in
theorem ti_35_15 : dp_tab 35 15 = (.iload_n 1, 1) := by decide +kernel
set_option maxRecDepth 100000 in
theorem ti_35_16 : dp_tab 35 16 = (.iload_n 2, 1) := by decide +kernel
set_option maxRecDepth 100000 in
theorem ti_35_17 : dp_tab 35 17 = (.invokevirtual 156, 3) := by decide +kernel
set_option maxRecDepth 100000 in
theorem ti_35_20 : dp_tab 35 20 = (.ireturn, 1) := by decide +kernel
set_option maxRecDepth 100000 in
theorem ti_36_0 : dp_tab 36 0 = (.aload_n 0, 1) := by decide +kernel
set_option maxRecDepth 100000 in
theorem ti_36_1 : dp_tab 36 1 = (.iload_n 1, 1) := by decide +kernel
set_option maxRecDepth 100000 in
theorem ti_36_2 : dp_tab 36 2 = (.invokevirtual 94, 3) := by decide +kernel
set_option maxRecDepth 100000 in
theorem ti_36_5 : dp_tab 36 5 = (.iload_n 2, 1) := by decide +kernel
set_option maxRecDepth 100000 in
theorem ti_36_6 : dp_tab 36 6 = (.aload_n 0, 1) := by decide +kernel
set_option maxRecDepth 100000 in
theorem ti_36_7 : dp_tab 36 7 = (.iload_n 1, 1) := by decide +kernel
set_option maxRecDepth 100000 in
theorem ti_36_8 : dp_tab 36 8 = (.invokevirtual 160, 3) := by decide +kernel
set_option maxRecDepth 100000 in
theorem ti_36_11 : dp_tab 36 11 = (.invokestatic 73, 3) := by decide +kernel
set_option maxRecDepth 100000 in
theorem ti_36_14 : dp_tab 36 14 = (.aload_n 0, 1) := by decide +kernel
set_option maxRecDepth 100000 in
theorem ti_36_15 : dp_tab 36 15 = (.iload_n 1, 1) := by decide +kernel
set_option maxRecDepth 100000 in
theorem ti_36_16 : dp_tab 36 16 = (.iload_n 2, 1) := by decide +kernel
set_option maxRecDepth 100000 in
theorem ti_36_17 : dp_tab 36 17 = (.invokevirtual 163, 3) := by decide +kernel
set_option maxRecDepth 100000 in
theorem ti_36_20 : dp_tab 36 20 = (.ireturn, 1) := by decide +kernel
set_option maxRecDepth 100000 in
theorem ti_37_0 : dp_tab 37 0 = (.aload_n 0, 1) := by decide +kernel
set_option maxRecDepth 100000 in
theorem ti_37_1 : dp_tab 37 1 = (.iload_n 1, 1) := by decide +kernel
set_option maxRecDepth 100000 in
theorem ti_37_2 : dp_tab 37 2 = (.invokevirtual 61, 3) := by decide +kernel
set_option maxRecDepth 100000 in
theorem ti_37_5 : dp_tab 37 5 = (.aload_n 0, 1) := by decide +kernel
set_option maxRecDepth 100000 in
theorem ti_37_6 : dp_tab 37 6 = (.iload_n 2, 1) := by decide +kernel
set_option maxRecDepth 100000 in
theorem ti_37_7 : dp_tab 37 7 = (.invokevirtual 61, 3) := by decide +kernel
set_option maxRecDepth 100000 in
theorem ti_37_10 : dp_tab 37 10 = (.aload_n 0, 1) := by decide +kernel
set_option maxRecDepth 100000 in
theorem ti_37_11 : dp_tab 37 11 = (.getfield 10, 3) := by decide +kernel
set_option maxRecDepth 100000 in
theorem ti_37_14 : dp_tab 37 14 = (.getfield 64, 3) := by decide +kernel
set_option maxRecDepth 100000 in
theorem ti_37_17 : dp_tab 37 17 = (.iload_n 1, 1) := by decide +kernel
set_option maxRecDepth 100000 in
theorem ti_37_18 : dp_tab 37 18 = (.iaload, 1) := by decide +kernel
set_option maxRecDepth 100000 in
theorem ti_37_19 : dp_tab 37 19 = (.aload_n 0, 1) := by decide +kernel
set_option maxRecDepth 100000 in
theorem ti_37_20 : dp_tab 37 20 = (.getfield 10, 3) := by decide +kernel
set_option maxRecDepth 100000 in
theorem ti_37_23 : dp_tab 37 23 = (.getfield 64, 3) := by decide +kernel
set_option maxRecDepth 100000 in
theorem ti_37_26 : dp_tab 37 26 = (.iload_n 2, 1) := by decide +kernel
set_option maxRecDepth 100000 in
theorem ti_37_27 : dp_tab 37 27 = (.iaload, 1) := by decide +kernel
set_option maxRecDepth 100000 in
theorem ti_37_28 : dp_tab 37 28 = (.iadd, 1) := by decide +kernel
set_option maxRecDepth 100000 in
theorem ti_37_29 : dp_tab 37 29 = (.istore_n 3, 1) := by decide +kernel
set_option maxRecDepth 100000 in
theorem ti_37_30 : dp_tab 37 30 = (.iload_n 3, 1) := by decide +kernel
set_option maxRecDepth 100000 in
theorem ti_37_31 : dp_tab 37 31 = (.ifCond .gt 5, 3) := by decide +kernel
set_option maxRecDepth 100000 in
theorem ti_37_34 : dp_tab 37 34 = (.iconst 0, 1) := by decide +kernel
set_option maxRecDepth 100000 in
theorem ti_37_35 : dp_tab 37 35 = (.ireturn, 1) := by decide +kernel
set_option maxRecDepth 100000 in
theorem ti_37_36 : dp_tab 37 36 = (.iconst 2, 1) := by decide +kernel
set_option maxRecDepth 100000 in
theorem ti_37_37 : dp_tab 37 37 = (.aload_n 0, 1) := by decide +kernel
set_option maxRecDepth 100000 in
theorem ti_37_38 : dp_tab 37 38 = (.getfield 10, 3) := by decide +kernel
set_option maxRecDepth 100000 in
theorem ti_37_41 : dp_tab 37 41 = (.iload_n 1, 1) := by decide +kernel
set_option maxRecDepth 100000 in
theorem ti_37_42 : dp_tab 37 42 = (.iload_n 2, 1) := by decide +kernel
set_option maxRecDepth 100000 in
theorem ti_37_43 : dp_tab 37 43 = (.invokevirtual 166, 3) := by decide +kernel
set_option maxRecDepth 100000 in
theorem ti_37_46 : dp_tab 37 46 = (.imul, 1) := by decide +kernel
set_option maxRecDepth 100000 in
theorem ti_37_47 : dp_tab 37 47 = (.bipush 100, 2) := by decide +kernel
set_option maxRecDepth 100000 in
theorem ti_37_49 : dp_tab 37 49 = (.imul, 1) := by decide +kernel
set_option maxRecDepth 100000 in
theorem ti_37_50 : dp_tab 37 50 = (.iload_n 3, 1) := by decide +kernel
set_option maxRecDepth 100000 in
theorem ti_37_51 : dp_tab 37 51 = (.idiv, 1) := by decide +kernel
set_option maxRecDepth 100000 in
theorem ti_37_52 : dp_tab 37 52 = (.ireturn, 1) := by decide +kernel
set_option maxRecDepth 100000 in
theorem ti_38_0 : dp_tab 38 0 = (.aload_n 0, 1) := by decide +kernel
set_option maxRecDepth 100000 in
theorem ti_38_1 : dp_tab 38 1 = (.iload_n 1, 1) := by decide +kernel
set_option maxRecDepth 100000 in
theorem ti_38_2 : dp_tab 38 2 = (.invokevirtual 94, 3) := by decide +kernel
set_option maxRecDepth 100000 in
theorem ti_38_5 : dp_tab 38 5 = (.iconst (-1), 1) := by decide +kernel
set_option maxRecDepth 100000 in
theorem ti_38_6 : dp_tab 38 6 = (.istore_n 2, 1) := by decide +kernel
set_option maxRecDepth 100000 in
theorem ti_38_7 : dp_tab 38 7 = (.iconst (-1), 1) := by decide +kernel
set_option maxRecDepth 100000 in
theorem ti_38_8 : dp_tab 38 8 = (.istore_n 3, 1) := by decide +kernel
set_option maxRecDepth 100000 in
theorem ti_38_9 : dp_tab 38 9 = (.iconst 0, 1) := by decide +kernel
set_option maxRecDepth 100000 in
theorem ti_38_10 : dp_tab 38 10 = (.istore 4, 2) := by decide +kernel
set_option maxRecDepth 100000 in
theorem ti_38_12 : dp_tab 38 12 = (.iload 4, 2) := by decide +kernel
set_option maxRecDepth 100000 in
theorem ti_38_14 : dp_tab 38 14 = (.bipush 20, 2) := by decide +kernel
set_option maxRecDepth 100000 in
theorem ti_38_16 : dp_tab 38 16 = (.if_icmp .ge 30, 3) := by decide +kernel
set_option maxRecDepth 100000 in
theorem ti_38_19 : dp_tab 38 19 = (.aload_n 0, 1) := by decide +kernel
set_option maxRecDepth 100000 in
theorem ti_38_20 : dp_tab 38 20 = (.iload_n 1, 1) := by decide +kernel
set_option maxRecDepth 100000 in
theorem ti_38_21 : dp_tab 38 21 = (.iload 4, 2) := by decide +kernel
set_option maxRecDepth 100000 in
theorem ti_38_23 : dp_tab 38 23 = (.invokevirtual 169, 3) := by decide +kernel
set_option maxRecDepth 100000 in
theorem ti_38_26 : dp_tab 38 26 = (.istore 5, 2) := by decide +kernel
set_option maxRecDepth 100000 in
theorem ti_38_28 : dp_tab 38 28 = (.iload 5, 2) := by decide +kernel
set_option maxRecDepth 100000 in
theorem ti_38_30 : dp_tab 38 30 = (.iload_n 3, 1) := by decide +kernel
set_option maxRecDepth 100000 in
theorem ti_38_31 : dp_tab 38 31 = (.if_icmp .le 9, 3) := by decide +kernel
set_option maxRecDepth 100000 in
theorem ti_38_34 : dp_tab 38 34 = (.iload 5, 2) := by decide +kernel
set_option maxRecDepth 100000 in
theorem ti_38_36 : dp_tab 38 36 = (.istore_n 3, 1) := by decide +kernel
set_option maxRecDepth 100000 in
theorem ti_38_37 : dp_tab 38 37 = (.iload 4, 2) := by decide +kernel
set_option maxRecDepth 100000 in
theorem ti_38_39 : dp_tab 38 39 = (.istore_n 2, 1) := by decide +kernel
set_option maxRecDepth 100000 in
theorem ti_38_40 : dp_tab 38 40 = (.iinc 4 1, 3) := by decide +kernel
set_option maxRecDepth 100000 in
theorem ti_38_43 : dp_tab 38 43 = (.goto (-31), 3) := by decide +kernel
set_option maxRecDepth 100000 in
theorem ti_38_46 : dp_tab 38 46 = (.iload_n 2, 1) := by decide +kernel
set_option maxRecDepth 100000 in
theorem ti_38_47 : dp_tab 38 47 = (.ireturn, 1) := by decide +kernel
set_option maxRecDepth 100000 in
theorem ti_39_0 : dp_tab 39 0 = (.iload_n 1, 1) := by decide +kernel
set_option maxRecDepth 100000 in
theorem ti_39_1 : dp_tab 39 1 = (.invokestatic 129, 3) := by decide +kernel
set_option maxRecDepth 100000 in
theorem ti_39_4 : dp_tab 39 4 = (.aload_n 0, 1) := by decide +kernel
set_option maxRecDepth 100000 in
theorem ti_39_5 : dp_tab 39 5 = (.iload_n 2, 1) := by decide +kernel
set_option maxRecDepth 100000 in
theorem ti_39_6 : dp_tab 39 6 = (.invokevirtual 94, 3) := by decide +kernel
set_option maxRecDepth 100000 in
theorem ti_39_9 : dp_tab 39 9 = (.aload_n 0, 1) := by decide +kernel
set_option maxRecDepth 100000 in
theorem ti_39_10 : dp_tab 39 10 = (.getfield 30, 3) := by decide +kernel
set_option maxRecDepth 100000 in
theorem ti_39_13 : dp_tab 39 13 = (.aload_n 0, 1) := by decide +kernel
set_option maxRecDepth 100000 in
theorem ti_39_14 : dp_tab 39 14 = (.getfield 26, 3) := by decide +kernel
set_option maxRecDepth 100000 in
theorem ti_39_17 : dp_tab 39 17 = (.invokevirtual 172, 3) := by decide +kernel
set_option maxRecDepth 100000 in
theorem ti_39_20 : dp_tab 39 20 = (.aload_n 0, 1) := by decide +kernel
set_option maxRecDepth 100000 in
theorem ti_39_21 : dp_tab 39 21 = (.aload_n 0, 1) := by decide +kernel
set_option maxRecDepth 100000 in
theorem ti_39_22 : dp_tab 39 22 = (.getfield 30, 3) := by decide +kernel
set_option maxRecDepth 100000 in
theorem ti_39_25 : dp_tab 39 25 = (.iload_n 1, 1) := by decide +kernel
set_option maxRecDepth 100000 in
theorem ti_39_26 : dp_tab 39 26 = (.invokevirtual 136, 3) := by decide +kernel
set_option maxRecDepth 100000 in
theorem ti_39_29 : dp_tab 39 29 = (.aload_n 0, 1) := by decide +kernel
set_option maxRecDepth 100000 in
theorem ti_39_30 : dp_tab 39 30 = (.getfield 30, 3) := by decide +kernel
set_option maxRecDepth 100000 in
theorem ti_39_33 : dp_tab 39 33 = (.getfield 91, 3) := by decide +kernel
set_option maxRecDepth 100000 in
theorem ti_39_36 : dp_tab 39 36 = (.iload_n 2, 1) := by decide +kernel
set_option maxRecDepth 100000 in
theorem ti_39_37 : dp_tab 39 37 = (.iaload, 1) := by decide +kernel
set_option maxRecDepth 100000 in
theorem ti_39_38 : dp_tab 39 38 = (.ireturn, 1) := by decide +kernel
set_option maxRecDepth 100000 in
theorem ti_40_0 : dp_tab 40 0 = (.aload_n 0, 1) := by decide +kernel
set_option maxRecDepth 100000 in
theorem ti_40_1 : dp_tab 40 1 = (.getfield 30, 3) := by decide +kernel
set_option maxRecDepth 100000 in
theorem ti_40_4 : dp_tab 40 4 = (.aload_n 0, 1) := by decide +kernel
set_option maxRecDepth 100000 in
theorem ti_40_5 : dp_tab 40 5 = (.getfield 26, 3) := by decide +kernel
set_option maxRecDepth 100000 in
theorem ti_40_8 : dp_tab 40 8 = (.invokevirtual 172, 3) := by decide +kernel
set_option maxRecDepth 100000 in
theorem ti_40_11 : dp_tab 40 11 = (.iconst 0, 1) := by decide +kernel
set_option maxRecDepth 100000 in
theorem ti_40_12 : dp_tab 40 12 = (.istore_n 1, 1) := by decide +kernel
set_option maxRecDepth 100000 in
theorem ti_40_13 : dp_tab 40 13 = (.iload_n 1, 1) := by decide +kernel
set_option maxRecDepth 100000 in
theorem ti_40_14 : dp_tab 40 14 = (.bipush 40, 2) := by decide +kernel
set_option maxRecDepth 100000 in
theorem ti_40_16 : dp_tab 40 16 = (.if_icmp .ge 31, 3) := by decide +kernel
set_option maxRecDepth 100000 in
theorem ti_40_19 : dp_tab 40 19 = (.aload_n 0, 1) := by decide +kernel
set_option maxRecDepth 100000 in
theorem ti_40_20 : dp_tab 40 20 = (.aload_n 0, 1) := by decide +kernel
set_option maxRecDepth 100000 in
theorem ti_40_21 : dp_tab 40 21 = (.getfield 30, 3) := by decide +kernel
set_option maxRecDepth 100000 in
theorem ti_40_24 : dp_tab 40 24 = (.invokevirtual 176, 3) := by decide +kernel
set_option maxRecDepth 100000 in
theorem ti_40_27 : dp_tab 40 27 = (.ifCond .eq 5, 3) := by decide +kernel
set_option maxRecDepth 100000 in
theorem ti_40_30 : dp_tab 40 30 = (.iload_n 1, 1) := by decide +kernel
set_option maxRecDepth 100000 in
theorem ti_40_31 : dp_tab 40 31 = (.ireturn, 1) := by decide +kernel
set_option maxRecDepth 100000 in
theorem ti_40_32 : dp_tab 40 32 = (.aload_n 0, 1) := by decide +kernel
set_option maxRecDepth 100000 in
theorem ti_40_33 : dp_tab 40 33 = (.aload_n 0, 1) := by decide +kernel
set_option maxRecDepth 100000 in
theorem ti_40_34 : dp_tab 40 34 = (.getfield 30, 3) := by decide +kernel
set_option maxRecDepth 100000 in
theorem ti_40_37 : dp_tab 40 37 = (.iconst 1, 1) := by decide +kernel
set_option maxRecDepth 100000 in
theorem ti_40_38 : dp_tab 40 38 = (.invokevirtual 136, 3) := by decide +kernel
set_option maxRecDepth 100000 in
theorem ti_40_41 : dp_tab 40 41 = (.iinc 1 1, 3) := by decide +kernel
set_option maxRecDepth 100000 in
theorem ti_40_44 : dp_tab 40 44 = (.goto (-31), 3) := by decide +kernel
set_option maxRecDepth 100000 in
theorem ti_40_47 : dp_tab 40 47 = (.aload_n 0, 1) := by decide +kernel
set_option maxRecDepth 100000 in
theorem ti_40_48 : dp_tab 40 48 = (.aload_n 0, 1) := by decide +kernel
set_option maxRecDepth 100000 in
theorem ti_40_49 : dp_tab 40 49 = (.getfield 30, 3) := by decide +kernel
set_option maxRecDepth 100000 in
theorem ti_40_52 : dp_tab 40 52 = (.invokevirtual 176, 3) := by decide +kernel
set_option maxRecDepth 100000 in
theorem ti_40_55 : dp_tab 40 55 = (.ifCond .eq 8, 3) := by decide +kernel
set_option maxRecDepth 100000 in
theorem ti_40_58 : dp_tab 40 58 = (.bipush 40, 2) := by decide +kernel
set_option maxRecDepth 100000 in
theorem ti_40_60 : dp_tab 40 60 = (.goto 4, 3) := by decide +kernel
set_option maxRecDepth 100000 in
theorem ti_40_63 : dp_tab 40 63 = (.iconst (-1), 1) := by decide +kernel
set_option maxRecDepth 100000 in
theorem ti_40_64 : dp_tab 40 64 = (.ireturn, 1) := by decide +kernel
set_option maxRecDepth 100000 in
theorem ti_41_0 : dp_tab 41 0 = (.aload_n 0, 1) := by decide +kernel
set_option maxRecDepth 100000 in
theorem ti_41_1 : dp_tab 41 1 = (.getfield 26, 3) := by decide +kernel
set_option maxRecDepth 100000 in
theorem ti_41_4 : dp_tab 41 4 = (.invokevirtual 132, 3) := by decide +kernel
set_option maxRecDepth 100000 in
theorem ti_41_7 : dp_tab 41 7 = (.istore_n 1, 1) := by decide +kernel
set_option maxRecDepth 100000 in
theorem ti_41_8 : dp_tab 41 8 = (.iload_n 1, 1) := by decide +kernel
set_option maxRecDepth 100000 in
theorem ti_41_9 : dp_tab 41 9 = (.ifCond .gt 5, 3) := by decide +kernel
set_option maxRecDepth 100000 in
theorem ti_41_12 : dp_tab 41 12 = (.dconst 0, 1) := by decide +kernel
set_option maxRecDepth 100000 in
theorem ti_41_13 : dp_tab 41 13 = (.dreturn, 1) := by decide +kernel
set_option maxRecDepth 100000 in
theorem ti_41_14 : dp_tab 41 14 = (.aload_n 0, 1) := by decide +kernel
set_option maxRecDepth 100000 in
theorem ti_41_15 : dp_tab 41 15 = (.getfield 26, 3) := by decide +kernel
set_option maxRecDepth 100000 in
theorem ti_41_18 : dp_tab 41 18 = (.invokevirtual 180, 3) := by decide +kernel
set_option maxRecDepth 100000 in
theorem ti_41_21 : dp_tab 41 21 = (.i2d, 1) := by decide +kernel
set_option maxRecDepth 100000 in
theorem ti_41_22 : dp_tab 41 22 = (.iload_n 1, 1) := by decide +kernel
set_option maxRecDepth 100000 in
theorem ti_41_23 : dp_tab 41 23 = (.i2d, 1) := by decide +kernel
set_option maxRecDepth 100000 in
theorem ti_41_24 : dp_tab 41 24 = (.ddiv, 1) := by decide +kernel
set_option maxRecDepth 100000 in
theorem ti_41_25 : dp_tab 41 25 = (.dreturn, 1) := by decide +kernel
set_option maxRecDepth 100000 in
theorem ti_42_0 : dp_tab 42 0 = (.ldc2_w 183, 3) := by decide +kernel
set_option maxRecDepth 100000 in
theorem ti_42_3 : dp_tab 42 3 = (.lstore_n 1, 1) := by decide +kernel
set_option maxRecDepth 100000 in
theorem ti_42_4 : dp_tab 42 4 = (.iconst 0, 1) := by decide +kernel
set_option maxRecDepth 100000 in
theorem ti_42_5 : dp_tab 42 5 = (.istore_n 3, 1) := by decide +kernel
set_option maxRecDepth 100000 in
theorem ti_42_6 : dp_tab 42 6 = (.iload_n 3, 1) := by decide +kernel
set_option maxRecDepth 100000 in
theorem ti_42_7 : dp_tab 42 7 = (.bipush 7, 2) := by decide +kernel
set_option maxRecDepth 100000 in
theorem ti_42_9 : dp_tab 42 9 = (.if_icmp .ge 19, 3) := by decide +kernel
set_option maxRecDepth 100000 in
theorem ti_42_12 : dp_tab 42 12 = (.lload_n 1, 1) := by decide +kernel
set_option maxRecDepth 100000 in
theorem ti_42_13 : dp_tab 42 13 = (.aload_n 0, 1) := by decide +kernel
set_option maxRecDepth 100000 in
theorem ti_42_14 : dp_tab 42 14 = (.iload_n 3, 1) := by decide +kernel
set_option maxRecDepth 100000 in
theorem ti_42_15 : dp_tab 42 15 = (.invokevirtual 149, 3) := by decide +kernel
set_option maxRecDepth 100000 in
theorem ti_42_18 : dp_tab 42 18 = (.invokestatic 185, 3) := by decide +kernel
set_option maxRecDepth 100000 in
theorem ti_42_21 : dp_tab 42 21 = (.lstore_n 1, 1) := by decide +kernel
set_option maxRecDepth 100000 in
theorem ti_42_22 : dp_tab 42 22 = (.iinc 3 1, 3) := by decide +kernel
set_option maxRecDepth 100000 in
theorem ti_42_25 : dp_tab 42 25 = (.goto (-19), 3) := by decide +kernel
set_option maxRecDepth 100000 in
theorem ti_42_28 : dp_tab 42 28 = (.iconst 0, 1) := by decide +kernel
set_option maxRecDepth 100000 in
theorem ti_42_29 : dp_tab 42 29 = (.istore_n 3, 1) := by decide +kernel
set_option maxRecDepth 100000 in
theorem ti_42_30 : dp_tab 42 30 = (.iload_n 3, 1) := by decide +kernel
set_option maxRecDepth 100000 in
theorem ti_42_31 : dp_tab 42 31 = (.bipush 40, 2) := by decide +kernel
set_option maxRecDepth 100000 in
theorem ti_42_33 : dp_tab 42 33 = (.if_icmp .ge 23, 3) := by decide +kernel
set_option maxRecDepth 100000 in
theorem ti_42_36 : dp_tab 42 36 = (.lload_n 1, 1) := by decide +kernel
set_option maxRecDepth 100000 in
theorem ti_42_37 : dp_tab 42 37 = (.aload_n 0, 1) := by decide +kernel
set_option maxRecDepth 100000 in
theorem ti_42_38 : dp_tab 42 38 = (.getfield 10, 3) := by decide +kernel
set_option maxRecDepth 100000 in
theorem ti_42_41 : dp_tab 42 41 = (.getfield 44, 3) := by decide +kernel
set_option maxRecDepth 100000 in
theorem ti_42_44 : dp_tab 42 44 = (.iload_n 3, 1) := by decide +kernel
set_option maxRecDepth 100000 in
theorem ti_42_45 : dp_tab 42 45 = (.iaload, 1) := by decide +kernel
set_option maxRecDepth 100000 in
theorem ti_42_46 : dp_tab 42 46 = (.invokestatic 185, 3) := by decide +kernel
set_option maxRecDepth 100000 in
theorem ti_42_49 : dp_tab 42 49 = (.lstore_n 1, 1) := by decide +kernel
set_option maxRecDepth 100000 in
theorem ti_42_50 : dp_tab 42 50 = (.iinc 3 1, 3) := by decide +kernel
set_option maxRecDepth 100000 in
theorem ti_42_53 : dp_tab 42 53 = (.goto (-23), 3) := by decide +kernel
set_option maxRecDepth 100000 in
theorem ti_42_56 : dp_tab 42 56 = (.iconst 0, 1) := by decide +kernel
set_option maxRecDepth 100000 in
theorem ti_42_57 : dp_tab 42 57 = (.istore_n 3, 1) := by decide +kernel
set_option maxRecDepth 100000 in
theorem ti_42_58 : dp_tab 42 58 = (.iload_n 3, 1) := by decide +kernel
set_option maxRecDepth 100000 in
theorem ti_42_59 : dp_tab 42 59 = (.aload_n 0, 1) := by decide +kernel
set_option maxRecDepth 100000 in
theorem ti_42_60 : dp_tab 42 60 = (.getfield 10, 3) := by decide +kernel
set_option maxRecDepth 100000 in
theorem ti_42_63 : dp_tab 42 63 = (.getfield 50, 3) := by decide +kernel
set_option maxRecDepth 100000 in
theorem ti_42_66 : dp_tab 42 66 = (.if_icmp .ge 16, 3) := by decide +kernel
set_option maxRecDepth 100000 in
theorem ti_42_69 : dp_tab 42 69 = (.aload_n 0, 1) := by decide +kernel
set_option maxRecDepth 100000 in
theorem ti_42_70 : dp_tab 42 70 = (.lload_n 1, 1) := by decide +kernel
set_option maxRecDepth 100000 in
theorem ti_42_71 : dp_tab 42 71 = (.iload_n 3, 1) := by decide +kernel
set_option maxRecDepth 100000 in
theorem ti_42_72 : dp_tab 42 72 = (.invokevirtual 189, 3) := by decide +kernel
set_option maxRecDepth 100000 in
theorem ti_42_75 : dp_tab 42 75 = (.lstore_n 1, 1) := by decide +kernel
set_option maxRecDepth 100000 in
theorem ti_42_76 : dp_tab 42 76 = (.iinc 3 1, 3) := by decide +kernel
set_option maxRecDepth 100000 in
theorem ti_42_79 : dp_tab 42 79 = (.goto (-21), 3) := by decide +kernel
set_option maxRecDepth 100000 in
theorem ti_42_82 : dp_tab 42 82 = (.iconst 0, 1) := by decide +kernel
set_option maxRecDepth 100000 in
theorem ti_42_83 : dp_tab 42 83 = (.istore_n 3, 1) := by decide +kernel
set_option maxRecDepth 100000 in
theorem ti_42_84 : dp_tab 42 84 = (.iload_n 3, 1) := by decide +kernel
set_option maxRecDepth 100000 in
theorem ti_42_85 : dp_tab 42 85 = (.aload_n 0, 1) := by decide +kernel
set_option maxRecDepth 100000 in
theorem ti_42_86 : dp_tab 42 86 = (.getfield 19, 3) := by decide +kernel
set_option maxRecDepth 100000 in
theorem ti_42_89 : dp_tab 42 89 = (.getfield 86, 3) := by decide +kernel
set_option maxRecDepth 100000 in
theorem ti_42_92 : dp_tab 42 92 = (.if_icmp .ge 16, 3) := by decide +kernel
set_option maxRecDepth 100000 in
theorem ti_42_95 : dp_tab 42 95 = (.aload_n 0, 1) := by decide +kernel
set_option maxRecDepth 100000 in
theorem ti_42_96 : dp_tab 42 96 = (.lload_n 1, 1) := by decide +kernel
set_option maxRecDepth 100000 in
theorem ti_42_97 : dp_tab 42 97 = (.iload_n 3, 1) := by decide +kernel
set_option maxRecDepth 100000 in
theorem ti_42_98 : dp_tab 42 98 = (.invokevirtual 192, 3) := by decide +kernel
set_option maxRecDepth 100000 in
theorem ti_42_101 : dp_tab 42 101 = (.lstore_n 1, 1) := by decide +kernel
set_option maxRecDepth 100000 in
theorem ti_42_102 : dp_tab 42 102 = (.iinc 3 1, 3) := by decide +kernel
set_option maxRecDepth 100000 in
theorem ti_42_105 : dp_tab 42 105 = (.goto (-21), 3) := by decide +kernel
set_option maxRecDepth 100000 in
theorem ti_42_108 : dp_tab 42 108 = (.lload_n 1, 1) := by decide +kernel
set_option maxRecDepth 100000 in
theorem ti_42_109 : dp_tab 42 109 = (.lreturn, 1) := by decide +kernel
set_option maxRecDepth 100000 in
theorem ti_43_0 : dp_tab 43 0 = (.lload_n 1, 1) := by decide +kernel
set_option maxRecDepth 100000 in
theorem ti_43_1 : dp_tab 43 1 = (.lstore 4, 2) := by decide +kernel
set_option maxRecDepth 100000 in
theorem ti_43_3 : dp_tab 43 3 = (.iconst 0, 1) := by decide +kernel
set_option maxRecDepth 100000 in
theorem ti_43_4 : dp_tab 43 4 = (.istore 6, 2) := by decide +kernel
set_option maxRecDepth 100000 in
theorem ti_43_6 : dp_tab 43 6 = (.iload 6, 2) := by decide +kernel
set_option maxRecDepth 100000 in
theorem ti_43_8 : dp_tab 43 8 = (.iconst 4, 1) := by decide +kernel
set_option maxRecDepth 100000 in
theorem ti_43_9 : dp_tab 43 9 = (.if_icmp .ge 23, 3) := by decide +kernel
set_option maxRecDepth 100000 in
theorem ti_43_12 : dp_tab 43 12 = (.lload 4, 2) := by decide +kernel
set_option maxRecDepth 100000 in
theorem ti_43_14 : dp_tab 43 14 = (.aload_n 0, 1) := by decide +kernel
set_option maxRecDepth 100000 in
theorem ti_43_15 : dp_tab 43 15 = (.iload_n 3, 1) := by decide +kernel
set_option maxRecDepth 100000 in
theorem ti_43_16 : dp_tab 43 16 = (.iload 6, 2) := by decide +kernel
set_option maxRecDepth 100000 in
theorem ti_43_18 : dp_tab 43 18 = (.invokevirtual 143, 3) := by decide +kernel
set_option maxRecDepth 100000 in
theorem ti_43_21 : dp_tab 43 21 = (.invokestatic 185, 3) := by decide +kernel
set_option maxRecDepth 100000 in
theorem ti_43_24 : dp_tab 43 24 = (.lstore 4, 2) := by decide +kernel
set_option maxRecDepth 100000 in
theorem ti_43_26 : dp_tab 43 26 = (.iinc 6 1, 3) := by decide +kernel
set_option maxRecDepth 100000 in
theorem ti_43_29 : dp_tab 43 29 = (.goto (-23), 3) := by decide +kernel
set_option maxRecDepth 100000 in
theorem ti_43_32 : dp_tab 43 32 = (.iconst 0, 1) := by decide +kernel
set_option maxRecDepth 100000 in
theorem ti_43_33 : dp_tab 43 33 = (.istore 6, 2) := by decide +kernel
set_option maxRecDepth 100000 in
theorem ti_43_35 : dp_tab 43 35 = (.iload 6, 2) := by decide +kernel
set_option maxRecDepth 100000 in
theorem ti_43_37 : dp_tab 43 37 = (.aload_n 0, 1) := by decide +kernel
set_option maxRecDepth 100000 in
theorem ti_43_38 : dp_tab 43 38 = (.getfield 10, 3) := by decide +kernel
set_option maxRecDepth 100000 in
theorem ti_43_41 : dp_tab 43 41 = (.getfield 64, 3) := by decide +kernel
set_option maxRecDepth 100000 in
theorem ti_43_44 : dp_tab 43 44 = (.iload_n 3, 1) := by decide +kernel
set_option maxRecDepth 100000 in
theorem ti_43_45 : dp_tab 43 45 = (.iaload, 1) := by decide +kernel
set_option maxRecDepth 100000 in
theorem ti_43_46 : dp_tab 43 46 = (.if_icmp .ge 28, 3) := by decide +kernel
set_option maxRecDepth 100000 in
theorem ti_43_49 : dp_tab 43 49 = (.lload 4, 2) := by decide +kernel
set_option maxRecDepth 100000 in
theorem ti_43_51 : dp_tab 43 51 = (.aload_n 0, 1) := by decide +kernel
set_option maxRecDepth 100000 in
theorem ti_43_52 : dp_tab 43 52 = (.getfield 10, 3) := by decide +kernel
set_option maxRecDepth 100000 in
theorem ti_43_55 : dp_tab 43 55 = (.getfield 69, 3) := by decide +kernel
set_option maxRecDepth 100000 in
theorem ti_43_58 : dp_tab 43 58 = (.iload_n 3, 1) := by decide +kernel
set_option maxRecDepth 100000 in
theorem ti_43_59 : dp_tab 43 59 = (.aaload, 1) := by decide +kernel
set_option maxRecDepth 100000 in
theorem ti_43_60 : dp_tab 43 60 = (.iload 6, 2) := by decide +kernel
set_option maxRecDepth 100000 in
theorem ti_43_62 : dp_tab 43 62 = (.iaload, 1) := by decide +kernel
set_option maxRecDepth 100000 in
theorem ti_43_63 : dp_tab 43 63 = (.invokestatic 185, 3) := by decide +kernel
set_option maxRecDepth 100000 in
theorem ti_43_66 : dp_tab 43 66 = (.lstore 4, 2) := by decide +kernel
set_option maxRecDepth 100000 in
theorem ti_43_68 : dp_tab 43 68 = (.iinc 6 1, 3) := by decide +kernel
set_option maxRecDepth 100000 in
theorem ti_43_71 : dp_tab 43 71 = (.goto (-36), 3) := by decide +kernel
set_option maxRecDepth 100000 in
theorem ti_43_74 : dp_tab 43 74 = (.lload 4, 2) := by decide +kernel
set_option maxRecDepth 100000 in
theorem ti_43_76 : dp_tab 43 76 = (.lreturn, 1) := by decide +kernel
set_option maxRecDepth 100000 in
theorem ti_44_0 : dp_tab 44 0 = (.lload_n 1, 1) := by decide +kernel
set_option maxRecDepth 100000 in
theorem ti_44_1 : dp_tab 44 1 = (.lstore 4, 2) := by decide +kernel
set_option maxRecDepth 100000 in
theorem ti_44_3 : dp_tab 44 3 = (.iconst 0, 1) := by decide +kernel
set_option maxRecDepth 100000 in
theorem ti_44_4 : dp_tab 44 4 = (.istore 6, 2) := by decide +kernel
set_option maxRecDepth 100000 in
theorem ti_44_6 : dp_tab 44 6 = (.iload 6, 2) := by decide +kernel
set_option maxRecDepth 100000 in
theorem ti_44_8 : dp_tab 44 8 = (.bipush 6, 2) := by decide +kernel
set_option maxRecDepth 100000 in
theorem ti_44_10 : dp_tab 44 10 = (.if_icmp .ge 23, 3) := by decide +kernel
set_option maxRecDepth 100000 in
theorem ti_44_13 : dp_tab 44 13 = (.lload 4, 2) := by decide +kernel
set_option maxRecDepth 100000 in
theorem ti_44_15 : dp_tab 44 15 = (.aload_n 0, 1) := by decide +kernel
set_option maxRecDepth 100000 in
theorem ti_44_16 : dp_tab 44 16 = (.iload_n 3, 1) := by decide +kernel
set_option maxRecDepth 100000 in
theorem ti_44_17 : dp_tab 44 17 = (.iload 6, 2) := by decide +kernel
set_option maxRecDepth 100000 in
theorem ti_44_19 : dp_tab 44 19 = (.invokevirtual 146, 3) := by decide +kernel
set_option maxRecDepth 100000 in
theorem ti_44_22 : dp_tab 44 22 = (.invokestatic 185, 3) := by decide +kernel
set_option maxRecDepth 100000 in
theorem ti_44_25 : dp_tab 44 25 = (.lstore 4, 2) := by decide +kernel
set_option maxRecDepth 100000 in
theorem ti_44_27 : dp_tab 44 27 = (.iinc 6 1, 3) := by decide +kernel
set_option maxRecDepth 100000 in
theorem ti_44_30 : dp_tab 44 30 = (.goto (-24), 3) := by decide +kernel
set_option maxRecDepth 100000 in
theorem ti_44_33 : dp_tab 44 33 = (.iconst 0, 1) := by decide +kernel
set_option maxRecDepth 100000 in
theorem ti_44_34 : dp_tab 44 34 = (.istore 6, 2) := by decide +kernel
set_option maxRecDepth 100000 in
theorem ti_44_36 : dp_tab 44 36 = (.iload 6, 2) := by decide +kernel
set_option maxRecDepth 100000 in
theorem ti_44_38 : dp_tab 44 38 = (.aload_n 0, 1) := by decide +kernel
set_option maxRecDepth 100000 in
theorem ti_44_39 : dp_tab 44 39 = (.getfield 19, 3) := by decide +kernel
set_option maxRecDepth 100000 in
theorem ti_44_42 : dp_tab 44 42 = (.getfield 97, 3) := by decide +kernel
set_option maxRecDepth 100000 in
theorem ti_44_45 : dp_tab 44 45 = (.iload_n 3, 1) := by decide +kernel
set_option maxRecDepth 100000 in
theorem ti_44_46 : dp_tab 44 46 = (.iaload, 1) := by decide +kernel
set_option maxRecDepth 100000 in
theorem ti_44_47 : dp_tab 44 47 = (.if_icmp .ge 28, 3) := by decide +kernel
set_option maxRecDepth 100000 in
theorem ti_44_50 : dp_tab 44 50 = (.lload 4, 2) := by decide +kernel
set_option maxRecDepth 100000 in
theorem ti_44_52 : dp_tab 44 52 = (.aload_n 0, 1) := by decide +kernel
set_option maxRecDepth 100000 in
theorem ti_44_53 : dp_tab 44 53 = (.getfield 19, 3) := by decide +kernel
set_option maxRecDepth 100000 in
theorem ti_44_56 : dp_tab 44 56 = (.getfield 108, 3) := by decide +kernel
set_option maxRecDepth 100000 in
theorem ti_44_59 : dp_tab 44 59 = (.iload_n 3, 1) := by decide +kernel
set_option maxRecDepth 100000 in
theorem ti_44_60 : dp_tab 44 60 = (.aaload, 1) := by decide +kernel
set_option maxRecDepth 100000 in
theorem ti_44_61 : dp_tab 44 61 = (.iload 6, 2) := by decide +kernel
set_option maxRecDepth 100000 in
theorem ti_44_63 : dp_tab 44 63 = (.iaload, 1) := by decide +kernel
set_option maxRecDepth 100000 in
theorem ti_44_64 : dp_tab 44 64 = (.invokestatic 185, 3) := by decide +kernel
set_option maxRecDepth 100000 in
theorem ti_44_67 : dp_tab 44 67 = (.lstore 4, 2) := by decide +kernel
set_option maxRecDepth 100000 in
theorem ti_44_69 : dp_tab 44 69 = (.iinc 6 1, 3) := by decide +kernel
set_option maxRecDepth 100000 in
theorem ti_44_72 : dp_tab 44 72 = (.goto (-36), 3) := by decide +kernel
set_option maxRecDepth 100000 in
theorem ti_44_75 : dp_tab 44 75 = (.iconst 0, 1) := by decide +kernel
set_option maxRecDepth 100000 in
theorem ti_44_76 : dp_tab 44 76 = (.istore 6, 2) := by decide +kernel
set_option maxRecDepth 100000 in
theorem ti_44_78 : dp_tab 44 78 = (.iload 6, 2) := by decide +kernel
set_option maxRecDepth 100000 in
theorem ti_44_80 : dp_tab 44 80 = (.aload_n 0, 1) := by decide +kernel
set_option maxRecDepth 100000 in
theorem ti_44_81 : dp_tab 44 81 = (.getfield 10, 3) := by decide +kernel
set_option maxRecDepth 100000 in
theorem ti_44_84 : dp_tab 44 84 = (.getfield 50, 3) := by decide +kernel
set_option maxRecDepth 100000 in
theorem ti_44_87 : dp_tab 44 87 = (.if_icmp .ge 27, 3) := by decide +kernel
set_option maxRecDepth 100000 in
theorem ti_44_90 : dp_tab 44 90 = (.lload 4, 2) := by decide +kernel
set_option maxRecDepth 100000 in
theorem ti_44_92 : dp_tab 44 92 = (.aload_n 0, 1) := by decide +kernel
set_option maxRecDepth 100000 in
theorem ti_44_93 : dp_tab 44 93 = (.aload_n 0, 1) := by decide +kernel
set_option maxRecDepth 100000 in
theorem ti_44_94 : dp_tab 44 94 = (.getfield 26, 3) := by decide +kernel
set_option maxRecDepth 100000 in
theorem ti_44_97 : dp_tab 44 97 = (.iload_n 3, 1) := by decide +kernel
set_option maxRecDepth 100000 in
theorem ti_44_98 : dp_tab 44 98 = (.iload 6, 2) := by decide +kernel
set_option maxRecDepth 100000 in
theorem ti_44_100 : dp_tab 44 100 = (.invokevirtual 156, 3) := by decide +kernel
set_option maxRecDepth 100000 in
theorem ti_44_103 : dp_tab 44 103 = (.invokestatic 185, 3) := by decide +kernel
set_option maxRecDepth 100000 in
theorem ti_44_106 : dp_tab 44 106 = (.lstore 4, 2) := by decide +kernel
set_option maxRecDepth 100000 in
theorem ti_44_108 : dp_tab 44 108 = (.iinc 6 1, 3) := by decide +kernel
set_option maxRecDepth 100000 in
theorem ti_44_111 : dp_tab 44 111 = (.goto (-33), 3) := by decide +kernel
set_option maxRecDepth 100000 in
theorem ti_44_114 : dp_tab 44 114 = (.lload 4, 2) := by decide +kernel
set_option maxRecDepth 100000 in
theorem ti_44_116 : dp_tab 44 116 = (.lreturn, 1) := by decide +kernel
set_option maxRecDepth 100000 in
theorem ti_45_0 : dp_tab 45 0 = (.lload_n 0, 1) := by decide +kernel
set_option maxRecDepth 100000 in
theorem ti_45_1 : dp_tab 45 1 = (.ldc2_w 195, 3) := by decide +kernel
set_option maxRecDepth 100000 in
theorem ti_45_4 : dp_tab 45 4 = (.lmul, 1) := by decide +kernel
set_option maxRecDepth 100000 in
theorem ti_45_5 : dp_tab 45 5 = (.iload_n 2, 1) := by decide +kernel
set_option maxRecDepth 100000 in
theorem ti_45_6 : dp_tab 45 6 = (.i2l, 1) := by decide +kernel
set_option maxRecDepth 100000 in
theorem ti_45_7 : dp_tab 45 7 = (.ladd, 1) := by decide +kernel
set_option maxRecDepth 100000 in
theorem ti_45_8 : dp_tab 45 8 = (.lreturn, 1) := by decide +kernel
set_option maxRecDepth 100000 in
theorem ti_46_0 : dp_tab 46 0 = (.iload_n 0, 1) := by decide +kernel
set_option maxRecDepth 100000 in
theorem ti_46_1 : dp_tab 46 1 = (.ifCond .lt 9, 3) := by decide +kernel
set_option maxRecDepth 100000 in
theorem ti_46_4 : dp_tab 46 4 = (.iload_n 0, 1) := by decide +kernel
set_option maxRecDepth 100000 in
theorem ti_46_5 : dp_tab 46 5 = (.bipush 40, 2) := by decide +kernel
set_option maxRecDepth 100000 in
theorem ti_46_7 : dp_tab 46 7 = (.if_icmp .lt 13, 3) := by decide +kernel
set_option maxRecDepth 100000 in
theorem ti_46_10 : dp_tab 46 10 = (.new 197, 3) := by decide +kernel
set_option maxRecDepth 100000 in
theorem ti_46_13 : dp_tab 46 13 = (.dup, 1) := by decide +kernel
set_option maxRecDepth 100000 in
theorem ti_46_14 : dp_tab 46 14 = (.ldc 199, 2) := by decide +kernel
set_option maxRecDepth 100000 in
theorem ti_46_16 : dp_tab 46 16 = (.invokespecial 201, 3) := by decide +kernel
set_option maxRecDepth 100000 in
theorem ti_46_19 : dp_tab 46 19 = (.athrow, 1) := by decide +kernel
set_option maxRecDepth 100000 in
theorem ti_46_20 : dp_tab 46 20 = (.return_, 1) := by decide +kernel
set_option maxRecDepth 100000 in
theorem ti_47_0 : dp_tab 47 0 = (.iload_n 0, 1) := by decide +kernel
set_option maxRecDepth 100000 in
theorem ti_47_1 : dp_tab 47 1 = (.ifCond .lt 9, 3) := by decide +kernel
set_option maxRecDepth 100000 in
theorem ti_47_4 : dp_tab 47 4 = (.iload_n 0, 1) := by decide +kernel
set_option maxRecDepth 100000 in
theorem ti_47_5 : dp_tab 47 5 = (.bipush 20, 2) := by decide +kernel
set_option maxRecDepth 100000 in
theorem ti_47_7 : dp_tab 47 7 = (.if_icmp .lt 13, 3) := by decide +kernel
set_option maxRecDepth 100000 in
theorem ti_47_10 : dp_tab 47 10 = (.new 197, 3) := by decide +kernel
set_option maxRecDepth 100000 in
theorem ti_47_13 : dp_tab 47 13 = (.dup, 1) := by decide +kernel
set_option maxRecDepth 100000 in
theorem ti_47_14 : dp_tab 47 14 = (.ldc 202, 2) := by decide +kernel
set_option maxRecDepth 100000 in
theorem ti_47_16 : dp_tab 47 16 = (.invokespecial 201, 3) := by decide +kernel
set_option maxRecDepth 100000 in
theorem ti_47_19 : dp_tab 47 19 = (.athrow, 1) := by decide +kernel
set_option maxRecDepth 100000 in
theorem ti_47_20 : dp_tab 47 20 = (.return_, 1) := by decide +kernel
set_option maxRecDepth 100000 in
theorem ti_48_0 : dp_tab 48 0 = (.iload_n 1, 1) := by decide +kernel
set_option maxRecDepth 100000 in
theorem ti_48_1 : dp_tab 48 1 = (.ifCond .lt 14, 3) := by decide +kernel
set_option maxRecDepth 100000 in
theorem ti_48_4 : dp_tab 48 4 = (.iload_n 1, 1) := by decide +kernel
set_option maxRecDepth 100000 in
theorem ti_48_5 : dp_tab 48 5 = (.aload_n 0, 1) := by decide +kernel
set_option maxRecDepth 100000 in
theorem ti_48_6 : dp_tab 48 6 = (.getfield 10, 3) := by decide +kernel
set_option maxRecDepth 100000 in
theorem ti_48_9 : dp_tab 48 9 = (.getfield 50, 3) := by decide +kernel
set_option maxRecDepth 100000 in
theorem ti_48_12 : dp_tab 48 12 = (.if_icmp .lt 13, 3) := by decide +kernel
set_option maxRecDepth 100000 in
theorem ti_48_15 : dp_tab 48 15 = (.new 197, 3) := by decide +kernel
set_option maxRecDepth 100000 in
theorem ti_48_18 : dp_tab 48 18 = (.dup, 1) := by decide +kernel
set_option maxRecDepth 100000 in
theorem ti_48_19 : dp_tab 48 19 = (.ldc 204, 2) := by decide +kernel
set_option maxRecDepth 100000 in
theorem ti_48_21 : dp_tab 48 21 = (.invokespecial 201, 3) := by decide +kernel
set_option maxRecDepth 100000 in
theorem ti_48_24 : dp_tab 48 24 = (.athrow, 1) := by decide +kernel
set_option maxRecDepth 100000 in
theorem ti_48_25 : dp_tab 48 25 = (.return_, 1) := by decide +kernel
set_option maxRecDepth 100000 in
theorem ti_49_0 : dp_tab 49 0 = (.iload_n 1, 1) := by decide +kernel
set_option maxRecDepth 100000 in
theorem ti_49_1 : dp_tab 49 1 = (.ifCond .lt 14, 3) := by decide +kernel
set_option maxRecDepth 100000 in
theorem ti_49_4 : dp_tab 49 4 = (.iload_n 1, 1) := by decide +kernel
set_option maxRecDepth 100000 in
theorem ti_49_5 : dp_tab 49 5 = (.aload_n 0, 1) := by decide +kernel
set_option maxRecDepth 100000 in
theorem ti_49_6 : dp_tab 49 6 = (.getfield 19, 3) := by decide +kernel
set_option maxRecDepth 100000 in
theorem ti_49_9 : dp_tab 49 9 = (.getfield 86, 3) := by decide +kernel
set_option maxRecDepth 100000 in
theorem ti_49_12 : dp_tab 49 12 = (.if_icmp .lt 13, 3) := by decide +kernel
set_option maxRecDepth 100000 in
theorem ti_49_15 : dp_tab 49 15 = (.new 197, 3) := by decide +kernel
set_option maxRecDepth 100000 in
theorem ti_49_18 : dp_tab 49 18 = (.dup, 1) := by decide +kernel
set_option maxRecDepth 100000 in
theorem ti_49_19 : dp_tab 49 19 = (.ldc 206, 2) := by decide +kernel
set_option maxRecDepth 100000 in
theorem ti_49_21 : dp_tab 49 21 = (.invokespecial 201, 3) := by decide +kernel
set_option maxRecDepth 100000 in
theorem ti_49_24 : dp_tab 49 24 = (.athrow, 1) := by decide +kernel
set_option maxRecDepth 100000 in
theorem ti_49_25 : dp_tab 49 25 = (.return_, 1) := by decide +kernel
set_option maxRecDepth 100000 in
theorem ti_50_0 : dp_tab 50 0 = (.iload_n 0, 1) := by decide +kernel
set_option maxRecDepth 100000 in
theorem ti_50_1 : dp_tab 50 1 = (.ifCond .lt 8, 3) := by decide +kernel
set_option maxRecDepth 100000 in
theorem ti_50_4 : dp_tab 50 4 = (.iload_n 0, 1) := by decide +kernel
set_option maxRecDepth 100000 in
theorem ti_50_5 : dp_tab 50 5 = (.iload_n 1, 1) := by decide +kernel
set_option maxRecDepth 100000 in
theorem ti_50_6 : dp_tab 50 6 = (.if_icmp .lt 13, 3) := by decide +kernel
set_option maxRecDepth 100000 in
theorem ti_50_9 : dp_tab 50 9 = (.new 197, 3) := by decide +kernel
set_option maxRecDepth 100000 in
theorem ti_50_12 : dp_tab 50 12 = (.dup, 1) := by decide +kernel
set_option maxRecDepth 100000 in
theorem ti_50_13 : dp_tab 50 13 = (.ldc 208, 2) := by decide +kernel
set_option maxRecDepth 100000 in
theorem ti_50_15 : dp_tab 50 15 = (.invokespecial 201, 3) := by decide +kernel
set_option maxRecDepth 100000 in
theorem ti_50_18 : dp_tab 50 18 = (.athrow, 1) := by decide +kernel
set_option maxRecDepth 100000 in
theorem ti_50_19 : dp_tab 50 19 = (.return_, 1) := by decide +kernel
set_option maxRecDepth 100000 in
theorem ti_51_0 : dp_tab 51 0 = (.iload_n 0, 1) := by decide +kernel
set_option maxRecDepth 100000 in
theorem ti_51_1 : dp_tab 51 1 = (.ifCond .lt 8, 3) := by decide +kernel
set_option maxRecDepth 100000 in
theorem ti_51_4 : dp_tab 51 4 = (.iload_n 0, 1) := by decide +kernel
set_option maxRecDepth 100000 in
theorem ti_51_5 : dp_tab 51 5 = (.iload_n 1, 1) := by decide +kernel
set_option maxRecDepth 100000 in
theorem ti_51_6 : dp_tab 51 6 = (.if_icmp .lt 13, 3) := by decide +kernel
set_option maxRecDepth 100000 in
theorem ti_51_9 : dp_tab 51 9 = (.new 197, 3) := by decide +kernel
set_option maxRecDepth 100000 in
theorem ti_51_12 : dp_tab 51 12 = (.dup, 1) := by decide +kernel
set_option maxRecDepth 100000 in
theorem ti_51_13 : dp_tab 51 13 = (.ldc 210, 2) := by decide +kernel
set_option maxRecDepth 100000 in
theorem ti_51_15 : dp_tab 51 15 = (.invokespecial 201, 3) := by decide +kernel
set_option maxRecDepth 100000 in
theorem ti_51_18 : dp_tab 51 18 = (.athrow, 1) := by decide +kernel
set_option maxRecDepth 100000 in
theorem ti_51_19 : dp_tab 51 19 = (.return_, 1) := by decide +kernel
set_option maxRecDepth 100000 in
theorem ti_52_0 : dp_tab 52 0 = (.iload_n 0, 1) := by decide +kernel
set_option maxRecDepth 100000 in
theorem ti_52_1 : dp_tab 52 1 = (.iconst 1, 1) := by decide +kernel
set_option maxRecDepth 100000 in
theorem ti_52_2 : dp_tab 52 2 = (.if_icmp .lt 9, 3) := by decide +kernel
set_option maxRecDepth 100000 in
theorem ti_52_5 : dp_tab 52 5 = (.iload_n 0, 1) := by decide +kernel
set_option maxRecDepth 100000 in
theorem ti_52_6 : dp_tab 52 6 = (.bipush 30, 2) := by decide +kernel
set_option maxRecDepth 100000 in
theorem ti_52_8 : dp_tab 52 8 = (.if_icmp .le 13, 3) := by decide +kernel
set_option maxRecDepth 100000 in
theorem ti_52_11 : dp_tab 52 11 = (.new 81, 3) := by decide +kernel
set_option maxRecDepth 100000 in
theorem ti_52_14 : dp_tab 52 14 = (.dup, 1) := by decide +kernel
set_option maxRecDepth 100000 in
theorem ti_52_15 : dp_tab 52 15 = (.ldc 212, 2) := by decide +kernel
set_option maxRecDepth 100000 in
theorem ti_52_17 : dp_tab 52 17 = (.invokespecial 85, 3) := by decide +kernel
set_option maxRecDepth 100000 in
theorem ti_52_20 : dp_tab 52 20 = (.athrow, 1) := by decide +kernel
set_option maxRecDepth 100000 in
theorem ti_52_21 : dp_tab 52 21 = (.return_, 1) := by decide +kernel
set_option maxRecDepth 100000 in
theorem ti_53_0 : dp_tab 53 0 = (.iload_n 2, 1) := by decide +kernel
set_option maxRecDepth 100000 in
theorem ti_53_1 : dp_tab 53 1 = (.tableswitch 56 0 2 #[27, 37, 46], 27) := by decide +kernel
set_option maxRecDepth 100000 in
theorem ti_53_28 : dp_tab 53 28 = (.aload_n 0, 1) := by decide +kernel
set_option maxRecDepth 100000 in
theorem ti_53_29 : dp_tab 53 29 = (.getfield 10, 3) := by decide +kernel
set_option maxRecDepth 100000 in
theorem ti_53_32 : dp_tab 53 32 = (.getfield 64, 3) := by decide +kernel
set_option maxRecDepth 100000 in
theorem ti_53_35 : dp_tab 53 35 = (.iload_n 1, 1) := by decide +kernel
set_option maxRecDepth 100000 in
theorem ti_53_36 : dp_tab 53 36 = (.iaload, 1) := by decide +kernel
set_option maxRecDepth 100000 in
theorem ti_53_37 : dp_tab 53 37 = (.ireturn, 1) := by decide +kernel
set_option maxRecDepth 100000 in
theorem ti_53_38 : dp_tab 53 38 = (.aload_n 0, 1) := by decide +kernel
set_option maxRecDepth 100000 in
theorem ti_53_39 : dp_tab 53 39 = (.getfield 10, 3) := by decide +kernel
set_option maxRecDepth 100000 in
theorem ti_53_42 : dp_tab 53 42 = (.iload_n 1, 1) := by decide +kernel
set_option maxRecDepth 100000 in
theorem ti_53_43 : dp_tab 53 43 = (.invokevirtual 214, 3) := by decide +kernel
set_option maxRecDepth 100000 in
theorem ti_53_46 : dp_tab 53 46 = (.ireturn, 1) := by decide +kernel
set_option maxRecDepth 100000 in
theorem ti_53_47 : dp_tab 53 47 = (.aload_n 0, 1) := by decide +kernel
set_option maxRecDepth 100000 in
theorem ti_53_48 : dp_tab 53 48 = (.getfield 26, 3) := by decide +kernel
set_option maxRecDepth 100000 in
theorem ti_53_51 : dp_tab 53 51 = (.getfield 217, 3) := by decide +kernel
set_option maxRecDepth 100000 in
theorem ti_53_54 : dp_tab 53 54 = (.iload_n 1, 1) := by decide +kernel
set_option maxRecDepth 100000 in
theorem ti_53_55 : dp_tab 53 55 = (.iaload, 1) := by decide +kernel
set_option maxRecDepth 100000 in
theorem ti_53_56 : dp_tab 53 56 = (.ireturn, 1) := by decide +kernel
set_option maxRecDepth 100000 in
theorem ti_53_57 : dp_tab 53 57 = (.aload_n 0, 1) := by decide +kernel
set_option maxRecDepth 100000 in
theorem ti_53_58 : dp_tab 53 58 = (.getfield 26, 3) := by decide +kernel
set_option maxRecDepth 100000 in
theorem ti_53_61 : dp_tab 53 61 = (.iload_n 1, 1) := by decide +kernel
set_option maxRecDepth 100000 in
theorem ti_53_62 : dp_tab 53 62 = (.invokevirtual 220, 3) := by decide +kernel
set_option maxRecDepth 100000 in
theorem ti_53_65 : dp_tab 53 65 = (.ireturn, 1) := by decide +kernel
set_option maxRecDepth 100000 in
theorem ti_54_0 : dp_tab 54 0 = (.iload_n 2, 1) := by decide +kernel
set_option maxRecDepth 100000 in
theorem ti_54_1 : dp_tab 54 1 = (.tableswitch 88 0 4 #[35, 45, 55, 65, 78], 35) := by decide +kernel
set_option maxRecDepth 100000 in
theorem ti_54_36 : dp_tab 54 36 = (.aload_n 0, 1) := by decide +kernel
set_option maxRecDepth 100000 in
theorem ti_54_37 : dp_tab 54 37 = (.getfield 26, 3) := by decide +kernel
set_option maxRecDepth 100000 in
theorem ti_54_40 : dp_tab 54 40 = (.getfield 91, 3) := by decide +kernel
set_option maxRecDepth 100000 in
theorem ti_54_43 : dp_tab 54 43 = (.iload_n 1, 1) := by decide +kernel
set_option maxRecDepth 100000 in
theorem ti_54_44 : dp_tab 54 44 = (.iaload, 1) := by decide +kernel
set_option maxRecDepth 100000 in
theorem ti_54_45 : dp_tab 54 45 = (.ireturn, 1) := by decide +kernel
set_option maxRecDepth 100000 in
theorem ti_54_46 : dp_tab 54 46 = (.aload_n 0, 1) := by decide +kernel
set_option maxRecDepth 100000 in
theorem ti_54_47 : dp_tab 54 47 = (.getfield 19, 3) := by decide +kernel
set_option maxRecDepth 100000 in
theorem ti_54_50 : dp_tab 54 50 = (.getfield 97, 3) := by decide +kernel
set_option maxRecDepth 100000 in
theorem ti_54_53 : dp_tab 54 53 = (.iload_n 1, 1) := by decide +kernel
set_option maxRecDepth 100000 in
theorem ti_54_54 : dp_tab 54 54 = (.iaload, 1) := by decide +kernel
set_option maxRecDepth 100000 in
theorem ti_54_55 : dp_tab 54 55 = (.ireturn, 1) := by decide +kernel
set_option maxRecDepth 100000 in
theorem ti_54_56 : dp_tab 54 56 = (.aload_n 0, 1) := by decide +kernel
set_option maxRecDepth 100000 in
theorem ti_54_57 : dp_tab 54 57 = (.getfield 19, 3) := by decide +kernel
set_option maxRecDepth 100000 in
theorem ti_54_60 : dp_tab 54 60 = (.getfield 115, 3) := by decide +kernel
set_option maxRecDepth 100000 in
theorem ti_54_63 : dp_tab 54 63 = (.iload_n 1, 1) := by decide +kernel
set_option maxRecDepth 100000 in
theorem ti_54_64 : dp_tab 54 64 = (.iaload, 1) := by decide +kernel
set_option maxRecDepth 100000 in
theorem ti_54_65 : dp_tab 54 65 = (.ireturn, 1) := by decide +kernel
set_option maxRecDepth 100000 in
theorem ti_54_66 : dp_tab 54 66 = (.aload_n 0, 1) := by decide +kernel
set_option maxRecDepth 100000 in
theorem ti_54_67 : dp_tab 54 67 = (.getfield 26, 3) := by decide +kernel
set_option maxRecDepth 100000 in
theorem ti_54_70 : dp_tab 54 70 = (.getfield 223, 3) := by decide +kernel
set_option maxRecDepth 100000 in
theorem ti_54_73 : dp_tab 54 73 = (.iload_n 1, 1) := by decide +kernel
set_option maxRecDepth 100000 in
theorem ti_54_74 : dp_tab 54 74 = (.iaload, 1) := by decide +kernel
set_option maxRecDepth 100000 in
theorem ti_54_75 : dp_tab 54 75 = (.invokestatic 226, 3) := by decide +kernel
set_option maxRecDepth 100000 in
theorem ti_54_78 : dp_tab 54 78 = (.ireturn, 1) := by decide +kernel
set_option maxRecDepth 100000 in
theorem ti_54_79 : dp_tab 54 79 = (.aload_n 0, 1) := by decide +kernel
set_option maxRecDepth 100000 in
theorem ti_54_80 : dp_tab 54 80 = (.getfield 26, 3) := by decide +kernel
set_option maxRecDepth 100000 in
theorem ti_54_83 : dp_tab 54 83 = (.getfield 231, 3) := by decide +kernel
set_option maxRecDepth 100000 in
theorem ti_54_86 : dp_tab 54 86 = (.iload_n 1, 1) := by decide +kernel
set_option maxRecDepth 100000 in
theorem ti_54_87 : dp_tab 54 87 = (.iaload, 1) := by decide +kernel
set_option maxRecDepth 100000 in
theorem ti_54_88 : dp_tab 54 88 = (.ireturn, 1) := by decide +kernel
set_option maxRecDepth 100000 in
theorem ti_54_89 : dp_tab 54 89 = (.aload_n 0, 1) := by decide +kernel
set_option maxRecDepth 100000 in
theorem ti_54_90 : dp_tab 54 90 = (.iload_n 1, 1) := by decide +kernel
set_option maxRecDepth 100000 in
theorem ti_54_91 : dp_tab 54 91 = (.invokevirtual 160, 3) := by decide +kernel
set_option maxRecDepth 100000 in
theorem ti_54_94 : dp_tab 54 94 = (.ireturn, 1) := by decide +kernel
set_option maxRecDepth 100000 in
theorem ti_55_0 : dp_tab 55 0 = (.iload_n 1, 1) := by decide +kernel
set_option maxRecDepth 100000 in
theorem ti_55_1 : dp_tab 55 1 = (.tableswitch 87 0 5 #[39, 47, 55, 63, 71, 79], 39) := by decide +kernel
set_option maxRecDepth 100000 in
theorem ti_55_40 : dp_tab 55 40 = (.aload_n 0, 1) := by decide +kernel
set_option maxRecDepth 100000 in
theorem ti_55_41 : dp_tab 55 41 = (.getfield 10, 3) := by decide +kernel
set_option maxRecDepth 100000 in
theorem ti_55_44 : dp_tab 55 44 = (.getfield 50, 3) := by decide +kernel
set_option maxRecDepth 100000 in
theorem ti_55_47 : dp_tab 55 47 = (.ireturn, 1) := by decide +kernel
set_option maxRecDepth 100000 in
theorem ti_55_48 : dp_tab 55 48 = (.aload_n 0, 1) := by decide +kernel
set_option maxRecDepth 100000 in
theorem ti_55_49 : dp_tab 55 49 = (.getfield 19, 3) := by decide +kernel
set_option maxRecDepth 100000 in
theorem ti_55_52 : dp_tab 55 52 = (.getfield 86, 3) := by decide +kernel
set_option maxRecDepth 100000 in
theorem ti_55_55 : dp_tab 55 55 = (.ireturn, 1) := by decide +kernel
set_option maxRecDepth 100000 in
theorem ti_55_56 : dp_tab 55 56 = (.aload_n 0, 1) := by decide +kernel
set_option maxRecDepth 100000 in
theorem ti_55_57 : dp_tab 55 57 = (.getfield 10, 3) := by decide +kernel
set_option maxRecDepth 100000 in
theorem ti_55_60 : dp_tab 55 60 = (.invokevirtual 234, 3) := by decide +kernel
set_option maxRecDepth 100000 in
theorem ti_55_63 : dp_tab 55 63 = (.ireturn, 1) := by decide +kernel
set_option maxRecDepth 100000 in
theorem ti_55_64 : dp_tab 55 64 = (.aload_n 0, 1) := by decide +kernel
set_option maxRecDepth 100000 in
theorem ti_55_65 : dp_tab 55 65 = (.getfield 10, 3) := by decide +kernel
set_option maxRecDepth 100000 in
theorem ti_55_68 : dp_tab 55 68 = (.invokevirtual 237, 3) := by decide +kernel
set_option maxRecDepth 100000 in
theorem ti_55_71 : dp_tab 55 71 = (.ireturn, 1) := by decide +kernel
set_option maxRecDepth 100000 in
theorem ti_55_72 : dp_tab 55 72 = (.aload_n 0, 1) := by decide +kernel
set_option maxRecDepth 100000 in
theorem ti_55_73 : dp_tab 55 73 = (.getfield 26, 3) := by decide +kernel
set_option maxRecDepth 100000 in
theorem ti_55_76 : dp_tab 55 76 = (.getfield 240, 3) := by decide +kernel
set_option maxRecDepth 100000 in
theorem ti_55_79 : dp_tab 55 79 = (.ireturn, 1) := by decide +kernel
set_option maxRecDepth 100000 in
theorem ti_55_80 : dp_tab 55 80 = (.aload_n 0, 1) := by decide +kernel
set_option maxRecDepth 100000 in
theorem ti_55_81 : dp_tab 55 81 = (.getfield 26, 3) := by decide +kernel
set_option maxRecDepth 100000 in
theorem ti_55_84 : dp_tab 55 84 = (.invokevirtual 132, 3) := by decide +kernel
set_option maxRecDepth 100000 in
theorem ti_55_87 : dp_tab 55 87 = (.ireturn, 1) := by decide +kernel
set_option maxRecDepth 100000 in
theorem ti_55_88 : dp_tab 55 88 = (.aload_n 0, 1) := by decide +kernel
set_option maxRecDepth 100000 in
theorem ti_55_89 : dp_tab 55 89 = (.getfield 26, 3) := by decide +kernel
set_option maxRecDepth 100000 in
theorem ti_55_92 : dp_tab 55 92 = (.invokevirtual 180, 3) := by decide +kernel
set_option maxRecDepth 100000 in
theorem ti_55_95 : dp_tab 55 95 = (.ireturn, 1) := by decide +kernel
set_option maxRecDepth 100000 in
theorem ti_56_0 : dp_tab 56 0 = (.aload_n 0, 1) := by decide +kernel
set_option maxRecDepth 100000 in
theorem ti_56_1 : dp_tab 56 1 = (.getfield 10, 3) := by decide +kernel
set_option maxRecDepth 100000 in
theorem ti_56_4 : dp_tab 56 4 = (.iload_n 3, 1) := by decide +kernel
set_option maxRecDepth 100000 in
theorem ti_56_5 : dp_tab 56 5 = (.aload_n 0, 1) := by decide +kernel
set_option maxRecDepth 100000 in
theorem ti_56_6 : dp_tab 56 6 = (.getfield 19, 3) := by decide +kernel
set_option maxRecDepth 100000 in
theorem ti_56_9 : dp_tab 56 9 = (.getfield 108, 3) := by decide +kernel
set_option maxRecDepth 100000 in
theorem ti_56_12 : dp_tab 56 12 = (.iload_n 2, 1) := by decide +kernel
set_option maxRecDepth 100000 in
theorem ti_56_13 : dp_tab 56 13 = (.aaload, 1) := by decide +kernel
set_option maxRecDepth 100000 in
theorem ti_56_14 : dp_tab 56 14 = (.aload_n 0, 1) := by decide +kernel
set_option maxRecDepth 100000 in
theorem ti_56_15 : dp_tab 56 15 = (.getfield 19, 3) := by decide +kernel
set_option maxRecDepth 100000 in
theorem ti_56_18 : dp_tab 56 18 = (.getfield 97, 3) := by decide +kernel
set_option maxRecDepth 100000 in
theorem ti_56_21 : dp_tab 56 21 = (.iload_n 2, 1) := by decide +kernel
set_option maxRecDepth 100000 in
theorem ti_56_22 : dp_tab 56 22 = (.iaload, 1) := by decide +kernel
set_option maxRecDepth 100000 in
theorem ti_56_23 : dp_tab 56 23 = (.aload_n 1, 1) := by decide +kernel
set_option maxRecDepth 100000 in
theorem ti_56_24 : dp_tab 56 24 = (.getfield 217, 3) := by decide +kernel
set_option maxRecDepth 100000 in
theorem ti_56_27 : dp_tab 56 27 = (.iload_n 3, 1) := by decide +kernel
set_option maxRecDepth 100000 in
theorem ti_56_28 : dp_tab 56 28 = (.iaload, 1) := by decide +kernel
set_option maxRecDepth 100000 in
theorem ti_56_29 : dp_tab 56 29 = (.invokevirtual 243, 3) := by decide +kernel
set_option maxRecDepth 100000 in
theorem ti_56_32 : dp_tab 56 32 = (.ireturn, 1) := by decide +kernel
set_option maxRecDepth 100000 in
theorem ti_57_0 : dp_tab 57 0 = (.iload 4, 2) := by decide +kernel
set_option maxRecDepth 100000 in
theorem ti_57_2 : dp_tab 57 2 = (.aload_n 0, 1) := by decide +kernel
set_option maxRecDepth 100000 in
theorem ti_57_3 : dp_tab 57 3 = (.getfield 19, 3) := by decide +kernel
set_option maxRecDepth 100000 in
theorem ti_57_6 : dp_tab 57 6 = (.getfield 115, 3) := by decide +kernel
set_option maxRecDepth 100000 in
theorem ti_57_9 : dp_tab 57 9 = (.iload_n 2, 1) := by decide +kernel
set_option maxRecDepth 100000 in
theorem ti_57_10 : dp_tab 57 10 = (.iaload, 1) := by decide +kernel
set_option maxRecDepth 100000 in
theorem ti_57_11 : dp_tab 57 11 = (.if_icmp .lt 16, 3) := by decide +kernel
set_option maxRecDepth 100000 in
theorem ti_57_14 : dp_tab 57 14 = (.aload_n 1, 1) := by decide +kernel
set_option maxRecDepth 100000 in
theorem ti_57_15 : dp_tab 57 15 = (.iload_n 2, 1) := by decide +kernel
set_option maxRecDepth 100000 in
theorem ti_57_16 : dp_tab 57 16 = (.iload_n 3, 1) := by decide +kernel
set_option maxRecDepth 100000 in
theorem ti_57_17 : dp_tab 57 17 = (.invokevirtual 247, 3) := by decide +kernel
set_option maxRecDepth 100000 in
theorem ti_57_20 : dp_tab 57 20 = (.ifCond .ne 7, 3) := by decide +kernel
set_option maxRecDepth 100000 in
theorem ti_57_23 : dp_tab 57 23 = (.iconst 1, 1) := by decide +kernel
set_option maxRecDepth 100000 in
theorem ti_57_24 : dp_tab 57 24 = (.goto 4, 3) := by decide +kernel
set_option maxRecDepth 100000 in
theorem ti_57_27 : dp_tab 57 27 = (.iconst 0, 1) := by decide +kernel
set_option maxRecDepth 100000 in
theorem ti_57_28 : dp_tab 57 28 = (.ireturn, 1) := by decide +kernel
set_option maxRecDepth 100000 in
theorem ti_58_0 : dp_tab 58 0 = (.iconst 0, 1) := by decide +kernel
set_option maxRecDepth 100000 in
theorem ti_58_1 : dp_tab 58 1 = (.istore_n 2, 1) := by decide +kernel
set_option maxRecDepth 100000 in
theorem ti_58_2 : dp_tab 58 2 = (.iconst 0, 1) := by decide +kernel
set_option maxRecDepth 100000 in
theorem ti_58_3 : dp_tab 58 3 = (.istore_n 3, 1) := by decide +kernel
set_option maxRecDepth 100000 in
theorem ti_58_4 : dp_tab 58 4 = (.iload_n 3, 1) := by decide +kernel
set_option maxRecDepth 100000 in
theorem ti_58_5 : dp_tab 58 5 = (.aload_n 0, 1) := by decide +kernel
set_option maxRecDepth 100000 in
theorem ti_58_6 : dp_tab 58 6 = (.getfield 10, 3) := by decide +kernel
set_option maxRecDepth 100000 in
theorem ti_58_9 : dp_tab 58 9 = (.getfield 50, 3) := by decide +kernel
set_option maxRecDepth 100000 in
theorem ti_58_12 : dp_tab 58 12 = (.if_icmp .ge 39, 3) := by decide +kernel
set_option maxRecDepth 100000 in
theorem ti_58_15 : dp_tab 58 15 = (.aload_n 0, 1) := by decide +kernel
set_option maxRecDepth 100000 in
theorem ti_58_16 : dp_tab 58 16 = (.aload_n 0, 1) := by decide +kernel
set_option maxRecDepth 100000 in
theorem ti_58_17 : dp_tab 58 17 = (.getfield 26, 3) := by decide +kernel
set_option maxRecDepth 100000 in
theorem ti_58_20 : dp_tab 58 20 = (.iload_n 1, 1) := by decide +kernel
set_option maxRecDepth 100000 in
theorem ti_58_21 : dp_tab 58 21 = (.iload_n 3, 1) := by decide +kernel
set_option maxRecDepth 100000 in
theorem ti_58_22 : dp_tab 58 22 = (.invokevirtual 156, 3) := by decide +kernel
set_option maxRecDepth 100000 in
theorem ti_58_25 : dp_tab 58 25 = (.istore 4, 2) := by decide +kernel
set_option maxRecDepth 100000 in
theorem ti_58_27 : dp_tab 58 27 = (.aload_n 0, 1) := by decide +kernel
set_option maxRecDepth 100000 in
theorem ti_58_28 : dp_tab 58 28 = (.aload_n 0, 1) := by decide +kernel
set_option maxRecDepth 100000 in
theorem ti_58_29 : dp_tab 58 29 = (.getfield 26, 3) := by decide +kernel
set_option maxRecDepth 100000 in
theorem ti_58_32 : dp_tab 58 32 = (.iload_n 1, 1) := by decide +kernel
set_option maxRecDepth 100000 in
theorem ti_58_33 : dp_tab 58 33 = (.iload_n 3, 1) := by decide +kernel
set_option maxRecDepth 100000 in
theorem ti_58_34 : dp_tab 58 34 = (.iload 4, 2) := by decide +kernel
set_option maxRecDepth 100000 in
theorem ti_58_36 : dp_tab 58 36 = (.invokevirtual 251, 3) := by decide +kernel
set_option maxRecDepth 100000 in
theorem ti_58_39 : dp_tab 58 39 = (.ifCond .eq 6, 3) := by decide +kernel
set_option maxRecDepth 100000 in
theorem ti_58_42 : dp_tab 58 42 = (.iinc 2 1, 3) := by decide +kernel
set_option maxRecDepth 100000 in
theorem ti_58_45 : dp_tab 58 45 = (.iinc 3 1, 3) := by decide +kernel
set_option maxRecDepth 100000 in
theorem ti_58_48 : dp_tab 58 48 = (.goto (-44), 3) := by decide +kernel
set_option maxRecDepth 100000 in
theorem ti_58_51 : dp_tab 58 51 = (.iload_n 2, 1) := by decide +kernel
set_option maxRecDepth 100000 in
theorem ti_58_52 : dp_tab 58 52 = (.ireturn, 1) := by decide +kernel
set_option maxRecDepth 100000 in
theorem ti_59_0 : dp_tab 59 0 = (.iconst (-1), 1) := by decide +kernel
set_option maxRecDepth 100000 in
theorem ti_59_1 : dp_tab 59 1 = (.istore_n 3, 1) := by decide +kernel
set_option maxRecDepth 100000 in
theorem ti_59_2 : dp_tab 59 2 = (.iconst (-1), 1) := by decide +kernel
set_option maxRecDepth 100000 in
theorem ti_59_3 : dp_tab 59 3 = (.istore 4, 2) := by decide +kernel
set_option maxRecDepth 100000 in
theorem ti_59_5 : dp_tab 59 5 = (.iconst 0, 1) := by decide +kernel
set_option maxRecDepth 100000 in
theorem ti_59_6 : dp_tab 59 6 = (.istore 5, 2) := by decide +kernel
set_option maxRecDepth 100000 in
theorem ti_59_8 : dp_tab 59 8 = (.iload 5, 2) := by decide +kernel
set_option maxRecDepth 100000 in
theorem ti_59_10 : dp_tab 59 10 = (.aload_n 0, 1) := by decide +kernel
set_option maxRecDepth 100000 in
theorem ti_59_11 : dp_tab 59 11 = (.getfield 10, 3) := by decide +kernel
set_option maxRecDepth 100000 in
theorem ti_59_14 : dp_tab 59 14 = (.getfield 50, 3) := by decide +kernel
set_option maxRecDepth 100000 in
theorem ti_59_17 : dp_tab 59 17 = (.if_icmp .ge 46, 3) := by decide +kernel
set_option maxRecDepth 100000 in
theorem ti_59_20 : dp_tab 59 20 = (.aload_n 0, 1) := by decide +kernel
set_option maxRecDepth 100000 in
theorem ti_59_21 : dp_tab 59 21 = (.aload_n 1, 1) := by decide +kernel
set_option maxRecDepth 100000 in
theorem ti_59_22 : dp_tab 59 22 = (.iload_n 2, 1) := by decide +kernel
set_option maxRecDepth 100000 in
theorem ti_59_23 : dp_tab 59 23 = (.iload 5, 2) := by decide +kernel
set_option maxRecDepth 100000 in
theorem ti_59_25 : dp_tab 59 25 = (.invokevirtual 156, 3) := by decide +kernel
set_option maxRecDepth 100000 in
theorem ti_59_28 : dp_tab 59 28 = (.istore 6, 2) := by decide +kernel
set_option maxRecDepth 100000 in
theorem ti_59_30 : dp_tab 59 30 = (.iload 6, 2) := by decide +kernel
set_option maxRecDepth 100000 in
theorem ti_59_32 : dp_tab 59 32 = (.iload 4, 2) := by decide +kernel
set_option maxRecDepth 100000 in
theorem ti_59_34 : dp_tab 59 34 = (.if_icmp .le 23, 3) := by decide +kernel
set_option maxRecDepth 100000 in
theorem ti_59_37 : dp_tab 59 37 = (.aload_n 0, 1) := by decide +kernel
set_option maxRecDepth 100000 in
theorem ti_59_38 : dp_tab 59 38 = (.aload_n 1, 1) := by decide +kernel
set_option maxRecDepth 100000 in
theorem ti_59_39 : dp_tab 59 39 = (.iload_n 2, 1) := by decide +kernel
set_option maxRecDepth 100000 in
theorem ti_59_40 : dp_tab 59 40 = (.iload 5, 2) := by decide +kernel
set_option maxRecDepth 100000 in
theorem ti_59_42 : dp_tab 59 42 = (.iload 6, 2) := by decide +kernel
set_option maxRecDepth 100000 in
theorem ti_59_44 : dp_tab 59 44 = (.invokevirtual 251, 3) := by decide +kernel
set_option maxRecDepth 100000 in
theorem ti_59_47 : dp_tab 59 47 = (.ifCond .eq 10, 3) := by decide +kernel
set_option maxRecDepth 100000 in
theorem ti_59_50 : dp_tab 59 50 = (.iload 6, 2) := by decide +kernel
set_option maxRecDepth 100000 in
theorem ti_59_52 : dp_tab 59 52 = (.istore 4, 2) := by decide +kernel
set_option maxRecDepth 100000 in
theorem ti_59_54 : dp_tab 59 54 = (.iload 5, 2) := by decide +kernel
set_option maxRecDepth 100000 in
theorem ti_59_56 : dp_tab 59 56 = (.istore_n 3, 1) := by decide +kernel
set_option maxRecDepth 100000 in
theorem ti_59_57 : dp_tab 59 57 = (.iinc 5 1, 3) := by decide +kernel
set_option maxRecDepth 100000 in
theorem ti_59_60 : dp_tab 59 60 = (.goto (-52), 3) := by decide +kernel
set_option maxRecDepth 100000 in
theorem ti_59_63 : dp_tab 59 63 = (.iload_n 3, 1) := by decide +kernel
set_option maxRecDepth 100000 in
theorem ti_59_64 : dp_tab 59 64 = (.ireturn, 1) := by decide +kernel
set_option maxRecDepth 100000 in
theorem ti_60_0 : dp_tab 60 0 = (.iconst 0, 1) := by decide +kernel
set_option maxRecDepth 100000 in
theorem ti_60_1 : dp_tab 60 1 = (.istore_n 3, 1) := by decide +kernel
set_option maxRecDepth 100000 in
theorem ti_60_2 : dp_tab 60 2 = (.iload_n 3, 1) := by decide +kernel
set_option maxRecDepth 100000 in
theorem ti_60_3 : dp_tab 60 3 = (.aload_n 0, 1) := by decide +kernel
set_option maxRecDepth 100000 in
theorem ti_60_4 : dp_tab 60 4 = (.getfield 10, 3) := by decide +kernel
set_option maxRecDepth 100000 in
theorem ti_60_7 : dp_tab 60 7 = (.getfield 50, 3) := by decide +kernel
set_option maxRecDepth 100000 in
theorem ti_60_10 : dp_tab 60 10 = (.if_icmp .ge 50, 3) := by decide +kernel
set_option maxRecDepth 100000 in
theorem ti_60_13 : dp_tab 60 13 = (.aload_n 0, 1) := by decide +kernel
set_option maxRecDepth 100000 in
theorem ti_60_14 : dp_tab 60 14 = (.aload_n 0, 1) := by decide +kernel
set_option maxRecDepth 100000 in
theorem ti_60_15 : dp_tab 60 15 = (.getfield 26, 3) := by decide +kernel
set_option maxRecDepth 100000 in
theorem ti_60_18 : dp_tab 60 18 = (.iload_n 1, 1) := by decide +kernel
set_option maxRecDepth 100000 in
theorem ti_60_19 : dp_tab 60 19 = (.iload_n 3, 1) := by decide +kernel
set_option maxRecDepth 100000 in
theorem ti_60_20 : dp_tab 60 20 = (.invokevirtual 156, 3) := by decide +kernel
set_option maxRecDepth 100000 in
theorem ti_60_23 : dp_tab 60 23 = (.istore 4, 2) := by decide +kernel
set_option maxRecDepth 100000 in
theorem ti_60_25 : dp_tab 60 25 = (.aload_n 0, 1) := by decide +kernel
set_option maxRecDepth 100000 in
theorem ti_60_26 : dp_tab 60 26 = (.aload_n 0, 1) := by decide +kernel
set_option maxRecDepth 100000 in
theorem ti_60_27 : dp_tab 60 27 = (.getfield 26, 3) := by decide +kernel
set_option maxRecDepth 100000 in
theorem ti_60_30 : dp_tab 60 30 = (.iload_n 1, 1) := by decide +kernel
set_option maxRecDepth 100000 in
theorem ti_60_31 : dp_tab 60 31 = (.iload_n 3, 1) := by decide +kernel
set_option maxRecDepth 100000 in
theorem ti_60_32 : dp_tab 60 32 = (.iload 4, 2) := by decide +kernel
set_option maxRecDepth 100000 in
theorem ti_60_34 : dp_tab 60 34 = (.invokevirtual 251, 3) := by decide +kernel
set_option maxRecDepth 100000 in
theorem ti_60_37 : dp_tab 60 37 = (.ifCond .eq 17, 3) := by decide +kernel
set_option maxRecDepth 100000 in
theorem ti_60_40 : dp_tab 60 40 = (.aload_n 0, 1) := by decide +kernel
set_option maxRecDepth 100000 in
theorem ti_60_41 : dp_tab 60 41 = (.iload_n 1, 1) := by decide +kernel
set_option maxRecDepth 100000 in
theorem ti_60_42 : dp_tab 60 42 = (.iload_n 3, 1) := by decide +kernel
set_option maxRecDepth 100000 in
theorem ti_60_43 : dp_tab 60 43 = (.iload 4, 2) := by decide +kernel
set_option maxRecDepth 100000 in
theorem ti_60_45 : dp_tab 60 45 = (.invokevirtual 255, 3) := by decide +kernel
set_option maxRecDepth 100000 in
theorem ti_60_48 : dp_tab 60 48 = (.iload_n 2, 1) := by decide +kernel
set_option maxRecDepth 100000 in
theorem ti_60_49 : dp_tab 60 49 = (.if_icmp .ne 5, 3) := by decide +kernel
set_option maxRecDepth 100000 in
theorem ti_60_52 : dp_tab 60 52 = (.iload_n 3, 1) := by decide +kernel
set_option maxRecDepth 100000 in
theorem ti_60_53 : dp_tab 60 53 = (.ireturn, 1) := by decide +kernel
set_option maxRecDepth 100000 in
theorem ti_60_54 : dp_tab 60 54 = (.iinc 3 1, 3) := by decide +kernel
set_option maxRecDepth 100000 in
theorem ti_60_57 : dp_tab 60 57 = (.goto (-55), 3) := by decide +kernel
set_option maxRecDepth 100000 in
theorem ti_60_60 : dp_tab 60 60 = (.iconst (-1), 1) := by decide +kernel
set_option maxRecDepth 100000 in
theorem ti_60_61 : dp_tab 60 61 = (.ireturn, 1) := by decide +kernel
set_option maxRecDepth 100000 in
theorem ti_61_0 : dp_tab 61 0 = (.iconst 0, 1) := by decide +kernel
set_option maxRecDepth 100000 in
theorem ti_61_1 : dp_tab 61 1 = (.istore 4, 2) := by decide +kernel
set_option maxRecDepth 100000 in
theorem ti_61_3 : dp_tab 61 3 = (.iconst 0, 1) := by decide +kernel
set_option maxRecDepth 100000 in
theorem ti_61_4 : dp_tab 61 4 = (.istore 5, 2) := by decide +kernel
set_option maxRecDepth 100000 in
theorem ti_61_6 : dp_tab 61 6 = (.iload 5, 2) := by decide +kernel
set_option maxRecDepth 100000 in
theorem ti_61_8 : dp_tab 61 8 = (.aload_n 0, 1) := by decide +kernel
set_option maxRecDepth 100000 in
theorem ti_61_9 : dp_tab 61 9 = (.getfield 10, 3) := by decide +kernel
set_option maxRecDepth 100000 in
theorem ti_61_12 : dp_tab 61 12 = (.getfield 50, 3) := by decide +kernel
set_option maxRecDepth 100000 in
theorem ti_61_15 : dp_tab 61 15 = (.if_icmp .ge 71, 3) := by decide +kernel
set_option maxRecDepth 100000 in
theorem ti_61_18 : dp_tab 61 18 = (.aload_n 0, 1) := by decide +kernel
set_option maxRecDepth 100000 in
theorem ti_61_19 : dp_tab 61 19 = (.aload_n 0, 1) := by decide +kernel
set_option maxRecDepth 100000 in
theorem ti_61_20 : dp_tab 61 20 = (.getfield 26, 3) := by decide +kernel
set_option maxRecDepth 100000 in
theorem ti_61_23 : dp_tab 61 23 = (.iload_n 1, 1) := by decide +kernel
set_option maxRecDepth 100000 in
theorem ti_61_24 : dp_tab 61 24 = (.iload 5, 2) := by decide +kernel
set_option maxRecDepth 100000 in
theorem ti_61_26 : dp_tab 61 26 = (.invokevirtual 156, 3) := by decide +kernel
set_option maxRecDepth 100000 in
theorem ti_61_29 : dp_tab 61 29 = (.istore 6, 2) := by decide +kernel
set_option maxRecDepth 100000 in
theorem ti_61_31 : dp_tab 61 31 = (.iload 6, 2) := by decide +kernel
set_option maxRecDepth 100000 in
theorem ti_61_33 : dp_tab 61 33 = (.iload_n 3, 1) := by decide +kernel
set_option maxRecDepth 100000 in
theorem ti_61_34 : dp_tab 61 34 = (.if_icmp .gt 15, 3) := by decide +kernel
set_option maxRecDepth 100000 in
theorem ti_61_37 : dp_tab 61 37 = (.iload 6, 2) := by decide +kernel
set_option maxRecDepth 100000 in
theorem ti_61_39 : dp_tab 61 39 = (.iload_n 3, 1) := by decide +kernel
set_option maxRecDepth 100000 in
theorem ti_61_40 : dp_tab 61 40 = (.if_icmp .ne 13, 3) := by decide +kernel
set_option maxRecDepth 100000 in
theorem ti_61_43 : dp_tab 61 43 = (.iload 5, 2) := by decide +kernel
set_option maxRecDepth 100000 in
theorem ti_61_45 : dp_tab 61 45 = (.iload_n 2, 1) := by decide +kernel
set_option maxRecDepth 100000 in
theorem ti_61_46 : dp_tab 61 46 = (.if_icmp .ge 7, 3) := by decide +kernel
set_option maxRecDepth 100000 in
theorem ti_61_49 : dp_tab 61 49 = (.iconst 1, 1) := by decide +kernel
set_option maxRecDepth 100000 in
theorem ti_61_50 : dp_tab 61 50 = (.goto 4, 3) := by decide +kernel
set_option maxRecDepth 100000 in
theorem ti_61_53 : dp_tab 61 53 = (.iconst 0, 1) := by decide +kernel
set_option maxRecDepth 100000 in
theorem ti_61_54 : dp_tab 61 54 = (.istore 7, 2) := by decide +kernel
set_option maxRecDepth 100000 in
theorem ti_61_56 : dp_tab 61 56 = (.iload 7, 2) := by decide +kernel
set_option maxRecDepth 100000 in
theorem ti_61_58 : dp_tab 61 58 = (.ifCond .eq 22, 3) := by decide +kernel
set_option maxRecDepth 100000 in
theorem ti_61_61 : dp_tab 61 61 = (.aload_n 0, 1) := by decide +kernel
set_option maxRecDepth 100000 in
theorem ti_61_62 : dp_tab 61 62 = (.aload_n 0, 1) := by decide +kernel
set_option maxRecDepth 100000 in
theorem ti_61_63 : dp_tab 61 63 = (.getfield 26, 3) := by decide +kernel
set_option maxRecDepth 100000 in
theorem ti_61_66 : dp_tab 61 66 = (.iload_n 1, 1) := by decide +kernel
set_option maxRecDepth 100000 in
theorem ti_61_67 : dp_tab 61 67 = (.iload 5, 2) := by decide +kernel
set_option maxRecDepth 100000 in
theorem ti_61_69 : dp_tab 61 69 = (.iload 6, 2) := by decide +kernel
set_option maxRecDepth 100000 in
theorem ti_61_71 : dp_tab 61 71 = (.invokevirtual 251, 3) := by decide +kernel
set_option maxRecDepth 100000 in
theorem ti_61_74 : dp_tab 61 74 = (.ifCond .eq 6, 3) := by decide +kernel
set_option maxRecDepth 100000 in
theorem ti_61_77 : dp_tab 61 77 = (.iinc 4 1, 3) := by decide +kernel
set_option maxRecDepth 100000 in
theorem ti_61_80 : dp_tab 61 80 = (.iinc 5 1, 3) := by decide +kernel
set_option maxRecDepth 100000 in
theorem ti_61_83 : dp_tab 61 83 = (.goto (-77), 3) := by decide +kernel
set_option maxRecDepth 100000 in
theorem ti_61_86 : dp_tab 61 86 = (.iload 4, 2) := by decide +kernel
set_option maxRecDepth 100000 in
theorem ti_61_88 : dp_tab 61 88 = (.ireturn, 1) := by decide +kernel
set_option maxRecDepth 100000 in
theorem ti_62_0 : dp_tab 62 0 = (.aload_n 0, 1) := by decide +kernel
set_option maxRecDepth 100000 in
theorem ti_62_1 : dp_tab 62 1 = (.getfield 19, 3) := by decide +kernel
set_option maxRecDepth 100000 in
theorem ti_62_4 : dp_tab 62 4 = (.getfield 97, 3) := by decide +kernel
set_option maxRecDepth 100000 in
theorem ti_62_7 : dp_tab 62 7 = (.iload_n 1, 1) := by decide +kernel
set_option maxRecDepth 100000 in
theorem ti_62_8 : dp_tab 62 8 = (.iaload, 1) := by decide +kernel
set_option maxRecDepth 100000 in
theorem ti_62_9 : dp_tab 62 9 = (.istore_n 3, 1) := by decide +kernel
set_option maxRecDepth 100000 in
theorem ti_62_10 : dp_tab 62 10 = (.iload_n 3, 1) := by decide +kernel
set_option maxRecDepth 100000 in
theorem ti_62_11 : dp_tab 62 11 = (.iconst 5, 1) := by decide +kernel
set_option maxRecDepth 100000 in
theorem ti_62_12 : dp_tab 62 12 = (.if_icmp .ge 16, 3) := by decide +kernel
set_option maxRecDepth 100000 in
theorem ti_62_15 : dp_tab 62 15 = (.aload_n 0, 1) := by decide +kernel
set_option maxRecDepth 100000 in
theorem ti_62_16 : dp_tab 62 16 = (.getfield 19, 3) := by decide +kernel
set_option maxRecDepth 100000 in
theorem ti_62_19 : dp_tab 62 19 = (.iload_n 1, 1) := by decide +kernel
set_option maxRecDepth 100000 in
theorem ti_62_20 : dp_tab 62 20 = (.iload_n 2, 1) := by decide +kernel
set_option maxRecDepth 100000 in
theorem ti_62_21 : dp_tab 62 21 = (.invokevirtual 102, 3) := by decide +kernel
set_option maxRecDepth 100000 in
theorem ti_62_24 : dp_tab 62 24 = (.iconst (-1), 1) := by decide +kernel
set_option maxRecDepth 100000 in
theorem ti_62_25 : dp_tab 62 25 = (.if_icmp .eq 5, 3) := by decide +kernel
set_option maxRecDepth 100000 in
theorem ti_62_28 : dp_tab 62 28 = (.iconst (-1), 1) := by decide +kernel
set_option maxRecDepth 100000 in
theorem ti_62_29 : dp_tab 62 29 = (.ireturn, 1) := by decide +kernel
set_option maxRecDepth 100000 in
theorem ti_62_30 : dp_tab 62 30 = (.aload_n 0, 1) := by decide +kernel
set_option maxRecDepth 100000 in
theorem ti_62_31 : dp_tab 62 31 = (.getfield 19, 3) := by decide +kernel
set_option maxRecDepth 100000 in
theorem ti_62_34 : dp_tab 62 34 = (.getfield 108, 3) := by decide +kernel
set_option maxRecDepth 100000 in
theorem ti_62_37 : dp_tab 62 37 = (.iload_n 1, 1) := by decide +kernel
set_option maxRecDepth 100000 in
theorem ti_62_38 : dp_tab 62 38 = (.aaload, 1) := by decide +kernel
set_option maxRecDepth 100000 in
theorem ti_62_39 : dp_tab 62 39 = (.iconst 0, 1) := by decide +kernel
set_option maxRecDepth 100000 in
theorem ti_62_40 : dp_tab 62 40 = (.aload_n 0, 1) := by decide +kernel
set_option maxRecDepth 100000 in
theorem ti_62_41 : dp_tab 62 41 = (.getfield 33, 3) := by decide +kernel
set_option maxRecDepth 100000 in
theorem ti_62_44 : dp_tab 62 44 = (.iconst 0, 1) := by decide +kernel
set_option maxRecDepth 100000 in
theorem ti_62_45 : dp_tab 62 45 = (.iload_n 3, 1) := by decide +kernel
set_option maxRecDepth 100000 in
theorem ti_62_46 : dp_tab 62 46 = (.invokestatic 259, 3) := by decide +kernel
set_option maxRecDepth 100000 in
theorem ti_62_49 : dp_tab 62 49 = (.aload_n 0, 1) := by decide +kernel
set_option maxRecDepth 100000 in
theorem ti_62_50 : dp_tab 62 50 = (.getfield 33, 3) := by decide +kernel
set_option maxRecDepth 100000 in
theorem ti_62_53 : dp_tab 62 53 = (.iload_n 3, 1) := by decide +kernel
set_option maxRecDepth 100000 in
theorem ti_62_54 : dp_tab 62 54 = (.iload_n 2, 1) := by decide +kernel
set_option maxRecDepth 100000 in
theorem ti_62_55 : dp_tab 62 55 = (.iastore, 1) := by decide +kernel
set_option maxRecDepth 100000 in
theorem ti_62_56 : dp_tab 62 56 = (.iconst (-1), 1) := by decide +kernel
set_option maxRecDepth 100000 in
theorem ti_62_57 : dp_tab 62 57 = (.istore 4, 2) := by decide +kernel
set_option maxRecDepth 100000 in
theorem ti_62_59 : dp_tab 62 59 = (.iconst 0, 1) := by decide +kernel
set_option maxRecDepth 100000 in
theorem ti_62_60 : dp_tab 62 60 = (.istore 5, 2) := by decide +kernel
set_option maxRecDepth 100000 in
theorem ti_62_62 : dp_tab 62 62 = (.iload 5, 2) := by decide +kernel
set_option maxRecDepth 100000 in
theorem ti_62_64 : dp_tab 62 64 = (.aload_n 0, 1) := by decide +kernel
set_option maxRecDepth 100000 in
theorem ti_62_65 : dp_tab 62 65 = (.getfield 10, 3) := by decide +kernel
set_option maxRecDepth 100000 in
theorem ti_62_68 : dp_tab 62 68 = (.getfield 50, 3) := by decide +kernel
set_option maxRecDepth 100000 in
theorem ti_62_71 : dp_tab 62 71 = (.if_icmp .ge 62, 3) := by decide +kernel
set_option maxRecDepth 100000 in
theorem ti_62_74 : dp_tab 62 74 = (.aload_n 0, 1) := by decide +kernel
set_option maxRecDepth 100000 in
theorem ti_62_75 : dp_tab 62 75 = (.getfield 10, 3) := by decide +kernel
set_option maxRecDepth 100000 in
theorem ti_62_78 : dp_tab 62 78 = (.iload 5, 2) := by decide +kernel
set_option maxRecDepth 100000 in
theorem ti_62_80 : dp_tab 62 80 = (.aload_n 0, 1) := by decide +kernel
set_option maxRecDepth 100000 in
theorem ti_62_81 : dp_tab 62 81 = (.getfield 33, 3) := by decide +kernel
set_option maxRecDepth 100000 in
theorem ti_62_84 : dp_tab 62 84 = (.iload_n 3, 1) := by decide +kernel
set_option maxRecDepth 100000 in
theorem ti_62_85 : dp_tab 62 85 = (.iconst 1, 1) := by decide +kernel
set_option maxRecDepth 100000 in
theorem ti_62_86 : dp_tab 62 86 = (.iadd, 1) := by decide +kernel
set_option maxRecDepth 100000 in
theorem ti_62_87 : dp_tab 62 87 = (.aload_n 0, 1) := by decide +kernel
set_option maxRecDepth 100000 in
theorem ti_62_88 : dp_tab 62 88 = (.getfield 26, 3) := by decide +kernel
set_option maxRecDepth 100000 in
theorem ti_62_91 : dp_tab 62 91 = (.getfield 217, 3) := by decide +kernel
set_option maxRecDepth 100000 in
theorem ti_62_94 : dp_tab 62 94 = (.iload 5, 2) := by decide +kernel
set_option maxRecDepth 100000 in
theorem ti_62_96 : dp_tab 62 96 = (.iaload, 1) := by decide +kernel
set_option maxRecDepth 100000 in
theorem ti_62_97 : dp_tab 62 97 = (.invokevirtual 243, 3) := by decide +kernel
set_option maxRecDepth 100000 in
theorem ti_62_100 : dp_tab 62 100 = (.istore 6, 2) := by decide +kernel
set_option maxRecDepth 100000 in
theorem ti_62_102 : dp_tab 62 102 = (.aload_n 0, 1) := by decide +kernel
set_option maxRecDepth 100000 in
theorem ti_62_103 : dp_tab 62 103 = (.aload_n 0, 1) := by decide +kernel
set_option maxRecDepth 100000 in
theorem ti_62_104 : dp_tab 62 104 = (.getfield 26, 3) := by decide +kernel
set_option maxRecDepth 100000 in
theorem ti_62_107 : dp_tab 62 107 = (.iload_n 1, 1) := by decide +kernel
set_option maxRecDepth 100000 in
theorem ti_62_108 : dp_tab 62 108 = (.iload 5, 2) := by decide +kernel
set_option maxRecDepth 100000 in
theorem ti_62_110 : dp_tab 62 110 = (.iload 6, 2) := by decide +kernel
set_option maxRecDepth 100000 in
theorem ti_62_112 : dp_tab 62 112 = (.invokevirtual 251, 3) := by decide +kernel
set_option maxRecDepth 100000 in
theorem ti_62_115 : dp_tab 62 115 = (.ifCond .eq 12, 3) := by decide +kernel
set_option maxRecDepth 100000 in
theorem ti_62_118 : dp_tab 62 118 = (.iload 4, 2) := by decide +kernel
set_option maxRecDepth 100000 in
theorem ti_62_120 : dp_tab 62 120 = (.iload 6, 2) := by decide +kernel
set_option maxRecDepth 100000 in
theorem ti_62_122 : dp_tab 62 122 = (.invokestatic 265, 3) := by decide +kernel
set_option maxRecDepth 100000 in
theorem ti_62_125 : dp_tab 62 125 = (.istore 4, 2) := by decide +kernel
set_option maxRecDepth 100000 in
theorem ti_62_127 : dp_tab 62 127 = (.iinc 5 1, 3) := by decide +kernel
set_option maxRecDepth 100000 in
theorem ti_62_130 : dp_tab 62 130 = (.goto (-68), 3) := by decide +kernel
set_option maxRecDepth 100000 in
theorem ti_62_133 : dp_tab 62 133 = (.iload 4, 2) := by decide +kernel
set_option maxRecDepth 100000 in
theorem ti_62_135 : dp_tab 62 135 = (.ireturn, 1) := by decide +kernel
set_option maxRecDepth 100000 in
theorem ti_63_0 : dp_tab 63 0 = (.iconst 2, 1) := by decide +kernel
set_option maxRecDepth 100000 in
theorem ti_63_1 : dp_tab 63 1 = (.aload_n 0, 1) := by decide +kernel
set_option maxRecDepth 100000 in
theorem ti_63_2 : dp_tab 63 2 = (.aload_n 1, 1) := by decide +kernel
set_option maxRecDepth 100000 in
theorem ti_63_3 : dp_tab 63 3 = (.iload_n 2, 1) := by decide +kernel
set_option maxRecDepth 100000 in
theorem ti_63_4 : dp_tab 63 4 = (.iload_n 3, 1) := by decide +kernel
set_option maxRecDepth 100000 in
theorem ti_63_5 : dp_tab 63 5 = (.invokevirtual 156, 3) := by decide +kernel
set_option maxRecDepth 100000 in
theorem ti_63_8 : dp_tab 63 8 = (.bipush 20, 2) := by decide +kernel
set_option maxRecDepth 100000 in
theorem ti_63_10 : dp_tab 63 10 = (.idiv, 1) := by decide +kernel
set_option maxRecDepth 100000 in
theorem ti_63_11 : dp_tab 63 11 = (.iadd, 1) := by decide +kernel
set_option maxRecDepth 100000 in
theorem ti_63_12 : dp_tab 63 12 = (.ireturn, 1) := by decide +kernel
set_option maxRecDepth 100000 in
theorem ti_64_0 : dp_tab 64 0 = (.aload_n 0, 1) := by decide +kernel
set_option maxRecDepth 100000 in
theorem ti_64_1 : dp_tab 64 1 = (.aload_n 1, 1) := by decide +kernel
set_option maxRecDepth 100000 in
theorem ti_64_2 : dp_tab 64 2 = (.iload_n 2, 1) := by decide +kernel
set_option maxRecDepth 100000 in
theorem ti_64_3 : dp_tab 64 3 = (.invokevirtual 268, 3) := by decide +kernel
set_option maxRecDepth 100000 in
theorem ti_64_6 : dp_tab 64 6 = (.istore_n 3, 1) := by decide +kernel
set_option maxRecDepth 100000 in
theorem ti_64_7 : dp_tab 64 7 = (.iload_n 3, 1) := by decide +kernel
set_option maxRecDepth 100000 in
theorem ti_64_8 : dp_tab 64 8 = (.iconst (-1), 1) := by decide +kernel
set_option maxRecDepth 100000 in
theorem ti_64_9 : dp_tab 64 9 = (.if_icmp .ne 5, 3) := by decide +kernel
set_option maxRecDepth 100000 in
theorem ti_64_12 : dp_tab 64 12 = (.iconst (-1), 1) := by decide +kernel
set_option maxRecDepth 100000 in
theorem ti_64_13 : dp_tab 64 13 = (.ireturn, 1) := by decide +kernel
set_option maxRecDepth 100000 in
theorem ti_64_14 : dp_tab 64 14 = (.aload_n 0, 1) := by decide +kernel
set_option maxRecDepth 100000 in
theorem ti_64_15 : dp_tab 64 15 = (.aload_n 1, 1) := by decide +kernel
set_option maxRecDepth 100000 in
theorem ti_64_16 : dp_tab 64 16 = (.iload_n 2, 1) := by decide +kernel
set_option maxRecDepth 100000 in
theorem ti_64_17 : dp_tab 64 17 = (.iload_n 3, 1) := by decide +kernel
set_option maxRecDepth 100000 in
theorem ti_64_18 : dp_tab 64 18 = (.invokevirtual 271, 3) := by decide +kernel
set_option maxRecDepth 100000 in
theorem ti_64_21 : dp_tab 64 21 = (.istore 4, 2) := by decide +kernel
set_option maxRecDepth 100000 in
theorem ti_64_23 : dp_tab 64 23 = (.aload_n 1, 1) := by decide +kernel
set_option maxRecDepth 100000 in
theorem ti_64_24 : dp_tab 64 24 = (.getfield 91, 3) := by decide +kernel
set_option maxRecDepth 100000 in
theorem ti_64_27 : dp_tab 64 27 = (.iload_n 2, 1) := by decide +kernel
set_option maxRecDepth 100000 in
theorem ti_64_28 : dp_tab 64 28 = (.iaload, 1) := by decide +kernel
set_option maxRecDepth 100000 in
theorem ti_64_29 : dp_tab 64 29 = (.iload 4, 2) := by decide +kernel
set_option maxRecDepth 100000 in
theorem ti_64_31 : dp_tab 64 31 = (.if_icmp .ge 5, 3) := by decide +kernel
set_option maxRecDepth 100000 in
theorem ti_64_34 : dp_tab 64 34 = (.iconst (-1), 1) := by decide +kernel
set_option maxRecDepth 100000 in
theorem ti_64_35 : dp_tab 64 35 = (.ireturn, 1) := by decide +kernel
set_option maxRecDepth 100000 in
theorem ti_64_36 : dp_tab 64 36 = (.aload_n 1, 1) := by decide +kernel
set_option maxRecDepth 100000 in
theorem ti_64_37 : dp_tab 64 37 = (.iload_n 2, 1) := by decide +kernel
set_option maxRecDepth 100000 in
theorem ti_64_38 : dp_tab 64 38 = (.iload_n 3, 1) := by decide +kernel
set_option maxRecDepth 100000 in
theorem ti_64_39 : dp_tab 64 39 = (.iload 4, 2) := by decide +kernel
set_option maxRecDepth 100000 in
theorem ti_64_41 : dp_tab 64 41 = (.invokevirtual 274, 3) := by decide +kernel
set_option maxRecDepth 100000 in
theorem ti_64_44 : dp_tab 64 44 = (.iload_n 3, 1) := by decide +kernel
set_option maxRecDepth 100000 in
theorem ti_64_45 : dp_tab 64 45 = (.ireturn, 1) := by decide +kernel
set_option maxRecDepth 100000 in
theorem ti_65_0 : dp_tab 65 0 = (.iconst 0, 1) := by decide +kernel
set_option maxRecDepth 100000 in
theorem ti_65_1 : dp_tab 65 1 = (.istore_n 3, 1) := by decide +kernel
set_option maxRecDepth 100000 in
theorem ti_65_2 : dp_tab 65 2 = (.iload_n 3, 1) := by decide +kernel
set_option maxRecDepth 100000 in
theorem ti_65_3 : dp_tab 65 3 = (.iload_n 2, 1) := by decide +kernel
set_option maxRecDepth 100000 in
theorem ti_65_4 : dp_tab 65 4 = (.if_icmp .ge 57, 3) := by decide +kernel
set_option maxRecDepth 100000 in
theorem ti_65_7 : dp_tab 65 7 = (.iconst 0, 1) := by decide +kernel
set_option maxRecDepth 100000 in
theorem ti_65_8 : dp_tab 65 8 = (.istore 4, 2) := by decide +kernel
set_option maxRecDepth 100000 in
theorem ti_65_10 : dp_tab 65 10 = (.iload 4, 2) := by decide +kernel
set_option maxRecDepth 100000 in
theorem ti_65_12 : dp_tab 65 12 = (.aload_n 0, 1) := by decide +kernel
set_option maxRecDepth 100000 in
theorem ti_65_13 : dp_tab 65 13 = (.getfield 19, 3) := by decide +kernel
set_option maxRecDepth 100000 in
theorem ti_65_16 : dp_tab 65 16 = (.getfield 86, 3) := by decide +kernel
set_option maxRecDepth 100000 in
theorem ti_65_19 : dp_tab 65 19 = (.if_icmp .ge 25, 3) := by decide +kernel
set_option maxRecDepth 100000 in
theorem ti_65_22 : dp_tab 65 22 = (.aload_n 0, 1) := by decide +kernel
set_option maxRecDepth 100000 in
theorem ti_65_23 : dp_tab 65 23 = (.aload_n 1, 1) := by decide +kernel
set_option maxRecDepth 100000 in
theorem ti_65_24 : dp_tab 65 24 = (.iload 4, 2) := by decide +kernel
set_option maxRecDepth 100000 in
theorem ti_65_26 : dp_tab 65 26 = (.invokevirtual 125, 3) := by decide +kernel
set_option maxRecDepth 100000 in
theorem ti_65_29 : dp_tab 65 29 = (.pop, 1) := by decide +kernel
set_option maxRecDepth 100000 in
theorem ti_65_30 : dp_tab 65 30 = (.aload_n 0, 1) := by decide +kernel
set_option maxRecDepth 100000 in
theorem ti_65_31 : dp_tab 65 31 = (.aload_n 1, 1) := by decide +kernel
set_option maxRecDepth 100000 in
theorem ti_65_32 : dp_tab 65 32 = (.iload 4, 2) := by decide +kernel
set_option maxRecDepth 100000 in
theorem ti_65_34 : dp_tab 65 34 = (.invokevirtual 125, 3) := by decide +kernel
set_option maxRecDepth 100000 in
theorem ti_65_37 : dp_tab 65 37 = (.pop, 1) := by decide +kernel
set_option maxRecDepth 100000 in
theorem ti_65_38 : dp_tab 65 38 = (.iinc 4 1, 3) := by decide +kernel
set_option maxRecDepth 100000 in
theorem ti_65_41 : dp_tab 65 41 = (.goto (-31), 3) := by decide +kernel
set_option maxRecDepth 100000 in
theorem ti_65_44 : dp_tab 65 44 = (.aload_n 1, 1) := by decide +kernel
set_option maxRecDepth 100000 in
theorem ti_65_45 : dp_tab 65 45 = (.aload_n 0, 1) := by decide +kernel
set_option maxRecDepth 100000 in
theorem ti_65_46 : dp_tab 65 46 = (.getfield 10, 3) := by decide +kernel
set_option maxRecDepth 100000 in
theorem ti_65_49 : dp_tab 65 49 = (.getfield 50, 3) := by decide +kernel
set_option maxRecDepth 100000 in
theorem ti_65_52 : dp_tab 65 52 = (.invokevirtual 278, 3) := by decide +kernel
set_option maxRecDepth 100000 in
theorem ti_65_55 : dp_tab 65 55 = (.iinc 3 1, 3) := by decide +kernel
set_option maxRecDepth 100000 in
theorem ti_65_58 : dp_tab 65 58 = (.goto (-56), 3) := by decide +kernel
set_option maxRecDepth 100000 in
theorem ti_65_61 : dp_tab 65 61 = (.return_, 1) := by decide +kernel
set_option maxRecDepth 100000 in
theorem ti_66_0 : dp_tab 66 0 = (.iconst 0, 1) := by decide +kernel
set_option maxRecDepth 100000 in
theorem ti_66_1 : dp_tab 66 1 = (.istore_n 2, 1) := by decide +kernel
set_option maxRecDepth 100000 in
theorem ti_66_2 : dp_tab 66 2 = (.iload_n 2, 1) := by decide +kernel
set_option maxRecDepth 100000 in
theorem ti_66_3 : dp_tab 66 3 = (.aload_n 0, 1) := by decide +kernel
set_option maxRecDepth 100000 in
theorem ti_66_4 : dp_tab 66 4 = (.getfield 19, 3) := by decide +kernel
set_option maxRecDepth 100000 in
theorem ti_66_7 : dp_tab 66 7 = (.getfield 86, 3) := by decide +kernel
set_option maxRecDepth 100000 in
theorem ti_66_10 : dp_tab 66 10 = (.if_icmp .ge 39, 3) := by decide +kernel
set_option maxRecDepth 100000 in
theorem ti_66_13 : dp_tab 66 13 = (.aload_n 0, 1) := by decide +kernel
set_option maxRecDepth 100000 in
theorem ti_66_14 : dp_tab 66 14 = (.aload_n 1, 1) := by decide +kernel
set_option maxRecDepth 100000 in
theorem ti_66_15 : dp_tab 66 15 = (.iload_n 2, 1) := by decide +kernel
set_option maxRecDepth 100000 in
theorem ti_66_16 : dp_tab 66 16 = (.invokevirtual 268, 3) := by decide +kernel
set_option maxRecDepth 100000 in
theorem ti_66_19 : dp_tab 66 19 = (.istore_n 3, 1) := by decide +kernel
set_option maxRecDepth 100000 in
theorem ti_66_20 : dp_tab 66 20 = (.iload_n 3, 1) := by decide +kernel
set_option maxRecDepth 100000 in
theorem ti_66_21 : dp_tab 66 21 = (.iconst (-1), 1) := by decide +kernel
set_option maxRecDepth 100000 in
theorem ti_66_22 : dp_tab 66 22 = (.if_icmp .eq 21, 3) := by decide +kernel
set_option maxRecDepth 100000 in
theorem ti_66_25 : dp_tab 66 25 = (.aload_n 0, 1) := by decide +kernel
set_option maxRecDepth 100000 in
theorem ti_66_26 : dp_tab 66 26 = (.aload_n 1, 1) := by decide +kernel
set_option maxRecDepth 100000 in
theorem ti_66_27 : dp_tab 66 27 = (.iload_n 2, 1) := by decide +kernel
set_option maxRecDepth 100000 in
theorem ti_66_28 : dp_tab 66 28 = (.iload_n 3, 1) := by decide +kernel
set_option maxRecDepth 100000 in
theorem ti_66_29 : dp_tab 66 29 = (.invokevirtual 271, 3) := by decide +kernel
set_option maxRecDepth 100000 in
theorem ti_66_32 : dp_tab 66 32 = (.aload_n 1, 1) := by decide +kernel
set_option maxRecDepth 100000 in
theorem ti_66_33 : dp_tab 66 33 = (.getfield 91, 3) := by decide +kernel
set_option maxRecDepth 100000 in
theorem ti_66_36 : dp_tab 66 36 = (.iload_n 2, 1) := by decide +kernel
set_option maxRecDepth 100000 in
theorem ti_66_37 : dp_tab 66 37 = (.iaload, 1) := by decide +kernel
set_option maxRecDepth 100000 in
theorem ti_66_38 : dp_tab 66 38 = (.if_icmp .le 5, 3) := by decide +kernel
set_option maxRecDepth 100000 in
theorem ti_66_41 : dp_tab 66 41 = (.iconst 1, 1) := by decide +kernel
set_option maxRecDepth 100000 in
theorem ti_66_42 : dp_tab 66 42 = (.ireturn, 1) := by decide +kernel
set_option maxRecDepth 100000 in
theorem ti_66_43 : dp_tab 66 43 = (.iinc 2 1, 3) := by decide +kernel
set_option maxRecDepth 100000 in
theorem ti_66_46 : dp_tab 66 46 = (.goto (-44), 3) := by decide +kernel
set_option maxRecDepth 100000 in
theorem ti_66_49 : dp_tab 66 49 = (.iconst 0, 1) := by decide +kernel
set_option maxRecDepth 100000 in
theorem ti_66_50 : dp_tab 66 50 = (.ireturn, 1) := by decide +kernel
set_option maxRecDepth 100000 in
theorem ti_67_0 : dp_tab 67 0 = (.iload_n 2, 1) := by decide +kernel
set_option maxRecDepth 100000 in
theorem ti_67_1 : dp_tab 67 1 = (.istore_n 3, 1) := by decide +kernel
set_option maxRecDepth 100000 in
theorem ti_67_2 : dp_tab 67 2 = (.iload_n 3, 1) := by decide +kernel
set_option maxRecDepth 100000 in
theorem ti_67_3 : dp_tab 67 3 = (.iconst 1, 1) := by decide +kernel
set_option maxRecDepth 100000 in
theorem ti_67_4 : dp_tab 67 4 = (.iadd, 1) := by decide +kernel
set_option maxRecDepth 100000 in
theorem ti_67_5 : dp_tab 67 5 = (.iload_n 1, 1) := by decide +kernel
set_option maxRecDepth 100000 in
theorem ti_67_6 : dp_tab 67 6 = (.if_icmp .ge 17, 3) := by decide +kernel
set_option maxRecDepth 100000 in
theorem ti_67_9 : dp_tab 67 9 = (.aload_n 0, 1) := by decide +kernel
set_option maxRecDepth 100000 in
theorem ti_67_10 : dp_tab 67 10 = (.iload_n 3, 1) := by decide +kernel
set_option maxRecDepth 100000 in
theorem ti_67_11 : dp_tab 67 11 = (.aload_n 0, 1) := by decide +kernel
set_option maxRecDepth 100000 in
theorem ti_67_12 : dp_tab 67 12 = (.iload_n 3, 1) := by decide +kernel
set_option maxRecDepth 100000 in
theorem ti_67_13 : dp_tab 67 13 = (.iconst 1, 1) := by decide +kernel
set_option maxRecDepth 100000 in
theorem ti_67_14 : dp_tab 67 14 = (.iadd, 1) := by decide +kernel
set_option maxRecDepth 100000 in
theorem ti_67_15 : dp_tab 67 15 = (.iaload, 1) := by decide +kernel
set_option maxRecDepth 100000 in
theorem ti_67_16 : dp_tab 67 16 = (.iastore, 1) := by decide +kernel
set_option maxRecDepth 100000 in
theorem ti_67_17 : dp_tab 67 17 = (.iinc 3 1, 3) := by decide +kernel
set_option maxRecDepth 100000 in
theorem ti_67_20 : dp_tab 67 20 = (.goto (-18), 3) := by decide +kernel
set_option maxRecDepth 100000 in
theorem ti_67_23 : dp_tab 67 23 = (.iload_n 1, 1) := by decide +kernel
set_option maxRecDepth 100000 in
theorem ti_67_24 : dp_tab 67 24 = (.iconst 1, 1) := by decide +kernel
set_option maxRecDepth 100000 in
theorem ti_67_25 : dp_tab 67 25 = (.isub, 1) := by decide +kernel
set_option maxRecDepth 100000 in
theorem ti_67_26 : dp_tab 67 26 = (.ireturn, 1) := by decide +kernel
set_option maxRecDepth 100000 in
theorem ti_68_0 : dp_tab 68 0 = (.aload_n 0, 1) := by decide +kernel
set_option maxRecDepth 100000 in
theorem ti_68_1 : dp_tab 68 1 = (.getfield 19, 3) := by decide +kernel
set_option maxRecDepth 100000 in
theorem ti_68_4 : dp_tab 68 4 = (.ireturn, 1) := by decide +kernel
set_option maxRecDepth 100000 in
theorem ti_69_0 : dp_tab 69 0 = (.aload_n 0, 1) := by decide +kernel
set_option maxRecDepth 100000 in
theorem ti_69_1 : dp_tab 69 1 = (.iload_n 1, 1) := by decide +kernel
set_option maxRecDepth 100000 in
theorem ti_69_2 : dp_tab 69 2 = (.putfield 19, 3) := by decide +kernel
set_option maxRecDepth 100000 in
theorem ti_69_5 : dp_tab 69 5 = (.iconst 0, 1) := by decide +kernel
set_option maxRecDepth 100000 in
theorem ti_69_6 : dp_tab 69 6 = (.ireturn, 1) := by decide +kernel
set_option maxRecDepth 100000 in
theorem ti_70_0 : dp_tab 70 0 = (.iload_n 0, 1) := by decide +kernel
set_option maxRecDepth 100000 in
theorem ti_70_1 : dp_tab 70 1 = (.iload_n 1, 1) := by decide +kernel
set_option maxRecDepth 100000 in
theorem ti_70_2 : dp_tab 70 2 = (.if_icmp .lt 12, 3) := by decide +kernel
set_option maxRecDepth 100000 in
theorem ti_70_5 : dp_tab 70 5 = (.iload_n 0, 1) := by decide +kernel
set_option maxRecDepth 100000 in
theorem ti_70_6 : dp_tab 70 6 = (.iload_n 2, 1) := by decide +kernel
set_option maxRecDepth 100000 in
theorem ti_70_7 : dp_tab 70 7 = (.if_icmp .gt 7, 3) := by decide +kernel
set_option maxRecDepth 100000 in
theorem ti_70_10 : dp_tab 70 10 = (.iconst 1, 1) := by decide +kernel
set_option maxRecDepth 100000 in
theorem ti_70_11 : dp_tab 70 11 = (.goto 4, 3) := by decide +kernel
set_option maxRecDepth 100000 in
theorem ti_70_14 : dp_tab 70 14 = (.iconst 0, 1) := by decide +kernel
set_option maxRecDepth 100000 in
theorem ti_70_15 : dp_tab 70 15 = (.ireturn, 1) := by decide +kernel
set_option maxRecDepth 100000 in
theorem ti_71_0 : dp_tab 71 0 = (.iload_n 1, 1) := by decide +kernel
set_option maxRecDepth 100000 in
theorem ti_71_1 : dp_tab 71 1 = (.iconst 0, 1) := by decide +kernel
set_option maxRecDepth 100000 in
theorem ti_71_2 : dp_tab 71 2 = (.aload_n 0, 1) := by decide +kernel
set_option maxRecDepth 100000 in
theorem ti_71_3 : dp_tab 71 3 = (.getfield 23, 3) := by decide +kernel
set_option maxRecDepth 100000 in
theorem ti_71_6 : dp_tab 71 6 = (.iconst 1, 1) := by decide +kernel
set_option maxRecDepth 100000 in
theorem ti_71_7 : dp_tab 71 7 = (.isub, 1) := by decide +kernel
set_option maxRecDepth 100000 in
theorem ti_71_8 : dp_tab 71 8 = (.invokestatic 26, 3) := by decide +kernel
set_option maxRecDepth 100000 in
theorem ti_71_11 : dp_tab 71 11 = (.ireturn, 1) := by decide +kernel
set_option maxRecDepth 100000 in
theorem ti_72_0 : dp_tab 72 0 = (.iload_n 1, 1) := by decide +kernel
set_option maxRecDepth 100000 in
theorem ti_72_1 : dp_tab 72 1 = (.iconst 0, 1) := by decide +kernel
set_option maxRecDepth 100000 in
theorem ti_72_2 : dp_tab 72 2 = (.aload_n 0, 1) := by decide +kernel
set_option maxRecDepth 100000 in
theorem ti_72_3 : dp_tab 72 3 = (.getfield 30, 3) := by decide +kernel
set_option maxRecDepth 100000 in
theorem ti_72_6 : dp_tab 72 6 = (.iconst 1, 1) := by decide +kernel
set_option maxRecDepth 100000 in
theorem ti_72_7 : dp_tab 72 7 = (.isub, 1) := by decide +kernel
set_option maxRecDepth 100000 in
theorem ti_72_8 : dp_tab 72 8 = (.invokestatic 26, 3) := by decide +kernel
set_option maxRecDepth 100000 in
theorem ti_72_11 : dp_tab 72 11 = (.ireturn, 1) := by decide +kernel
set_option maxRecDepth 100000 in
theorem ti_73_0 : dp_tab 73 0 = (.iload_n 0, 1) := by decide +kernel
set_option maxRecDepth 100000 in
theorem ti_73_1 : dp_tab 73 1 = (.iconst 0, 1) := by decide +kernel
set_option maxRecDepth 100000 in
theorem ti_73_2 : dp_tab 73 2 = (.bipush 19, 2) := by decide +kernel
set_option maxRecDepth 100000 in
theorem ti_73_4 : dp_tab 73 4 = (.invokestatic 26, 3) := by decide +kernel
set_option maxRecDepth 100000 in
theorem ti_73_7 : dp_tab 73 7 = (.ireturn, 1) := by decide +kernel
set_option maxRecDepth 100000 in
theorem ti_74_0 : dp_tab 74 0 = (.iload_n 0, 1) := by decide +kernel
set_option maxRecDepth 100000 in
theorem ti_74_1 : dp_tab 74 1 = (.iconst 0, 1) := by decide +kernel
set_option maxRecDepth 100000 in
theorem ti_74_2 : dp_tab 74 2 = (.bipush 39, 2) := by decide +kernel
set_option maxRecDepth 100000 in
theorem ti_74_4 : dp_tab 74 4 = (.invokestatic 26, 3) := by decide +kernel
set_option maxRecDepth 100000 in
theorem ti_74_7 : dp_tab 74 7 = (.ireturn, 1) := by decide +kernel
set_option maxRecDepth 100000 in
theorem ti_75_0 : dp_tab 75 0 = (.aload_n 0, 1) := by decide +kernel
set_option maxRecDepth 100000 in
theorem ti_75_1 : dp_tab 75 1 = (.getfield 13, 3) := by decide +kernel
set_option maxRecDepth 100000 in
theorem ti_75_4 : dp_tab 75 4 = (.bipush 14, 2) := by decide +kernel
set_option maxRecDepth 100000 in
theorem ti_75_6 : dp_tab 75 6 = (.iload_n 1, 1) := by decide +kernel
set_option maxRecDepth 100000 in
theorem ti_75_7 : dp_tab 75 7 = (.imul, 1) := by decide +kernel
set_option maxRecDepth 100000 in
theorem ti_75_8 : dp_tab 75 8 = (.iload_n 2, 1) := by decide +kernel
set_option maxRecDepth 100000 in
theorem ti_75_9 : dp_tab 75 9 = (.iadd, 1) := by decide +kernel
set_option maxRecDepth 100000 in
theorem ti_75_10 : dp_tab 75 10 = (.iaload, 1) := by decide +kernel
set_option maxRecDepth 100000 in
theorem ti_75_11 : dp_tab 75 11 = (.ireturn, 1) := by decide +kernel
set_option maxRecDepth 100000 in
theorem ti_76_0 : dp_tab 76 0 = (.aload_n 0, 1) := by decide +kernel
set_option maxRecDepth 100000 in
theorem ti_76_1 : dp_tab 76 1 = (.getfield 16, 3) := by decide +kernel
set_option maxRecDepth 100000 in
theorem ti_76_4 : dp_tab 76 4 = (.bipush 10, 2) := by decide +kernel
set_option maxRecDepth 100000 in
theorem ti_76_6 : dp_tab 76 6 = (.iload_n 1, 1) := by decide +kernel
set_option maxRecDepth 100000 in
theorem ti_76_7 : dp_tab 76 7 = (.imul, 1) := by decide +kernel
set_option maxRecDepth 100000 in
theorem ti_76_8 : dp_tab 76 8 = (.iload_n 2, 1) := by decide +kernel
set_option maxRecDepth 100000 in
theorem ti_76_9 : dp_tab 76 9 = (.iadd, 1) := by decide +kernel
set_option maxRecDepth 100000 in
theorem ti_76_10 : dp_tab 76 10 = (.iaload, 1) := by decide +kernel
set_option maxRecDepth 100000 in
theorem ti_76_11 : dp_tab 76 11 = (.ireturn, 1) := by decide +kernel
set_option maxRecDepth 100000 in
theorem ti_77_0 : dp_tab 77 0 = (.aload_n 0, 1) := by decide +kernel
set_option maxRecDepth 100000 in
theorem ti_77_1 : dp_tab 77 1 = (.getfield 16, 3) := by decide +kernel
set_option maxRecDepth 100000 in
theorem ti_77_4 : dp_tab 77 4 = (.bipush 10, 2) := by decide +kernel
set_option maxRecDepth 100000 in
theorem ti_77_6 : dp_tab 77 6 = (.iload_n 1, 1) := by decide +kernel
set_option maxRecDepth 100000 in
theorem ti_77_7 : dp_tab 77 7 = (.imul, 1) := by decide +kernel
set_option maxRecDepth 100000 in
theorem ti_77_8 : dp_tab 77 8 = (.iload_n 2, 1) := by decide +kernel
set_option maxRecDepth 100000 in
theorem ti_77_9 : dp_tab 77 9 = (.iadd, 1) := by decide +kernel
set_option maxRecDepth 100000 in
theorem ti_77_10 : dp_tab 77 10 = (.iload_n 3, 1) := by decide +kernel
set_option maxRecDepth 100000 in
theorem ti_77_11 : dp_tab 77 11 = (.iastore, 1) := by decide +kernel
set_option maxRecDepth 100000 in
theorem ti_77_12 : dp_tab 77 12 = (.return_, 1) := by decide +kernel
set_option maxRecDepth 100000 in
theorem ti_78_0 : dp_tab 78 0 = (.aload_n 0, 1) := by decide +kernel
set_option maxRecDepth 100000 in
theorem ti_78_1 : dp_tab 78 1 = (.iconst 0, 1) := by decide +kernel
set_option maxRecDepth 100000 in
theorem ti_78_2 : dp_tab 78 2 = (.putfield 19, 3) := by decide +kernel
set_option maxRecDepth 100000 in
theorem ti_78_5 : dp_tab 78 5 = (.iload_n 1, 1) := by decide +kernel
set_option maxRecDepth 100000 in
theorem ti_78_6 : dp_tab 78 6 = (.invokestatic 33, 3) := by decide +kernel
set_option maxRecDepth 100000 in
theorem ti_78_9 : dp_tab 78 9 = (.ifCond .eq 10, 3) := by decide +kernel
set_option maxRecDepth 100000 in
theorem ti_78_12 : dp_tab 78 12 = (.iload_n 2, 1) := by decide +kernel
set_option maxRecDepth 100000 in
theorem ti_78_13 : dp_tab 78 13 = (.invokestatic 37, 3) := by decide +kernel
set_option maxRecDepth 100000 in
theorem ti_78_16 : dp_tab 78 16 = (.ifCond .ne 9, 3) := by decide +kernel
set_option maxRecDepth 100000 in
theorem ti_78_19 : dp_tab 78 19 = (.aload_n 0, 1) := by decide +kernel
set_option maxRecDepth 100000 in
theorem ti_78_20 : dp_tab 78 20 = (.iconst 1, 1) := by decide +kernel
set_option maxRecDepth 100000 in
theorem ti_78_21 : dp_tab 78 21 = (.invokevirtual 40, 3) := by decide +kernel
set_option maxRecDepth 100000 in
theorem ti_78_24 : dp_tab 78 24 = (.ireturn, 1) := by decide +kernel
set_option maxRecDepth 100000 in
theorem ti_78_25 : dp_tab 78 25 = (.aload_n 0, 1) := by decide +kernel
set_option maxRecDepth 100000 in
theorem ti_78_26 : dp_tab 78 26 = (.getfield 9, 3) := by decide +kernel
set_option maxRecDepth 100000 in
theorem ti_78_29 : dp_tab 78 29 = (.iload_n 1, 1) := by decide +kernel
set_option maxRecDepth 100000 in
theorem ti_78_30 : dp_tab 78 30 = (.iaload, 1) := by decide +kernel
set_option maxRecDepth 100000 in
theorem ti_78_31 : dp_tab 78 31 = (.istore_n 3, 1) := by decide +kernel
set_option maxRecDepth 100000 in
theorem ti_78_32 : dp_tab 78 32 = (.aload_n 0, 1) := by decide +kernel
set_option maxRecDepth 100000 in
theorem ti_78_33 : dp_tab 78 33 = (.getfield 9, 3) := by decide +kernel
set_option maxRecDepth 100000 in
theorem ti_78_36 : dp_tab 78 36 = (.iload_n 1, 1) := by decide +kernel
set_option maxRecDepth 100000 in
theorem ti_78_37 : dp_tab 78 37 = (.iload_n 2, 1) := by decide +kernel
set_option maxRecDepth 100000 in
theorem ti_78_38 : dp_tab 78 38 = (.iastore, 1) := by decide +kernel
set_option maxRecDepth 100000 in
theorem ti_78_39 : dp_tab 78 39 = (.iload_n 3, 1) := by decide +kernel
set_option maxRecDepth 100000 in
theorem ti_78_40 : dp_tab 78 40 = (.ireturn, 1) := by decide +kernel
set_option maxRecDepth 100000 in
theorem ti_79_0 : dp_tab 79 0 = (.aload_n 0, 1) := by decide +kernel
set_option maxRecDepth 100000 in
theorem ti_79_1 : dp_tab 79 1 = (.iconst 0, 1) := by decide +kernel
set_option maxRecDepth 100000 in
theorem ti_79_2 : dp_tab 79 2 = (.putfield 19, 3) := by decide +kernel
set_option maxRecDepth 100000 in
theorem ti_79_5 : dp_tab 79 5 = (.aload_n 0, 1) := by decide +kernel
set_option maxRecDepth 100000 in
theorem ti_79_6 : dp_tab 79 6 = (.getfield 23, 3) := by decide +kernel
set_option maxRecDepth 100000 in
theorem ti_79_9 : dp_tab 79 9 = (.bipush 16, 2) := by decide +kernel
set_option maxRecDepth 100000 in
theorem ti_79_11 : dp_tab 79 11 = (.if_icmp .ne 9, 3) := by decide +kernel
set_option maxRecDepth 100000 in
theorem ti_79_14 : dp_tab 79 14 = (.aload_n 0, 1) := by decide +kernel
set_option maxRecDepth 100000 in
theorem ti_79_15 : dp_tab 79 15 = (.iconst 1, 1) := by decide +kernel
set_option maxRecDepth 100000 in
theorem ti_79_16 : dp_tab 79 16 = (.invokevirtual 40, 3) := by decide +kernel
set_option maxRecDepth 100000 in
theorem ti_79_19 : dp_tab 79 19 = (.ireturn, 1) := by decide +kernel
set_option maxRecDepth 100000 in
theorem ti_79_20 : dp_tab 79 20 = (.aload_n 0, 1) := by decide +kernel
set_option maxRecDepth 100000 in
theorem ti_79_21 : dp_tab 79 21 = (.dup, 1) := by decide +kernel
set_option maxRecDepth 100000 in
theorem ti_79_22 : dp_tab 79 22 = (.getfield 23, 3) := by decide +kernel
set_option maxRecDepth 100000 in
theorem ti_79_25 : dp_tab 79 25 = (.iconst 1, 1) := by decide +kernel
set_option maxRecDepth 100000 in
theorem ti_79_26 : dp_tab 79 26 = (.iadd, 1) := by decide +kernel
set_option maxRecDepth 100000 in
theorem ti_79_27 : dp_tab 79 27 = (.putfield 23, 3) := by decide +kernel
set_option maxRecDepth 100000 in
theorem ti_79_30 : dp_tab 79 30 = (.aload_n 0, 1) := by decide +kernel
set_option maxRecDepth 100000 in
theorem ti_79_31 : dp_tab 79 31 = (.getfield 23, 3) := by decide +kernel
set_option maxRecDepth 100000 in
theorem ti_79_34 : dp_tab 79 34 = (.iconst 1, 1) := by decide +kernel
set_option maxRecDepth 100000 in
theorem ti_79_35 : dp_tab 79 35 = (.isub, 1) := by decide +kernel
set_option maxRecDepth 100000 in
theorem ti_79_36 : dp_tab 79 36 = (.ireturn, 1) := by decide +kernel
set_option maxRecDepth 100000 in
theorem ti_80_0 : dp_tab 80 0 = (.aload_n 0, 1) := by decide +kernel
set_option maxRecDepth 100000 in
theorem ti_80_1 : dp_tab 80 1 = (.iconst 0, 1) := by decide +kernel
set_option maxRecDepth 100000 in
theorem ti_80_2 : dp_tab 80 2 = (.putfield 19, 3) := by decide +kernel
set_option maxRecDepth 100000 in
theorem ti_80_5 : dp_tab 80 5 = (.aload_n 0, 1) := by decide +kernel
set_option maxRecDepth 100000 in
theorem ti_80_6 : dp_tab 80 6 = (.iload_n 1, 1) := by decide +kernel
set_option maxRecDepth 100000 in
theorem ti_80_7 : dp_tab 80 7 = (.invokevirtual 44, 3) := by decide +kernel
set_option maxRecDepth 100000 in
theorem ti_80_10 : dp_tab 80 10 = (.ifCond .eq 10, 3) := by decide +kernel
set_option maxRecDepth 100000 in
theorem ti_80_13 : dp_tab 80 13 = (.iload_n 2, 1) := by decide +kernel
set_option maxRecDepth 100000 in
theorem ti_80_14 : dp_tab 80 14 = (.invokestatic 33, 3) := by decide +kernel
set_option maxRecDepth 100000 in
theorem ti_80_17 : dp_tab 80 17 = (.ifCond .ne 9, 3) := by decide +kernel
set_option maxRecDepth 100000 in
theorem ti_80_20 : dp_tab 80 20 = (.aload_n 0, 1) := by decide +kernel
set_option maxRecDepth 100000 in
theorem ti_80_21 : dp_tab 80 21 = (.iconst 1, 1) := by decide +kernel
set_option maxRecDepth 100000 in
theorem ti_80_22 : dp_tab 80 22 = (.invokevirtual 40, 3) := by decide +kernel
set_option maxRecDepth 100000 in
theorem ti_80_25 : dp_tab 80 25 = (.ireturn, 1) := by decide +kernel
set_option maxRecDepth 100000 in
theorem ti_80_26 : dp_tab 80 26 = (.aload_n 0, 1) := by decide +kernel
set_option maxRecDepth 100000 in
theorem ti_80_27 : dp_tab 80 27 = (.iload_n 1, 1) := by decide +kernel
set_option maxRecDepth 100000 in
theorem ti_80_28 : dp_tab 80 28 = (.iconst 0, 1) := by decide +kernel
set_option maxRecDepth 100000 in
theorem ti_80_29 : dp_tab 80 29 = (.invokevirtual 47, 3) := by decide +kernel
set_option maxRecDepth 100000 in
theorem ti_80_32 : dp_tab 80 32 = (.istore_n 3, 1) := by decide +kernel
set_option maxRecDepth 100000 in
theorem ti_80_33 : dp_tab 80 33 = (.iload_n 3, 1) := by decide +kernel
set_option maxRecDepth 100000 in
theorem ti_80_34 : dp_tab 80 34 = (.bipush 12, 2) := by decide +kernel
set_option maxRecDepth 100000 in
theorem ti_80_36 : dp_tab 80 36 = (.if_icmp .ne 9, 3) := by decide +kernel
set_option maxRecDepth 100000 in
theorem ti_80_39 : dp_tab 80 39 = (.aload_n 0, 1) := by decide +kernel
set_option maxRecDepth 100000 in
theorem ti_80_40 : dp_tab 80 40 = (.iconst 2, 1) := by decide +kernel
set_option maxRecDepth 100000 in
theorem ti_80_41 : dp_tab 80 41 = (.invokevirtual 40, 3) := by decide +kernel
set_option maxRecDepth 100000 in
theorem ti_80_44 : dp_tab 80 44 = (.ireturn, 1) := by decide +kernel
set_option maxRecDepth 100000 in
theorem ti_80_45 : dp_tab 80 45 = (.aload_n 0, 1) := by decide +kernel
set_option maxRecDepth 100000 in
theorem ti_80_46 : dp_tab 80 46 = (.getfield 13, 3) := by decide +kernel
set_option maxRecDepth 100000 in
theorem ti_80_49 : dp_tab 80 49 = (.bipush 14, 2) := by decide +kernel
set_option maxRecDepth 100000 in
theorem ti_80_51 : dp_tab 80 51 = (.iload_n 1, 1) := by decide +kernel
set_option maxRecDepth 100000 in
theorem ti_80_52 : dp_tab 80 52 = (.imul, 1) := by decide +kernel
set_option maxRecDepth 100000 in
theorem ti_80_53 : dp_tab 80 53 = (.iconst 2, 1) := by decide +kernel
set_option maxRecDepth 100000 in
theorem ti_80_54 : dp_tab 80 54 = (.iadd, 1) := by decide +kernel
set_option maxRecDepth 100000 in
theorem ti_80_55 : dp_tab 80 55 = (.iload_n 3, 1) := by decide +kernel
set_option maxRecDepth 100000 in
theorem ti_80_56 : dp_tab 80 56 = (.iadd, 1) := by decide +kernel
set_option maxRecDepth 100000 in
theorem ti_80_57 : dp_tab 80 57 = (.iload_n 2, 1) := by decide +kernel
set_option maxRecDepth 100000 in
theorem ti_80_58 : dp_tab 80 58 = (.iastore, 1) := by decide +kernel
set_option maxRecDepth 100000 in
theorem ti_80_59 : dp_tab 80 59 = (.aload_n 0, 1) := by decide +kernel
set_option maxRecDepth 100000 in
theorem ti_80_60 : dp_tab 80 60 = (.getfield 13, 3) := by decide +kernel
set_option maxRecDepth 100000 in
theorem ti_80_63 : dp_tab 80 63 = (.bipush 14, 2) := by decide +kernel
set_option maxRecDepth 100000 in
theorem ti_80_65 : dp_tab 80 65 = (.iload_n 1, 1) := by decide +kernel
set_option maxRecDepth 100000 in
theorem ti_80_66 : dp_tab 80 66 = (.imul, 1) := by decide +kernel
set_option maxRecDepth 100000 in
theorem ti_80_67 : dp_tab 80 67 = (.iconst 0, 1) := by decide +kernel
set_option maxRecDepth 100000 in
theorem ti_80_68 : dp_tab 80 68 = (.iadd, 1) := by decide +kernel
set_option maxRecDepth 100000 in
theorem ti_80_69 : dp_tab 80 69 = (.iload_n 3, 1) := by decide +kernel
set_option maxRecDepth 100000 in
theorem ti_80_70 : dp_tab 80 70 = (.iconst 1, 1) := by decide +kernel
set_option maxRecDepth 100000 in
theorem ti_80_71 : dp_tab 80 71 = (.iadd, 1) := by decide +kernel
set_option maxRecDepth 100000 in
theorem ti_80_72 : dp_tab 80 72 = (.iastore, 1) := by decide +kernel
set_option maxRecDepth 100000 in
theorem ti_80_73 : dp_tab 80 73 = (.iload_n 3, 1) := by decide +kernel
set_option maxRecDepth 100000 in
theorem ti_80_74 : dp_tab 80 74 = (.iconst 1, 1) := by decide +kernel
set_option maxRecDepth 100000 in
theorem ti_80_75 : dp_tab 80 75 = (.iadd, 1) := by decide +kernel
set_option maxRecDepth 100000 in
theorem ti_80_76 : dp_tab 80 76 = (.ireturn, 1) := by decide +kernel
set_option maxRecDepth 100000 in
theorem ti_81_0 : dp_tab 81 0 = (.aload_n 0, 1) := by decide +kernel
set_option maxRecDepth 100000 in
theorem ti_81_1 : dp_tab 81 1 = (.iconst 0, 1) := by decide +kernel
set_option maxRecDepth 100000 in
theorem ti_81_2 : dp_tab 81 2 = (.putfield 19, 3) := by decide +kernel
set_option maxRecDepth 100000 in
theorem ti_81_5 : dp_tab 81 5 = (.aload_n 0, 1) := by decide +kernel
set_option maxRecDepth 100000 in
theorem ti_81_6 : dp_tab 81 6 = (.iload_n 1, 1) := by decide +kernel
set_option maxRecDepth 100000 in
theorem ti_81_7 : dp_tab 81 7 = (.invokevirtual 44, 3) := by decide +kernel
set_option maxRecDepth 100000 in
theorem ti_81_10 : dp_tab 81 10 = (.ifCond .eq 19, 3) := by decide +kernel
set_option maxRecDepth 100000 in
theorem ti_81_13 : dp_tab 81 13 = (.iload_n 2, 1) := by decide +kernel
set_option maxRecDepth 100000 in
theorem ti_81_14 : dp_tab 81 14 = (.iconst 0, 1) := by decide +kernel
set_option maxRecDepth 100000 in
theorem ti_81_15 : dp_tab 81 15 = (.aload_n 0, 1) := by decide +kernel
set_option maxRecDepth 100000 in
theorem ti_81_16 : dp_tab 81 16 = (.iload_n 1, 1) := by decide +kernel
set_option maxRecDepth 100000 in
theorem ti_81_17 : dp_tab 81 17 = (.iconst 0, 1) := by decide +kernel
set_option maxRecDepth 100000 in
theorem ti_81_18 : dp_tab 81 18 = (.invokevirtual 47, 3) := by decide +kernel
set_option maxRecDepth 100000 in
theorem ti_81_21 : dp_tab 81 21 = (.iconst 1, 1) := by decide +kernel
set_option maxRecDepth 100000 in
theorem ti_81_22 : dp_tab 81 22 = (.isub, 1) := by decide +kernel
set_option maxRecDepth 100000 in
theorem ti_81_23 : dp_tab 81 23 = (.invokestatic 26, 3) := by decide +kernel
set_option maxRecDepth 100000 in
theorem ti_81_26 : dp_tab 81 26 = (.ifCond .ne 9, 3) := by decide +kernel
set_option maxRecDepth 100000 in
theorem ti_81_29 : dp_tab 81 29 = (.aload_n 0, 1) := by decide +kernel
set_option maxRecDepth 100000 in
theorem ti_81_30 : dp_tab 81 30 = (.iconst 1, 1) := by decide +kernel
set_option maxRecDepth 100000 in
theorem ti_81_31 : dp_tab 81 31 = (.invokevirtual 40, 3) := by decide +kernel
set_option maxRecDepth 100000 in
theorem ti_81_34 : dp_tab 81 34 = (.ireturn, 1) := by decide +kernel
set_option maxRecDepth 100000 in
theorem ti_81_35 : dp_tab 81 35 = (.aload_n 0, 1) := by decide +kernel
set_option maxRecDepth 100000 in
theorem ti_81_36 : dp_tab 81 36 = (.iload_n 1, 1) := by decide +kernel
set_option maxRecDepth 100000 in
theorem ti_81_37 : dp_tab 81 37 = (.iconst 2, 1) := by decide +kernel
set_option maxRecDepth 100000 in
theorem ti_81_38 : dp_tab 81 38 = (.iload_n 2, 1) := by decide +kernel
set_option maxRecDepth 100000 in
theorem ti_81_39 : dp_tab 81 39 = (.iadd, 1) := by decide +kernel
set_option maxRecDepth 100000 in
theorem ti_81_40 : dp_tab 81 40 = (.invokevirtual 47, 3) := by decide +kernel
set_option maxRecDepth 100000 in
theorem ti_81_43 : dp_tab 81 43 = (.istore_n 3, 1) := by decide +kernel
set_option maxRecDepth 100000 in
theorem ti_81_44 : dp_tab 81 44 = (.aload_n 0, 1) := by decide +kernel
set_option maxRecDepth 100000 in
theorem ti_81_45 : dp_tab 81 45 = (.iload_n 1, 1) := by decide +kernel
set_option maxRecDepth 100000 in
theorem ti_81_46 : dp_tab 81 46 = (.iconst 0, 1) := by decide +kernel
set_option maxRecDepth 100000 in
theorem ti_81_47 : dp_tab 81 47 = (.invokevirtual 47, 3) := by decide +kernel
set_option maxRecDepth 100000 in
theorem ti_81_50 : dp_tab 81 50 = (.iconst 1, 1) := by decide +kernel
set_option maxRecDepth 100000 in
theorem ti_81_51 : dp_tab 81 51 = (.isub, 1) := by decide +kernel
set_option maxRecDepth 100000 in
theorem ti_81_52 : dp_tab 81 52 = (.istore 4, 2) := by decide +kernel
set_option maxRecDepth 100000 in
theorem ti_81_54 : dp_tab 81 54 = (.bipush 14, 2) := by decide +kernel
set_option maxRecDepth 100000 in
theorem ti_81_56 : dp_tab 81 56 = (.iload_n 1, 1) := by decide +kernel
set_option maxRecDepth 100000 in
theorem ti_81_57 : dp_tab 81 57 = (.imul, 1) := by decide +kernel
set_option maxRecDepth 100000 in
theorem ti_81_58 : dp_tab 81 58 = (.iconst 2, 1) := by decide +kernel
set_option maxRecDepth 100000 in
theorem ti_81_59 : dp_tab 81 59 = (.iadd, 1) := by decide +kernel
set_option maxRecDepth 100000 in
theorem ti_81_60 : dp_tab 81 60 = (.iload_n 2, 1) := by decide +kernel
set_option maxRecDepth 100000 in
theorem ti_81_61 : dp_tab 81 61 = (.iadd, 1) := by decide +kernel
set_option maxRecDepth 100000 in
theorem ti_81_62 : dp_tab 81 62 = (.istore 5, 2) := by decide +kernel
set_option maxRecDepth 100000 in
theorem ti_81_64 : dp_tab 81 64 = (.aload_n 0, 1) := by decide +kernel
set_option maxRecDepth 100000 in
theorem ti_81_65 : dp_tab 81 65 = (.getfield 13, 3) := by decide +kernel
set_option maxRecDepth 100000 in
theorem ti_81_68 : dp_tab 81 68 = (.iload 5, 2) := by decide +kernel
set_option maxRecDepth 100000 in
theorem ti_81_70 : dp_tab 81 70 = (.iconst 1, 1) := by decide +kernel
set_option maxRecDepth 100000 in
theorem ti_81_71 : dp_tab 81 71 = (.iadd, 1) := by decide +kernel
set_option maxRecDepth 100000 in
theorem ti_81_72 : dp_tab 81 72 = (.aload_n 0, 1) := by decide +kernel
set_option maxRecDepth 100000 in
theorem ti_81_73 : dp_tab 81 73 = (.getfield 13, 3) := by decide +kernel
set_option maxRecDepth 100000 in
theorem ti_81_76 : dp_tab 81 76 = (.iload 5, 2) := by decide +kernel
set_option maxRecDepth 100000 in
theorem ti_81_78 : dp_tab 81 78 = (.iload 4, 2) := by decide +kernel
set_option maxRecDepth 100000 in
theorem ti_81_80 : dp_tab 81 80 = (.iload_n 2, 1) := by decide +kernel
set_option maxRecDepth 100000 in
theorem ti_81_81 : dp_tab 81 81 = (.isub, 1) := by decide +kernel
set_option maxRecDepth 100000 in
theorem ti_81_82 : dp_tab 81 82 = (.invokestatic 51, 3) := by decide +kernel
set_option maxRecDepth 100000 in
theorem ti_81_85 : dp_tab 81 85 = (.aload_n 0, 1) := by decide +kernel
set_option maxRecDepth 100000 in
theorem ti_81_86 : dp_tab 81 86 = (.getfield 13, 3) := by decide +kernel
set_option maxRecDepth 100000 in
theorem ti_81_89 : dp_tab 81 89 = (.bipush 14, 2) := by decide +kernel
set_option maxRecDepth 100000 in
theorem ti_81_91 : dp_tab 81 91 = (.iload_n 1, 1) := by decide +kernel
set_option maxRecDepth 100000 in
theorem ti_81_92 : dp_tab 81 92 = (.imul, 1) := by decide +kernel
set_option maxRecDepth 100000 in
theorem ti_81_93 : dp_tab 81 93 = (.iconst 0, 1) := by decide +kernel
set_option maxRecDepth 100000 in
theorem ti_81_94 : dp_tab 81 94 = (.iadd, 1) := by decide +kernel
set_option maxRecDepth 100000 in
theorem ti_81_95 : dp_tab 81 95 = (.iload 4, 2) := by decide +kernel
set_option maxRecDepth 100000 in
theorem ti_81_97 : dp_tab 81 97 = (.iastore, 1) := by decide +kernel
set_option maxRecDepth 100000 in
theorem ti_81_98 : dp_tab 81 98 = (.iload_n 3, 1) := by decide +kernel
set_option maxRecDepth 100000 in
theorem ti_81_99 : dp_tab 81 99 = (.ireturn, 1) := by decide +kernel
set_option maxRecDepth 100000 in
theorem ti_82_0 : dp_tab 82 0 = (.aload_n 0, 1) := by decide +kernel
set_option maxRecDepth 100000 in
theorem ti_82_1 : dp_tab 82 1 = (.iconst 0, 1) := by decide +kernel
set_option maxRecDepth 100000 in
theorem ti_82_2 : dp_tab 82 2 = (.putfield 19, 3) := by decide +kernel
set_option maxRecDepth 100000 in
theorem ti_82_5 : dp_tab 82 5 = (.iload_n 1, 1) := by decide +kernel
set_option maxRecDepth 100000 in
theorem ti_82_6 : dp_tab 82 6 = (.iconst 0, 1) := by decide +kernel
set_option maxRecDepth 100000 in
theorem ti_82_7 : dp_tab 82 7 = (.sipush 999, 3) := by decide +kernel
set_option maxRecDepth 100000 in
theorem ti_82_10 : dp_tab 82 10 = (.invokestatic 26, 3) := by decide +kernel
set_option maxRecDepth 100000 in
theorem ti_82_13 : dp_tab 82 13 = (.ifCond .ne 9, 3) := by decide +kernel
set_option maxRecDepth 100000 in
theorem ti_82_16 : dp_tab 82 16 = (.aload_n 0, 1) := by decide +kernel
set_option maxRecDepth 100000 in
theorem ti_82_17 : dp_tab 82 17 = (.iconst 1, 1) := by decide +kernel
set_option maxRecDepth 100000 in
theorem ti_82_18 : dp_tab 82 18 = (.invokevirtual 40, 3) := by decide +kernel
set_option maxRecDepth 100000 in
theorem ti_82_21 : dp_tab 82 21 = (.ireturn, 1) := by decide +kernel
set_option maxRecDepth 100000 in
theorem ti_82_22 : dp_tab 82 22 = (.aload_n 0, 1) := by decide +kernel
set_option maxRecDepth 100000 in
theorem ti_82_23 : dp_tab 82 23 = (.getfield 30, 3) := by decide +kernel
set_option maxRecDepth 100000 in
theorem ti_82_26 : dp_tab 82 26 = (.bipush 6, 2) := by decide +kernel
set_option maxRecDepth 100000 in
theorem ti_82_28 : dp_tab 82 28 = (.if_icmp .ne 9, 3) := by decide +kernel
set_option maxRecDepth 100000 in
theorem ti_82_31 : dp_tab 82 31 = (.aload_n 0, 1) := by decide +kernel
set_option maxRecDepth 100000 in
theorem ti_82_32 : dp_tab 82 32 = (.iconst 2, 1) := by decide +kernel
set_option maxRecDepth 100000 in
theorem ti_82_33 : dp_tab 82 33 = (.invokevirtual 40, 3) := by decide +kernel
set_option maxRecDepth 100000 in
theorem ti_82_36 : dp_tab 82 36 = (.ireturn, 1) := by decide +kernel
set_option maxRecDepth 100000 in
theorem ti_82_37 : dp_tab 82 37 = (.aload_n 0, 1) := by decide +kernel
set_option maxRecDepth 100000 in
theorem ti_82_38 : dp_tab 82 38 = (.aload_n 0, 1) := by decide +kernel
set_option maxRecDepth 100000 in
theorem ti_82_39 : dp_tab 82 39 = (.getfield 30, 3) := by decide +kernel
set_option maxRecDepth 100000 in
theorem ti_82_42 : dp_tab 82 42 = (.iconst 0, 1) := by decide +kernel
set_option maxRecDepth 100000 in
theorem ti_82_43 : dp_tab 82 43 = (.iload_n 1, 1) := by decide +kernel
set_option maxRecDepth 100000 in
theorem ti_82_44 : dp_tab 82 44 = (.invokevirtual 57, 3) := by decide +kernel
set_option maxRecDepth 100000 in
theorem ti_82_47 : dp_tab 82 47 = (.aload_n 0, 1) := by decide +kernel
set_option maxRecDepth 100000 in
theorem ti_82_48 : dp_tab 82 48 = (.aload_n 0, 1) := by decide +kernel
set_option maxRecDepth 100000 in
theorem ti_82_49 : dp_tab 82 49 = (.getfield 30, 3) := by decide +kernel
set_option maxRecDepth 100000 in
theorem ti_82_52 : dp_tab 82 52 = (.iconst 2, 1) := by decide +kernel
set_option maxRecDepth 100000 in
theorem ti_82_53 : dp_tab 82 53 = (.bipush 20, 2) := by decide +kernel
set_option maxRecDepth 100000 in
theorem ti_82_55 : dp_tab 82 55 = (.invokevirtual 57, 3) := by decide +kernel
set_option maxRecDepth 100000 in
theorem ti_82_58 : dp_tab 82 58 = (.aload_n 0, 1) := by decide +kernel
set_option maxRecDepth 100000 in
theorem ti_82_59 : dp_tab 82 59 = (.dup, 1) := by decide +kernel
set_option maxRecDepth 100000 in
theorem ti_82_60 : dp_tab 82 60 = (.getfield 30, 3) := by decide +kernel
set_option maxRecDepth 100000 in
theorem ti_82_63 : dp_tab 82 63 = (.iconst 1, 1) := by decide +kernel
set_option maxRecDepth 100000 in
theorem ti_82_64 : dp_tab 82 64 = (.iadd, 1) := by decide +kernel
set_option maxRecDepth 100000 in
theorem ti_82_65 : dp_tab 82 65 = (.putfield 30, 3) := by decide +kernel
set_option maxRecDepth 100000 in
theorem ti_82_68 : dp_tab 82 68 = (.aload_n 0, 1) := by decide +kernel
set_option maxRecDepth 100000 in
theorem ti_82_69 : dp_tab 82 69 = (.getfield 30, 3) := by decide +kernel
set_option maxRecDepth 100000 in
theorem ti_82_72 : dp_tab 82 72 = (.iconst 1, 1) := by decide +kernel
set_option maxRecDepth 100000 in
theorem ti_82_73 : dp_tab 82 73 = (.isub, 1) := by decide +kernel
set_option maxRecDepth 100000 in
theorem ti_82_74 : dp_tab 82 74 = (.ireturn, 1) := by decide +kernel
set_option maxRecDepth 100000 in
theorem ti_83_0 : dp_tab 83 0 = (.iconst 0, 1) := by decide +kernel
set_option maxRecDepth 100000 in
theorem ti_83_1 : dp_tab 83 1 = (.istore_n 3, 1) := by decide +kernel
set_option maxRecDepth 100000 in
theorem ti_83_2 : dp_tab 83 2 = (.iload_n 3, 1) := by decide +kernel
set_option maxRecDepth 100000 in
theorem ti_83_3 : dp_tab 83 3 = (.aload_n 0, 1) := by decide +kernel
set_option maxRecDepth 100000 in
theorem ti_83_4 : dp_tab 83 4 = (.iload_n 1, 1) := by decide +kernel
set_option maxRecDepth 100000 in
theorem ti_83_5 : dp_tab 83 5 = (.iconst 1, 1) := by decide +kernel
set_option maxRecDepth 100000 in
theorem ti_83_6 : dp_tab 83 6 = (.invokevirtual 61, 3) := by decide +kernel
set_option maxRecDepth 100000 in
theorem ti_83_9 : dp_tab 83 9 = (.if_icmp .ge 23, 3) := by decide +kernel
set_option maxRecDepth 100000 in
theorem ti_83_12 : dp_tab 83 12 = (.aload_n 0, 1) := by decide +kernel
set_option maxRecDepth 100000 in
theorem ti_83_13 : dp_tab 83 13 = (.iload_n 1, 1) := by decide +kernel
set_option maxRecDepth 100000 in
theorem ti_83_14 : dp_tab 83 14 = (.iconst 5, 1) := by decide +kernel
set_option maxRecDepth 100000 in
theorem ti_83_15 : dp_tab 83 15 = (.iload_n 3, 1) := by decide +kernel
set_option maxRecDepth 100000 in
theorem ti_83_16 : dp_tab 83 16 = (.iadd, 1) := by decide +kernel
set_option maxRecDepth 100000 in
theorem ti_83_17 : dp_tab 83 17 = (.invokevirtual 61, 3) := by decide +kernel
set_option maxRecDepth 100000 in
theorem ti_83_20 : dp_tab 83 20 = (.iload_n 2, 1) := by decide +kernel
set_option maxRecDepth 100000 in
theorem ti_83_21 : dp_tab 83 21 = (.if_icmp .ne 5, 3) := by decide +kernel
set_option maxRecDepth 100000 in
theorem ti_83_24 : dp_tab 83 24 = (.iload_n 3, 1) := by decide +kernel
set_option maxRecDepth 100000 in
theorem ti_83_25 : dp_tab 83 25 = (.ireturn, 1) := by decide +kernel
set_option maxRecDepth 100000 in
theorem ti_83_26 : dp_tab 83 26 = (.iinc 3 1, 3) := by decide +kernel
set_option maxRecDepth 100000 in
theorem ti_83_29 : dp_tab 83 29 = (.goto (-27), 3) := by decide +kernel
set_option maxRecDepth 100000 in
theorem ti_83_32 : dp_tab 83 32 = (.iconst (-1), 1) := by decide +kernel
set_option maxRecDepth 100000 in
theorem ti_83_33 : dp_tab 83 33 = (.ireturn, 1) := by decide +kernel
set_option maxRecDepth 100000 in
theorem ti_84_0 : dp_tab 84 0 = (.aload_n 0, 1) := by decide +kernel
set_option maxRecDepth 100000 in
theorem ti_84_1 : dp_tab 84 1 = (.iconst 0, 1) := by decide +kernel
set_option maxRecDepth 100000 in
theorem ti_84_2 : dp_tab 84 2 = (.putfield 19, 3) := by decide +kernel
set_option maxRecDepth 100000 in
theorem ti_84_5 : dp_tab 84 5 = (.aload_n 0, 1) := by decide +kernel
set_option maxRecDepth 100000 in
theorem ti_84_6 : dp_tab 84 6 = (.iload_n 1, 1) := by decide +kernel
set_option maxRecDepth 100000 in
theorem ti_84_7 : dp_tab 84 7 = (.invokevirtual 64, 3) := by decide +kernel
set_option maxRecDepth 100000 in
theorem ti_84_10 : dp_tab 84 10 = (.ifCond .eq 10, 3) := by decide +kernel
set_option maxRecDepth 100000 in
theorem ti_84_13 : dp_tab 84 13 = (.iload_n 2, 1) := by decide +kernel
set_option maxRecDepth 100000 in
theorem ti_84_14 : dp_tab 84 14 = (.invokestatic 37, 3) := by decide +kernel
set_option maxRecDepth 100000 in
theorem ti_84_17 : dp_tab 84 17 = (.ifCond .ne 9, 3) := by decide +kernel
set_option maxRecDepth 100000 in
theorem ti_84_20 : dp_tab 84 20 = (.aload_n 0, 1) := by decide +kernel
set_option maxRecDepth 100000 in
theorem ti_84_21 : dp_tab 84 21 = (.iconst 1, 1) := by decide +kernel
set_option maxRecDepth 100000 in
theorem ti_84_22 : dp_tab 84 22 = (.invokevirtual 40, 3) := by decide +kernel
set_option maxRecDepth 100000 in
theorem ti_84_25 : dp_tab 84 25 = (.ireturn, 1) := by decide +kernel
set_option maxRecDepth 100000 in
theorem ti_84_26 : dp_tab 84 26 = (.aload_n 0, 1) := by decide +kernel
set_option maxRecDepth 100000 in
theorem ti_84_27 : dp_tab 84 27 = (.iload_n 1, 1) := by decide +kernel
set_option maxRecDepth 100000 in
theorem ti_84_28 : dp_tab 84 28 = (.iconst 1, 1) := by decide +kernel
set_option maxRecDepth 100000 in
theorem ti_84_29 : dp_tab 84 29 = (.invokevirtual 61, 3) := by decide +kernel
set_option maxRecDepth 100000 in
theorem ti_84_32 : dp_tab 84 32 = (.istore_n 3, 1) := by decide +kernel
set_option maxRecDepth 100000 in
theorem ti_84_33 : dp_tab 84 33 = (.iload_n 3, 1) := by decide +kernel
set_option maxRecDepth 100000 in
theorem ti_84_34 : dp_tab 84 34 = (.iconst 5, 1) := by decide +kernel
set_option maxRecDepth 100000 in
theorem ti_84_35 : dp_tab 84 35 = (.if_icmp .eq 13, 3) := by decide +kernel
set_option maxRecDepth 100000 in
theorem ti_84_38 : dp_tab 84 38 = (.aload_n 0, 1) := by decide +kernel
set_option maxRecDepth 100000 in
theorem ti_84_39 : dp_tab 84 39 = (.iload_n 1, 1) := by decide +kernel
set_option maxRecDepth 100000 in
theorem ti_84_40 : dp_tab 84 40 = (.iload_n 2, 1) := by decide +kernel
set_option maxRecDepth 100000 in
theorem ti_84_41 : dp_tab 84 41 = (.invokevirtual 67, 3) := by decide +kernel
set_option maxRecDepth 100000 in
theorem ti_84_44 : dp_tab 84 44 = (.iconst (-1), 1) := by decide +kernel
set_option maxRecDepth 100000 in
theorem ti_84_45 : dp_tab 84 45 = (.if_icmp .eq 9, 3) := by decide +kernel
set_option maxRecDepth 100000 in
theorem ti_84_48 : dp_tab 84 48 = (.aload_n 0, 1) := by decide +kernel
set_option maxRecDepth 100000 in
theorem ti_84_49 : dp_tab 84 49 = (.iconst 2, 1) := by decide +kernel
set_option maxRecDepth 100000 in
theorem ti_84_50 : dp_tab 84 50 = (.invokevirtual 40, 3) := by decide +kernel
set_option maxRecDepth 100000 in
theorem ti_84_53 : dp_tab 84 53 = (.ireturn, 1) := by decide +kernel
set_option maxRecDepth 100000 in
theorem ti_84_54 : dp_tab 84 54 = (.aload_n 0, 1) := by decide +kernel
set_option maxRecDepth 100000 in
theorem ti_84_55 : dp_tab 84 55 = (.iload_n 1, 1) := by decide +kernel
set_option maxRecDepth 100000 in
theorem ti_84_56 : dp_tab 84 56 = (.iconst 5, 1) := by decide +kernel
set_option maxRecDepth 100000 in
theorem ti_84_57 : dp_tab 84 57 = (.iload_n 3, 1) := by decide +kernel
set_option maxRecDepth 100000 in
theorem ti_84_58 : dp_tab 84 58 = (.iadd, 1) := by decide +kernel
set_option maxRecDepth 100000 in
theorem ti_84_59 : dp_tab 84 59 = (.iload_n 2, 1) := by decide +kernel
set_option maxRecDepth 100000 in
theorem ti_84_60 : dp_tab 84 60 = (.invokevirtual 57, 3) := by decide +kernel
set_option maxRecDepth 100000 in
theorem ti_84_63 : dp_tab 84 63 = (.aload_n 0, 1) := by decide +kernel
set_option maxRecDepth 100000 in
theorem ti_84_64 : dp_tab 84 64 = (.iload_n 1, 1) := by decide +kernel
set_option maxRecDepth 100000 in
theorem ti_84_65 : dp_tab 84 65 = (.iconst 1, 1) := by decide +kernel
set_option maxRecDepth 100000 in
theorem ti_84_66 : dp_tab 84 66 = (.iload_n 3, 1) := by decide +kernel
set_option maxRecDepth 100000 in
theorem ti_84_67 : dp_tab 84 67 = (.iconst 1, 1) := by decide +kernel
set_option maxRecDepth 100000 in
theorem ti_84_68 : dp_tab 84 68 = (.iadd, 1) := by decide +kernel
set_option maxRecDepth 100000 in
theorem ti_84_69 : dp_tab 84 69 = (.invokevirtual 57, 3) := by decide +kernel
set_option maxRecDepth 100000 in
theorem ti_84_72 : dp_tab 84 72 = (.iload_n 3, 1) := by decide +kernel
set_option maxRecDepth 100000 in
theorem ti_84_73 : dp_tab 84 73 = (.iconst 1, 1) := by decide +kernel
set_option maxRecDepth 100000 in
theorem ti_84_74 : dp_tab 84 74 = (.iadd, 1) := by decide +kernel
set_option maxRecDepth 100000 in
theorem ti_84_75 : dp_tab 84 75 = (.ireturn, 1) := by decide +kernel
set_option maxRecDepth 100000 in
theorem ti_85_0 : dp_tab 85 0 = (.aload_n 0, 1) := by decide +kernel
set_option maxRecDepth 100000 in
theorem ti_85_1 : dp_tab 85 1 = (.iconst 0, 1) := by decide +kernel
set_option maxRecDepth 100000 in
theorem ti_85_2 : dp_tab 85 2 = (.putfield 19, 3) := by decide +kernel
set_option maxRecDepth 100000 in
theorem ti_85_5 : dp_tab 85 5 = (.aload_n 0, 1) := by decide +kernel
set_option maxRecDepth 100000 in
theorem ti_85_6 : dp_tab 85 6 = (.iload_n 1, 1) := by decide +kernel
set_option maxRecDepth 100000 in
theorem ti_85_7 : dp_tab 85 7 = (.invokevirtual 64, 3) := by decide +kernel
set_option maxRecDepth 100000 in
theorem ti_85_10 : dp_tab 85 10 = (.ifCond .eq 10, 3) := by decide +kernel
set_option maxRecDepth 100000 in
theorem ti_85_13 : dp_tab 85 13 = (.iload_n 2, 1) := by decide +kernel
set_option maxRecDepth 100000 in
theorem ti_85_14 : dp_tab 85 14 = (.invokestatic 37, 3) := by decide +kernel
set_option maxRecDepth 100000 in
theorem ti_85_17 : dp_tab 85 17 = (.ifCond .ne 9, 3) := by decide +kernel
set_option maxRecDepth 100000 in
theorem ti_85_20 : dp_tab 85 20 = (.aload_n 0, 1) := by decide +kernel
set_option maxRecDepth 100000 in
theorem ti_85_21 : dp_tab 85 21 = (.iconst 1, 1) := by decide +kernel
set_option maxRecDepth 100000 in
theorem ti_85_22 : dp_tab 85 22 = (.invokevirtual 40, 3) := by decide +kernel
set_option maxRecDepth 100000 in
theorem ti_85_25 : dp_tab 85 25 = (.ireturn, 1) := by decide +kernel
set_option maxRecDepth 100000 in
theorem ti_85_26 : dp_tab 85 26 = (.aload_n 0, 1) := by decide +kernel
set_option maxRecDepth 100000 in
theorem ti_85_27 : dp_tab 85 27 = (.iload_n 1, 1) := by decide +kernel
set_option maxRecDepth 100000 in
theorem ti_85_28 : dp_tab 85 28 = (.iload_n 2, 1) := by decide +kernel
set_option maxRecDepth 100000 in
theorem ti_85_29 : dp_tab 85 29 = (.invokevirtual 67, 3) := by decide +kernel
set_option maxRecDepth 100000 in
theorem ti_85_32 : dp_tab 85 32 = (.istore_n 3, 1) := by decide +kernel
set_option maxRecDepth 100000 in
theorem ti_85_33 : dp_tab 85 33 = (.iload_n 3, 1) := by decide +kernel
set_option maxRecDepth 100000 in
theorem ti_85_34 : dp_tab 85 34 = (.iconst (-1), 1) := by decide +kernel
set_option maxRecDepth 100000 in
theorem ti_85_35 : dp_tab 85 35 = (.if_icmp .ne 9, 3) := by decide +kernel
set_option maxRecDepth 100000 in
theorem ti_85_38 : dp_tab 85 38 = (.aload_n 0, 1) := by decide +kernel
set_option maxRecDepth 100000 in
theorem ti_85_39 : dp_tab 85 39 = (.iconst 2, 1) := by decide +kernel
set_option maxRecDepth 100000 in
theorem ti_85_40 : dp_tab 85 40 = (.invokevirtual 40, 3) := by decide +kernel
set_option maxRecDepth 100000 in
theorem ti_85_43 : dp_tab 85 43 = (.ireturn, 1) := by decide +kernel
set_option maxRecDepth 100000 in
theorem ti_85_44 : dp_tab 85 44 = (.aload_n 0, 1) := by decide +kernel
set_option maxRecDepth 100000 in
theorem ti_85_45 : dp_tab 85 45 = (.iload_n 1, 1) := by decide +kernel
set_option maxRecDepth 100000 in
theorem ti_85_46 : dp_tab 85 46 = (.iconst 1, 1) := by decide +kernel
set_option maxRecDepth 100000 in
theorem ti_85_47 : dp_tab 85 47 = (.invokevirtual 61, 3) := by decide +kernel
set_option maxRecDepth 100000 in
theorem ti_85_50 : dp_tab 85 50 = (.iconst 1, 1) := by decide +kernel
set_option maxRecDepth 100000 in
theorem ti_85_51 : dp_tab 85 51 = (.isub, 1) := by decide +kernel
set_option maxRecDepth 100000 in
theorem ti_85_52 : dp_tab 85 52 = (.istore 4, 2) := by decide +kernel
set_option maxRecDepth 100000 in
theorem ti_85_54 : dp_tab 85 54 = (.bipush 10, 2) := by decide +kernel
set_option maxRecDepth 100000 in
theorem ti_85_56 : dp_tab 85 56 = (.iload_n 1, 1) := by decide +kernel
set_option maxRecDepth 100000 in
theorem ti_85_57 : dp_tab 85 57 = (.imul, 1) := by decide +kernel
set_option maxRecDepth 100000 in
theorem ti_85_58 : dp_tab 85 58 = (.iconst 5, 1) := by decide +kernel
set_option maxRecDepth 100000 in
theorem ti_85_59 : dp_tab 85 59 = (.iadd, 1) := by decide +kernel
set_option maxRecDepth 100000 in
theorem ti_85_60 : dp_tab 85 60 = (.iload_n 3, 1) := by decide +kernel
set_option maxRecDepth 100000 in
theorem ti_85_61 : dp_tab 85 61 = (.iadd, 1) := by decide +kernel
set_option maxRecDepth 100000 in
theorem ti_85_62 : dp_tab 85 62 = (.istore 5, 2) := by decide +kernel
set_option maxRecDepth 100000 in
theorem ti_85_64 : dp_tab 85 64 = (.aload_n 0, 1) := by decide +kernel
set_option maxRecDepth 100000 in
theorem ti_85_65 : dp_tab 85 65 = (.getfield 16, 3) := by decide +kernel
set_option maxRecDepth 100000 in
theorem ti_85_68 : dp_tab 85 68 = (.iload 5, 2) := by decide +kernel
set_option maxRecDepth 100000 in
theorem ti_85_70 : dp_tab 85 70 = (.iconst 1, 1) := by decide +kernel
set_option maxRecDepth 100000 in
theorem ti_85_71 : dp_tab 85 71 = (.iadd, 1) := by decide +kernel
set_option maxRecDepth 100000 in
theorem ti_85_72 : dp_tab 85 72 = (.aload_n 0, 1) := by decide +kernel
set_option maxRecDepth 100000 in
theorem ti_85_73 : dp_tab 85 73 = (.getfield 16, 3) := by decide +kernel
set_option maxRecDepth 100000 in
theorem ti_85_76 : dp_tab 85 76 = (.iload 5, 2) := by decide +kernel
set_option maxRecDepth 100000 in
theorem ti_85_78 : dp_tab 85 78 = (.iload 4, 2) := by decide +kernel
set_option maxRecDepth 100000 in
theorem ti_85_80 : dp_tab 85 80 = (.iload_n 3, 1) := by decide +kernel
set_option maxRecDepth 100000 in
theorem ti_85_81 : dp_tab 85 81 = (.isub, 1) := by decide +kernel
set_option maxRecDepth 100000 in
theorem ti_85_82 : dp_tab 85 82 = (.invokestatic 51, 3) := by decide +kernel
set_option maxRecDepth 100000 in
theorem ti_85_85 : dp_tab 85 85 = (.aload_n 0, 1) := by decide +kernel
set_option maxRecDepth 100000 in
theorem ti_85_86 : dp_tab 85 86 = (.iload_n 1, 1) := by decide +kernel
set_option maxRecDepth 100000 in
theorem ti_85_87 : dp_tab 85 87 = (.iconst 1, 1) := by decide +kernel
set_option maxRecDepth 100000 in
theorem ti_85_88 : dp_tab 85 88 = (.iload 4, 2) := by decide +kernel
set_option maxRecDepth 100000 in
theorem ti_85_90 : dp_tab 85 90 = (.invokevirtual 57, 3) := by decide +kernel
set_option maxRecDepth 100000 in
theorem ti_85_93 : dp_tab 85 93 = (.iload_n 3, 1) := by decide +kernel
set_option maxRecDepth 100000 in
theorem ti_85_94 : dp_tab 85 94 = (.ireturn, 1) := by decide +kernel
set_option maxRecDepth 100000 in
theorem ti_86_0 : dp_tab 86 0 = (.aload_n 0, 1) := by decide +kernel
set_option maxRecDepth 100000 in
theorem ti_86_1 : dp_tab 86 1 = (.iconst 0, 1) := by decide +kernel
set_option maxRecDepth 100000 in
theorem ti_86_2 : dp_tab 86 2 = (.putfield 19, 3) := by decide +kernel
set_option maxRecDepth 100000 in
theorem ti_86_5 : dp_tab 86 5 = (.aload_n 0, 1) := by decide +kernel
set_option maxRecDepth 100000 in
theorem ti_86_6 : dp_tab 86 6 = (.iload_n 1, 1) := by decide +kernel
set_option maxRecDepth 100000 in
theorem ti_86_7 : dp_tab 86 7 = (.invokevirtual 64, 3) := by decide +kernel
set_option maxRecDepth 100000 in
theorem ti_86_10 : dp_tab 86 10 = (.ifCond .ne 9, 3) := by decide +kernel
set_option maxRecDepth 100000 in
theorem ti_86_13 : dp_tab 86 13 = (.aload_n 0, 1) := by decide +kernel
set_option maxRecDepth 100000 in
theorem ti_86_14 : dp_tab 86 14 = (.iconst 1, 1) := by decide +kernel
set_option maxRecDepth 100000 in
theorem ti_86_15 : dp_tab 86 15 = (.invokevirtual 40, 3) := by decide +kernel
set_option maxRecDepth 100000 in
theorem ti_86_18 : dp_tab 86 18 = (.ireturn, 1) := by decide +kernel
set_option maxRecDepth 100000 in
theorem ti_86_19 : dp_tab 86 19 = (.iload_n 2, 1) := by decide +kernel
set_option maxRecDepth 100000 in
theorem ti_86_20 : dp_tab 86 20 = (.iconst 0, 1) := by decide +kernel
set_option maxRecDepth 100000 in
theorem ti_86_21 : dp_tab 86 21 = (.sipush 999, 3) := by decide +kernel
set_option maxRecDepth 100000 in
theorem ti_86_24 : dp_tab 86 24 = (.invokestatic 26, 3) := by decide +kernel
set_option maxRecDepth 100000 in
theorem ti_86_27 : dp_tab 86 27 = (.ifCond .ne 9, 3) := by decide +kernel
set_option maxRecDepth 100000 in
theorem ti_86_30 : dp_tab 86 30 = (.aload_n 0, 1) := by decide +kernel
set_option maxRecDepth 100000 in
theorem ti_86_31 : dp_tab 86 31 = (.iconst 2, 1) := by decide +kernel
set_option maxRecDepth 100000 in
theorem ti_86_32 : dp_tab 86 32 = (.invokevirtual 40, 3) := by decide +kernel
set_option maxRecDepth 100000 in
theorem ti_86_35 : dp_tab 86 35 = (.ireturn, 1) := by decide +kernel
set_option maxRecDepth 100000 in
theorem ti_86_36 : dp_tab 86 36 = (.aload_n 0, 1) := by decide +kernel
set_option maxRecDepth 100000 in
theorem ti_86_37 : dp_tab 86 37 = (.iload_n 1, 1) := by decide +kernel
set_option maxRecDepth 100000 in
theorem ti_86_38 : dp_tab 86 38 = (.iconst 2, 1) := by decide +kernel
set_option maxRecDepth 100000 in
theorem ti_86_39 : dp_tab 86 39 = (.invokevirtual 61, 3) := by decide +kernel
set_option maxRecDepth 100000 in
theorem ti_86_42 : dp_tab 86 42 = (.istore_n 3, 1) := by decide +kernel
set_option maxRecDepth 100000 in
theorem ti_86_43 : dp_tab 86 43 = (.aload_n 0, 1) := by decide +kernel
set_option maxRecDepth 100000 in
theorem ti_86_44 : dp_tab 86 44 = (.iload_n 1, 1) := by decide +kernel
set_option maxRecDepth 100000 in
theorem ti_86_45 : dp_tab 86 45 = (.iconst 2, 1) := by decide +kernel
set_option maxRecDepth 100000 in
theorem ti_86_46 : dp_tab 86 46 = (.iload_n 2, 1) := by decide +kernel
set_option maxRecDepth 100000 in
theorem ti_86_47 : dp_tab 86 47 = (.invokevirtual 57, 3) := by decide +kernel
set_option maxRecDepth 100000 in
theorem ti_86_50 : dp_tab 86 50 = (.iload_n 3, 1) := by decide +kernel
set_option maxRecDepth 100000 in
theorem ti_86_51 : dp_tab 86 51 = (.ireturn, 1) := by decide +kernel
set_option maxRecDepth 100000 in
theorem ti_87_0 : dp_tab 87 0 = (.aload_n 0, 1) := by decide +kernel
set_option maxRecDepth 100000 in
theorem ti_87_1 : dp_tab 87 1 = (.iconst 0, 1) := by decide +kernel
set_option maxRecDepth 100000 in
theorem ti_87_2 : dp_tab 87 2 = (.putfield 19, 3) := by decide +kernel
set_option maxRecDepth 100000 in
theorem ti_87_5 : dp_tab 87 5 = (.aload_n 0, 1) := by decide +kernel
set_option maxRecDepth 100000 in
theorem ti_87_6 : dp_tab 87 6 = (.iload_n 1, 1) := by decide +kernel
set_option maxRecDepth 100000 in
theorem ti_87_7 : dp_tab 87 7 = (.invokevirtual 64, 3) := by decide +kernel
set_option maxRecDepth 100000 in
theorem ti_87_10 : dp_tab 87 10 = (.ifCond .ne 9, 3) := by decide +kernel
set_option maxRecDepth 100000 in
theorem ti_87_13 : dp_tab 87 13 = (.aload_n 0, 1) := by decide +kernel
set_option maxRecDepth 100000 in
theorem ti_87_14 : dp_tab 87 14 = (.iconst 1, 1) := by decide +kernel
set_option maxRecDepth 100000 in
theorem ti_87_15 : dp_tab 87 15 = (.invokevirtual 40, 3) := by decide +kernel
set_option maxRecDepth 100000 in
theorem ti_87_18 : dp_tab 87 18 = (.ireturn, 1) := by decide +kernel
set_option maxRecDepth 100000 in
theorem ti_87_19 : dp_tab 87 19 = (.iload_n 2, 1) := by decide +kernel
set_option maxRecDepth 100000 in
theorem ti_87_20 : dp_tab 87 20 = (.iconst 1, 1) := by decide +kernel
set_option maxRecDepth 100000 in
theorem ti_87_21 : dp_tab 87 21 = (.sipush 999, 3) := by decide +kernel
set_option maxRecDepth 100000 in
theorem ti_87_24 : dp_tab 87 24 = (.invokestatic 26, 3) := by decide +kernel
set_option maxRecDepth 100000 in
theorem ti_87_27 : dp_tab 87 27 = (.ifCond .ne 9, 3) := by decide +kernel
set_option maxRecDepth 100000 in
theorem ti_87_30 : dp_tab 87 30 = (.aload_n 0, 1) := by decide +kernel
set_option maxRecDepth 100000 in
theorem ti_87_31 : dp_tab 87 31 = (.iconst 2, 1) := by decide +kernel
set_option maxRecDepth 100000 in
theorem ti_87_32 : dp_tab 87 32 = (.invokevirtual 40, 3) := by decide +kernel
set_option maxRecDepth 100000 in
theorem ti_87_35 : dp_tab 87 35 = (.ireturn, 1) := by decide +kernel
set_option maxRecDepth 100000 in
theorem ti_87_36 : dp_tab 87 36 = (.aload_n 0, 1) := by decide +kernel
set_option maxRecDepth 100000 in
theorem ti_87_37 : dp_tab 87 37 = (.iload_n 1, 1) := by decide +kernel
set_option maxRecDepth 100000 in
theorem ti_87_38 : dp_tab 87 38 = (.iconst 0, 1) := by decide +kernel
set_option maxRecDepth 100000 in
theorem ti_87_39 : dp_tab 87 39 = (.sipush 9999, 3) := by decide +kernel
set_option maxRecDepth 100000 in
theorem ti_87_42 : dp_tab 87 42 = (.aload_n 0, 1) := by decide +kernel
set_option maxRecDepth 100000 in
theorem ti_87_43 : dp_tab 87 43 = (.iload_n 1, 1) := by decide +kernel
set_option maxRecDepth 100000 in
theorem ti_87_44 : dp_tab 87 44 = (.iconst 0, 1) := by decide +kernel
set_option maxRecDepth 100000 in
theorem ti_87_45 : dp_tab 87 45 = (.invokevirtual 61, 3) := by decide +kernel
set_option maxRecDepth 100000 in
theorem ti_87_48 : dp_tab 87 48 = (.iload_n 2, 1) := by decide +kernel
set_option maxRecDepth 100000 in
theorem ti_87_49 : dp_tab 87 49 = (.iadd, 1) := by decide +kernel
set_option maxRecDepth 100000 in
theorem ti_87_50 : dp_tab 87 50 = (.invokestatic 70, 3) := by decide +kernel
set_option maxRecDepth 100000 in
theorem ti_87_53 : dp_tab 87 53 = (.invokevirtual 57, 3) := by decide +kernel
set_option maxRecDepth 100000 in
theorem ti_87_56 : dp_tab 87 56 = (.aload_n 0, 1) := by decide +kernel
set_option maxRecDepth 100000 in
theorem ti_87_57 : dp_tab 87 57 = (.iload_n 1, 1) := by decide +kernel
set_option maxRecDepth 100000 in
theorem ti_87_58 : dp_tab 87 58 = (.iconst 0, 1) := by decide +kernel
set_option maxRecDepth 100000 in
theorem ti_87_59 : dp_tab 87 59 = (.invokevirtual 61, 3) := by decide +kernel
set_option maxRecDepth 100000 in
theorem ti_87_62 : dp_tab 87 62 = (.ireturn, 1) := by decide +kernel
set_option maxRecDepth 100000 in
theorem ti_88_0 : dp_tab 88 0 = (.iconst 0, 1) := by decide +kernel
set_option maxRecDepth 100000 in
theorem ti_88_1 : dp_tab 88 1 = (.istore_n 3, 1) := by decide +kernel
set_option maxRecDepth 100000 in
theorem ti_88_2 : dp_tab 88 2 = (.iconst 0, 1) := by decide +kernel
set_option maxRecDepth 100000 in
theorem ti_88_3 : dp_tab 88 3 = (.istore 4, 2) := by decide +kernel
set_option maxRecDepth 100000 in
theorem ti_88_5 : dp_tab 88 5 = (.iload 4, 2) := by decide +kernel
set_option maxRecDepth 100000 in
theorem ti_88_7 : dp_tab 88 7 = (.aload_n 0, 1) := by decide +kernel
set_option maxRecDepth 100000 in
theorem ti_88_8 : dp_tab 88 8 = (.iload_n 1, 1) := by decide +kernel
set_option maxRecDepth 100000 in
theorem ti_88_9 : dp_tab 88 9 = (.iconst 0, 1) := by decide +kernel
set_option maxRecDepth 100000 in
theorem ti_88_10 : dp_tab 88 10 = (.invokevirtual 47, 3) := by decide +kernel
set_option maxRecDepth 100000 in
theorem ti_88_13 : dp_tab 88 13 = (.if_icmp .ge 35, 3) := by decide +kernel
set_option maxRecDepth 100000 in
theorem ti_88_16 : dp_tab 88 16 = (.iload_n 3, 1) := by decide +kernel
set_option maxRecDepth 100000 in
theorem ti_88_17 : dp_tab 88 17 = (.aload_n 0, 1) := by decide +kernel
set_option maxRecDepth 100000 in
theorem ti_88_18 : dp_tab 88 18 = (.getfield 9, 3) := by decide +kernel
set_option maxRecDepth 100000 in
theorem ti_88_21 : dp_tab 88 21 = (.aload_n 0, 1) := by decide +kernel
set_option maxRecDepth 100000 in
theorem ti_88_22 : dp_tab 88 22 = (.iload_n 1, 1) := by decide +kernel
set_option maxRecDepth 100000 in
theorem ti_88_23 : dp_tab 88 23 = (.iconst 2, 1) := by decide +kernel
set_option maxRecDepth 100000 in
theorem ti_88_24 : dp_tab 88 24 = (.iload 4, 2) := by decide +kernel
set_option maxRecDepth 100000 in
theorem ti_88_26 : dp_tab 88 26 = (.iadd, 1) := by decide +kernel
set_option maxRecDepth 100000 in
theorem ti_88_27 : dp_tab 88 27 = (.invokevirtual 47, 3) := by decide +kernel
set_option maxRecDepth 100000 in
theorem ti_88_30 : dp_tab 88 30 = (.iaload, 1) := by decide +kernel
set_option maxRecDepth 100000 in
theorem ti_88_31 : dp_tab 88 31 = (.iload_n 2, 1) := by decide +kernel
set_option maxRecDepth 100000 in
theorem ti_88_32 : dp_tab 88 32 = (.if_icmp .ne 7, 3) := by decide +kernel
set_option maxRecDepth 100000 in
theorem ti_88_35 : dp_tab 88 35 = (.iconst 1, 1) := by decide +kernel
set_option maxRecDepth 100000 in
theorem ti_88_36 : dp_tab 88 36 = (.goto 4, 3) := by decide +kernel
set_option maxRecDepth 100000 in
theorem ti_88_39 : dp_tab 88 39 = (.iconst 0, 1) := by decide +kernel
set_option maxRecDepth 100000 in
theorem ti_88_40 : dp_tab 88 40 = (.iadd, 1) := by decide +kernel
set_option maxRecDepth 100000 in
theorem ti_88_41 : dp_tab 88 41 = (.istore_n 3, 1) := by decide +kernel
set_option maxRecDepth 100000 in
theorem ti_88_42 : dp_tab 88 42 = (.iinc 4 1, 3) := by decide +kernel
set_option maxRecDepth 100000 in
theorem ti_88_45 : dp_tab 88 45 = (.goto (-40), 3) := by decide +kernel
set_option maxRecDepth 100000 in
theorem ti_88_48 : dp_tab 88 48 = (.iload_n 3, 1) := by decide +kernel
set_option maxRecDepth 100000 in
theorem ti_88_49 : dp_tab 88 49 = (.ireturn, 1) := by decide +kernel
set_option maxRecDepth 100000 in
theorem ti_89_0 : dp_tab 89 0 = (.iconst 0, 1) := by decide +kernel
set_option maxRecDepth 100000 in
theorem ti_89_1 : dp_tab 89 1 = (.istore_n 2, 1) := by decide +kernel
set_option maxRecDepth 100000 in
theorem ti_89_2 : dp_tab 89 2 = (.iconst 0, 1) := by decide +kernel
set_option maxRecDepth 100000 in
theorem ti_89_3 : dp_tab 89 3 = (.istore_n 3, 1) := by decide +kernel
set_option maxRecDepth 100000 in
theorem ti_89_4 : dp_tab 89 4 = (.iload_n 3, 1) := by decide +kernel
set_option maxRecDepth 100000 in
theorem ti_89_5 : dp_tab 89 5 = (.aload_n 0, 1) := by decide +kernel
set_option maxRecDepth 100000 in
theorem ti_89_6 : dp_tab 89 6 = (.getfield 23, 3) := by decide +kernel
set_option maxRecDepth 100000 in
theorem ti_89_9 : dp_tab 89 9 = (.if_icmp .ge 26, 3) := by decide +kernel
set_option maxRecDepth 100000 in
theorem ti_89_12 : dp_tab 89 12 = (.iload_n 2, 1) := by decide +kernel
set_option maxRecDepth 100000 in
theorem ti_89_13 : dp_tab 89 13 = (.aload_n 0, 1) := by decide +kernel
set_option maxRecDepth 100000 in
theorem ti_89_14 : dp_tab 89 14 = (.iload_n 3, 1) := by decide +kernel
set_option maxRecDepth 100000 in
theorem ti_89_15 : dp_tab 89 15 = (.iload_n 1, 1) := by decide +kernel
set_option maxRecDepth 100000 in
theorem ti_89_16 : dp_tab 89 16 = (.invokevirtual 75, 3) := by decide +kernel
set_option maxRecDepth 100000 in
theorem ti_89_19 : dp_tab 89 19 = (.ifCond .le 7, 3) := by decide +kernel
set_option maxRecDepth 100000 in
theorem ti_89_22 : dp_tab 89 22 = (.iconst 1, 1) := by decide +kernel
set_option maxRecDepth 100000 in
theorem ti_89_23 : dp_tab 89 23 = (.goto 4, 3) := by decide +kernel
set_option maxRecDepth 100000 in
theorem ti_89_26 : dp_tab 89 26 = (.iconst 0, 1) := by decide +kernel
set_option maxRecDepth 100000 in
theorem ti_89_27 : dp_tab 89 27 = (.iadd, 1) := by decide +kernel
set_option maxRecDepth 100000 in
theorem ti_89_28 : dp_tab 89 28 = (.istore_n 2, 1) := by decide +kernel
set_option maxRecDepth 100000 in
theorem ti_89_29 : dp_tab 89 29 = (.iinc 3 1, 3) := by decide +kernel
set_option maxRecDepth 100000 in
theorem ti_89_32 : dp_tab 89 32 = (.goto (-28), 3) := by decide +kernel
set_option maxRecDepth 100000 in
theorem ti_89_35 : dp_tab 89 35 = (.bipush 10, 2) := by decide +kernel
set_option maxRecDepth 100000 in
theorem ti_89_37 : dp_tab 89 37 = (.aload_n 0, 1) := by decide +kernel
set_option maxRecDepth 100000 in
theorem ti_89_38 : dp_tab 89 38 = (.getfield 23, 3) := by decide +kernel
set_option maxRecDepth 100000 in
theorem ti_89_41 : dp_tab 89 41 = (.iconst 1, 1) := by decide +kernel
set_option maxRecDepth 100000 in
theorem ti_89_42 : dp_tab 89 42 = (.iadd, 1) := by decide +kernel
set_option maxRecDepth 100000 in
theorem ti_89_43 : dp_tab 89 43 = (.imul, 1) := by decide +kernel
set_option maxRecDepth 100000 in
theorem ti_89_44 : dp_tab 89 44 = (.iload_n 2, 1) := by decide +kernel
set_option maxRecDepth 100000 in
theorem ti_89_45 : dp_tab 89 45 = (.iconst 1, 1) := by decide +kernel
set_option maxRecDepth 100000 in
theorem ti_89_46 : dp_tab 89 46 = (.iadd, 1) := by decide +kernel
set_option maxRecDepth 100000 in
theorem ti_89_47 : dp_tab 89 47 = (.idiv, 1) := by decide +kernel
set_option maxRecDepth 100000 in
theorem ti_89_48 : dp_tab 89 48 = (.ireturn, 1) := by decide +kernel
set_option maxRecDepth 100000 in
theorem ti_90_0 : dp_tab 90 0 = (.iconst 0, 1) := by decide +kernel
set_option maxRecDepth 100000 in
theorem ti_90_1 : dp_tab 90 1 = (.istore_n 3, 1) := by decide +kernel
set_option maxRecDepth 100000 in
theorem ti_90_2 : dp_tab 90 2 = (.iconst 0, 1) := by decide +kernel
set_option maxRecDepth 100000 in
theorem ti_90_3 : dp_tab 90 3 = (.istore 4, 2) := by decide +kernel
set_option maxRecDepth 100000 in
theorem ti_90_5 : dp_tab 90 5 = (.iconst 0, 1) := by decide +kernel
set_option maxRecDepth 100000 in
theorem ti_90_6 : dp_tab 90 6 = (.istore 5, 2) := by decide +kernel
set_option maxRecDepth 100000 in
theorem ti_90_8 : dp_tab 90 8 = (.iload 5, 2) := by decide +kernel
set_option maxRecDepth 100000 in
theorem ti_90_10 : dp_tab 90 10 = (.aload_n 0, 1) := by decide +kernel
set_option maxRecDepth 100000 in
theorem ti_90_11 : dp_tab 90 11 = (.iload_n 1, 1) := by decide +kernel
set_option maxRecDepth 100000 in
theorem ti_90_12 : dp_tab 90 12 = (.iconst 1, 1) := by decide +kernel
set_option maxRecDepth 100000 in
theorem ti_90_13 : dp_tab 90 13 = (.invokevirtual 61, 3) := by decide +kernel
set_option maxRecDepth 100000 in
theorem ti_90_16 : dp_tab 90 16 = (.if_icmp .ge 60, 3) := by decide +kernel
set_option maxRecDepth 100000 in
theorem ti_90_19 : dp_tab 90 19 = (.aload_n 0, 1) := by decide +kernel
set_option maxRecDepth 100000 in
theorem ti_90_20 : dp_tab 90 20 = (.iload_n 1, 1) := by decide +kernel
set_option maxRecDepth 100000 in
theorem ti_90_21 : dp_tab 90 21 = (.iconst 5, 1) := by decide +kernel
set_option maxRecDepth 100000 in
theorem ti_90_22 : dp_tab 90 22 = (.iload 5, 2) := by decide +kernel
set_option maxRecDepth 100000 in
theorem ti_90_24 : dp_tab 90 24 = (.iadd, 1) := by decide +kernel
set_option maxRecDepth 100000 in
theorem ti_90_25 : dp_tab 90 25 = (.invokevirtual 61, 3) := by decide +kernel
set_option maxRecDepth 100000 in
theorem ti_90_28 : dp_tab 90 28 = (.istore 6, 2) := by decide +kernel
set_option maxRecDepth 100000 in
theorem ti_90_30 : dp_tab 90 30 = (.aload_n 0, 1) := by decide +kernel
set_option maxRecDepth 100000 in
theorem ti_90_31 : dp_tab 90 31 = (.iload_n 2, 1) := by decide +kernel
set_option maxRecDepth 100000 in
theorem ti_90_32 : dp_tab 90 32 = (.iload 6, 2) := by decide +kernel
set_option maxRecDepth 100000 in
theorem ti_90_34 : dp_tab 90 34 = (.invokevirtual 75, 3) := by decide +kernel
set_option maxRecDepth 100000 in
theorem ti_90_37 : dp_tab 90 37 = (.istore 7, 2) := by decide +kernel
set_option maxRecDepth 100000 in
theorem ti_90_39 : dp_tab 90 39 = (.iload 4, 2) := by decide +kernel
set_option maxRecDepth 100000 in
theorem ti_90_41 : dp_tab 90 41 = (.iload 7, 2) := by decide +kernel
set_option maxRecDepth 100000 in
theorem ti_90_43 : dp_tab 90 43 = (.ifCond .le 7, 3) := by decide +kernel
set_option maxRecDepth 100000 in
theorem ti_90_46 : dp_tab 90 46 = (.iconst 1, 1) := by decide +kernel
set_option maxRecDepth 100000 in
theorem ti_90_47 : dp_tab 90 47 = (.goto 4, 3) := by decide +kernel
set_option maxRecDepth 100000 in
theorem ti_90_50 : dp_tab 90 50 = (.iconst 0, 1) := by decide +kernel
set_option maxRecDepth 100000 in
theorem ti_90_51 : dp_tab 90 51 = (.iadd, 1) := by decide +kernel
set_option maxRecDepth 100000 in
theorem ti_90_52 : dp_tab 90 52 = (.istore 4, 2) := by decide +kernel
set_option maxRecDepth 100000 in
theorem ti_90_54 : dp_tab 90 54 = (.iload_n 3, 1) := by decide +kernel
set_option maxRecDepth 100000 in
theorem ti_90_55 : dp_tab 90 55 = (.iconst 3, 1) := by decide +kernel
set_option maxRecDepth 100000 in
theorem ti_90_56 : dp_tab 90 56 = (.iload 7, 2) := by decide +kernel
set_option maxRecDepth 100000 in
theorem ti_90_58 : dp_tab 90 58 = (.invokestatic 70, 3) := by decide +kernel
set_option maxRecDepth 100000 in
theorem ti_90_61 : dp_tab 90 61 = (.aload_n 0, 1) := by decide +kernel
set_option maxRecDepth 100000 in
theorem ti_90_62 : dp_tab 90 62 = (.iload 6, 2) := by decide +kernel
set_option maxRecDepth 100000 in
theorem ti_90_64 : dp_tab 90 64 = (.invokevirtual 78, 3) := by decide +kernel
set_option maxRecDepth 100000 in
theorem ti_90_67 : dp_tab 90 67 = (.imul, 1) := by decide +kernel
set_option maxRecDepth 100000 in
theorem ti_90_68 : dp_tab 90 68 = (.iadd, 1) := by decide +kernel
set_option maxRecDepth 100000 in
theorem ti_90_69 : dp_tab 90 69 = (.istore_n 3, 1) := by decide +kernel
set_option maxRecDepth 100000 in
theorem ti_90_70 : dp_tab 90 70 = (.iinc 5 1, 3) := by decide +kernel
set_option maxRecDepth 100000 in
theorem ti_90_73 : dp_tab 90 73 = (.goto (-65), 3) := by decide +kernel
set_option maxRecDepth 100000 in
theorem ti_90_76 : dp_tab 90 76 = (.iload 4, 2) := by decide +kernel
set_option maxRecDepth 100000 in
theorem ti_90_78 : dp_tab 90 78 = (.iconst 2, 1) := by decide +kernel
set_option maxRecDepth 100000 in
theorem ti_90_79 : dp_tab 90 79 = (.if_icmp .lt 20, 3) := by decide +kernel
set_option maxRecDepth 100000 in
theorem ti_90_82 : dp_tab 90 82 = (.iload 4, 2) := by decide +kernel
set_option maxRecDepth 100000 in
theorem ti_90_84 : dp_tab 90 84 = (.aload_n 0, 1) := by decide +kernel
set_option maxRecDepth 100000 in
theorem ti_90_85 : dp_tab 90 85 = (.iload_n 1, 1) := by decide +kernel
set_option maxRecDepth 100000 in
theorem ti_90_86 : dp_tab 90 86 = (.iconst 1, 1) := by decide +kernel
set_option maxRecDepth 100000 in
theorem ti_90_87 : dp_tab 90 87 = (.invokevirtual 61, 3) := by decide +kernel
set_option maxRecDepth 100000 in
theorem ti_90_90 : dp_tab 90 90 = (.if_icmp .ne 9, 3) := by decide +kernel
set_option maxRecDepth 100000 in
theorem ti_90_93 : dp_tab 90 93 = (.iload_n 3, 1) := by decide +kernel
set_option maxRecDepth 100000 in
theorem ti_90_94 : dp_tab 90 94 = (.iload_n 3, 1) := by decide +kernel
set_option maxRecDepth 100000 in
theorem ti_90_95 : dp_tab 90 95 = (.iconst 2, 1) := by decide +kernel
set_option maxRecDepth 100000 in
theorem ti_90_96 : dp_tab 90 96 = (.idiv, 1) := by decide +kernel
set_option maxRecDepth 100000 in
theorem ti_90_97 : dp_tab 90 97 = (.iadd, 1) := by decide +kernel
set_option maxRecDepth 100000 in
theorem ti_90_98 : dp_tab 90 98 = (.istore_n 3, 1) := by decide +kernel
set_option maxRecDepth 100000 in
theorem ti_90_99 : dp_tab 90 99 = (.iconst 0, 1) := by decide +kernel
set_option maxRecDepth 100000 in
theorem ti_90_100 : dp_tab 90 100 = (.iload_n 3, 1) := by decide +kernel
set_option maxRecDepth 100000 in
theorem ti_90_101 : dp_tab 90 101 = (.iconst 3, 1) := by decide +kernel
set_option maxRecDepth 100000 in
theorem ti_90_102 : dp_tab 90 102 = (.aload_n 0, 1) := by decide +kernel
set_option maxRecDepth 100000 in
theorem ti_90_103 : dp_tab 90 103 = (.iload_n 2, 1) := by decide +kernel
set_option maxRecDepth 100000 in
theorem ti_90_104 : dp_tab 90 104 = (.iconst 1, 1) := by decide +kernel
set_option maxRecDepth 100000 in
theorem ti_90_105 : dp_tab 90 105 = (.invokevirtual 47, 3) := by decide +kernel
set_option maxRecDepth 100000 in
theorem ti_90_108 : dp_tab 90 108 = (.imul, 1) := by decide +kernel
set_option maxRecDepth 100000 in
theorem ti_90_109 : dp_tab 90 109 = (.isub, 1) := by decide +kernel
set_option maxRecDepth 100000 in
theorem ti_90_110 : dp_tab 90 110 = (.invokestatic 81, 3) := by decide +kernel
set_option maxRecDepth 100000 in
theorem ti_90_113 : dp_tab 90 113 = (.ireturn, 1) := by decide +kernel
set_option maxRecDepth 100000 in
theorem ti_91_0 : dp_tab 91 0 = (.aload_n 0, 1) := by decide +kernel
set_option maxRecDepth 100000 in
theorem ti_91_1 : dp_tab 91 1 = (.iload_n 1, 1) := by decide +kernel
set_option maxRecDepth 100000 in
theorem ti_91_2 : dp_tab 91 2 = (.iconst 4, 1) := by decide +kernel
set_option maxRecDepth 100000 in
theorem ti_91_3 : dp_tab 91 3 = (.invokevirtual 61, 3) := by decide +kernel
set_option maxRecDepth 100000 in
theorem ti_91_6 : dp_tab 91 6 = (.iload_n 2, 1) := by decide +kernel
set_option maxRecDepth 100000 in
theorem ti_91_7 : dp_tab 91 7 = (.ishr, 1) := by decide +kernel
set_option maxRecDepth 100000 in
theorem ti_91_8 : dp_tab 91 8 = (.iconst 1, 1) := by decide +kernel
set_option maxRecDepth 100000 in
theorem ti_91_9 : dp_tab 91 9 = (.iand, 1) := by decide +kernel
set_option maxRecDepth 100000 in
theorem ti_91_10 : dp_tab 91 10 = (.ifCond .ne 22, 3) := by decide +kernel
set_option maxRecDepth 100000 in
theorem ti_91_13 : dp_tab 91 13 = (.aload_n 0, 1) := by decide +kernel
set_option maxRecDepth 100000 in
theorem ti_91_14 : dp_tab 91 14 = (.iload_n 1, 1) := by decide +kernel
set_option maxRecDepth 100000 in
theorem ti_91_15 : dp_tab 91 15 = (.iload_n 2, 1) := by decide +kernel
set_option maxRecDepth 100000 in
theorem ti_91_16 : dp_tab 91 16 = (.invokevirtual 84, 3) := by decide +kernel
set_option maxRecDepth 100000 in
theorem ti_91_19 : dp_tab 91 19 = (.aload_n 0, 1) := by decide +kernel
set_option maxRecDepth 100000 in
theorem ti_91_20 : dp_tab 91 20 = (.iload_n 1, 1) := by decide +kernel
set_option maxRecDepth 100000 in
theorem ti_91_21 : dp_tab 91 21 = (.iconst 2, 1) := by decide +kernel
set_option maxRecDepth 100000 in
theorem ti_91_22 : dp_tab 91 22 = (.invokevirtual 61, 3) := by decide +kernel
set_option maxRecDepth 100000 in
theorem ti_91_25 : dp_tab 91 25 = (.if_icmp .lt 7, 3) := by decide +kernel
set_option maxRecDepth 100000 in
theorem ti_91_28 : dp_tab 91 28 = (.iconst 1, 1) := by decide +kernel
set_option maxRecDepth 100000 in
theorem ti_91_29 : dp_tab 91 29 = (.goto 4, 3) := by decide +kernel
set_option maxRecDepth 100000 in
theorem ti_91_32 : dp_tab 91 32 = (.iconst 0, 1) := by decide +kernel
set_option maxRecDepth 100000 in
theorem ti_91_33 : dp_tab 91 33 = (.ireturn, 1) := by decide +kernel
set_option maxRecDepth 100000 in
theorem ti_92_0 : dp_tab 92 0 = (.iconst 0, 1) := by decide +kernel
set_option maxRecDepth 100000 in
theorem ti_92_1 : dp_tab 92 1 = (.istore_n 3, 1) := by decide +kernel
set_option maxRecDepth 100000 in
theorem ti_92_2 : dp_tab 92 2 = (.iload_n 3, 1) := by decide +kernel
set_option maxRecDepth 100000 in
theorem ti_92_3 : dp_tab 92 3 = (.aload_n 0, 1) := by decide +kernel
set_option maxRecDepth 100000 in
theorem ti_92_4 : dp_tab 92 4 = (.getfield 23, 3) := by decide +kernel
set_option maxRecDepth 100000 in
theorem ti_92_7 : dp_tab 92 7 = (.if_icmp .ge 108, 3) := by decide +kernel
set_option maxRecDepth 100000 in
theorem ti_92_10 : dp_tab 92 10 = (.aload_n 0, 1) := by decide +kernel
set_option maxRecDepth 100000 in
theorem ti_92_11 : dp_tab 92 11 = (.iload_n 1, 1) := by decide +kernel
set_option maxRecDepth 100000 in
theorem ti_92_12 : dp_tab 92 12 = (.iload_n 3, 1) := by decide +kernel
set_option maxRecDepth 100000 in
theorem ti_92_13 : dp_tab 92 13 = (.invokevirtual 87, 3) := by decide +kernel
set_option maxRecDepth 100000 in
theorem ti_92_16 : dp_tab 92 16 = (.ifCond .ne 6, 3) := by decide +kernel
set_option maxRecDepth 100000 in
theorem ti_92_19 : dp_tab 92 19 = (.goto 90, 3) := by decide +kernel
set_option maxRecDepth 100000 in
theorem ti_92_22 : dp_tab 92 22 = (.iconst 0, 1) := by decide +kernel
set_option maxRecDepth 100000 in
theorem ti_92_23 : dp_tab 92 23 = (.istore 4, 2) := by decide +kernel
set_option maxRecDepth 100000 in
theorem ti_92_25 : dp_tab 92 25 = (.iconst 0, 1) := by decide +kernel
set_option maxRecDepth 100000 in
theorem ti_92_26 : dp_tab 92 26 = (.istore 5, 2) := by decide +kernel
set_option maxRecDepth 100000 in
theorem ti_92_28 : dp_tab 92 28 = (.iload 5, 2) := by decide +kernel
set_option maxRecDepth 100000 in
theorem ti_92_30 : dp_tab 92 30 = (.aload_n 0, 1) := by decide +kernel
set_option maxRecDepth 100000 in
theorem ti_92_31 : dp_tab 92 31 = (.getfield 23, 3) := by decide +kernel
set_option maxRecDepth 100000 in
theorem ti_92_34 : dp_tab 92 34 = (.if_icmp .ge 67, 3) := by decide +kernel
set_option maxRecDepth 100000 in
theorem ti_92_37 : dp_tab 92 37 = (.iload 4, 2) := by decide +kernel
set_option maxRecDepth 100000 in
theorem ti_92_39 : dp_tab 92 39 = (.aload_n 0, 1) := by decide +kernel
set_option maxRecDepth 100000 in
theorem ti_92_40 : dp_tab 92 40 = (.iload_n 1, 1) := by decide +kernel
set_option maxRecDepth 100000 in
theorem ti_92_41 : dp_tab 92 41 = (.iload 5, 2) := by decide +kernel
set_option maxRecDepth 100000 in
theorem ti_92_43 : dp_tab 92 43 = (.invokevirtual 87, 3) := by decide +kernel
set_option maxRecDepth 100000 in
theorem ti_92_46 : dp_tab 92 46 = (.ifCond .eq 45, 3) := by decide +kernel
set_option maxRecDepth 100000 in
theorem ti_92_49 : dp_tab 92 49 = (.aload_n 0, 1) := by decide +kernel
set_option maxRecDepth 100000 in
theorem ti_92_50 : dp_tab 92 50 = (.iload_n 1, 1) := by decide +kernel
set_option maxRecDepth 100000 in
theorem ti_92_51 : dp_tab 92 51 = (.iload 5, 2) := by decide +kernel
set_option maxRecDepth 100000 in
theorem ti_92_53 : dp_tab 92 53 = (.invokevirtual 84, 3) := by decide +kernel
set_option maxRecDepth 100000 in
theorem ti_92_56 : dp_tab 92 56 = (.aload_n 0, 1) := by decide +kernel
set_option maxRecDepth 100000 in
theorem ti_92_57 : dp_tab 92 57 = (.iload_n 1, 1) := by decide +kernel
set_option maxRecDepth 100000 in
theorem ti_92_58 : dp_tab 92 58 = (.iload_n 3, 1) := by decide +kernel
set_option maxRecDepth 100000 in
theorem ti_92_59 : dp_tab 92 59 = (.invokevirtual 84, 3) := by decide +kernel
set_option maxRecDepth 100000 in
theorem ti_92_62 : dp_tab 92 62 = (.if_icmp .gt 25, 3) := by decide +kernel
set_option maxRecDepth 100000 in
theorem ti_92_65 : dp_tab 92 65 = (.aload_n 0, 1) := by decide +kernel
set_option maxRecDepth 100000 in
theorem ti_92_66 : dp_tab 92 66 = (.iload_n 1, 1) := by decide +kernel
set_option maxRecDepth 100000 in
theorem ti_92_67 : dp_tab 92 67 = (.iload 5, 2) := by decide +kernel
set_option maxRecDepth 100000 in
theorem ti_92_69 : dp_tab 92 69 = (.invokevirtual 84, 3) := by decide +kernel
set_option maxRecDepth 100000 in
theorem ti_92_72 : dp_tab 92 72 = (.aload_n 0, 1) := by decide +kernel
set_option maxRecDepth 100000 in
theorem ti_92_73 : dp_tab 92 73 = (.iload_n 1, 1) := by decide +kernel
set_option maxRecDepth 100000 in
theorem ti_92_74 : dp_tab 92 74 = (.iload_n 3, 1) := by decide +kernel
set_option maxRecDepth 100000 in
theorem ti_92_75 : dp_tab 92 75 = (.invokevirtual 84, 3) := by decide +kernel
set_option maxRecDepth 100000 in
theorem ti_92_78 : dp_tab 92 78 = (.if_icmp .ne 13, 3) := by decide +kernel
set_option maxRecDepth 100000 in
theorem ti_92_81 : dp_tab 92 81 = (.iload 5, 2) := by decide +kernel
set_option maxRecDepth 100000 in
theorem ti_92_83 : dp_tab 92 83 = (.iload_n 3, 1) := by decide +kernel
set_option maxRecDepth 100000 in
theorem ti_92_84 : dp_tab 92 84 = (.if_icmp .ge 7, 3) := by decide +kernel
set_option maxRecDepth 100000 in
theorem ti_92_87 : dp_tab 92 87 = (.iconst 1, 1) := by decide +kernel
set_option maxRecDepth 100000 in
theorem ti_92_88 : dp_tab 92 88 = (.goto 4, 3) := by decide +kernel
set_option maxRecDepth 100000 in
theorem ti_92_91 : dp_tab 92 91 = (.iconst 0, 1) := by decide +kernel
set_option maxRecDepth 100000 in
theorem ti_92_92 : dp_tab 92 92 = (.iadd, 1) := by decide +kernel
set_option maxRecDepth 100000 in
theorem ti_92_93 : dp_tab 92 93 = (.istore 4, 2) := by decide +kernel
set_option maxRecDepth 100000 in
theorem ti_92_95 : dp_tab 92 95 = (.iinc 5 1, 3) := by decide +kernel
set_option maxRecDepth 100000 in
theorem ti_92_98 : dp_tab 92 98 = (.goto (-70), 3) := by decide +kernel
set_option maxRecDepth 100000 in
theorem ti_92_101 : dp_tab 92 101 = (.iload 4, 2) := by decide +kernel
set_option maxRecDepth 100000 in
theorem ti_92_103 : dp_tab 92 103 = (.iload_n 2, 1) := by decide +kernel
set_option maxRecDepth 100000 in
theorem ti_92_104 : dp_tab 92 104 = (.if_icmp .ne 5, 3) := by decide +kernel
set_option maxRecDepth 100000 in
theorem ti_92_107 : dp_tab 92 107 = (.iload_n 3, 1) := by decide +kernel
set_option maxRecDepth 100000 in
theorem ti_92_108 : dp_tab 92 108 = (.ireturn, 1) := by decide +kernel
set_option maxRecDepth 100000 in
theorem ti_92_109 : dp_tab 92 109 = (.iinc 3 1, 3) := by decide +kernel
set_option maxRecDepth 100000 in
theorem ti_92_112 : dp_tab 92 112 = (.goto (-110), 3) := by decide +kernel
set_option maxRecDepth 100000 in
theorem ti_92_115 : dp_tab 92 115 = (.iconst (-1), 1) := by decide +kernel
set_option maxRecDepth 100000 in
theorem ti_92_116 : dp_tab 92 116 = (.ireturn, 1) := by decide +kernel
set_option maxRecDepth 100000 in
theorem ti_93_0 : dp_tab 93 0 = (.iconst 0, 1) := by decide +kernel
set_option maxRecDepth 100000 in
theorem ti_93_1 : dp_tab 93 1 = (.istore_n 2, 1) := by decide +kernel
set_option maxRecDepth 100000 in
theorem ti_93_2 : dp_tab 93 2 = (.iconst 0, 1) := by decide +kernel
set_option maxRecDepth 100000 in
theorem ti_93_3 : dp_tab 93 3 = (.istore_n 3, 1) := by decide +kernel
set_option maxRecDepth 100000 in
theorem ti_93_4 : dp_tab 93 4 = (.iload_n 3, 1) := by decide +kernel
set_option maxRecDepth 100000 in
theorem ti_93_5 : dp_tab 93 5 = (.aload_n 0, 1) := by decide +kernel
set_option maxRecDepth 100000 in
theorem ti_93_6 : dp_tab 93 6 = (.getfield 23, 3) := by decide +kernel
set_option maxRecDepth 100000 in
theorem ti_93_9 : dp_tab 93 9 = (.if_icmp .ge 26, 3) := by decide +kernel
set_option maxRecDepth 100000 in
theorem ti_93_12 : dp_tab 93 12 = (.iload_n 2, 1) := by decide +kernel
set_option maxRecDepth 100000 in
theorem ti_93_13 : dp_tab 93 13 = (.aload_n 0, 1) := by decide +kernel
set_option maxRecDepth 100000 in
theorem ti_93_14 : dp_tab 93 14 = (.iload_n 1, 1) := by decide +kernel
set_option maxRecDepth 100000 in
theorem ti_93_15 : dp_tab 93 15 = (.iload_n 3, 1) := by decide +kernel
set_option maxRecDepth 100000 in
theorem ti_93_16 : dp_tab 93 16 = (.invokevirtual 87, 3) := by decide +kernel
set_option maxRecDepth 100000 in
theorem ti_93_19 : dp_tab 93 19 = (.ifCond .eq 7, 3) := by decide +kernel
set_option maxRecDepth 100000 in
theorem ti_93_22 : dp_tab 93 22 = (.iconst 1, 1) := by decide +kernel
set_option maxRecDepth 100000 in
theorem ti_93_23 : dp_tab 93 23 = (.goto 4, 3) := by decide +kernel
set_option maxRecDepth 100000 in
theorem ti_93_26 : dp_tab 93 26 = (.iconst 0, 1) := by decide +kernel
set_option maxRecDepth 100000 in
theorem ti_93_27 : dp_tab 93 27 = (.iadd, 1) := by decide +kernel
set_option maxRecDepth 100000 in
theorem ti_93_28 : dp_tab 93 28 = (.istore_n 2, 1) := by decide +kernel
set_option maxRecDepth 100000 in
theorem ti_93_29 : dp_tab 93 29 = (.iinc 3 1, 3) := by decide +kernel
set_option maxRecDepth 100000 in
theorem ti_93_32 : dp_tab 93 32 = (.goto (-28), 3) := by decide +kernel
set_option maxRecDepth 100000 in
theorem ti_93_35 : dp_tab 93 35 = (.iload_n 2, 1) := by decide +kernel
set_option maxRecDepth 100000 in
theorem ti_93_36 : dp_tab 93 36 = (.ireturn, 1) := by decide +kernel
set_option maxRecDepth 100000 in
theorem ti_94_0 : dp_tab 94 0 = (.iconst 2, 1) := by decide +kernel
set_option maxRecDepth 100000 in
theorem ti_94_1 : dp_tab 94 1 = (.aload_n 0, 1) := by decide +kernel
set_option maxRecDepth 100000 in
theorem ti_94_2 : dp_tab 94 2 = (.iload_n 1, 1) := by decide +kernel
set_option maxRecDepth 100000 in
theorem ti_94_3 : dp_tab 94 3 = (.iload_n 2, 1) := by decide +kernel
set_option maxRecDepth 100000 in
theorem ti_94_4 : dp_tab 94 4 = (.invokevirtual 84, 3) := by decide +kernel
set_option maxRecDepth 100000 in
theorem ti_94_7 : dp_tab 94 7 = (.bipush 20, 2) := by decide +kernel
set_option maxRecDepth 100000 in
theorem ti_94_9 : dp_tab 94 9 = (.idiv, 1) := by decide +kernel
set_option maxRecDepth 100000 in
theorem ti_94_10 : dp_tab 94 10 = (.iadd, 1) := by decide +kernel
set_option maxRecDepth 100000 in
theorem ti_94_11 : dp_tab 94 11 = (.ireturn, 1) := by decide +kernel
set_option maxRecDepth 100000 in
theorem ti_95_0 : dp_tab 95 0 = (.aload_n 0, 1) := by decide +kernel
set_option maxRecDepth 100000 in
theorem ti_95_1 : dp_tab 95 1 = (.iload_n 1, 1) := by decide +kernel
set_option maxRecDepth 100000 in
theorem ti_95_2 : dp_tab 95 2 = (.iconst 0, 1) := by decide +kernel
set_option maxRecDepth 100000 in
theorem ti_95_3 : dp_tab 95 3 = (.invokevirtual 91, 3) := by decide +kernel
set_option maxRecDepth 100000 in
theorem ti_95_6 : dp_tab 95 6 = (.istore_n 2, 1) := by decide +kernel
set_option maxRecDepth 100000 in
theorem ti_95_7 : dp_tab 95 7 = (.iload_n 2, 1) := by decide +kernel
set_option maxRecDepth 100000 in
theorem ti_95_8 : dp_tab 95 8 = (.iconst (-1), 1) := by decide +kernel
set_option maxRecDepth 100000 in
theorem ti_95_9 : dp_tab 95 9 = (.if_icmp .eq 18, 3) := by decide +kernel
set_option maxRecDepth 100000 in
theorem ti_95_12 : dp_tab 95 12 = (.aload_n 0, 1) := by decide +kernel
set_option maxRecDepth 100000 in
theorem ti_95_13 : dp_tab 95 13 = (.iload_n 1, 1) := by decide +kernel
set_option maxRecDepth 100000 in
theorem ti_95_14 : dp_tab 95 14 = (.iload_n 2, 1) := by decide +kernel
set_option maxRecDepth 100000 in
theorem ti_95_15 : dp_tab 95 15 = (.invokevirtual 94, 3) := by decide +kernel
set_option maxRecDepth 100000 in
theorem ti_95_18 : dp_tab 95 18 = (.aload_n 0, 1) := by decide +kernel
set_option maxRecDepth 100000 in
theorem ti_95_19 : dp_tab 95 19 = (.iload_n 1, 1) := by decide +kernel
set_option maxRecDepth 100000 in
theorem ti_95_20 : dp_tab 95 20 = (.iconst 0, 1) := by decide +kernel
set_option maxRecDepth 100000 in
theorem ti_95_21 : dp_tab 95 21 = (.invokevirtual 61, 3) := by decide +kernel
set_option maxRecDepth 100000 in
theorem ti_95_24 : dp_tab 95 24 = (.if_icmp .le 5, 3) := by decide +kernel
set_option maxRecDepth 100000 in
theorem ti_95_27 : dp_tab 95 27 = (.iconst (-1), 1) := by decide +kernel
set_option maxRecDepth 100000 in
theorem ti_95_28 : dp_tab 95 28 = (.ireturn, 1) := by decide +kernel
set_option maxRecDepth 100000 in
theorem ti_95_29 : dp_tab 95 29 = (.aload_n 0, 1) := by decide +kernel
set_option maxRecDepth 100000 in
theorem ti_95_30 : dp_tab 95 30 = (.iload_n 1, 1) := by decide +kernel
set_option maxRecDepth 100000 in
theorem ti_95_31 : dp_tab 95 31 = (.iload_n 2, 1) := by decide +kernel
set_option maxRecDepth 100000 in
theorem ti_95_32 : dp_tab 95 32 = (.invokevirtual 94, 3) := by decide +kernel
set_option maxRecDepth 100000 in
theorem ti_95_35 : dp_tab 95 35 = (.istore_n 3, 1) := by decide +kernel
set_option maxRecDepth 100000 in
theorem ti_95_36 : dp_tab 95 36 = (.aload_n 0, 1) := by decide +kernel
set_option maxRecDepth 100000 in
theorem ti_95_37 : dp_tab 95 37 = (.iload_n 1, 1) := by decide +kernel
set_option maxRecDepth 100000 in
theorem ti_95_38 : dp_tab 95 38 = (.iconst 0, 1) := by decide +kernel
set_option maxRecDepth 100000 in
theorem ti_95_39 : dp_tab 95 39 = (.aload_n 0, 1) := by decide +kernel
set_option maxRecDepth 100000 in
theorem ti_95_40 : dp_tab 95 40 = (.iload_n 1, 1) := by decide +kernel
set_option maxRecDepth 100000 in
theorem ti_95_41 : dp_tab 95 41 = (.iconst 0, 1) := by decide +kernel
set_option maxRecDepth 100000 in
theorem ti_95_42 : dp_tab 95 42 = (.invokevirtual 61, 3) := by decide +kernel
set_option maxRecDepth 100000 in
theorem ti_95_45 : dp_tab 95 45 = (.iload_n 3, 1) := by decide +kernel
set_option maxRecDepth 100000 in
theorem ti_95_46 : dp_tab 95 46 = (.isub, 1) := by decide +kernel
set_option maxRecDepth 100000 in
theorem ti_95_47 : dp_tab 95 47 = (.invokevirtual 57, 3) := by decide +kernel
set_option maxRecDepth 100000 in
theorem ti_95_50 : dp_tab 95 50 = (.aload_n 0, 1) := by decide +kernel
set_option maxRecDepth 100000 in
theorem ti_95_51 : dp_tab 95 51 = (.iload_n 1, 1) := by decide +kernel
set_option maxRecDepth 100000 in
theorem ti_95_52 : dp_tab 95 52 = (.iconst 3, 1) := by decide +kernel
set_option maxRecDepth 100000 in
theorem ti_95_53 : dp_tab 95 53 = (.aload_n 0, 1) := by decide +kernel
set_option maxRecDepth 100000 in
theorem ti_95_54 : dp_tab 95 54 = (.iload_n 1, 1) := by decide +kernel
set_option maxRecDepth 100000 in
theorem ti_95_55 : dp_tab 95 55 = (.iconst 3, 1) := by decide +kernel
set_option maxRecDepth 100000 in
theorem ti_95_56 : dp_tab 95 56 = (.invokevirtual 61, 3) := by decide +kernel
set_option maxRecDepth 100000 in
theorem ti_95_59 : dp_tab 95 59 = (.iload_n 3, 1) := by decide +kernel
set_option maxRecDepth 100000 in
theorem ti_95_60 : dp_tab 95 60 = (.iadd, 1) := by decide +kernel
set_option maxRecDepth 100000 in
theorem ti_95_61 : dp_tab 95 61 = (.invokevirtual 57, 3) := by decide +kernel
set_option maxRecDepth 100000 in
theorem ti_95_64 : dp_tab 95 64 = (.aload_n 0, 1) := by decide +kernel
set_option maxRecDepth 100000 in
theorem ti_95_65 : dp_tab 95 65 = (.iload_n 1, 1) := by decide +kernel
set_option maxRecDepth 100000 in
theorem ti_95_66 : dp_tab 95 66 = (.iconst 4, 1) := by decide +kernel
set_option maxRecDepth 100000 in
theorem ti_95_67 : dp_tab 95 67 = (.aload_n 0, 1) := by decide +kernel
set_option maxRecDepth 100000 in
theorem ti_95_68 : dp_tab 95 68 = (.iload_n 1, 1) := by decide +kernel
set_option maxRecDepth 100000 in
theorem ti_95_69 : dp_tab 95 69 = (.iconst 4, 1) := by decide +kernel
set_option maxRecDepth 100000 in
theorem ti_95_70 : dp_tab 95 70 = (.invokevirtual 61, 3) := by decide +kernel
set_option maxRecDepth 100000 in
theorem ti_95_73 : dp_tab 95 73 = (.iconst 1, 1) := by decide +kernel
set_option maxRecDepth 100000 in
theorem ti_95_74 : dp_tab 95 74 = (.iload_n 2, 1) := by decide +kernel
set_option maxRecDepth 100000 in
theorem ti_95_75 : dp_tab 95 75 = (.ishl, 1) := by decide +kernel
set_option maxRecDepth 100000 in
theorem ti_95_76 : dp_tab 95 76 = (.ior, 1) := by decide +kernel
set_option maxRecDepth 100000 in
theorem ti_95_77 : dp_tab 95 77 = (.invokevirtual 57, 3) := by decide +kernel
set_option maxRecDepth 100000 in
theorem ti_95_80 : dp_tab 95 80 = (.iload_n 2, 1) := by decide +kernel
set_option maxRecDepth 100000 in
theorem ti_95_81 : dp_tab 95 81 = (.ireturn, 1) := by decide +kernel
set_option maxRecDepth 100000 in
theorem ti_96_0 : dp_tab 96 0 = (.aload_n 0, 1) := by decide +kernel
set_option maxRecDepth 100000 in
theorem ti_96_1 : dp_tab 96 1 = (.iconst 0, 1) := by decide +kernel
set_option maxRecDepth 100000 in
theorem ti_96_2 : dp_tab 96 2 = (.putfield 19, 3) := by decide +kernel
set_option maxRecDepth 100000 in
theorem ti_96_5 : dp_tab 96 5 = (.aload_n 0, 1) := by decide +kernel
set_option maxRecDepth 100000 in
theorem ti_96_6 : dp_tab 96 6 = (.iload_n 1, 1) := by decide +kernel
set_option maxRecDepth 100000 in
theorem ti_96_7 : dp_tab 96 7 = (.invokevirtual 64, 3) := by decide +kernel
set_option maxRecDepth 100000 in
theorem ti_96_10 : dp_tab 96 10 = (.ifCond .eq 11, 3) := by decide +kernel
set_option maxRecDepth 100000 in
theorem ti_96_13 : dp_tab 96 13 = (.aload_n 0, 1) := by decide +kernel
set_option maxRecDepth 100000 in
theorem ti_96_14 : dp_tab 96 14 = (.iload_n 1, 1) := by decide +kernel
set_option maxRecDepth 100000 in
theorem ti_96_15 : dp_tab 96 15 = (.invokevirtual 97, 3) := by decide +kernel
set_option maxRecDepth 100000 in
theorem ti_96_18 : dp_tab 96 18 = (.goto 8, 3) := by decide +kernel
set_option maxRecDepth 100000 in
theorem ti_96_21 : dp_tab 96 21 = (.aload_n 0, 1) := by decide +kernel
set_option maxRecDepth 100000 in
theorem ti_96_22 : dp_tab 96 22 = (.iconst 1, 1) := by decide +kernel
set_option maxRecDepth 100000 in
theorem ti_96_23 : dp_tab 96 23 = (.invokevirtual 40, 3) := by decide +kernel
set_option maxRecDepth 100000 in
theorem ti_96_26 : dp_tab 96 26 = (.ireturn, 1) := by decide +kernel
set_option maxRecDepth 100000 in
theorem ti_97_0 : dp_tab 97 0 = (.iconst 0, 1) := by decide +kernel
set_option maxRecDepth 100000 in
theorem ti_97_1 : dp_tab 97 1 = (.istore_n 1, 1) := by decide +kernel
set_option maxRecDepth 100000 in
theorem ti_97_2 : dp_tab 97 2 = (.iconst 0, 1) := by decide +kernel
set_option maxRecDepth 100000 in
theorem ti_97_3 : dp_tab 97 3 = (.istore_n 2, 1) := by decide +kernel
set_option maxRecDepth 100000 in
theorem ti_97_4 : dp_tab 97 4 = (.iload_n 2, 1) := by decide +kernel
set_option maxRecDepth 100000 in
theorem ti_97_5 : dp_tab 97 5 = (.iconst 2, 1) := by decide +kernel
set_option maxRecDepth 100000 in
theorem ti_97_6 : dp_tab 97 6 = (.aload_n 0, 1) := by decide +kernel
set_option maxRecDepth 100000 in
theorem ti_97_7 : dp_tab 97 7 = (.getfield 30, 3) := by decide +kernel
set_option maxRecDepth 100000 in
theorem ti_97_10 : dp_tab 97 10 = (.imul, 1) := by decide +kernel
set_option maxRecDepth 100000 in
theorem ti_97_11 : dp_tab 97 11 = (.if_icmp .ge 28, 3) := by decide +kernel
set_option maxRecDepth 100000 in
theorem ti_97_14 : dp_tab 97 14 = (.iload_n 1, 1) := by decide +kernel
set_option maxRecDepth 100000 in
theorem ti_97_15 : dp_tab 97 15 = (.aload_n 0, 1) := by decide +kernel
set_option maxRecDepth 100000 in
theorem ti_97_16 : dp_tab 97 16 = (.iload_n 2, 1) := by decide +kernel
set_option maxRecDepth 100000 in
theorem ti_97_17 : dp_tab 97 17 = (.iconst 2, 1) := by decide +kernel
set_option maxRecDepth 100000 in
theorem ti_97_18 : dp_tab 97 18 = (.idiv, 1) := by decide +kernel
set_option maxRecDepth 100000 in
theorem ti_97_19 : dp_tab 97 19 = (.invokevirtual 97, 3) := by decide +kernel
set_option maxRecDepth 100000 in
theorem ti_97_22 : dp_tab 97 22 = (.iconst (-1), 1) := by decide +kernel
set_option maxRecDepth 100000 in
theorem ti_97_23 : dp_tab 97 23 = (.if_icmp .ne 7, 3) := by decide +kernel
set_option maxRecDepth 100000 in
theorem ti_97_26 : dp_tab 97 26 = (.iconst 0, 1) := by decide +kernel
set_option maxRecDepth 100000 in
theorem ti_97_27 : dp_tab 97 27 = (.goto 4, 3) := by decide +kernel
set_option maxRecDepth 100000 in
theorem ti_97_30 : dp_tab 97 30 = (.iconst 1, 1) := by decide +kernel
set_option maxRecDepth 100000 in
theorem ti_97_31 : dp_tab 97 31 = (.iadd, 1) := by decide +kernel
set_option maxRecDepth 100000 in
theorem ti_97_32 : dp_tab 97 32 = (.istore_n 1, 1) := by decide +kernel
set_option maxRecDepth 100000 in
theorem ti_97_33 : dp_tab 97 33 = (.iinc 2 1, 3) := by decide +kernel
set_option maxRecDepth 100000 in
theorem ti_97_36 : dp_tab 97 36 = (.goto (-32), 3) := by decide +kernel
set_option maxRecDepth 100000 in
theorem ti_97_39 : dp_tab 97 39 = (.iconst 0, 1) := by decide +kernel
set_option maxRecDepth 100000 in
theorem ti_97_40 : dp_tab 97 40 = (.istore_n 2, 1) := by decide +kernel
set_option maxRecDepth 100000 in
theorem ti_97_41 : dp_tab 97 41 = (.iload_n 2, 1) := by decide +kernel
set_option maxRecDepth 100000 in
theorem ti_97_42 : dp_tab 97 42 = (.aload_n 0, 1) := by decide +kernel
set_option maxRecDepth 100000 in
theorem ti_97_43 : dp_tab 97 43 = (.getfield 23, 3) := by decide +kernel
set_option maxRecDepth 100000 in
theorem ti_97_46 : dp_tab 97 46 = (.if_icmp .ge 24, 3) := by decide +kernel
set_option maxRecDepth 100000 in
theorem ti_97_49 : dp_tab 97 49 = (.aload_n 0, 1) := by decide +kernel
set_option maxRecDepth 100000 in
theorem ti_97_50 : dp_tab 97 50 = (.getfield 13, 3) := by decide +kernel
set_option maxRecDepth 100000 in
theorem ti_97_53 : dp_tab 97 53 = (.bipush 14, 2) := by decide +kernel
set_option maxRecDepth 100000 in
theorem ti_97_55 : dp_tab 97 55 = (.iload_n 2, 1) := by decide +kernel
set_option maxRecDepth 100000 in
theorem ti_97_56 : dp_tab 97 56 = (.imul, 1) := by decide +kernel
set_option maxRecDepth 100000 in
theorem ti_97_57 : dp_tab 97 57 = (.iconst 1, 1) := by decide +kernel
set_option maxRecDepth 100000 in
theorem ti_97_58 : dp_tab 97 58 = (.iadd, 1) := by decide +kernel
set_option maxRecDepth 100000 in
theorem ti_97_59 : dp_tab 97 59 = (.dup2, 1) := by decide +kernel
set_option maxRecDepth 100000 in
theorem ti_97_60 : dp_tab 97 60 = (.iaload, 1) := by decide +kernel
set_option maxRecDepth 100000 in
theorem ti_97_61 : dp_tab 97 61 = (.iconst 1, 1) := by decide +kernel
set_option maxRecDepth 100000 in
theorem ti_97_62 : dp_tab 97 62 = (.iadd, 1) := by decide +kernel
set_option maxRecDepth 100000 in
theorem ti_97_63 : dp_tab 97 63 = (.iastore, 1) := by decide +kernel
set_option maxRecDepth 100000 in
theorem ti_97_64 : dp_tab 97 64 = (.iinc 2 1, 3) := by decide +kernel
set_option maxRecDepth 100000 in
theorem ti_97_67 : dp_tab 97 67 = (.goto (-26), 3) := by decide +kernel
set_option maxRecDepth 100000 in
theorem ti_97_70 : dp_tab 97 70 = (.aload_n 0, 1) := by decide +kernel
set_option maxRecDepth 100000 in
theorem ti_97_71 : dp_tab 97 71 = (.dup, 1) := by decide +kernel
set_option maxRecDepth 100000 in
theorem ti_97_72 : dp_tab 97 72 = (.getfield 100, 3) := by decide +kernel
set_option maxRecDepth 100000 in
theorem ti_97_75 : dp_tab 97 75 = (.iconst 1, 1) := by decide +kernel
set_option maxRecDepth 100000 in
theorem ti_97_76 : dp_tab 97 76 = (.iadd, 1) := by decide +kernel
set_option maxRecDepth 100000 in
theorem ti_97_77 : dp_tab 97 77 = (.putfield 100, 3) := by decide +kernel
set_option maxRecDepth 100000 in
theorem ti_97_80 : dp_tab 97 80 = (.iload_n 1, 1) := by decide +kernel
set_option maxRecDepth 100000 in
theorem ti_97_81 : dp_tab 97 81 = (.ireturn, 1) := by decide +kernel
set_option maxRecDepth 100000 in
theorem ti_98_0 : dp_tab 98 0 = (.iconst 0, 1) := by decide +kernel
set_option maxRecDepth 100000 in
theorem ti_98_1 : dp_tab 98 1 = (.istore_n 2, 1) := by decide +kernel
set_option maxRecDepth 100000 in
theorem ti_98_2 : dp_tab 98 2 = (.iconst 0, 1) := by decide +kernel
set_option maxRecDepth 100000 in
theorem ti_98_3 : dp_tab 98 3 = (.istore_n 3, 1) := by decide +kernel
set_option maxRecDepth 100000 in
theorem ti_98_4 : dp_tab 98 4 = (.iload_n 3, 1) := by decide +kernel
set_option maxRecDepth 100000 in
theorem ti_98_5 : dp_tab 98 5 = (.iload_n 1, 1) := by decide +kernel
set_option maxRecDepth 100000 in
theorem ti_98_6 : dp_tab 98 6 = (.if_icmp .ge 16, 3) := by decide +kernel
set_option maxRecDepth 100000 in
theorem ti_98_9 : dp_tab 98 9 = (.iload_n 2, 1) := by decide +kernel
set_option maxRecDepth 100000 in
theorem ti_98_10 : dp_tab 98 10 = (.aload_n 0, 1) := by decide +kernel
set_option maxRecDepth 100000 in
theorem ti_98_11 : dp_tab 98 11 = (.invokevirtual 103, 3) := by decide +kernel
set_option maxRecDepth 100000 in
theorem ti_98_14 : dp_tab 98 14 = (.iadd, 1) := by decide +kernel
set_option maxRecDepth 100000 in
theorem ti_98_15 : dp_tab 98 15 = (.istore_n 2, 1) := by decide +kernel
set_option maxRecDepth 100000 in
theorem ti_98_16 : dp_tab 98 16 = (.iinc 3 1, 3) := by decide +kernel
set_option maxRecDepth 100000 in
theorem ti_98_19 : dp_tab 98 19 = (.goto (-15), 3) := by decide +kernel
set_option maxRecDepth 100000 in
theorem ti_98_22 : dp_tab 98 22 = (.iload_n 2, 1) := by decide +kernel
set_option maxRecDepth 100000 in
theorem ti_98_23 : dp_tab 98 23 = (.ireturn, 1) := by decide +kernel
set_option maxRecDepth 100000 in
theorem ti_99_0 : dp_tab 99 0 = (.aload_n 0, 1) := by decide +kernel
set_option maxRecDepth 100000 in
theorem ti_99_1 : dp_tab 99 1 = (.iconst 0, 1) := by decide +kernel
set_option maxRecDepth 100000 in
theorem ti_99_2 : dp_tab 99 2 = (.putfield 19, 3) := by decide +kernel
set_option maxRecDepth 100000 in
theorem ti_99_5 : dp_tab 99 5 = (.iload_n 1, 1) := by decide +kernel
set_option maxRecDepth 100000 in
theorem ti_99_6 : dp_tab 99 6 = (.iconst 1, 1) := by decide +kernel
set_option maxRecDepth 100000 in
theorem ti_99_7 : dp_tab 99 7 = (.bipush 30, 2) := by decide +kernel
set_option maxRecDepth 100000 in
theorem ti_99_9 : dp_tab 99 9 = (.invokestatic 26, 3) := by decide +kernel
set_option maxRecDepth 100000 in
theorem ti_99_12 : dp_tab 99 12 = (.ifCond .eq 11, 3) := by decide +kernel
set_option maxRecDepth 100000 in
theorem ti_99_15 : dp_tab 99 15 = (.aload_n 0, 1) := by decide +kernel
set_option maxRecDepth 100000 in
theorem ti_99_16 : dp_tab 99 16 = (.iload_n 1, 1) := by decide +kernel
set_option maxRecDepth 100000 in
theorem ti_99_17 : dp_tab 99 17 = (.invokevirtual 107, 3) := by decide +kernel
set_option maxRecDepth 100000 in
theorem ti_99_20 : dp_tab 99 20 = (.goto 8, 3) := by decide +kernel
set_option maxRecDepth 100000 in
theorem ti_99_23 : dp_tab 99 23 = (.aload_n 0, 1) := by decide +kernel
set_option maxRecDepth 100000 in
theorem ti_99_24 : dp_tab 99 24 = (.iconst 1, 1) := by decide +kernel
set_option maxRecDepth 100000 in
theorem ti_99_25 : dp_tab 99 25 = (.invokevirtual 40, 3) := by decide +kernel
set_option maxRecDepth 100000 in
theorem ti_99_28 : dp_tab 99 28 = (.ireturn, 1) := by decide +kernel
set_option maxRecDepth 100000 in
theorem ti_100_0 : dp_tab 100 0 = (.iconst 0, 1) := by decide +kernel
set_option maxRecDepth 100000 in
theorem ti_100_1 : dp_tab 100 1 = (.istore_n 2, 1) := by decide +kernel
set_option maxRecDepth 100000 in
theorem ti_100_2 : dp_tab 100 2 = (.iconst 0, 1) := by decide +kernel
set_option maxRecDepth 100000 in
theorem ti_100_3 : dp_tab 100 3 = (.istore_n 3, 1) := by decide +kernel
set_option maxRecDepth 100000 in
theorem ti_100_4 : dp_tab 100 4 = (.iload_n 3, 1) := by decide +kernel
set_option maxRecDepth 100000 in
theorem ti_100_5 : dp_tab 100 5 = (.bipush 20, 2) := by decide +kernel
set_option maxRecDepth 100000 in
theorem ti_100_7 : dp_tab 100 7 = (.if_icmp .ge 26, 3) := by decide +kernel
set_option maxRecDepth 100000 in
theorem ti_100_10 : dp_tab 100 10 = (.iload_n 2, 1) := by decide +kernel
set_option maxRecDepth 100000 in
theorem ti_100_11 : dp_tab 100 11 = (.aload_n 0, 1) := by decide +kernel
set_option maxRecDepth 100000 in
theorem ti_100_12 : dp_tab 100 12 = (.iload_n 1, 1) := by decide +kernel
set_option maxRecDepth 100000 in
theorem ti_100_13 : dp_tab 100 13 = (.iload_n 3, 1) := by decide +kernel
set_option maxRecDepth 100000 in
theorem ti_100_14 : dp_tab 100 14 = (.invokevirtual 75, 3) := by decide +kernel
set_option maxRecDepth 100000 in
theorem ti_100_17 : dp_tab 100 17 = (.ifCond .le 7, 3) := by decide +kernel
set_option maxRecDepth 100000 in
theorem ti_100_20 : dp_tab 100 20 = (.iconst 1, 1) := by decide +kernel
set_option maxRecDepth 100000 in
theorem ti_100_21 : dp_tab 100 21 = (.goto 4, 3) := by decide +kernel
set_option maxRecDepth 100000 in
theorem ti_100_24 : dp_tab 100 24 = (.iconst 0, 1) := by decide +kernel
set_option maxRecDepth 100000 in
theorem ti_100_25 : dp_tab 100 25 = (.iadd, 1) := by decide +kernel
set_option maxRecDepth 100000 in
theorem ti_100_26 : dp_tab 100 26 = (.istore_n 2, 1) := by decide +kernel
set_option maxRecDepth 100000 in
theorem ti_100_27 : dp_tab 100 27 = (.iinc 3 1, 3) := by decide +kernel
set_option maxRecDepth 100000 in
theorem ti_100_30 : dp_tab 100 30 = (.goto (-26), 3) := by decide +kernel
set_option maxRecDepth 100000 in
theorem ti_100_33 : dp_tab 100 33 = (.iload_n 2, 1) := by decide +kernel
set_option maxRecDepth 100000 in
theorem ti_100_34 : dp_tab 100 34 = (.ireturn, 1) := by decide +kernel
set_option maxRecDepth 100000 in
theorem ti_101_0 : dp_tab 101 0 = (.iconst 0, 1) := by decide +kernel
set_option maxRecDepth 100000 in
theorem ti_101_1 : dp_tab 101 1 = (.istore_n 2, 1) := by decide +kernel
set_option maxRecDepth 100000 in
theorem ti_101_2 : dp_tab 101 2 = (.iconst 0, 1) := by decide +kernel
set_option maxRecDepth 100000 in
theorem ti_101_3 : dp_tab 101 3 = (.istore_n 3, 1) := by decide +kernel
set_option maxRecDepth 100000 in
theorem ti_101_4 : dp_tab 101 4 = (.iload_n 3, 1) := by decide +kernel
set_option maxRecDepth 100000 in
theorem ti_101_5 : dp_tab 101 5 = (.aload_n 0, 1) := by decide +kernel
set_option maxRecDepth 100000 in
theorem ti_101_6 : dp_tab 101 6 = (.getfield 30, 3) := by decide +kernel
set_option maxRecDepth 100000 in
theorem ti_101_9 : dp_tab 101 9 = (.if_icmp .ge 22, 3) := by decide +kernel
set_option maxRecDepth 100000 in
theorem ti_101_12 : dp_tab 101 12 = (.iload_n 2, 1) := by decide +kernel
set_option maxRecDepth 100000 in
theorem ti_101_13 : dp_tab 101 13 = (.aload_n 0, 1) := by decide +kernel
set_option maxRecDepth 100000 in
theorem ti_101_14 : dp_tab 101 14 = (.iload_n 3, 1) := by decide +kernel
set_option maxRecDepth 100000 in
theorem ti_101_15 : dp_tab 101 15 = (.iconst 4, 1) := by decide +kernel
set_option maxRecDepth 100000 in
theorem ti_101_16 : dp_tab 101 16 = (.invokevirtual 61, 3) := by decide +kernel
set_option maxRecDepth 100000 in
theorem ti_101_19 : dp_tab 101 19 = (.iload_n 1, 1) := by decide +kernel
set_option maxRecDepth 100000 in
theorem ti_101_20 : dp_tab 101 20 = (.ishr, 1) := by decide +kernel
set_option maxRecDepth 100000 in
theorem ti_101_21 : dp_tab 101 21 = (.iconst 1, 1) := by decide +kernel
set_option maxRecDepth 100000 in
theorem ti_101_22 : dp_tab 101 22 = (.iand, 1) := by decide +kernel
set_option maxRecDepth 100000 in
theorem ti_101_23 : dp_tab 101 23 = (.iadd, 1) := by decide +kernel
set_option maxRecDepth 100000 in
theorem ti_101_24 : dp_tab 101 24 = (.istore_n 2, 1) := by decide +kernel
set_option maxRecDepth 100000 in
theorem ti_101_25 : dp_tab 101 25 = (.iinc 3 1, 3) := by decide +kernel
set_option maxRecDepth 100000 in
theorem ti_101_28 : dp_tab 101 28 = (.goto (-24), 3) := by decide +kernel
set_option maxRecDepth 100000 in
theorem ti_101_31 : dp_tab 101 31 = (.iload_n 2, 1) := by decide +kernel
set_option maxRecDepth 100000 in
theorem ti_101_32 : dp_tab 101 32 = (.ireturn, 1) := by decide +kernel
set_option maxRecDepth 100000 in
theorem ti_102_0 : dp_tab 102 0 = (.iload_n 2, 1) := by decide +kernel
set_option maxRecDepth 100000 in
theorem ti_102_1 : dp_tab 102 1 = (.ifCond .ne 12, 3) := by decide +kernel
set_option maxRecDepth 100000 in
theorem ti_102_4 : dp_tab 102 4 = (.aload_n 0, 1) := by decide +kernel
set_option maxRecDepth 100000 in
theorem ti_102_5 : dp_tab 102 5 = (.iload_n 1, 1) := by decide +kernel
set_option maxRecDepth 100000 in
theorem ti_102_6 : dp_tab 102 6 = (.iconst 0, 1) := by decide +kernel
set_option maxRecDepth 100000 in
theorem ti_102_7 : dp_tab 102 7 = (.invokevirtual 47, 3) := by decide +kernel
set_option maxRecDepth 100000 in
theorem ti_102_10 : dp_tab 102 10 = (.goto 35, 3) := by decide +kernel
set_option maxRecDepth 100000 in
theorem ti_102_13 : dp_tab 102 13 = (.iload_n 2, 1) := by decide +kernel
set_option maxRecDepth 100000 in
theorem ti_102_14 : dp_tab 102 14 = (.iconst 1, 1) := by decide +kernel
set_option maxRecDepth 100000 in
theorem ti_102_15 : dp_tab 102 15 = (.if_icmp .ne 11, 3) := by decide +kernel
set_option maxRecDepth 100000 in
theorem ti_102_18 : dp_tab 102 18 = (.aload_n 0, 1) := by decide +kernel
set_option maxRecDepth 100000 in
theorem ti_102_19 : dp_tab 102 19 = (.iload_n 1, 1) := by decide +kernel
set_option maxRecDepth 100000 in
theorem ti_102_20 : dp_tab 102 20 = (.invokevirtual 110, 3) := by decide +kernel
set_option maxRecDepth 100000 in
theorem ti_102_23 : dp_tab 102 23 = (.goto 22, 3) := by decide +kernel
set_option maxRecDepth 100000 in
theorem ti_102_26 : dp_tab 102 26 = (.iload_n 2, 1) := by decide +kernel
set_option maxRecDepth 100000 in
theorem ti_102_27 : dp_tab 102 27 = (.iconst 2, 1) := by decide +kernel
set_option maxRecDepth 100000 in
theorem ti_102_28 : dp_tab 102 28 = (.if_icmp .ne 12, 3) := by decide +kernel
set_option maxRecDepth 100000 in
theorem ti_102_31 : dp_tab 102 31 = (.aload_n 0, 1) := by decide +kernel
set_option maxRecDepth 100000 in
theorem ti_102_32 : dp_tab 102 32 = (.iload_n 1, 1) := by decide +kernel
set_option maxRecDepth 100000 in
theorem ti_102_33 : dp_tab 102 33 = (.iconst 1, 1) := by decide +kernel
set_option maxRecDepth 100000 in
theorem ti_102_34 : dp_tab 102 34 = (.invokevirtual 47, 3) := by decide +kernel
set_option maxRecDepth 100000 in
theorem ti_102_37 : dp_tab 102 37 = (.goto 8, 3) := by decide +kernel
set_option maxRecDepth 100000 in
theorem ti_102_40 : dp_tab 102 40 = (.aload_n 0, 1) := by decide +kernel
set_option maxRecDepth 100000 in
theorem ti_102_41 : dp_tab 102 41 = (.iload_n 1, 1) := by decide +kernel
set_option maxRecDepth 100000 in
theorem ti_102_42 : dp_tab 102 42 = (.invokevirtual 113, 3) := by decide +kernel
set_option maxRecDepth 100000 in
theorem ti_102_45 : dp_tab 102 45 = (.ireturn, 1) := by decide +kernel
set_option maxRecDepth 100000 in
theorem ti_103_0 : dp_tab 103 0 = (.aload_n 0, 1) := by decide +kernel
set_option maxRecDepth 100000 in
theorem ti_103_1 : dp_tab 103 1 = (.iconst 0, 1) := by decide +kernel
set_option maxRecDepth 100000 in
theorem ti_103_2 : dp_tab 103 2 = (.putfield 19, 3) := by decide +kernel
set_option maxRecDepth 100000 in
theorem ti_103_5 : dp_tab 103 5 = (.aload_n 0, 1) := by decide +kernel
set_option maxRecDepth 100000 in
theorem ti_103_6 : dp_tab 103 6 = (.iload_n 1, 1) := by decide +kernel
set_option maxRecDepth 100000 in
theorem ti_103_7 : dp_tab 103 7 = (.invokevirtual 44, 3) := by decide +kernel
set_option maxRecDepth 100000 in
theorem ti_103_10 : dp_tab 103 10 = (.ifCond .eq 21, 3) := by decide +kernel
set_option maxRecDepth 100000 in
theorem ti_103_13 : dp_tab 103 13 = (.iload_n 2, 1) := by decide +kernel
set_option maxRecDepth 100000 in
theorem ti_103_14 : dp_tab 103 14 = (.iconst 0, 1) := by decide +kernel
set_option maxRecDepth 100000 in
theorem ti_103_15 : dp_tab 103 15 = (.iconst 3, 1) := by decide +kernel
set_option maxRecDepth 100000 in
theorem ti_103_16 : dp_tab 103 16 = (.invokestatic 26, 3) := by decide +kernel
set_option maxRecDepth 100000 in
theorem ti_103_19 : dp_tab 103 19 = (.ifCond .eq 12, 3) := by decide +kernel
set_option maxRecDepth 100000 in
theorem ti_103_22 : dp_tab 103 22 = (.aload_n 0, 1) := by decide +kernel
set_option maxRecDepth 100000 in
theorem ti_103_23 : dp_tab 103 23 = (.iload_n 1, 1) := by decide +kernel
set_option maxRecDepth 100000 in
theorem ti_103_24 : dp_tab 103 24 = (.iload_n 2, 1) := by decide +kernel
set_option maxRecDepth 100000 in
theorem ti_103_25 : dp_tab 103 25 = (.invokevirtual 116, 3) := by decide +kernel
set_option maxRecDepth 100000 in
theorem ti_103_28 : dp_tab 103 28 = (.goto 8, 3) := by decide +kernel
set_option maxRecDepth 100000 in
theorem ti_103_31 : dp_tab 103 31 = (.aload_n 0, 1) := by decide +kernel
set_option maxRecDepth 100000 in
theorem ti_103_32 : dp_tab 103 32 = (.iconst 1, 1) := by decide +kernel
set_option maxRecDepth 100000 in
theorem ti_103_33 : dp_tab 103 33 = (.invokevirtual 40, 3) := by decide +kernel
set_option maxRecDepth 100000 in
theorem ti_103_36 : dp_tab 103 36 = (.ireturn, 1) := by decide +kernel
set_option maxRecDepth 100000 in
theorem ti_104_0 : dp_tab 104 0 = (.aload_n 0, 1) := by decide +kernel
set_option maxRecDepth 100000 in
theorem ti_104_1 : dp_tab 104 1 = (.iconst 0, 1) := by decide +kernel
set_option maxRecDepth 100000 in
theorem ti_104_2 : dp_tab 104 2 = (.putfield 19, 3) := by decide +kernel
set_option maxRecDepth 100000 in
theorem ti_104_5 : dp_tab 104 5 = (.aload_n 0, 1) := by decide +kernel
set_option maxRecDepth 100000 in
theorem ti_104_6 : dp_tab 104 6 = (.iload_n 1, 1) := by decide +kernel
set_option maxRecDepth 100000 in
theorem ti_104_7 : dp_tab 104 7 = (.invokevirtual 44, 3) := by decide +kernel
set_option maxRecDepth 100000 in
theorem ti_104_10 : dp_tab 104 10 = (.ifCond .eq 30, 3) := by decide +kernel
set_option maxRecDepth 100000 in
theorem ti_104_13 : dp_tab 104 13 = (.iload_n 2, 1) := by decide +kernel
set_option maxRecDepth 100000 in
theorem ti_104_14 : dp_tab 104 14 = (.iconst 0, 1) := by decide +kernel
set_option maxRecDepth 100000 in
theorem ti_104_15 : dp_tab 104 15 = (.aload_n 0, 1) := by decide +kernel
set_option maxRecDepth 100000 in
theorem ti_104_16 : dp_tab 104 16 = (.iload_n 1, 1) := by decide +kernel
set_option maxRecDepth 100000 in
theorem ti_104_17 : dp_tab 104 17 = (.iconst 0, 1) := by decide +kernel
set_option maxRecDepth 100000 in
theorem ti_104_18 : dp_tab 104 18 = (.invokevirtual 47, 3) := by decide +kernel
set_option maxRecDepth 100000 in
theorem ti_104_21 : dp_tab 104 21 = (.iconst 1, 1) := by decide +kernel
set_option maxRecDepth 100000 in
theorem ti_104_22 : dp_tab 104 22 = (.isub, 1) := by decide +kernel
set_option maxRecDepth 100000 in
theorem ti_104_23 : dp_tab 104 23 = (.invokestatic 26, 3) := by decide +kernel
set_option maxRecDepth 100000 in
theorem ti_104_26 : dp_tab 104 26 = (.ifCond .eq 14, 3) := by decide +kernel
set_option maxRecDepth 100000 in
theorem ti_104_29 : dp_tab 104 29 = (.aload_n 0, 1) := by decide +kernel
set_option maxRecDepth 100000 in
theorem ti_104_30 : dp_tab 104 30 = (.iload_n 1, 1) := by decide +kernel
set_option maxRecDepth 100000 in
theorem ti_104_31 : dp_tab 104 31 = (.iconst 2, 1) := by decide +kernel
set_option maxRecDepth 100000 in
theorem ti_104_32 : dp_tab 104 32 = (.iload_n 2, 1) := by decide +kernel
set_option maxRecDepth 100000 in
theorem ti_104_33 : dp_tab 104 33 = (.iadd, 1) := by decide +kernel
set_option maxRecDepth 100000 in
theorem ti_104_34 : dp_tab 104 34 = (.invokevirtual 47, 3) := by decide +kernel
set_option maxRecDepth 100000 in
theorem ti_104_37 : dp_tab 104 37 = (.goto 8, 3) := by decide +kernel
set_option maxRecDepth 100000 in
theorem ti_104_40 : dp_tab 104 40 = (.aload_n 0, 1) := by decide +kernel
set_option maxRecDepth 100000 in
theorem ti_104_41 : dp_tab 104 41 = (.iconst 1, 1) := by decide +kernel
set_option maxRecDepth 100000 in
theorem ti_104_42 : dp_tab 104 42 = (.invokevirtual 40, 3) := by decide +kernel
set_option maxRecDepth 100000 in
theorem ti_104_45 : dp_tab 104 45 = (.ireturn, 1) := by decide +kernel
set_option maxRecDepth 100000 in
theorem ti_105_0 : dp_tab 105 0 = (.iconst 0, 1) := by decide +kernel
set_option maxRecDepth 100000 in
theorem ti_105_1 : dp_tab 105 1 = (.istore_n 2, 1) := by decide +kernel
set_option maxRecDepth 100000 in
theorem ti_105_2 : dp_tab 105 2 = (.iconst 0, 1) := by decide +kernel
set_option maxRecDepth 100000 in
theorem ti_105_3 : dp_tab 105 3 = (.istore_n 3, 1) := by decide +kernel
set_option maxRecDepth 100000 in
theorem ti_105_4 : dp_tab 105 4 = (.iload_n 3, 1) := by decide +kernel
set_option maxRecDepth 100000 in
theorem ti_105_5 : dp_tab 105 5 = (.aload_n 0, 1) := by decide +kernel
set_option maxRecDepth 100000 in
theorem ti_105_6 : dp_tab 105 6 = (.getfield 23, 3) := by decide +kernel
set_option maxRecDepth 100000 in
theorem ti_105_9 : dp_tab 105 9 = (.if_icmp .ge 22, 3) := by decide +kernel
set_option maxRecDepth 100000 in
theorem ti_105_12 : dp_tab 105 12 = (.iload_n 2, 1) := by decide +kernel
set_option maxRecDepth 100000 in
theorem ti_105_13 : dp_tab 105 13 = (.aload_n 0, 1) := by decide +kernel
set_option maxRecDepth 100000 in
theorem ti_105_14 : dp_tab 105 14 = (.iload_n 1, 1) := by decide +kernel
set_option maxRecDepth 100000 in
theorem ti_105_15 : dp_tab 105 15 = (.iconst 4, 1) := by decide +kernel
set_option maxRecDepth 100000 in
theorem ti_105_16 : dp_tab 105 16 = (.invokevirtual 61, 3) := by decide +kernel
set_option maxRecDepth 100000 in
theorem ti_105_19 : dp_tab 105 19 = (.iload_n 3, 1) := by decide +kernel
set_option maxRecDepth 100000 in
theorem ti_105_20 : dp_tab 105 20 = (.ishr, 1) := by decide +kernel
set_option maxRecDepth 100000 in
theorem ti_105_21 : dp_tab 105 21 = (.iconst 1, 1) := by decide +kernel
set_option maxRecDepth 100000 in
theorem ti_105_22 : dp_tab 105 22 = (.iand, 1) := by decide +kernel
set_option maxRecDepth 100000 in
theorem ti_105_23 : dp_tab 105 23 = (.iadd, 1) := by decide +kernel
set_option maxRecDepth 100000 in
theorem ti_105_24 : dp_tab 105 24 = (.istore_n 2, 1) := by decide +kernel
set_option maxRecDepth 100000 in
theorem ti_105_25 : dp_tab 105 25 = (.iinc 3 1, 3) := by decide +kernel
set_option maxRecDepth 100000 in
theorem ti_105_28 : dp_tab 105 28 = (.goto (-24), 3) := by decide +kernel
set_option maxRecDepth 100000 in
theorem ti_105_31 : dp_tab 105 31 = (.iload_n 2, 1) := by decide +kernel
set_option maxRecDepth 100000 in
theorem ti_105_32 : dp_tab 105 32 = (.ireturn, 1) := by decide +kernel
set_option maxRecDepth 100000 in
theorem ti_106_0 : dp_tab 106 0 = (.iload_n 2, 1) := by decide +kernel
set_option maxRecDepth 100000 in
theorem ti_106_1 : dp_tab 106 1 = (.tableswitch 69 0 4 #[35, 42, 49, 56, 62], 35) := by decide +kernel
set_option maxRecDepth 100000 in
theorem ti_106_36 : dp_tab 106 36 = (.aload_n 0, 1) := by decide +kernel
set_option maxRecDepth 100000 in
theorem ti_106_37 : dp_tab 106 37 = (.iload_n 1, 1) := by decide +kernel
set_option maxRecDepth 100000 in
theorem ti_106_38 : dp_tab 106 38 = (.iconst 0, 1) := by decide +kernel
set_option maxRecDepth 100000 in
theorem ti_106_39 : dp_tab 106 39 = (.invokevirtual 61, 3) := by decide +kernel
set_option maxRecDepth 100000 in
theorem ti_106_42 : dp_tab 106 42 = (.ireturn, 1) := by decide +kernel
set_option maxRecDepth 100000 in
theorem ti_106_43 : dp_tab 106 43 = (.aload_n 0, 1) := by decide +kernel
set_option maxRecDepth 100000 in
theorem ti_106_44 : dp_tab 106 44 = (.iload_n 1, 1) := by decide +kernel
set_option maxRecDepth 100000 in
theorem ti_106_45 : dp_tab 106 45 = (.iconst 1, 1) := by decide +kernel
set_option maxRecDepth 100000 in
theorem ti_106_46 : dp_tab 106 46 = (.invokevirtual 61, 3) := by decide +kernel
set_option maxRecDepth 100000 in
theorem ti_106_49 : dp_tab 106 49 = (.ireturn, 1) := by decide +kernel
set_option maxRecDepth 100000 in
theorem ti_106_50 : dp_tab 106 50 = (.aload_n 0, 1) := by decide +kernel
set_option maxRecDepth 100000 in
theorem ti_106_51 : dp_tab 106 51 = (.iload_n 1, 1) := by decide +kernel
set_option maxRecDepth 100000 in
theorem ti_106_52 : dp_tab 106 52 = (.iconst 2, 1) := by decide +kernel
set_option maxRecDepth 100000 in
theorem ti_106_53 : dp_tab 106 53 = (.invokevirtual 61, 3) := by decide +kernel
set_option maxRecDepth 100000 in
theorem ti_106_56 : dp_tab 106 56 = (.ireturn, 1) := by decide +kernel
set_option maxRecDepth 100000 in
theorem ti_106_57 : dp_tab 106 57 = (.aload_n 0, 1) := by decide +kernel
set_option maxRecDepth 100000 in
theorem ti_106_58 : dp_tab 106 58 = (.iload_n 1, 1) := by decide +kernel
set_option maxRecDepth 100000 in
theorem ti_106_59 : dp_tab 106 59 = (.invokevirtual 119, 3) := by decide +kernel
set_option maxRecDepth 100000 in
theorem ti_106_62 : dp_tab 106 62 = (.ireturn, 1) := by decide +kernel
set_option maxRecDepth 100000 in
theorem ti_106_63 : dp_tab 106 63 = (.aload_n 0, 1) := by decide +kernel
set_option maxRecDepth 100000 in
theorem ti_106_64 : dp_tab 106 64 = (.iload_n 1, 1) := by decide +kernel
set_option maxRecDepth 100000 in
theorem ti_106_65 : dp_tab 106 65 = (.iconst 3, 1) := by decide +kernel
set_option maxRecDepth 100000 in
theorem ti_106_66 : dp_tab 106 66 = (.invokevirtual 61, 3) := by decide +kernel
set_option maxRecDepth 100000 in
theorem ti_106_69 : dp_tab 106 69 = (.ireturn, 1) := by decide +kernel
set_option maxRecDepth 100000 in
theorem ti_106_70 : dp_tab 106 70 = (.aload_n 0, 1) := by decide +kernel
set_option maxRecDepth 100000 in
theorem ti_106_71 : dp_tab 106 71 = (.iload_n 1, 1) := by decide +kernel
set_option maxRecDepth 100000 in
theorem ti_106_72 : dp_tab 106 72 = (.invokevirtual 122, 3) := by decide +kernel
set_option maxRecDepth 100000 in
theorem ti_106_75 : dp_tab 106 75 = (.ireturn, 1) := by decide +kernel
set_option maxRecDepth 100000 in
theorem ti_107_0 : dp_tab 107 0 = (.aload_n 0, 1) := by decide +kernel
set_option maxRecDepth 100000 in
theorem ti_107_1 : dp_tab 107 1 = (.iconst 0, 1) := by decide +kernel
set_option maxRecDepth 100000 in
theorem ti_107_2 : dp_tab 107 2 = (.putfield 19, 3) := by decide +kernel
set_option maxRecDepth 100000 in
theorem ti_107_5 : dp_tab 107 5 = (.aload_n 0, 1) := by decide +kernel
set_option maxRecDepth 100000 in
theorem ti_107_6 : dp_tab 107 6 = (.iload_n 1, 1) := by decide +kernel
set_option maxRecDepth 100000 in
theorem ti_107_7 : dp_tab 107 7 = (.invokevirtual 64, 3) := by decide +kernel
set_option maxRecDepth 100000 in
theorem ti_107_10 : dp_tab 107 10 = (.ifCond .eq 21, 3) := by decide +kernel
set_option maxRecDepth 100000 in
theorem ti_107_13 : dp_tab 107 13 = (.iload_n 2, 1) := by decide +kernel
set_option maxRecDepth 100000 in
theorem ti_107_14 : dp_tab 107 14 = (.iconst 0, 1) := by decide +kernel
set_option maxRecDepth 100000 in
theorem ti_107_15 : dp_tab 107 15 = (.iconst 5, 1) := by decide +kernel
set_option maxRecDepth 100000 in
theorem ti_107_16 : dp_tab 107 16 = (.invokestatic 26, 3) := by decide +kernel
set_option maxRecDepth 100000 in
theorem ti_107_19 : dp_tab 107 19 = (.ifCond .eq 12, 3) := by decide +kernel
set_option maxRecDepth 100000 in
theorem ti_107_22 : dp_tab 107 22 = (.aload_n 0, 1) := by decide +kernel
set_option maxRecDepth 100000 in
theorem ti_107_23 : dp_tab 107 23 = (.iload_n 1, 1) := by decide +kernel
set_option maxRecDepth 100000 in
theorem ti_107_24 : dp_tab 107 24 = (.iload_n 2, 1) := by decide +kernel
set_option maxRecDepth 100000 in
theorem ti_107_25 : dp_tab 107 25 = (.invokevirtual 125, 3) := by decide +kernel
set_option maxRecDepth 100000 in
theorem ti_107_28 : dp_tab 107 28 = (.goto 8, 3) := by decide +kernel
set_option maxRecDepth 100000 in
theorem ti_107_31 : dp_tab 107 31 = (.aload_n 0, 1) := by decide +kernel
set_option maxRecDepth 100000 in
theorem ti_107_32 : dp_tab 107 32 = (.iconst 1, 1) := by decide +kernel
set_option maxRecDepth 100000 in
theorem ti_107_33 : dp_tab 107 33 = (.invokevirtual 40, 3) := by decide +kernel
set_option maxRecDepth 100000 in
theorem ti_107_36 : dp_tab 107 36 = (.ireturn, 1) := by decide +kernel
set_option maxRecDepth 100000 in
theorem ti_108_0 : dp_tab 108 0 = (.aload_n 0, 1) := by decide +kernel
set_option maxRecDepth 100000 in
theorem ti_108_1 : dp_tab 108 1 = (.iconst 0, 1) := by decide +kernel
set_option maxRecDepth 100000 in
theorem ti_108_2 : dp_tab 108 2 = (.putfield 19, 3) := by decide +kernel
set_option maxRecDepth 100000 in
theorem ti_108_5 : dp_tab 108 5 = (.aload_n 0, 1) := by decide +kernel
set_option maxRecDepth 100000 in
theorem ti_108_6 : dp_tab 108 6 = (.iload_n 1, 1) := by decide +kernel
set_option maxRecDepth 100000 in
theorem ti_108_7 : dp_tab 108 7 = (.invokevirtual 64, 3) := by decide +kernel
set_option maxRecDepth 100000 in
theorem ti_108_10 : dp_tab 108 10 = (.ifCond .eq 30, 3) := by decide +kernel
set_option maxRecDepth 100000 in
theorem ti_108_13 : dp_tab 108 13 = (.iload_n 2, 1) := by decide +kernel
set_option maxRecDepth 100000 in
theorem ti_108_14 : dp_tab 108 14 = (.iconst 0, 1) := by decide +kernel
set_option maxRecDepth 100000 in
theorem ti_108_15 : dp_tab 108 15 = (.aload_n 0, 1) := by decide +kernel
set_option maxRecDepth 100000 in
theorem ti_108_16 : dp_tab 108 16 = (.iload_n 1, 1) := by decide +kernel
set_option maxRecDepth 100000 in
theorem ti_108_17 : dp_tab 108 17 = (.iconst 1, 1) := by decide +kernel
set_option maxRecDepth 100000 in
theorem ti_108_18 : dp_tab 108 18 = (.invokevirtual 61, 3) := by decide +kernel
set_option maxRecDepth 100000 in
theorem ti_108_21 : dp_tab 108 21 = (.iconst 1, 1) := by decide +kernel
set_option maxRecDepth 100000 in
theorem ti_108_22 : dp_tab 108 22 = (.isub, 1) := by decide +kernel
set_option maxRecDepth 100000 in
theorem ti_108_23 : dp_tab 108 23 = (.invokestatic 26, 3) := by decide +kernel
set_option maxRecDepth 100000 in
theorem ti_108_26 : dp_tab 108 26 = (.ifCond .eq 14, 3) := by decide +kernel
set_option maxRecDepth 100000 in
theorem ti_108_29 : dp_tab 108 29 = (.aload_n 0, 1) := by decide +kernel
set_option maxRecDepth 100000 in
theorem ti_108_30 : dp_tab 108 30 = (.iload_n 1, 1) := by decide +kernel
set_option maxRecDepth 100000 in
theorem ti_108_31 : dp_tab 108 31 = (.iconst 5, 1) := by decide +kernel
set_option maxRecDepth 100000 in
theorem ti_108_32 : dp_tab 108 32 = (.iload_n 2, 1) := by decide +kernel
set_option maxRecDepth 100000 in
theorem ti_108_33 : dp_tab 108 33 = (.iadd, 1) := by decide +kernel
set_option maxRecDepth 100000 in
theorem ti_108_34 : dp_tab 108 34 = (.invokevirtual 61, 3) := by decide +kernel
set_option maxRecDepth 100000 in
theorem ti_108_37 : dp_tab 108 37 = (.goto 8, 3) := by decide +kernel
set_option maxRecDepth 100000 in
theorem ti_108_40 : dp_tab 108 40 = (.aload_n 0, 1) := by decide +kernel
set_option maxRecDepth 100000 in
theorem ti_108_41 : dp_tab 108 41 = (.iconst 1, 1) := by decide +kernel
set_option maxRecDepth 100000 in
theorem ti_108_42 : dp_tab 108 42 = (.invokevirtual 40, 3) := by decide +kernel
set_option maxRecDepth 100000 in
theorem ti_108_45 : dp_tab 108 45 = (.ireturn, 1) := by decide +kernel
set_option maxRecDepth 100000 in
theorem ti_109_0 : dp_tab 109 0 = (.iconst 0, 1) := by decide +kernel
set_option maxRecDepth 100000 in
theorem ti_109_1 : dp_tab 109 1 = (.istore_n 2, 1) := by decide +kernel
set_option maxRecDepth 100000 in
theorem ti_109_2 : dp_tab 109 2 = (.iload_n 1, 1) := by decide +kernel
set_option maxRecDepth 100000 in
theorem ti_109_3 : dp_tab 109 3 = (.tableswitch 167 0 5 #[37, 42, 47, 74, 136, 141], 37) := by decide +kernel
set_option maxRecDepth 100000 in
theorem ti_109_40 : dp_tab 109 40 = (.aload_n 0, 1) := by decide +kernel
set_option maxRecDepth 100000 in
theorem ti_109_41 : dp_tab 109 41 = (.getfield 23, 3) := by decide +kernel
set_option maxRecDepth 100000 in
theorem ti_109_44 : dp_tab 109 44 = (.ireturn, 1) := by decide +kernel
set_option maxRecDepth 100000 in
theorem ti_109_45 : dp_tab 109 45 = (.aload_n 0, 1) := by decide +kernel
set_option maxRecDepth 100000 in
theorem ti_109_46 : dp_tab 109 46 = (.getfield 30, 3) := by decide +kernel
set_option maxRecDepth 100000 in
theorem ti_109_49 : dp_tab 109 49 = (.ireturn, 1) := by decide +kernel
set_option maxRecDepth 100000 in
theorem ti_109_50 : dp_tab 109 50 = (.iconst 0, 1) := by decide +kernel
set_option maxRecDepth 100000 in
theorem ti_109_51 : dp_tab 109 51 = (.istore_n 3, 1) := by decide +kernel
set_option maxRecDepth 100000 in
theorem ti_109_52 : dp_tab 109 52 = (.iload_n 3, 1) := by decide +kernel
set_option maxRecDepth 100000 in
theorem ti_109_53 : dp_tab 109 53 = (.aload_n 0, 1) := by decide +kernel
set_option maxRecDepth 100000 in
theorem ti_109_54 : dp_tab 109 54 = (.getfield 23, 3) := by decide +kernel
set_option maxRecDepth 100000 in
theorem ti_109_57 : dp_tab 109 57 = (.if_icmp .ge 18, 3) := by decide +kernel
set_option maxRecDepth 100000 in
theorem ti_109_60 : dp_tab 109 60 = (.iload_n 2, 1) := by decide +kernel
set_option maxRecDepth 100000 in
theorem ti_109_61 : dp_tab 109 61 = (.aload_n 0, 1) := by decide +kernel
set_option maxRecDepth 100000 in
theorem ti_109_62 : dp_tab 109 62 = (.iload_n 3, 1) := by decide +kernel
set_option maxRecDepth 100000 in
theorem ti_109_63 : dp_tab 109 63 = (.iconst 0, 1) := by decide +kernel
set_option maxRecDepth 100000 in
theorem ti_109_64 : dp_tab 109 64 = (.invokevirtual 47, 3) := by decide +kernel
set_option maxRecDepth 100000 in
theorem ti_109_67 : dp_tab 109 67 = (.iadd, 1) := by decide +kernel
set_option maxRecDepth 100000 in
theorem ti_109_68 : dp_tab 109 68 = (.istore_n 2, 1) := by decide +kernel
set_option maxRecDepth 100000 in
theorem ti_109_69 : dp_tab 109 69 = (.iinc 3 1, 3) := by decide +kernel
set_option maxRecDepth 100000 in
theorem ti_109_72 : dp_tab 109 72 = (.goto (-20), 3) := by decide +kernel
set_option maxRecDepth 100000 in
theorem ti_109_75 : dp_tab 109 75 = (.iload_n 2, 1) := by decide +kernel
set_option maxRecDepth 100000 in
theorem ti_109_76 : dp_tab 109 76 = (.ireturn, 1) := by decide +kernel
set_option maxRecDepth 100000 in
theorem ti_109_77 : dp_tab 109 77 = (.iconst 0, 1) := by decide +kernel
set_option maxRecDepth 100000 in
theorem ti_109_78 : dp_tab 109 78 = (.istore_n 3, 1) := by decide +kernel
set_option maxRecDepth 100000 in
theorem ti_109_79 : dp_tab 109 79 = (.iload_n 3, 1) := by decide +kernel
set_option maxRecDepth 100000 in
theorem ti_109_80 : dp_tab 109 80 = (.bipush 20, 2) := by decide +kernel
set_option maxRecDepth 100000 in
theorem ti_109_82 : dp_tab 109 82 = (.if_icmp .ge 55, 3) := by decide +kernel
set_option maxRecDepth 100000 in
theorem ti_109_85 : dp_tab 109 85 = (.iconst 0, 1) := by decide +kernel
set_option maxRecDepth 100000 in
theorem ti_109_86 : dp_tab 109 86 = (.istore 4, 2) := by decide +kernel
set_option maxRecDepth 100000 in
theorem ti_109_88 : dp_tab 109 88 = (.iconst 0, 1) := by decide +kernel
set_option maxRecDepth 100000 in
theorem ti_109_89 : dp_tab 109 89 = (.istore 5, 2) := by decide +kernel
set_option maxRecDepth 100000 in
theorem ti_109_91 : dp_tab 109 91 = (.iload 5, 2) := by decide +kernel
set_option maxRecDepth 100000 in
theorem ti_109_93 : dp_tab 109 93 = (.aload_n 0, 1) := by decide +kernel
set_option maxRecDepth 100000 in
theorem ti_109_94 : dp_tab 109 94 = (.getfield 23, 3) := by decide +kernel
set_option maxRecDepth 100000 in
theorem ti_109_97 : dp_tab 109 97 = (.if_icmp .ge 21, 3) := by decide +kernel
set_option maxRecDepth 100000 in
theorem ti_109_100 : dp_tab 109 100 = (.iload 4, 2) := by decide +kernel
set_option maxRecDepth 100000 in
theorem ti_109_102 : dp_tab 109 102 = (.aload_n 0, 1) := by decide +kernel
set_option maxRecDepth 100000 in
theorem ti_109_103 : dp_tab 109 103 = (.iload 5, 2) := by decide +kernel
set_option maxRecDepth 100000 in
theorem ti_109_105 : dp_tab 109 105 = (.iload_n 3, 1) := by decide +kernel
set_option maxRecDepth 100000 in
theorem ti_109_106 : dp_tab 109 106 = (.invokevirtual 75, 3) := by decide +kernel
set_option maxRecDepth 100000 in
theorem ti_109_109 : dp_tab 109 109 = (.iadd, 1) := by decide +kernel
set_option maxRecDepth 100000 in
theorem ti_109_110 : dp_tab 109 110 = (.istore 4, 2) := by decide +kernel
set_option maxRecDepth 100000 in
theorem ti_109_112 : dp_tab 109 112 = (.iinc 5 1, 3) := by decide +kernel
set_option maxRecDepth 100000 in
theorem ti_109_115 : dp_tab 109 115 = (.goto (-24), 3) := by decide +kernel
set_option maxRecDepth 100000 in
theorem ti_109_118 : dp_tab 109 118 = (.iload_n 2, 1) := by decide +kernel
set_option maxRecDepth 100000 in
theorem ti_109_119 : dp_tab 109 119 = (.iload 4, 2) := by decide +kernel
set_option maxRecDepth 100000 in
theorem ti_109_121 : dp_tab 109 121 = (.ifCond .le 7, 3) := by decide +kernel
set_option maxRecDepth 100000 in
theorem ti_109_124 : dp_tab 109 124 = (.iconst 1, 1) := by decide +kernel
set_option maxRecDepth 100000 in
theorem ti_109_125 : dp_tab 109 125 = (.goto 4, 3) := by decide +kernel
set_option maxRecDepth 100000 in
theorem ti_109_128 : dp_tab 109 128 = (.iconst 0, 1) := by decide +kernel
set_option maxRecDepth 100000 in
theorem ti_109_129 : dp_tab 109 129 = (.iadd, 1) := by decide +kernel
set_option maxRecDepth 100000 in
theorem ti_109_130 : dp_tab 109 130 = (.istore_n 2, 1) := by decide +kernel
set_option maxRecDepth 100000 in
theorem ti_109_131 : dp_tab 109 131 = (.iinc 3 1, 3) := by decide +kernel
set_option maxRecDepth 100000 in
theorem ti_109_134 : dp_tab 109 134 = (.goto (-55), 3) := by decide +kernel
set_option maxRecDepth 100000 in
theorem ti_109_137 : dp_tab 109 137 = (.iload_n 2, 1) := by decide +kernel
set_option maxRecDepth 100000 in
theorem ti_109_138 : dp_tab 109 138 = (.ireturn, 1) := by decide +kernel
set_option maxRecDepth 100000 in
theorem ti_109_139 : dp_tab 109 139 = (.aload_n 0, 1) := by decide +kernel
set_option maxRecDepth 100000 in
theorem ti_109_140 : dp_tab 109 140 = (.getfield 100, 3) := by decide +kernel
set_option maxRecDepth 100000 in
theorem ti_109_143 : dp_tab 109 143 = (.ireturn, 1) := by decide +kernel
set_option maxRecDepth 100000 in
theorem ti_109_144 : dp_tab 109 144 = (.iconst 0, 1) := by decide +kernel
set_option maxRecDepth 100000 in
theorem ti_109_145 : dp_tab 109 145 = (.istore_n 3, 1) := by decide +kernel
set_option maxRecDepth 100000 in
theorem ti_109_146 : dp_tab 109 146 = (.iload_n 3, 1) := by decide +kernel
set_option maxRecDepth 100000 in
theorem ti_109_147 : dp_tab 109 147 = (.aload_n 0, 1) := by decide +kernel
set_option maxRecDepth 100000 in
theorem ti_109_148 : dp_tab 109 148 = (.getfield 30, 3) := by decide +kernel
set_option maxRecDepth 100000 in
theorem ti_109_151 : dp_tab 109 151 = (.if_icmp .ge 17, 3) := by decide +kernel
set_option maxRecDepth 100000 in
theorem ti_109_154 : dp_tab 109 154 = (.iload_n 2, 1) := by decide +kernel
set_option maxRecDepth 100000 in
theorem ti_109_155 : dp_tab 109 155 = (.aload_n 0, 1) := by decide +kernel
set_option maxRecDepth 100000 in
theorem ti_109_156 : dp_tab 109 156 = (.iload_n 3, 1) := by decide +kernel
set_option maxRecDepth 100000 in
theorem ti_109_157 : dp_tab 109 157 = (.invokevirtual 119, 3) := by decide +kernel
set_option maxRecDepth 100000 in
theorem ti_109_160 : dp_tab 109 160 = (.iadd, 1) := by decide +kernel
set_option maxRecDepth 100000 in
theorem ti_109_161 : dp_tab 109 161 = (.istore_n 2, 1) := by decide +kernel
set_option maxRecDepth 100000 in
theorem ti_109_162 : dp_tab 109 162 = (.iinc 3 1, 3) := by decide +kernel
set_option maxRecDepth 100000 in
theorem ti_109_165 : dp_tab 109 165 = (.goto (-19), 3) := by decide +kernel
set_option maxRecDepth 100000 in
theorem ti_109_168 : dp_tab 109 168 = (.iload_n 2, 1) := by decide +kernel
set_option maxRecDepth 100000 in
theorem ti_109_169 : dp_tab 109 169 = (.ireturn, 1) := by decide +kernel
set_option maxRecDepth 100000 in
theorem ti_109_170 : dp_tab 109 170 = (.iconst 0, 1) := by decide +kernel
set_option maxRecDepth 100000 in
theorem ti_109_171 : dp_tab 109 171 = (.istore_n 3, 1) := by decide +kernel
set_option maxRecDepth 100000 in
theorem ti_109_172 : dp_tab 109 172 = (.iload_n 3, 1) := by decide +kernel
set_option maxRecDepth 100000 in
theorem ti_109_173 : dp_tab 109 173 = (.aload_n 0, 1) := by decide +kernel
set_option maxRecDepth 100000 in
theorem ti_109_174 : dp_tab 109 174 = (.getfield 30, 3) := by decide +kernel
set_option maxRecDepth 100000 in
theorem ti_109_177 : dp_tab 109 177 = (.if_icmp .ge 18, 3) := by decide +kernel
set_option maxRecDepth 100000 in
theorem ti_109_180 : dp_tab 109 180 = (.iload_n 2, 1) := by decide +kernel
set_option maxRecDepth 100000 in
theorem ti_109_181 : dp_tab 109 181 = (.aload_n 0, 1) := by decide +kernel
set_option maxRecDepth 100000 in
theorem ti_109_182 : dp_tab 109 182 = (.iload_n 3, 1) := by decide +kernel
set_option maxRecDepth 100000 in
theorem ti_109_183 : dp_tab 109 183 = (.iconst 3, 1) := by decide +kernel
set_option maxRecDepth 100000 in
theorem ti_109_184 : dp_tab 109 184 = (.invokevirtual 61, 3) := by decide +kernel
set_option maxRecDepth 100000 in
theorem ti_109_187 : dp_tab 109 187 = (.iadd, 1) := by decide +kernel
set_option maxRecDepth 100000 in
theorem ti_109_188 : dp_tab 109 188 = (.istore_n 2, 1) := by decide +kernel
set_option maxRecDepth 100000 in
theorem ti_109_189 : dp_tab 109 189 = (.iinc 3 1, 3) := by decide +kernel
set_option maxRecDepth 100000 in
theorem ti_109_192 : dp_tab 109 192 = (.goto (-20), 3) := by decide +kernel
set_option maxRecDepth 100000 in
theorem ti_109_195 : dp_tab 109 195 = (.iload_n 2, 1) := by decide +kernel
set_option maxRecDepth 100000 in
theorem ti_109_196 : dp_tab 109 196 = (.ireturn, 1) := by decide +kernel
set_option maxRecDepth 100000 in
theorem ti_110_0 : dp_tab 110 0 = (.aload_n 0, 1) := by decide +kernel
set_option maxRecDepth 100000 in
theorem ti_110_1 : dp_tab 110 1 = (.iconst 0, 1) := by decide +kernel
set_option maxRecDepth 100000 in
theorem ti_110_2 : dp_tab 110 2 = (.putfield 19, 3) := by decide +kernel
set_option maxRecDepth 100000 in
theorem ti_110_5 : dp_tab 110 5 = (.iload_n 1, 1) := by decide +kernel
set_option maxRecDepth 100000 in
theorem ti_110_6 : dp_tab 110 6 = (.iconst 0, 1) := by decide +kernel
set_option maxRecDepth 100000 in
theorem ti_110_7 : dp_tab 110 7 = (.bipush 6, 2) := by decide +kernel
set_option maxRecDepth 100000 in
theorem ti_110_9 : dp_tab 110 9 = (.invokestatic 26, 3) := by decide +kernel
set_option maxRecDepth 100000 in
theorem ti_110_12 : dp_tab 110 12 = (.ifCond .eq 11, 3) := by decide +kernel
set_option maxRecDepth 100000 in
theorem ti_110_15 : dp_tab 110 15 = (.aload_n 0, 1) := by decide +kernel
set_option maxRecDepth 100000 in
theorem ti_110_16 : dp_tab 110 16 = (.iload_n 1, 1) := by decide +kernel
set_option maxRecDepth 100000 in
theorem ti_110_17 : dp_tab 110 17 = (.invokevirtual 128, 3) := by decide +kernel
set_option maxRecDepth 100000 in
theorem ti_110_20 : dp_tab 110 20 = (.goto 8, 3) := by decide +kernel
set_option maxRecDepth 100000 in
theorem ti_110_23 : dp_tab 110 23 = (.aload_n 0, 1) := by decide +kernel
set_option maxRecDepth 100000 in
theorem ti_110_24 : dp_tab 110 24 = (.iconst 1, 1) := by decide +kernel
set_option maxRecDepth 100000 in
theorem ti_110_25 : dp_tab 110 25 = (.invokevirtual 40, 3) := by decide +kernel
set_option maxRecDepth 100000 in
theorem ti_110_28 : dp_tab 110 28 = (.ireturn, 1) := by decide +kernel
set_option maxRecDepth 100000 in
theorem ti_111_0 : dp_tab 111 0 = (.aload_n 0, 1) := by decide +kernel
set_option maxRecDepth 100000 in
theorem ti_111_1 : dp_tab 111 1 = (.iconst 0, 1) := by decide +kernel
set_option maxRecDepth 100000 in
theorem ti_111_2 : dp_tab 111 2 = (.putfield 19, 3) := by decide +kernel
set_option maxRecDepth 100000 in
theorem ti_111_5 : dp_tab 111 5 = (.iload_n 1, 1) := by decide +kernel
set_option maxRecDepth 100000 in
theorem ti_111_6 : dp_tab 111 6 = (.invokestatic 37, 3) := by decide +kernel
set_option maxRecDepth 100000 in
theorem ti_111_9 : dp_tab 111 9 = (.ifCond .eq 11, 3) := by decide +kernel
set_option maxRecDepth 100000 in
theorem ti_111_12 : dp_tab 111 12 = (.aload_n 0, 1) := by decide +kernel
set_option maxRecDepth 100000 in
theorem ti_111_13 : dp_tab 111 13 = (.iload_n 1, 1) := by decide +kernel
set_option maxRecDepth 100000 in
theorem ti_111_14 : dp_tab 111 14 = (.invokevirtual 78, 3) := by decide +kernel
set_option maxRecDepth 100000 in
theorem ti_111_17 : dp_tab 111 17 = (.goto 8, 3) := by decide +kernel
set_option maxRecDepth 100000 in
theorem ti_111_20 : dp_tab 111 20 = (.aload_n 0, 1) := by decide +kernel
set_option maxRecDepth 100000 in
theorem ti_111_21 : dp_tab 111 21 = (.iconst 1, 1) := by decide +kernel
set_option maxRecDepth 100000 in
theorem ti_111_22 : dp_tab 111 22 = (.invokevirtual 40, 3) := by decide +kernel
set_option maxRecDepth 100000 in
theorem ti_111_25 : dp_tab 111 25 = (.ireturn, 1) := by decide +kernel
set_option maxRecDepth 100000 in
theorem ti_112_0 : dp_tab 112 0 = (.aload_n 0, 1) := by decide +kernel
set_option maxRecDepth 100000 in
theorem ti_112_1 : dp_tab 112 1 = (.iconst 0, 1) := by decide +kernel
set_option maxRecDepth 100000 in
theorem ti_112_2 : dp_tab 112 2 = (.putfield 19, 3) := by decide +kernel
set_option maxRecDepth 100000 in
theorem ti_112_5 : dp_tab 112 5 = (.aload_n 0, 1) := by decide +kernel
set_option maxRecDepth 100000 in
theorem ti_112_6 : dp_tab 112 6 = (.iload_n 1, 1) := by decide +kernel
set_option maxRecDepth 100000 in
theorem ti_112_7 : dp_tab 112 7 = (.invokevirtual 64, 3) := by decide +kernel
set_option maxRecDepth 100000 in
theorem ti_112_10 : dp_tab 112 10 = (.ifCond .eq 20, 3) := by decide +kernel
set_option maxRecDepth 100000 in
theorem ti_112_13 : dp_tab 112 13 = (.aload_n 0, 1) := by decide +kernel
set_option maxRecDepth 100000 in
theorem ti_112_14 : dp_tab 112 14 = (.iload_n 2, 1) := by decide +kernel
set_option maxRecDepth 100000 in
theorem ti_112_15 : dp_tab 112 15 = (.invokevirtual 44, 3) := by decide +kernel
set_option maxRecDepth 100000 in
theorem ti_112_18 : dp_tab 112 18 = (.ifCond .eq 12, 3) := by decide +kernel
set_option maxRecDepth 100000 in
theorem ti_112_21 : dp_tab 112 21 = (.aload_n 0, 1) := by decide +kernel
set_option maxRecDepth 100000 in
theorem ti_112_22 : dp_tab 112 22 = (.iload_n 1, 1) := by decide +kernel
set_option maxRecDepth 100000 in
theorem ti_112_23 : dp_tab 112 23 = (.iload_n 2, 1) := by decide +kernel
set_option maxRecDepth 100000 in
theorem ti_112_24 : dp_tab 112 24 = (.invokevirtual 84, 3) := by decide +kernel
set_option maxRecDepth 100000 in
theorem ti_112_27 : dp_tab 112 27 = (.goto 8, 3) := by decide +kernel
set_option maxRecDepth 100000 in
theorem ti_112_30 : dp_tab 112 30 = (.aload_n 0, 1) := by decide +kernel
set_option maxRecDepth 100000 in
theorem ti_112_31 : dp_tab 112 31 = (.iconst 1, 1) := by decide +kernel
set_option maxRecDepth 100000 in
theorem ti_112_32 : dp_tab 112 32 = (.invokevirtual 40, 3) := by decide +kernel
set_option maxRecDepth 100000 in
theorem ti_112_35 : dp_tab 112 35 = (.ireturn, 1) := by decide +kernel
set_option maxRecDepth 100000 in
theorem ti_113_0 : dp_tab 113 0 = (.aload_n 0, 1) := by decide +kernel
set_option maxRecDepth 100000 in
theorem ti_113_1 : dp_tab 113 1 = (.iconst 0, 1) := by decide +kernel
set_option maxRecDepth 100000 in
theorem ti_113_2 : dp_tab 113 2 = (.putfield 19, 3) := by decide +kernel
set_option maxRecDepth 100000 in
theorem ti_113_5 : dp_tab 113 5 = (.aload_n 0, 1) := by decide +kernel
set_option maxRecDepth 100000 in
theorem ti_113_6 : dp_tab 113 6 = (.iload_n 1, 1) := by decide +kernel
set_option maxRecDepth 100000 in
theorem ti_113_7 : dp_tab 113 7 = (.invokevirtual 64, 3) := by decide +kernel
set_option maxRecDepth 100000 in
theorem ti_113_10 : dp_tab 113 10 = (.ifCond .eq 27, 3) := by decide +kernel
set_option maxRecDepth 100000 in
theorem ti_113_13 : dp_tab 113 13 = (.iload_n 2, 1) := by decide +kernel
set_option maxRecDepth 100000 in
theorem ti_113_14 : dp_tab 113 14 = (.iconst 0, 1) := by decide +kernel
set_option maxRecDepth 100000 in
theorem ti_113_15 : dp_tab 113 15 = (.aload_n 0, 1) := by decide +kernel
set_option maxRecDepth 100000 in
theorem ti_113_16 : dp_tab 113 16 = (.iload_n 1, 1) := by decide +kernel
set_option maxRecDepth 100000 in
theorem ti_113_17 : dp_tab 113 17 = (.invokevirtual 122, 3) := by decide +kernel
set_option maxRecDepth 100000 in
theorem ti_113_20 : dp_tab 113 20 = (.iconst 1, 1) := by decide +kernel
set_option maxRecDepth 100000 in
theorem ti_113_21 : dp_tab 113 21 = (.isub, 1) := by decide +kernel
set_option maxRecDepth 100000 in
theorem ti_113_22 : dp_tab 113 22 = (.invokestatic 26, 3) := by decide +kernel
set_option maxRecDepth 100000 in
theorem ti_113_25 : dp_tab 113 25 = (.ifCond .eq 12, 3) := by decide +kernel
set_option maxRecDepth 100000 in
theorem ti_113_28 : dp_tab 113 28 = (.aload_n 0, 1) := by decide +kernel
set_option maxRecDepth 100000 in
theorem ti_113_29 : dp_tab 113 29 = (.iload_n 1, 1) := by decide +kernel
set_option maxRecDepth 100000 in
theorem ti_113_30 : dp_tab 113 30 = (.iload_n 2, 1) := by decide +kernel
set_option maxRecDepth 100000 in
theorem ti_113_31 : dp_tab 113 31 = (.invokevirtual 91, 3) := by decide +kernel
set_option maxRecDepth 100000 in
theorem ti_113_34 : dp_tab 113 34 = (.goto 8, 3) := by decide +kernel
set_option maxRecDepth 100000 in
theorem ti_113_37 : dp_tab 113 37 = (.aload_n 0, 1) := by decide +kernel
set_option maxRecDepth 100000 in
theorem ti_113_38 : dp_tab 113 38 = (.iconst 1, 1) := by decide +kernel
set_option maxRecDepth 100000 in
theorem ti_113_39 : dp_tab 113 39 = (.invokevirtual 40, 3) := by decide +kernel
set_option maxRecDepth 100000 in
theorem ti_113_42 : dp_tab 113 42 = (.ireturn, 1) := by decide +kernel
set_option maxRecDepth 100000 in
theorem ti_114_0 : dp_tab 114 0 = (.aload_n 0, 1) := by decide +kernel
set_option maxRecDepth 100000 in
theorem ti_114_1 : dp_tab 114 1 = (.iconst 0, 1) := by decide +kernel
set_option maxRecDepth 100000 in
theorem ti_114_2 : dp_tab 114 2 = (.putfield 19, 3) := by decide +kernel
set_option maxRecDepth 100000 in
theorem ti_114_5 : dp_tab 114 5 = (.aload_n 0, 1) := by decide +kernel
set_option maxRecDepth 100000 in
theorem ti_114_6 : dp_tab 114 6 = (.iload_n 1, 1) := by decide +kernel
set_option maxRecDepth 100000 in
theorem ti_114_7 : dp_tab 114 7 = (.invokevirtual 44, 3) := by decide +kernel
set_option maxRecDepth 100000 in
theorem ti_114_10 : dp_tab 114 10 = (.ifCond .eq 11, 3) := by decide +kernel
set_option maxRecDepth 100000 in
theorem ti_114_13 : dp_tab 114 13 = (.aload_n 0, 1) := by decide +kernel
set_option maxRecDepth 100000 in
theorem ti_114_14 : dp_tab 114 14 = (.iload_n 2, 1) := by decide +kernel
set_option maxRecDepth 100000 in
theorem ti_114_15 : dp_tab 114 15 = (.invokevirtual 44, 3) := by decide +kernel
set_option maxRecDepth 100000 in
theorem ti_114_18 : dp_tab 114 18 = (.ifCond .ne 9, 3) := by decide +kernel
set_option maxRecDepth 100000 in
theorem ti_114_21 : dp_tab 114 21 = (.aload_n 0, 1) := by decide +kernel
set_option maxRecDepth 100000 in
theorem ti_114_22 : dp_tab 114 22 = (.iconst 1, 1) := by decide +kernel
set_option maxRecDepth 100000 in
theorem ti_114_23 : dp_tab 114 23 = (.invokevirtual 40, 3) := by decide +kernel
set_option maxRecDepth 100000 in
theorem ti_114_26 : dp_tab 114 26 = (.ireturn, 1) := by decide +kernel
set_option maxRecDepth 100000 in
theorem ti_114_27 : dp_tab 114 27 = (.aload_n 0, 1) := by decide +kernel
set_option maxRecDepth 100000 in
theorem ti_114_28 : dp_tab 114 28 = (.iload_n 1, 1) := by decide +kernel
set_option maxRecDepth 100000 in
theorem ti_114_29 : dp_tab 114 29 = (.iconst 0, 1) := by decide +kernel
set_option maxRecDepth 100000 in
theorem ti_114_30 : dp_tab 114 30 = (.invokevirtual 47, 3) := by decide +kernel
set_option maxRecDepth 100000 in
theorem ti_114_33 : dp_tab 114 33 = (.aload_n 0, 1) := by decide +kernel
set_option maxRecDepth 100000 in
theorem ti_114_34 : dp_tab 114 34 = (.iload_n 2, 1) := by decide +kernel
set_option maxRecDepth 100000 in
theorem ti_114_35 : dp_tab 114 35 = (.iconst 0, 1) := by decide +kernel
set_option maxRecDepth 100000 in
theorem ti_114_36 : dp_tab 114 36 = (.invokevirtual 47, 3) := by decide +kernel
set_option maxRecDepth 100000 in
theorem ti_114_39 : dp_tab 114 39 = (.iadd, 1) := by decide +kernel
set_option maxRecDepth 100000 in
theorem ti_114_40 : dp_tab 114 40 = (.istore_n 3, 1) := by decide +kernel
set_option maxRecDepth 100000 in
theorem ti_114_41 : dp_tab 114 41 = (.iconst 0, 1) := by decide +kernel
set_option maxRecDepth 100000 in
theorem ti_114_42 : dp_tab 114 42 = (.istore 4, 2) := by decide +kernel
set_option maxRecDepth 100000 in
theorem ti_114_44 : dp_tab 114 44 = (.iconst 0, 1) := by decide +kernel
set_option maxRecDepth 100000 in
theorem ti_114_45 : dp_tab 114 45 = (.istore 5, 2) := by decide +kernel
set_option maxRecDepth 100000 in
theorem ti_114_47 : dp_tab 114 47 = (.iload 5, 2) := by decide +kernel
set_option maxRecDepth 100000 in
theorem ti_114_49 : dp_tab 114 49 = (.bipush 20, 2) := by decide +kernel
set_option maxRecDepth 100000 in
theorem ti_114_51 : dp_tab 114 51 = (.if_icmp .ge 33, 3) := by decide +kernel
set_option maxRecDepth 100000 in
theorem ti_114_54 : dp_tab 114 54 = (.iload 4, 2) := by decide +kernel
set_option maxRecDepth 100000 in
theorem ti_114_56 : dp_tab 114 56 = (.iconst 2, 1) := by decide +kernel
set_option maxRecDepth 100000 in
theorem ti_114_57 : dp_tab 114 57 = (.aload_n 0, 1) := by decide +kernel
set_option maxRecDepth 100000 in
theorem ti_114_58 : dp_tab 114 58 = (.iload_n 1, 1) := by decide +kernel
set_option maxRecDepth 100000 in
theorem ti_114_59 : dp_tab 114 59 = (.iload 5, 2) := by decide +kernel
set_option maxRecDepth 100000 in
theorem ti_114_61 : dp_tab 114 61 = (.invokevirtual 75, 3) := by decide +kernel
set_option maxRecDepth 100000 in
theorem ti_114_64 : dp_tab 114 64 = (.aload_n 0, 1) := by decide +kernel
set_option maxRecDepth 100000 in
theorem ti_114_65 : dp_tab 114 65 = (.iload_n 2, 1) := by decide +kernel
set_option maxRecDepth 100000 in
theorem ti_114_66 : dp_tab 114 66 = (.iload 5, 2) := by decide +kernel
set_option maxRecDepth 100000 in
theorem ti_114_68 : dp_tab 114 68 = (.invokevirtual 75, 3) := by decide +kernel
set_option maxRecDepth 100000 in
theorem ti_114_71 : dp_tab 114 71 = (.invokestatic 70, 3) := by decide +kernel
set_option maxRecDepth 100000 in
theorem ti_114_74 : dp_tab 114 74 = (.imul, 1) := by decide +kernel
set_option maxRecDepth 100000 in
theorem ti_114_75 : dp_tab 114 75 = (.iadd, 1) := by decide +kernel
set_option maxRecDepth 100000 in
theorem ti_114_76 : dp_tab 114 76 = (.istore 4, 2) := by decide +kernel
set_option maxRecDepth 100000 in
theorem ti_114_78 : dp_tab 114 78 = (.iinc 5 1, 3) := by decide +kernel
set_option maxRecDepth 100000 in
theorem ti_114_81 : dp_tab 114 81 = (.goto (-34), 3) := by decide +kernel
set_option maxRecDepth 100000 in
theorem ti_114_84 : dp_tab 114 84 = (.iload_n 3, 1) := by decide +kernel
set_option maxRecDepth 100000 in
theorem ti_114_85 : dp_tab 114 85 = (.ifCond .ne 7, 3) := by decide +kernel
set_option maxRecDepth 100000 in
theorem ti_114_88 : dp_tab 114 88 = (.iconst 0, 1) := by decide +kernel
set_option maxRecDepth 100000 in
theorem ti_114_89 : dp_tab 114 89 = (.goto 10, 3) := by decide +kernel
set_option maxRecDepth 100000 in
theorem ti_114_92 : dp_tab 114 92 = (.bipush 100, 2) := by decide +kernel
set_option maxRecDepth 100000 in
theorem ti_114_94 : dp_tab 114 94 = (.iload 4, 2) := by decide +kernel
set_option maxRecDepth 100000 in
theorem ti_114_96 : dp_tab 114 96 = (.imul, 1) := by decide +kernel
set_option maxRecDepth 100000 in
theorem ti_114_97 : dp_tab 114 97 = (.iload_n 3, 1) := by decide +kernel
set_option maxRecDepth 100000 in
theorem ti_114_98 : dp_tab 114 98 = (.idiv, 1) := by decide +kernel
set_option maxRecDepth 100000 in
theorem ti_114_99 : dp_tab 114 99 = (.ireturn, 1) := by decide +kernel
set_option maxRecDepth 100000 in
theorem ti_115_0 : dp_tab 115 0 = (.aload_n 0, 1) := by decide +kernel
set_option maxRecDepth 100000 in
theorem ti_115_1 : dp_tab 115 1 = (.iconst 0, 1) := by decide +kernel
set_option maxRecDepth 100000 in
theorem ti_115_2 : dp_tab 115 2 = (.putfield 19, 3) := by decide +kernel
set_option maxRecDepth 100000 in
theorem ti_115_5 : dp_tab 115 5 = (.aload_n 0, 1) := by decide +kernel
set_option maxRecDepth 100000 in
theorem ti_115_6 : dp_tab 115 6 = (.iload_n 1, 1) := by decide +kernel
set_option maxRecDepth 100000 in
theorem ti_115_7 : dp_tab 115 7 = (.invokevirtual 64, 3) := by decide +kernel
set_option maxRecDepth 100000 in
theorem ti_115_10 : dp_tab 115 10 = (.ifCond .ne 9, 3) := by decide +kernel
set_option maxRecDepth 100000 in
theorem ti_115_13 : dp_tab 115 13 = (.aload_n 0, 1) := by decide +kernel
set_option maxRecDepth 100000 in
theorem ti_115_14 : dp_tab 115 14 = (.iconst 1, 1) := by decide +kernel
set_option maxRecDepth 100000 in
theorem ti_115_15 : dp_tab 115 15 = (.invokevirtual 40, 3) := by decide +kernel
set_option maxRecDepth 100000 in
theorem ti_115_18 : dp_tab 115 18 = (.ireturn, 1) := by decide +kernel
set_option maxRecDepth 100000 in
theorem ti_115_19 : dp_tab 115 19 = (.aload_n 0, 1) := by decide +kernel
set_option maxRecDepth 100000 in
theorem ti_115_20 : dp_tab 115 20 = (.iload_n 1, 1) := by decide +kernel
set_option maxRecDepth 100000 in
theorem ti_115_21 : dp_tab 115 21 = (.iconst 1, 1) := by decide +kernel
set_option maxRecDepth 100000 in
theorem ti_115_22 : dp_tab 115 22 = (.invokevirtual 61, 3) := by decide +kernel
set_option maxRecDepth 100000 in
theorem ti_115_25 : dp_tab 115 25 = (.istore_n 2, 1) := by decide +kernel
set_option maxRecDepth 100000 in
theorem ti_115_26 : dp_tab 115 26 = (.iload_n 2, 1) := by decide +kernel
set_option maxRecDepth 100000 in
theorem ti_115_27 : dp_tab 115 27 = (.iconst 5, 1) := by decide +kernel
set_option maxRecDepth 100000 in
theorem ti_115_28 : dp_tab 115 28 = (.if_icmp .ne 5, 3) := by decide +kernel
set_option maxRecDepth 100000 in
theorem ti_115_31 : dp_tab 115 31 = (.iconst (-1), 1) := by decide +kernel
set_option maxRecDepth 100000 in
theorem ti_115_32 : dp_tab 115 32 = (.ireturn, 1) := by decide +kernel
set_option maxRecDepth 100000 in
theorem ti_115_33 : dp_tab 115 33 = (.iconst (-1), 1) := by decide +kernel
set_option maxRecDepth 100000 in
theorem ti_115_34 : dp_tab 115 34 = (.istore_n 3, 1) := by decide +kernel
set_option maxRecDepth 100000 in
theorem ti_115_35 : dp_tab 115 35 = (.iconst (-1), 1) := by decide +kernel
set_option maxRecDepth 100000 in
theorem ti_115_36 : dp_tab 115 36 = (.istore 4, 2) := by decide +kernel
set_option maxRecDepth 100000 in
theorem ti_115_38 : dp_tab 115 38 = (.iconst 0, 1) := by decide +kernel
set_option maxRecDepth 100000 in
theorem ti_115_39 : dp_tab 115 39 = (.istore 5, 2) := by decide +kernel
set_option maxRecDepth 100000 in
theorem ti_115_41 : dp_tab 115 41 = (.iload 5, 2) := by decide +kernel
set_option maxRecDepth 100000 in
theorem ti_115_43 : dp_tab 115 43 = (.bipush 20, 2) := by decide +kernel
set_option maxRecDepth 100000 in
theorem ti_115_45 : dp_tab 115 45 = (.if_icmp .ge 93, 3) := by decide +kernel
set_option maxRecDepth 100000 in
theorem ti_115_48 : dp_tab 115 48 = (.aload_n 0, 1) := by decide +kernel
set_option maxRecDepth 100000 in
theorem ti_115_49 : dp_tab 115 49 = (.iload_n 1, 1) := by decide +kernel
set_option maxRecDepth 100000 in
theorem ti_115_50 : dp_tab 115 50 = (.iload 5, 2) := by decide +kernel
set_option maxRecDepth 100000 in
theorem ti_115_52 : dp_tab 115 52 = (.invokevirtual 67, 3) := by decide +kernel
set_option maxRecDepth 100000 in
theorem ti_115_55 : dp_tab 115 55 = (.iconst (-1), 1) := by decide +kernel
set_option maxRecDepth 100000 in
theorem ti_115_56 : dp_tab 115 56 = (.if_icmp .eq 6, 3) := by decide +kernel
set_option maxRecDepth 100000 in
theorem ti_115_59 : dp_tab 115 59 = (.goto 73, 3) := by decide +kernel
set_option maxRecDepth 100000 in
theorem ti_115_62 : dp_tab 115 62 = (.aload_n 0, 1) := by decide +kernel
set_option maxRecDepth 100000 in
theorem ti_115_63 : dp_tab 115 63 = (.iload_n 1, 1) := by decide +kernel
set_option maxRecDepth 100000 in
theorem ti_115_64 : dp_tab 115 64 = (.iconst 5, 1) := by decide +kernel
set_option maxRecDepth 100000 in
theorem ti_115_65 : dp_tab 115 65 = (.iload_n 2, 1) := by decide +kernel
set_option maxRecDepth 100000 in
theorem ti_115_66 : dp_tab 115 66 = (.iadd, 1) := by decide +kernel
set_option maxRecDepth 100000 in
theorem ti_115_67 : dp_tab 115 67 = (.iload 5, 2) := by decide +kernel
set_option maxRecDepth 100000 in
theorem ti_115_69 : dp_tab 115 69 = (.invokevirtual 57, 3) := by decide +kernel
set_option maxRecDepth 100000 in
theorem ti_115_72 : dp_tab 115 72 = (.aload_n 0, 1) := by decide +kernel
set_option maxRecDepth 100000 in
theorem ti_115_73 : dp_tab 115 73 = (.iload_n 1, 1) := by decide +kernel
set_option maxRecDepth 100000 in
theorem ti_115_74 : dp_tab 115 74 = (.iconst 1, 1) := by decide +kernel
set_option maxRecDepth 100000 in
theorem ti_115_75 : dp_tab 115 75 = (.iload_n 2, 1) := by decide +kernel
set_option maxRecDepth 100000 in
theorem ti_115_76 : dp_tab 115 76 = (.iconst 1, 1) := by decide +kernel
set_option maxRecDepth 100000 in
theorem ti_115_77 : dp_tab 115 77 = (.iadd, 1) := by decide +kernel
set_option maxRecDepth 100000 in
theorem ti_115_78 : dp_tab 115 78 = (.invokevirtual 57, 3) := by decide +kernel
set_option maxRecDepth 100000 in
theorem ti_115_81 : dp_tab 115 81 = (.aload_n 0, 1) := by decide +kernel
set_option maxRecDepth 100000 in
theorem ti_115_82 : dp_tab 115 82 = (.iload_n 1, 1) := by decide +kernel
set_option maxRecDepth 100000 in
theorem ti_115_83 : dp_tab 115 83 = (.iconst 0, 1) := by decide +kernel
set_option maxRecDepth 100000 in
theorem ti_115_84 : dp_tab 115 84 = (.invokevirtual 91, 3) := by decide +kernel
set_option maxRecDepth 100000 in
theorem ti_115_87 : dp_tab 115 87 = (.iconst (-1), 1) := by decide +kernel
set_option maxRecDepth 100000 in
theorem ti_115_88 : dp_tab 115 88 = (.if_icmp .ne 7, 3) := by decide +kernel
set_option maxRecDepth 100000 in
theorem ti_115_91 : dp_tab 115 91 = (.iconst (-1), 1) := by decide +kernel
set_option maxRecDepth 100000 in
theorem ti_115_92 : dp_tab 115 92 = (.goto 14, 3) := by decide +kernel
set_option maxRecDepth 100000 in
theorem ti_115_95 : dp_tab 115 95 = (.aload_n 0, 1) := by decide +kernel
set_option maxRecDepth 100000 in
theorem ti_115_96 : dp_tab 115 96 = (.iload_n 1, 1) := by decide +kernel
set_option maxRecDepth 100000 in
theorem ti_115_97 : dp_tab 115 97 = (.aload_n 0, 1) := by decide +kernel
set_option maxRecDepth 100000 in
theorem ti_115_98 : dp_tab 115 98 = (.iload_n 1, 1) := by decide +kernel
set_option maxRecDepth 100000 in
theorem ti_115_99 : dp_tab 115 99 = (.iconst 0, 1) := by decide +kernel
set_option maxRecDepth 100000 in
theorem ti_115_100 : dp_tab 115 100 = (.invokevirtual 91, 3) := by decide +kernel
set_option maxRecDepth 100000 in
theorem ti_115_103 : dp_tab 115 103 = (.invokevirtual 84, 3) := by decide +kernel
set_option maxRecDepth 100000 in
theorem ti_115_106 : dp_tab 115 106 = (.istore 6, 2) := by decide +kernel
set_option maxRecDepth 100000 in
theorem ti_115_108 : dp_tab 115 108 = (.aload_n 0, 1) := by decide +kernel
set_option maxRecDepth 100000 in
theorem ti_115_109 : dp_tab 115 109 = (.iload_n 1, 1) := by decide +kernel
set_option maxRecDepth 100000 in
theorem ti_115_110 : dp_tab 115 110 = (.iconst 1, 1) := by decide +kernel
set_option maxRecDepth 100000 in
theorem ti_115_111 : dp_tab 115 111 = (.iload_n 2, 1) := by decide +kernel
set_option maxRecDepth 100000 in
theorem ti_115_112 : dp_tab 115 112 = (.invokevirtual 57, 3) := by decide +kernel
set_option maxRecDepth 100000 in
theorem ti_115_115 : dp_tab 115 115 = (.iload 6, 2) := by decide +kernel
set_option maxRecDepth 100000 in
theorem ti_115_117 : dp_tab 115 117 = (.iload 4, 2) := by decide +kernel
set_option maxRecDepth 100000 in
theorem ti_115_119 : dp_tab 115 119 = (.if_icmp .gt 6, 3) := by decide +kernel
set_option maxRecDepth 100000 in
theorem ti_115_122 : dp_tab 115 122 = (.goto 10, 3) := by decide +kernel
set_option maxRecDepth 100000 in
theorem ti_115_125 : dp_tab 115 125 = (.iload 5, 2) := by decide +kernel
set_option maxRecDepth 100000 in
theorem ti_115_127 : dp_tab 115 127 = (.istore_n 3, 1) := by decide +kernel
set_option maxRecDepth 100000 in
theorem ti_115_128 : dp_tab 115 128 = (.iload 6, 2) := by decide +kernel
set_option maxRecDepth 100000 in
theorem ti_115_130 : dp_tab 115 130 = (.istore 4, 2) := by decide +kernel
set_option maxRecDepth 100000 in
theorem ti_115_132 : dp_tab 115 132 = (.iinc 5 1, 3) := by decide +kernel
set_option maxRecDepth 100000 in
theorem ti_115_135 : dp_tab 115 135 = (.goto (-94), 3) := by decide +kernel
set_option maxRecDepth 100000 in
theorem ti_115_138 : dp_tab 115 138 = (.iload_n 3, 1) := by decide +kernel
set_option maxRecDepth 100000 in
theorem ti_115_139 : dp_tab 115 139 = (.ireturn, 1) := by decide +kernel
set_option maxRecDepth 100000 in
theorem ti_116_0 : dp_tab 116 0 = (.aload_n 1, 1) := by decide +kernel
set_option maxRecDepth 100000 in
theorem ti_116_1 : dp_tab 116 1 = (.iconst 0, 1) := by decide +kernel
set_option maxRecDepth 100000 in
theorem ti_116_2 : dp_tab 116 2 = (.aload_n 0, 1) := by decide +kernel
set_option maxRecDepth 100000 in
theorem ti_116_3 : dp_tab 116 3 = (.getfield 13, 3) := by decide +kernel
set_option maxRecDepth 100000 in
theorem ti_116_6 : dp_tab 116 6 = (.iconst 0, 1) := by decide +kernel
set_option maxRecDepth 100000 in
theorem ti_116_7 : dp_tab 116 7 = (.aload_n 0, 1) := by decide +kernel
set_option maxRecDepth 100000 in
theorem ti_116_8 : dp_tab 116 8 = (.getfield 13, 3) := by decide +kernel
set_option maxRecDepth 100000 in
theorem ti_116_11 : dp_tab 116 11 = (.arraylength, 1) := by decide +kernel
set_option maxRecDepth 100000 in
theorem ti_116_12 : dp_tab 116 12 = (.invokestatic 51, 3) := by decide +kernel
set_option maxRecDepth 100000 in
theorem ti_116_15 : dp_tab 116 15 = (.aload_n 2, 1) := by decide +kernel
set_option maxRecDepth 100000 in
theorem ti_116_16 : dp_tab 116 16 = (.iconst 0, 1) := by decide +kernel
set_option maxRecDepth 100000 in
theorem ti_116_17 : dp_tab 116 17 = (.aload_n 0, 1) := by decide +kernel
set_option maxRecDepth 100000 in
theorem ti_116_18 : dp_tab 116 18 = (.getfield 16, 3) := by decide +kernel
set_option maxRecDepth 100000 in
theorem ti_116_21 : dp_tab 116 21 = (.iconst 0, 1) := by decide +kernel
set_option maxRecDepth 100000 in
theorem ti_116_22 : dp_tab 116 22 = (.aload_n 0, 1) := by decide +kernel
set_option maxRecDepth 100000 in
theorem ti_116_23 : dp_tab 116 23 = (.getfield 16, 3) := by decide +kernel
set_option maxRecDepth 100000 in
theorem ti_116_26 : dp_tab 116 26 = (.arraylength, 1) := by decide +kernel
set_option maxRecDepth 100000 in
theorem ti_116_27 : dp_tab 116 27 = (.invokestatic 51, 3) := by decide +kernel
set_option maxRecDepth 100000 in
theorem ti_116_30 : dp_tab 116 30 = (.aload_n 0, 1) := by decide +kernel
set_option maxRecDepth 100000 in
theorem ti_116_31 : dp_tab 116 31 = (.iload_n 3, 1) := by decide +kernel
set_option maxRecDepth 100000 in
theorem ti_116_32 : dp_tab 116 32 = (.putfield 100, 3) := by decide +kernel
set_option maxRecDepth 100000 in
theorem ti_116_35 : dp_tab 116 35 = (.return_, 1) := by decide +kernel
set_option maxRecDepth 100000 in
theorem ti_117_0 : dp_tab 117 0 = (.aload_n 0, 1) := by decide +kernel
set_option maxRecDepth 100000 in
theorem ti_117_1 : dp_tab 117 1 = (.iconst 0, 1) := by decide +kernel
set_option maxRecDepth 100000 in
theorem ti_117_2 : dp_tab 117 2 = (.putfield 19, 3) := by decide +kernel
set_option maxRecDepth 100000 in
theorem ti_117_5 : dp_tab 117 5 = (.iload_n 1, 1) := by decide +kernel
set_option maxRecDepth 100000 in
theorem ti_117_6 : dp_tab 117 6 = (.iconst 1, 1) := by decide +kernel
set_option maxRecDepth 100000 in
theorem ti_117_7 : dp_tab 117 7 = (.bipush 30, 2) := by decide +kernel
set_option maxRecDepth 100000 in
theorem ti_117_9 : dp_tab 117 9 = (.invokestatic 26, 3) := by decide +kernel
set_option maxRecDepth 100000 in
theorem ti_117_12 : dp_tab 117 12 = (.ifCond .ne 9, 3) := by decide +kernel
set_option maxRecDepth 100000 in
theorem ti_117_15 : dp_tab 117 15 = (.aload_n 0, 1) := by decide +kernel
set_option maxRecDepth 100000 in
theorem ti_117_16 : dp_tab 117 16 = (.iconst 1, 1) := by decide +kernel
set_option maxRecDepth 100000 in
theorem ti_117_17 : dp_tab 117 17 = (.invokevirtual 40, 3) := by decide +kernel
set_option maxRecDepth 100000 in
theorem ti_117_20 : dp_tab 117 20 = (.ireturn, 1) := by decide +kernel
set_option maxRecDepth 100000 in
theorem ti_117_21 : dp_tab 117 21 = (.aload_n 0, 1) := by decide +kernel
set_option maxRecDepth 100000 in
theorem ti_117_22 : dp_tab 117 22 = (.iload_n 2, 1) := by decide +kernel
set_option maxRecDepth 100000 in
theorem ti_117_23 : dp_tab 117 23 = (.invokevirtual 64, 3) := by decide +kernel
set_option maxRecDepth 100000 in
theorem ti_117_26 : dp_tab 117 26 = (.ifCond .ne 9, 3) := by decide +kernel
set_option maxRecDepth 100000 in
theorem ti_117_29 : dp_tab 117 29 = (.aload_n 0, 1) := by decide +kernel
set_option maxRecDepth 100000 in
theorem ti_117_30 : dp_tab 117 30 = (.iconst 2, 1) := by decide +kernel
set_option maxRecDepth 100000 in
theorem ti_117_31 : dp_tab 117 31 = (.invokevirtual 40, 3) := by decide +kernel
set_option maxRecDepth 100000 in
theorem ti_117_34 : dp_tab 117 34 = (.ireturn, 1) := by decide +kernel
set_option maxRecDepth 100000 in
theorem ti_117_35 : dp_tab 117 35 = (.aload_n 0, 1) := by decide +kernel
set_option maxRecDepth 100000 in
theorem ti_117_36 : dp_tab 117 36 = (.getfield 13, 3) := by decide +kernel
set_option maxRecDepth 100000 in
theorem ti_117_39 : dp_tab 117 39 = (.invokevirtual 131, 3) := by decide +kernel
set_option maxRecDepth 100000 in
theorem ti_117_42 : dp_tab 117 42 = (.checkcast 132, 3) := by decide +kernel
set_option maxRecDepth 100000 in
theorem ti_117_45 : dp_tab 117 45 = (.astore_n 3, 1) := by decide +kernel
set_option maxRecDepth 100000 in
theorem ti_117_46 : dp_tab 117 46 = (.aload_n 0, 1) := by decide +kernel
set_option maxRecDepth 100000 in
theorem ti_117_47 : dp_tab 117 47 = (.getfield 16, 3) := by decide +kernel
set_option maxRecDepth 100000 in
theorem ti_117_50 : dp_tab 117 50 = (.invokevirtual 131, 3) := by decide +kernel
set_option maxRecDepth 100000 in
theorem ti_117_53 : dp_tab 117 53 = (.checkcast 132, 3) := by decide +kernel
set_option maxRecDepth 100000 in
theorem ti_117_56 : dp_tab 117 56 = (.astore 4, 2) := by decide +kernel
set_option maxRecDepth 100000 in
theorem ti_117_58 : dp_tab 117 58 = (.aload_n 0, 1) := by decide +kernel
set_option maxRecDepth 100000 in
theorem ti_117_59 : dp_tab 117 59 = (.getfield 100, 3) := by decide +kernel
set_option maxRecDepth 100000 in
theorem ti_117_62 : dp_tab 117 62 = (.istore 5, 2) := by decide +kernel
set_option maxRecDepth 100000 in
theorem ti_117_64 : dp_tab 117 64 = (.aload_n 0, 1) := by decide +kernel
set_option maxRecDepth 100000 in
theorem ti_117_65 : dp_tab 117 65 = (.iload_n 1, 1) := by decide +kernel
set_option maxRecDepth 100000 in
theorem ti_117_66 : dp_tab 117 66 = (.invokevirtual 107, 3) := by decide +kernel
set_option maxRecDepth 100000 in
theorem ti_117_69 : dp_tab 117 69 = (.pop, 1) := by decide +kernel
set_option maxRecDepth 100000 in
theorem ti_117_70 : dp_tab 117 70 = (.aload_n 0, 1) := by decide +kernel
set_option maxRecDepth 100000 in
theorem ti_117_71 : dp_tab 117 71 = (.iload_n 2, 1) := by decide +kernel
set_option maxRecDepth 100000 in
theorem ti_117_72 : dp_tab 117 72 = (.iconst 0, 1) := by decide +kernel
set_option maxRecDepth 100000 in
theorem ti_117_73 : dp_tab 117 73 = (.invokevirtual 61, 3) := by decide +kernel
set_option maxRecDepth 100000 in
theorem ti_117_76 : dp_tab 117 76 = (.istore 6, 2) := by decide +kernel
set_option maxRecDepth 100000 in
theorem ti_117_78 : dp_tab 117 78 = (.aload_n 0, 1) := by decide +kernel
set_option maxRecDepth 100000 in
theorem ti_117_79 : dp_tab 117 79 = (.aload_n 3, 1) := by decide +kernel
set_option maxRecDepth 100000 in
theorem ti_117_80 : dp_tab 117 80 = (.aload 4, 2) := by decide +kernel
set_option maxRecDepth 100000 in
theorem ti_117_82 : dp_tab 117 82 = (.iload 5, 2) := by decide +kernel
set_option maxRecDepth 100000 in
theorem ti_117_84 : dp_tab 117 84 = (.invokevirtual 136, 3) := by decide +kernel
set_option maxRecDepth 100000 in
theorem ti_117_87 : dp_tab 117 87 = (.iload 6, 2) := by decide +kernel
set_option maxRecDepth 100000 in
theorem ti_117_89 : dp_tab 117 89 = (.ireturn, 1) := by decide +kernel
set_option maxRecDepth 100000 in
theorem ti_118_0 : dp_tab 118 0 = (.iconst 0, 1) := by decide +kernel
set_option maxRecDepth 100000 in
theorem ti_118_1 : dp_tab 118 1 = (.istore_n 1, 1) := by decide +kernel
set_option maxRecDepth 100000 in
theorem ti_118_2 : dp_tab 118 2 = (.iload_n 1, 1) := by decide +kernel
set_option maxRecDepth 100000 in
theorem ti_118_3 : dp_tab 118 3 = (.aload_n 0, 1) := by decide +kernel
set_option maxRecDepth 100000 in
theorem ti_118_4 : dp_tab 118 4 = (.getfield 30, 3) := by decide +kernel
set_option maxRecDepth 100000 in
theorem ti_118_7 : dp_tab 118 7 = (.if_icmp .ge 41, 3) := by decide +kernel
set_option maxRecDepth 100000 in
theorem ti_118_10 : dp_tab 118 10 = (.aload_n 0, 1) := by decide +kernel
set_option maxRecDepth 100000 in
theorem ti_118_11 : dp_tab 118 11 = (.iload_n 1, 1) := by decide +kernel
set_option maxRecDepth 100000 in
theorem ti_118_12 : dp_tab 118 12 = (.iconst 0, 1) := by decide +kernel
set_option maxRecDepth 100000 in
theorem ti_118_13 : dp_tab 118 13 = (.invokevirtual 91, 3) := by decide +kernel
set_option maxRecDepth 100000 in
theorem ti_118_16 : dp_tab 118 16 = (.iconst (-1), 1) := by decide +kernel
set_option maxRecDepth 100000 in
theorem ti_118_17 : dp_tab 118 17 = (.if_icmp .eq 25, 3) := by decide +kernel
set_option maxRecDepth 100000 in
theorem ti_118_20 : dp_tab 118 20 = (.aload_n 0, 1) := by decide +kernel
set_option maxRecDepth 100000 in
theorem ti_118_21 : dp_tab 118 21 = (.iload_n 1, 1) := by decide +kernel
set_option maxRecDepth 100000 in
theorem ti_118_22 : dp_tab 118 22 = (.aload_n 0, 1) := by decide +kernel
set_option maxRecDepth 100000 in
theorem ti_118_23 : dp_tab 118 23 = (.iload_n 1, 1) := by decide +kernel
set_option maxRecDepth 100000 in
theorem ti_118_24 : dp_tab 118 24 = (.iconst 0, 1) := by decide +kernel
set_option maxRecDepth 100000 in
theorem ti_118_25 : dp_tab 118 25 = (.invokevirtual 91, 3) := by decide +kernel
set_option maxRecDepth 100000 in
theorem ti_118_28 : dp_tab 118 28 = (.invokevirtual 94, 3) := by decide +kernel
set_option maxRecDepth 100000 in
theorem ti_118_31 : dp_tab 118 31 = (.aload_n 0, 1) := by decide +kernel
set_option maxRecDepth 100000 in
theorem ti_118_32 : dp_tab 118 32 = (.iload_n 1, 1) := by decide +kernel
set_option maxRecDepth 100000 in
theorem ti_118_33 : dp_tab 118 33 = (.iconst 0, 1) := by decide +kernel
set_option maxRecDepth 100000 in
theorem ti_118_34 : dp_tab 118 34 = (.invokevirtual 61, 3) := by decide +kernel
set_option maxRecDepth 100000 in
theorem ti_118_37 : dp_tab 118 37 = (.if_icmp .le 5, 3) := by decide +kernel
set_option maxRecDepth 100000 in
theorem ti_118_40 : dp_tab 118 40 = (.iconst 1, 1) := by decide +kernel
set_option maxRecDepth 100000 in
theorem ti_118_41 : dp_tab 118 41 = (.ireturn, 1) := by decide +kernel
set_option maxRecDepth 100000 in
theorem ti_118_42 : dp_tab 118 42 = (.iinc 1 1, 3) := by decide +kernel
set_option maxRecDepth 100000 in
theorem ti_118_45 : dp_tab 118 45 = (.goto (-43), 3) := by decide +kernel
set_option maxRecDepth 100000 in
theorem ti_118_48 : dp_tab 118 48 = (.iconst 0, 1) := by decide +kernel
set_option maxRecDepth 100000 in
theorem ti_118_49 : dp_tab 118 49 = (.ireturn, 1) := by decide +kernel
set_option maxRecDepth 100000 in
theorem ti_119_0 : dp_tab 119 0 = (.aload_n 0, 1) := by decide +kernel
set_option maxRecDepth 100000 in
theorem ti_119_1 : dp_tab 119 1 = (.iconst 0, 1) := by decide +kernel
set_option maxRecDepth 100000 in
theorem ti_119_2 : dp_tab 119 2 = (.putfield 19, 3) := by decide +kernel
set_option maxRecDepth 100000 in
theorem ti_119_5 : dp_tab 119 5 = (.aload_n 0, 1) := by decide +kernel
set_option maxRecDepth 100000 in
theorem ti_119_6 : dp_tab 119 6 = (.getfield 13, 3) := by decide +kernel
set_option maxRecDepth 100000 in
theorem ti_119_9 : dp_tab 119 9 = (.invokevirtual 131, 3) := by decide +kernel
set_option maxRecDepth 100000 in
theorem ti_119_12 : dp_tab 119 12 = (.checkcast 132, 3) := by decide +kernel
set_option maxRecDepth 100000 in
theorem ti_119_15 : dp_tab 119 15 = (.astore_n 1, 1) := by decide +kernel
set_option maxRecDepth 100000 in
theorem ti_119_16 : dp_tab 119 16 = (.aload_n 0, 1) := by decide +kernel
set_option maxRecDepth 100000 in
theorem ti_119_17 : dp_tab 119 17 = (.getfield 16, 3) := by decide +kernel
set_option maxRecDepth 100000 in
theorem ti_119_20 : dp_tab 119 20 = (.invokevirtual 131, 3) := by decide +kernel
set_option maxRecDepth 100000 in
theorem ti_119_23 : dp_tab 119 23 = (.checkcast 132, 3) := by decide +kernel
set_option maxRecDepth 100000 in
theorem ti_119_26 : dp_tab 119 26 = (.astore_n 2, 1) := by decide +kernel
set_option maxRecDepth 100000 in
theorem ti_119_27 : dp_tab 119 27 = (.aload_n 0, 1) := by decide +kernel
set_option maxRecDepth 100000 in
theorem ti_119_28 : dp_tab 119 28 = (.getfield 100, 3) := by decide +kernel
set_option maxRecDepth 100000 in
theorem ti_119_31 : dp_tab 119 31 = (.istore_n 3, 1) := by decide +kernel
set_option maxRecDepth 100000 in
theorem ti_119_32 : dp_tab 119 32 = (.iconst 0, 1) := by decide +kernel
set_option maxRecDepth 100000 in
theorem ti_119_33 : dp_tab 119 33 = (.istore 4, 2) := by decide +kernel
set_option maxRecDepth 100000 in
theorem ti_119_35 : dp_tab 119 35 = (.iload 4, 2) := by decide +kernel
set_option maxRecDepth 100000 in
theorem ti_119_37 : dp_tab 119 37 = (.bipush 40, 2) := by decide +kernel
set_option maxRecDepth 100000 in
theorem ti_119_39 : dp_tab 119 39 = (.if_icmp .gt 21, 3) := by decide +kernel
set_option maxRecDepth 100000 in
theorem ti_119_42 : dp_tab 119 42 = (.aload_n 0, 1) := by decide +kernel
set_option maxRecDepth 100000 in
theorem ti_119_43 : dp_tab 119 43 = (.invokevirtual 140, 3) := by decide +kernel
set_option maxRecDepth 100000 in
theorem ti_119_46 : dp_tab 119 46 = (.ifCond .ne 14, 3) := by decide +kernel
set_option maxRecDepth 100000 in
theorem ti_119_49 : dp_tab 119 49 = (.aload_n 0, 1) := by decide +kernel
set_option maxRecDepth 100000 in
theorem ti_119_50 : dp_tab 119 50 = (.invokevirtual 103, 3) := by decide +kernel
set_option maxRecDepth 100000 in
theorem ti_119_53 : dp_tab 119 53 = (.pop, 1) := by decide +kernel
set_option maxRecDepth 100000 in
theorem ti_119_54 : dp_tab 119 54 = (.iinc 4 1, 3) := by decide +kernel
set_option maxRecDepth 100000 in
theorem ti_119_57 : dp_tab 119 57 = (.goto (-22), 3) := by decide +kernel
set_option maxRecDepth 100000 in
theorem ti_119_60 : dp_tab 119 60 = (.aload_n 0, 1) := by decide +kernel
set_option maxRecDepth 100000 in
theorem ti_119_61 : dp_tab 119 61 = (.aload_n 1, 1) := by decide +kernel
set_option maxRecDepth 100000 in
theorem ti_119_62 : dp_tab 119 62 = (.aload_n 2, 1) := by decide +kernel
set_option maxRecDepth 100000 in
theorem ti_119_63 : dp_tab 119 63 = (.iload_n 3, 1) := by decide +kernel
set_option maxRecDepth 100000 in
theorem ti_119_64 : dp_tab 119 64 = (.invokevirtual 136, 3) := by decide +kernel
set_option maxRecDepth 100000 in
theorem ti_119_67 : dp_tab 119 67 = (.iload 4, 2) := by decide +kernel
set_option maxRecDepth 100000 in
theorem ti_119_69 : dp_tab 119 69 = (.bipush 40, 2) := by decide +kernel
set_option maxRecDepth 100000 in
theorem ti_119_71 : dp_tab 119 71 = (.if_icmp .le 7, 3) := by decide +kernel
set_option maxRecDepth 100000 in
theorem ti_119_74 : dp_tab 119 74 = (.iconst (-1), 1) := by decide +kernel
set_option maxRecDepth 100000 in
theorem ti_119_75 : dp_tab 119 75 = (.goto 5, 3) := by decide +kernel
set_option maxRecDepth 100000 in
theorem ti_119_78 : dp_tab 119 78 = (.iload 4, 2) := by decide +kernel
set_option maxRecDepth 100000 in
theorem ti_119_80 : dp_tab 119 80 = (.ireturn, 1) := by decide +kernel
set_option maxRecDepth 100000 in
theorem ti_120_0 : dp_tab 120 0 = (.aload_n 0, 1) := by decide +kernel
set_option maxRecDepth 100000 in
theorem ti_120_1 : dp_tab 120 1 = (.iconst 0, 1) := by decide +kernel
set_option maxRecDepth 100000 in
theorem ti_120_2 : dp_tab 120 2 = (.putfield 19, 3) := by decide +kernel
set_option maxRecDepth 100000 in
theorem ti_120_5 : dp_tab 120 5 = (.aload_n 0, 1) := by decide +kernel
set_option maxRecDepth 100000 in
theorem ti_120_6 : dp_tab 120 6 = (.iconst 5, 1) := by decide +kernel
set_option maxRecDepth 100000 in
theorem ti_120_7 : dp_tab 120 7 = (.invokevirtual 128, 3) := by decide +kernel
set_option maxRecDepth 100000 in
theorem ti_120_10 : dp_tab 120 10 = (.ifCond .ne 7, 3) := by decide +kernel
set_option maxRecDepth 100000 in
theorem ti_120_13 : dp_tab 120 13 = (.dconst 0, 1) := by decide +kernel
set_option maxRecDepth 100000 in
theorem ti_120_14 : dp_tab 120 14 = (.goto 17, 3) := by decide +kernel
set_option maxRecDepth 100000 in
theorem ti_120_17 : dp_tab 120 17 = (.aload_n 0, 1) := by decide +kernel
set_option maxRecDepth 100000 in
theorem ti_120_18 : dp_tab 120 18 = (.bipush 6, 2) := by decide +kernel
set_option maxRecDepth 100000 in
theorem ti_120_20 : dp_tab 120 20 = (.invokevirtual 128, 3) := by decide +kernel
set_option maxRecDepth 100000 in
theorem ti_120_23 : dp_tab 120 23 = (.i2d, 1) := by decide +kernel
set_option maxRecDepth 100000 in
theorem ti_120_24 : dp_tab 120 24 = (.aload_n 0, 1) := by decide +kernel
set_option maxRecDepth 100000 in
theorem ti_120_25 : dp_tab 120 25 = (.iconst 5, 1) := by decide +kernel
set_option maxRecDepth 100000 in
theorem ti_120_26 : dp_tab 120 26 = (.invokevirtual 128, 3) := by decide +kernel
set_option maxRecDepth 100000 in
theorem ti_120_29 : dp_tab 120 29 = (.i2d, 1) := by decide +kernel
set_option maxRecDepth 100000 in
theorem ti_120_30 : dp_tab 120 30 = (.ddiv, 1) := by decide +kernel
set_option maxRecDepth 100000 in
theorem ti_120_31 : dp_tab 120 31 = (.dreturn, 1) := by decide +kernel
set_option maxRecDepth 100000 in
theorem ti_121_0 : dp_tab 121 0 = (.aload_n 0, 1) := by decide +kernel
set_option maxRecDepth 100000 in
theorem ti_121_1 : dp_tab 121 1 = (.iconst 0, 1) := by decide +kernel
set_option maxRecDepth 100000 in
theorem ti_121_2 : dp_tab 121 2 = (.putfield 19, 3) := by decide +kernel
set_option maxRecDepth 100000 in
theorem ti_121_5 : dp_tab 121 5 = (.ldc2_w 144, 3) := by decide +kernel
set_option maxRecDepth 100000 in
theorem ti_121_8 : dp_tab 121 8 = (.lstore_n 1, 1) := by decide +kernel
set_option maxRecDepth 100000 in
theorem ti_121_9 : dp_tab 121 9 = (.iconst 0, 1) := by decide +kernel
set_option maxRecDepth 100000 in
theorem ti_121_10 : dp_tab 121 10 = (.istore_n 3, 1) := by decide +kernel
set_option maxRecDepth 100000 in
theorem ti_121_11 : dp_tab 121 11 = (.iload_n 3, 1) := by decide +kernel
set_option maxRecDepth 100000 in
theorem ti_121_12 : dp_tab 121 12 = (.bipush 7, 2) := by decide +kernel
set_option maxRecDepth 100000 in
theorem ti_121_14 : dp_tab 121 14 = (.if_icmp .ge 22, 3) := by decide +kernel
set_option maxRecDepth 100000 in
theorem ti_121_17 : dp_tab 121 17 = (.lload_n 1, 1) := by decide +kernel
set_option maxRecDepth 100000 in
theorem ti_121_18 : dp_tab 121 18 = (.ldc2_w 146, 3) := by decide +kernel
set_option maxRecDepth 100000 in
theorem ti_121_21 : dp_tab 121 21 = (.lmul, 1) := by decide +kernel
set_option maxRecDepth 100000 in
theorem ti_121_22 : dp_tab 121 22 = (.aload_n 0, 1) := by decide +kernel
set_option maxRecDepth 100000 in
theorem ti_121_23 : dp_tab 121 23 = (.iload_n 3, 1) := by decide +kernel
set_option maxRecDepth 100000 in
theorem ti_121_24 : dp_tab 121 24 = (.invokevirtual 128, 3) := by decide +kernel
set_option maxRecDepth 100000 in
theorem ti_121_27 : dp_tab 121 27 = (.i2l, 1) := by decide +kernel
set_option maxRecDepth 100000 in
theorem ti_121_28 : dp_tab 121 28 = (.ladd, 1) := by decide +kernel
set_option maxRecDepth 100000 in
theorem ti_121_29 : dp_tab 121 29 = (.lstore_n 1, 1) := by decide +kernel
set_option maxRecDepth 100000 in
theorem ti_121_30 : dp_tab 121 30 = (.iinc 3 1, 3) := by decide +kernel
set_option maxRecDepth 100000 in
theorem ti_121_33 : dp_tab 121 33 = (.goto (-22), 3) := by decide +kernel
set_option maxRecDepth 100000 in
theorem ti_121_36 : dp_tab 121 36 = (.aload_n 0, 1) := by decide +kernel
set_option maxRecDepth 100000 in
theorem ti_121_37 : dp_tab 121 37 = (.getfield 9, 3) := by decide +kernel
set_option maxRecDepth 100000 in
theorem ti_121_40 : dp_tab 121 40 = (.astore_n 3, 1) := by decide +kernel
set_option maxRecDepth 100000 in
theorem ti_121_41 : dp_tab 121 41 = (.aload_n 3, 1) := by decide +kernel
set_option maxRecDepth 100000 in
theorem ti_121_42 : dp_tab 121 42 = (.arraylength, 1) := by decide +kernel
set_option maxRecDepth 100000 in
theorem ti_121_43 : dp_tab 121 43 = (.istore 4, 2) := by decide +kernel
set_option maxRecDepth 100000 in
theorem ti_121_45 : dp_tab 121 45 = (.iconst 0, 1) := by decide +kernel
set_option maxRecDepth 100000 in
theorem ti_121_46 : dp_tab 121 46 = (.istore 5, 2) := by decide +kernel
set_option maxRecDepth 100000 in
theorem ti_121_48 : dp_tab 121 48 = (.iload 5, 2) := by decide +kernel
set_option maxRecDepth 100000 in
theorem ti_121_50 : dp_tab 121 50 = (.iload 4, 2) := by decide +kernel
set_option maxRecDepth 100000 in
theorem ti_121_52 : dp_tab 121 52 = (.if_icmp .ge 25, 3) := by decide +kernel
set_option maxRecDepth 100000 in
theorem ti_121_55 : dp_tab 121 55 = (.aload_n 3, 1) := by decide +kernel
set_option maxRecDepth 100000 in
theorem ti_121_56 : dp_tab 121 56 = (.iload 5, 2) := by decide +kernel
set_option maxRecDepth 100000 in
theorem ti_121_58 : dp_tab 121 58 = (.iaload, 1) := by decide +kernel
set_option maxRecDepth 100000 in
theorem ti_121_59 : dp_tab 121 59 = (.istore 6, 2) := by decide +kernel
set_option maxRecDepth 100000 in
theorem ti_121_61 : dp_tab 121 61 = (.lload_n 1, 1) := by decide +kernel
set_option maxRecDepth 100000 in
theorem ti_121_62 : dp_tab 121 62 = (.ldc2_w 146, 3) := by decide +kernel
set_option maxRecDepth 100000 in
theorem ti_121_65 : dp_tab 121 65 = (.lmul, 1) := by decide +kernel
set_option maxRecDepth 100000 in
theorem ti_121_66 : dp_tab 121 66 = (.iload 6, 2) := by decide +kernel
set_option maxRecDepth 100000 in
theorem ti_121_68 : dp_tab 121 68 = (.i2l, 1) := by decide +kernel
set_option maxRecDepth 100000 in
theorem ti_121_69 : dp_tab 121 69 = (.ladd, 1) := by decide +kernel
set_option maxRecDepth 100000 in
theorem ti_121_70 : dp_tab 121 70 = (.lstore_n 1, 1) := by decide +kernel
set_option maxRecDepth 100000 in
theorem ti_121_71 : dp_tab 121 71 = (.iinc 5 1, 3) := by decide +kernel
set_option maxRecDepth 100000 in
theorem ti_121_74 : dp_tab 121 74 = (.goto (-26), 3) := by decide +kernel
set_option maxRecDepth 100000 in
theorem ti_121_77 : dp_tab 121 77 = (.iconst 0, 1) := by decide +kernel
set_option maxRecDepth 100000 in
theorem ti_121_78 : dp_tab 121 78 = (.istore_n 3, 1) := by decide +kernel
set_option maxRecDepth 100000 in
theorem ti_121_79 : dp_tab 121 79 = (.iload_n 3, 1) := by decide +kernel
set_option maxRecDepth 100000 in
theorem ti_121_80 : dp_tab 121 80 = (.aload_n 0, 1) := by decide +kernel
set_option maxRecDepth 100000 in
theorem ti_121_81 : dp_tab 121 81 = (.getfield 23, 3) := by decide +kernel
set_option maxRecDepth 100000 in
theorem ti_121_84 : dp_tab 121 84 = (.if_icmp .ge 76, 3) := by decide +kernel
set_option maxRecDepth 100000 in
theorem ti_121_87 : dp_tab 121 87 = (.iconst 0, 1) := by decide +kernel
set_option maxRecDepth 100000 in
theorem ti_121_88 : dp_tab 121 88 = (.istore 4, 2) := by decide +kernel
set_option maxRecDepth 100000 in
theorem ti_121_90 : dp_tab 121 90 = (.iload 4, 2) := by decide +kernel
set_option maxRecDepth 100000 in
theorem ti_121_92 : dp_tab 121 92 = (.iconst 4, 1) := by decide +kernel
set_option maxRecDepth 100000 in
theorem ti_121_93 : dp_tab 121 93 = (.if_icmp .ge 24, 3) := by decide +kernel
set_option maxRecDepth 100000 in
theorem ti_121_96 : dp_tab 121 96 = (.lload_n 1, 1) := by decide +kernel
set_option maxRecDepth 100000 in
theorem ti_121_97 : dp_tab 121 97 = (.ldc2_w 146, 3) := by decide +kernel
set_option maxRecDepth 100000 in
theorem ti_121_100 : dp_tab 121 100 = (.lmul, 1) := by decide +kernel
set_option maxRecDepth 100000 in
theorem ti_121_101 : dp_tab 121 101 = (.aload_n 0, 1) := by decide +kernel
set_option maxRecDepth 100000 in
theorem ti_121_102 : dp_tab 121 102 = (.iload_n 3, 1) := by decide +kernel
set_option maxRecDepth 100000 in
theorem ti_121_103 : dp_tab 121 103 = (.iload 4, 2) := by decide +kernel
set_option maxRecDepth 100000 in
theorem ti_121_105 : dp_tab 121 105 = (.invokevirtual 116, 3) := by decide +kernel
set_option maxRecDepth 100000 in
theorem ti_121_108 : dp_tab 121 108 = (.i2l, 1) := by decide +kernel
set_option maxRecDepth 100000 in
theorem ti_121_109 : dp_tab 121 109 = (.ladd, 1) := by decide +kernel
set_option maxRecDepth 100000 in
theorem ti_121_110 : dp_tab 121 110 = (.lstore_n 1, 1) := by decide +kernel
set_option maxRecDepth 100000 in
theorem ti_121_111 : dp_tab 121 111 = (.iinc 4 1, 3) := by decide +kernel
set_option maxRecDepth 100000 in
theorem ti_121_114 : dp_tab 121 114 = (.goto (-24), 3) := by decide +kernel
set_option maxRecDepth 100000 in
theorem ti_121_117 : dp_tab 121 117 = (.iconst 0, 1) := by decide +kernel
set_option maxRecDepth 100000 in
theorem ti_121_118 : dp_tab 121 118 = (.istore 4, 2) := by decide +kernel
set_option maxRecDepth 100000 in
theorem ti_121_120 : dp_tab 121 120 = (.iload 4, 2) := by decide +kernel
set_option maxRecDepth 100000 in
theorem ti_121_122 : dp_tab 121 122 = (.aload_n 0, 1) := by decide +kernel
set_option maxRecDepth 100000 in
theorem ti_121_123 : dp_tab 121 123 = (.iload_n 3, 1) := by decide +kernel
set_option maxRecDepth 100000 in
theorem ti_121_124 : dp_tab 121 124 = (.iconst 0, 1) := by decide +kernel
set_option maxRecDepth 100000 in
theorem ti_121_125 : dp_tab 121 125 = (.invokevirtual 47, 3) := by decide +kernel
set_option maxRecDepth 100000 in
theorem ti_121_128 : dp_tab 121 128 = (.if_icmp .ge 26, 3) := by decide +kernel
set_option maxRecDepth 100000 in
theorem ti_121_131 : dp_tab 121 131 = (.lload_n 1, 1) := by decide +kernel
set_option maxRecDepth 100000 in
theorem ti_121_132 : dp_tab 121 132 = (.ldc2_w 146, 3) := by decide +kernel
set_option maxRecDepth 100000 in
theorem ti_121_135 : dp_tab 121 135 = (.lmul, 1) := by decide +kernel
set_option maxRecDepth 100000 in
theorem ti_121_136 : dp_tab 121 136 = (.aload_n 0, 1) := by decide +kernel
set_option maxRecDepth 100000 in
theorem ti_121_137 : dp_tab 121 137 = (.iload_n 3, 1) := by decide +kernel
set_option maxRecDepth 100000 in
theorem ti_121_138 : dp_tab 121 138 = (.iconst 2, 1) := by decide +kernel
set_option maxRecDepth 100000 in
theorem ti_121_139 : dp_tab 121 139 = (.iload 4, 2) := by decide +kernel
set_option maxRecDepth 100000 in
theorem ti_121_141 : dp_tab 121 141 = (.iadd, 1) := by decide +kernel
set_option maxRecDepth 100000 in
theorem ti_121_142 : dp_tab 121 142 = (.invokevirtual 47, 3) := by decide +kernel
set_option maxRecDepth 100000 in
theorem ti_121_145 : dp_tab 121 145 = (.i2l, 1) := by decide +kernel
set_option maxRecDepth 100000 in
theorem ti_121_146 : dp_tab 121 146 = (.ladd, 1) := by decide +kernel
set_option maxRecDepth 100000 in
theorem ti_121_147 : dp_tab 121 147 = (.lstore_n 1, 1) := by decide +kernel
set_option maxRecDepth 100000 in
theorem ti_121_148 : dp_tab 121 148 = (.iinc 4 1, 3) := by decide +kernel
set_option maxRecDepth 100000 in
theorem ti_121_151 : dp_tab 121 151 = (.goto (-31), 3) := by decide +kernel
set_option maxRecDepth 100000 in
theorem ti_121_154 : dp_tab 121 154 = (.iinc 3 1, 3) := by decide +kernel
set_option maxRecDepth 100000 in
theorem ti_121_157 : dp_tab 121 157 = (.goto (-78), 3) := by decide +kernel
set_option maxRecDepth 100000 in
theorem ti_121_160 : dp_tab 121 160 = (.iconst 0, 1) := by decide +kernel
set_option maxRecDepth 100000 in
theorem ti_121_161 : dp_tab 121 161 = (.istore_n 3, 1) := by decide +kernel
set_option maxRecDepth 100000 in
theorem ti_121_162 : dp_tab 121 162 = (.iload_n 3, 1) := by decide +kernel
set_option maxRecDepth 100000 in
theorem ti_121_163 : dp_tab 121 163 = (.aload_n 0, 1) := by decide +kernel
set_option maxRecDepth 100000 in
theorem ti_121_164 : dp_tab 121 164 = (.getfield 30, 3) := by decide +kernel
set_option maxRecDepth 100000 in
theorem ti_121_167 : dp_tab 121 167 = (.if_icmp .ge 110, 3) := by decide +kernel
set_option maxRecDepth 100000 in
theorem ti_121_170 : dp_tab 121 170 = (.iconst 0, 1) := by decide +kernel
set_option maxRecDepth 100000 in
theorem ti_121_171 : dp_tab 121 171 = (.istore 4, 2) := by decide +kernel
set_option maxRecDepth 100000 in
theorem ti_121_173 : dp_tab 121 173 = (.iload 4, 2) := by decide +kernel
set_option maxRecDepth 100000 in
theorem ti_121_175 : dp_tab 121 175 = (.bipush 6, 2) := by decide +kernel
set_option maxRecDepth 100000 in
theorem ti_121_177 : dp_tab 121 177 = (.if_icmp .ge 24, 3) := by decide +kernel
set_option maxRecDepth 100000 in
theorem ti_121_180 : dp_tab 121 180 = (.lload_n 1, 1) := by decide +kernel
set_option maxRecDepth 100000 in
theorem ti_121_181 : dp_tab 121 181 = (.ldc2_w 146, 3) := by decide +kernel
set_option maxRecDepth 100000 in
theorem ti_121_184 : dp_tab 121 184 = (.lmul, 1) := by decide +kernel
set_option maxRecDepth 100000 in
theorem ti_121_185 : dp_tab 121 185 = (.aload_n 0, 1) := by decide +kernel
set_option maxRecDepth 100000 in
theorem ti_121_186 : dp_tab 121 186 = (.iload_n 3, 1) := by decide +kernel
set_option maxRecDepth 100000 in
theorem ti_121_187 : dp_tab 121 187 = (.iload 4, 2) := by decide +kernel
set_option maxRecDepth 100000 in
theorem ti_121_189 : dp_tab 121 189 = (.invokevirtual 125, 3) := by decide +kernel
set_option maxRecDepth 100000 in
theorem ti_121_192 : dp_tab 121 192 = (.i2l, 1) := by decide +kernel
set_option maxRecDepth 100000 in
theorem ti_121_193 : dp_tab 121 193 = (.ladd, 1) := by decide +kernel
set_option maxRecDepth 100000 in
theorem ti_121_194 : dp_tab 121 194 = (.lstore_n 1, 1) := by decide +kernel
set_option maxRecDepth 100000 in
theorem ti_121_195 : dp_tab 121 195 = (.iinc 4 1, 3) := by decide +kernel
set_option maxRecDepth 100000 in
theorem ti_121_198 : dp_tab 121 198 = (.goto (-25), 3) := by decide +kernel
set_option maxRecDepth 100000 in
theorem ti_121_201 : dp_tab 121 201 = (.iconst 0, 1) := by decide +kernel
set_option maxRecDepth 100000 in
theorem ti_121_202 : dp_tab 121 202 = (.istore 4, 2) := by decide +kernel
set_option maxRecDepth 100000 in
theorem ti_121_204 : dp_tab 121 204 = (.iload 4, 2) := by decide +kernel
set_option maxRecDepth 100000 in
theorem ti_121_206 : dp_tab 121 206 = (.aload_n 0, 1) := by decide +kernel
set_option maxRecDepth 100000 in
theorem ti_121_207 : dp_tab 121 207 = (.iload_n 3, 1) := by decide +kernel
set_option maxRecDepth 100000 in
theorem ti_121_208 : dp_tab 121 208 = (.iconst 1, 1) := by decide +kernel
set_option maxRecDepth 100000 in
theorem ti_121_209 : dp_tab 121 209 = (.invokevirtual 61, 3) := by decide +kernel
set_option maxRecDepth 100000 in
theorem ti_121_212 : dp_tab 121 212 = (.if_icmp .ge 26, 3) := by decide +kernel
set_option maxRecDepth 100000 in
theorem ti_121_215 : dp_tab 121 215 = (.lload_n 1, 1) := by decide +kernel
set_option maxRecDepth 100000 in
theorem ti_121_216 : dp_tab 121 216 = (.ldc2_w 146, 3) := by decide +kernel
set_option maxRecDepth 100000 in
theorem ti_121_219 : dp_tab 121 219 = (.lmul, 1) := by decide +kernel
set_option maxRecDepth 100000 in
theorem ti_121_220 : dp_tab 121 220 = (.aload_n 0, 1) := by decide +kernel
set_option maxRecDepth 100000 in
theorem ti_121_221 : dp_tab 121 221 = (.iload_n 3, 1) := by decide +kernel
set_option maxRecDepth 100000 in
theorem ti_121_222 : dp_tab 121 222 = (.iconst 5, 1) := by decide +kernel
set_option maxRecDepth 100000 in
theorem ti_121_223 : dp_tab 121 223 = (.iload 4, 2) := by decide +kernel
set_option maxRecDepth 100000 in
theorem ti_121_225 : dp_tab 121 225 = (.iadd, 1) := by decide +kernel
set_option maxRecDepth 100000 in
theorem ti_121_226 : dp_tab 121 226 = (.invokevirtual 61, 3) := by decide +kernel
set_option maxRecDepth 100000 in
theorem ti_121_229 : dp_tab 121 229 = (.i2l, 1) := by decide +kernel
set_option maxRecDepth 100000 in
theorem ti_121_230 : dp_tab 121 230 = (.ladd, 1) := by decide +kernel
set_option maxRecDepth 100000 in
theorem ti_121_231 : dp_tab 121 231 = (.lstore_n 1, 1) := by decide +kernel
set_option maxRecDepth 100000 in
theorem ti_121_232 : dp_tab 121 232 = (.iinc 4 1, 3) := by decide +kernel
set_option maxRecDepth 100000 in
theorem ti_121_235 : dp_tab 121 235 = (.goto (-31), 3) := by decide +kernel
set_option maxRecDepth 100000 in
theorem ti_121_238 : dp_tab 121 238 = (.iconst 0, 1) := by decide +kernel
set_option maxRecDepth 100000 in
theorem ti_121_239 : dp_tab 121 239 = (.istore 4, 2) := by decide +kernel
set_option maxRecDepth 100000 in
theorem ti_121_241 : dp_tab 121 241 = (.iload 4, 2) := by decide +kernel
set_option maxRecDepth 100000 in
theorem ti_121_243 : dp_tab 121 243 = (.aload_n 0, 1) := by decide +kernel
set_option maxRecDepth 100000 in
theorem ti_121_244 : dp_tab 121 244 = (.getfield 23, 3) := by decide +kernel
set_option maxRecDepth 100000 in
theorem ti_121_247 : dp_tab 121 247 = (.if_icmp .ge 24, 3) := by decide +kernel
set_option maxRecDepth 100000 in
theorem ti_121_250 : dp_tab 121 250 = (.lload_n 1, 1) := by decide +kernel
set_option maxRecDepth 100000 in
theorem ti_121_251 : dp_tab 121 251 = (.ldc2_w 146, 3) := by decide +kernel
set_option maxRecDepth 100000 in
theorem ti_121_254 : dp_tab 121 254 = (.lmul, 1) := by decide +kernel
set_option maxRecDepth 100000 in
theorem ti_121_255 : dp_tab 121 255 = (.aload_n 0, 1) := by decide +kernel
set_option maxRecDepth 100000 in
theorem ti_121_256 : dp_tab 121 256 = (.iload_n 3, 1) := by decide +kernel
set_option maxRecDepth 100000 in
theorem ti_121_257 : dp_tab 121 257 = (.iload 4, 2) := by decide +kernel
set_option maxRecDepth 100000 in
theorem ti_121_259 : dp_tab 121 259 = (.invokevirtual 84, 3) := by decide +kernel
set_option maxRecDepth 100000 in
theorem ti_121_262 : dp_tab 121 262 = (.i2l, 1) := by decide +kernel
set_option maxRecDepth 100000 in
theorem ti_121_263 : dp_tab 121 263 = (.ladd, 1) := by decide +kernel
set_option maxRecDepth 100000 in
theorem ti_121_264 : dp_tab 121 264 = (.lstore_n 1, 1) := by decide +kernel
set_option maxRecDepth 100000 in
theorem ti_121_265 : dp_tab 121 265 = (.iinc 4 1, 3) := by decide +kernel
set_option maxRecDepth 100000 in
theorem ti_121_268 : dp_tab 121 268 = (.goto (-27), 3) := by decide +kernel
set_option maxRecDepth 100000 in
theorem ti_121_271 : dp_tab 121 271 = (.iinc 3 1, 3) := by decide +kernel
set_option maxRecDepth 100000 in
theorem ti_121_274 : dp_tab 121 274 = (.goto (-112), 3) := by decide +kernel
set_option maxRecDepth 100000 in
theorem ti_121_277 : dp_tab 121 277 = (.lload_n 1, 1) := by decide +kernel
set_option maxRecDepth 100000 in
theorem ti_121_278 : dp_tab 121 278 = (.lreturn, 1) := by decide +kernel
set_option maxRecDepth 100000 in
theorem ti_122_0 : dp_tab 122 0 = (.iload_n 0, 1) := by decide +kernel
set_option maxRecDepth 100000 in
theorem ti_122_1 : dp_tab 122 1 = (.iload_n 0, 1) := by decide +kernel
set_option maxRecDepth 100000 in
theorem ti_122_2 : dp_tab 122 2 = (.iconst 1, 1) := by decide +kernel
set_option maxRecDepth 100000 in
theorem ti_122_3 : dp_tab 122 3 = (.iushr, 1) := by decide +kernel
set_option maxRecDepth 100000 in
theorem ti_122_4 : dp_tab 122 4 = (.ldc_w 265, 3) := by decide +kernel
set_option maxRecDepth 100000 in
theorem ti_122_7 : dp_tab 122 7 = (.iand, 1) := by decide +kernel
set_option maxRecDepth 100000 in
theorem ti_122_8 : dp_tab 122 8 = (.isub, 1) := by decide +kernel
set_option maxRecDepth 100000 in
theorem ti_122_9 : dp_tab 122 9 = (.istore_n 0, 1) := by decide +kernel
set_option maxRecDepth 100000 in
theorem ti_122_10 : dp_tab 122 10 = (.iload_n 0, 1) := by decide +kernel
set_option maxRecDepth 100000 in
theorem ti_122_11 : dp_tab 122 11 = (.ldc_w 266, 3) := by decide +kernel
set_option maxRecDepth 100000 in
theorem ti_122_14 : dp_tab 122 14 = (.iand, 1) := by decide +kernel
set_option maxRecDepth 100000 in
theorem ti_122_15 : dp_tab 122 15 = (.iload_n 0, 1) := by decide +kernel
set_option maxRecDepth 100000 in
theorem ti_122_16 : dp_tab 122 16 = (.iconst 2, 1) := by decide +kernel
set_option maxRecDepth 100000 in
theorem ti_122_17 : dp_tab 122 17 = (.iushr, 1) := by decide +kernel
set_option maxRecDepth 100000 in
theorem ti_122_18 : dp_tab 122 18 = (.ldc_w 266, 3) := by decide +kernel
set_option maxRecDepth 100000 in
theorem ti_122_21 : dp_tab 122 21 = (.iand, 1) := by decide +kernel
set_option maxRecDepth 100000 in
theorem ti_122_22 : dp_tab 122 22 = (.iadd, 1) := by decide +kernel
set_option maxRecDepth 100000 in
theorem ti_122_23 : dp_tab 122 23 = (.istore_n 0, 1) := by decide +kernel
set_option maxRecDepth 100000 in
theorem ti_122_24 : dp_tab 122 24 = (.iload_n 0, 1) := by decide +kernel
set_option maxRecDepth 100000 in
theorem ti_122_25 : dp_tab 122 25 = (.iload_n 0, 1) := by decide +kernel
set_option maxRecDepth 100000 in
theorem ti_122_26 : dp_tab 122 26 = (.iconst 4, 1) := by decide +kernel
set_option maxRecDepth 100000 in
theorem ti_122_27 : dp_tab 122 27 = (.iushr, 1) := by decide +kernel
set_option maxRecDepth 100000 in
theorem ti_122_28 : dp_tab 122 28 = (.iadd, 1) := by decide +kernel
set_option maxRecDepth 100000 in
theorem ti_122_29 : dp_tab 122 29 = (.ldc_w 267, 3) := by decide +kernel
set_option maxRecDepth 100000 in
theorem ti_122_32 : dp_tab 122 32 = (.iand, 1) := by decide +kernel
set_option maxRecDepth 100000 in
theorem ti_122_33 : dp_tab 122 33 = (.istore_n 0, 1) := by decide +kernel
set_option maxRecDepth 100000 in
theorem ti_122_34 : dp_tab 122 34 = (.iload_n 0, 1) := by decide +kernel
set_option maxRecDepth 100000 in
theorem ti_122_35 : dp_tab 122 35 = (.iload_n 0, 1) := by decide +kernel
set_option maxRecDepth 100000 in
theorem ti_122_36 : dp_tab 122 36 = (.bipush 8, 2) := by decide +kernel
set_option maxRecDepth 100000 in
theorem ti_122_38 : dp_tab 122 38 = (.iushr, 1) := by decide +kernel
set_option maxRecDepth 100000 in
theorem ti_122_39 : dp_tab 122 39 = (.iadd, 1) := by decide +kernel
set_option maxRecDepth 100000 in
theorem ti_122_40 : dp_tab 122 40 = (.istore_n 0, 1) := by decide +kernel
set_option maxRecDepth 100000 in
theorem ti_122_41 : dp_tab 122 41 = (.iload_n 0, 1) := by decide +kernel
set_option maxRecDepth 100000 in
theorem ti_122_42 : dp_tab 122 42 = (.iload_n 0, 1) := by decide +kernel
set_option maxRecDepth 100000 in
theorem ti_122_43 : dp_tab 122 43 = (.bipush 16, 2) := by decide +kernel
set_option maxRecDepth 100000 in
theorem ti_122_45 : dp_tab 122 45 = (.iushr, 1) := by decide +kernel
set_option maxRecDepth 100000 in
theorem ti_122_46 : dp_tab 122 46 = (.iadd, 1) := by decide +kernel
set_option maxRecDepth 100000 in
theorem ti_122_47 : dp_tab 122 47 = (.istore_n 0, 1) := by decide +kernel
set_option maxRecDepth 100000 in
theorem ti_122_48 : dp_tab 122 48 = (.iload_n 0, 1) := by decide +kernel
set_option maxRecDepth 100000 in
theorem ti_122_49 : dp_tab 122 49 = (.bipush 63, 2) := by decide +kernel
set_option maxRecDepth 100000 in
theorem ti_122_51 : dp_tab 122 51 = (.iand, 1) := by decide +kernel
set_option maxRecDepth 100000 in
theorem ti_122_52 : dp_tab 122 52 = (.ireturn, 1) := by decide +kernel
