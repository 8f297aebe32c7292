/-! the same, of the law and its helpers -/
set_option maxRecDepth 100000 in
theorem ti_59_0 : dp_tab 59 0 = (.aload_n 0, 1) := by decide +kernel
set_option maxRecDepth 100000 in
theorem ti_59_1 : dp_tab 59 1 = (.invokespecial 1, 3) := by decide +kernel
set_option maxRecDepth 100000 in
theorem ti_59_4 : dp_tab 59 4 = (.aload_n 0, 1) := by decide +kernel
set_option maxRecDepth 100000 in
theorem ti_59_5 : dp_tab 59 5 = (.bipush 20, 2) := by decide +kernel
set_option maxRecDepth 100000 in
theorem ti_59_7 : dp_tab 59 7 = (.putfield 7, 3) := by decide +kernel
set_option maxRecDepth 100000 in
theorem ti_59_10 : dp_tab 59 10 = (.aload_n 0, 1) := by decide +kernel
set_option maxRecDepth 100000 in
theorem ti_59_11 : dp_tab 59 11 = (.iconst 0, 1) := by decide +kernel
set_option maxRecDepth 100000 in
theorem ti_59_12 : dp_tab 59 12 = (.newarray .int, 2) := by decide +kernel
set_option maxRecDepth 100000 in
theorem ti_59_14 : dp_tab 59 14 = (.putfield 13, 3) := by decide +kernel
set_option maxRecDepth 100000 in
theorem ti_59_17 : dp_tab 59 17 = (.aload_n 0, 1) := by decide +kernel
set_option maxRecDepth 100000 in
theorem ti_59_18 : dp_tab 59 18 = (.bipush 16, 2) := by decide +kernel
set_option maxRecDepth 100000 in
theorem ti_59_20 : dp_tab 59 20 = (.newarray .boolean, 2) := by decide +kernel
set_option maxRecDepth 100000 in
theorem ti_59_22 : dp_tab 59 22 = (.putfield 17, 3) := by decide +kernel
set_option maxRecDepth 100000 in
theorem ti_59_25 : dp_tab 59 25 = (.return_, 1) := by decide +kernel
set_option maxRecDepth 100000 in
theorem ti_60_0 : dp_tab 60 0 = (.aload_n 0, 1) := by decide +kernel
set_option maxRecDepth 100000 in
theorem ti_60_1 : dp_tab 60 1 = (.invokespecial 1, 3) := by decide +kernel
set_option maxRecDepth 100000 in
theorem ti_60_4 : dp_tab 60 4 = (.aload_n 0, 1) := by decide +kernel
set_option maxRecDepth 100000 in
theorem ti_60_5 : dp_tab 60 5 = (.bipush 40, 2) := by decide +kernel
set_option maxRecDepth 100000 in
theorem ti_60_7 : dp_tab 60 7 = (.newarray .int, 2) := by decide +kernel
set_option maxRecDepth 100000 in
theorem ti_60_9 : dp_tab 60 9 = (.putfield 7, 3) := by decide +kernel
set_option maxRecDepth 100000 in
theorem ti_60_12 : dp_tab 60 12 = (.aload_n 0, 1) := by decide +kernel
set_option maxRecDepth 100000 in
theorem ti_60_13 : dp_tab 60 13 = (.iconst 0, 1) := by decide +kernel
set_option maxRecDepth 100000 in
theorem ti_60_14 : dp_tab 60 14 = (.anewarray 13, 3) := by decide +kernel
set_option maxRecDepth 100000 in
theorem ti_60_17 : dp_tab 60 17 = (.putfield 14, 3) := by decide +kernel
set_option maxRecDepth 100000 in
theorem ti_60_20 : dp_tab 60 20 = (.aload_n 0, 1) := by decide +kernel
set_option maxRecDepth 100000 in
theorem ti_60_21 : dp_tab 60 21 = (.bipush 16, 2) := by decide +kernel
set_option maxRecDepth 100000 in
theorem ti_60_23 : dp_tab 60 23 = (.newarray .int, 2) := by decide +kernel
set_option maxRecDepth 100000 in
theorem ti_60_25 : dp_tab 60 25 = (.putfield 18, 3) := by decide +kernel
set_option maxRecDepth 100000 in
theorem ti_60_28 : dp_tab 60 28 = (.aload_n 0, 1) := by decide +kernel
set_option maxRecDepth 100000 in
theorem ti_60_29 : dp_tab 60 29 = (.iconst 0, 1) := by decide +kernel
set_option maxRecDepth 100000 in
theorem ti_60_30 : dp_tab 60 30 = (.anewarray 21, 3) := by decide +kernel
set_option maxRecDepth 100000 in
theorem ti_60_33 : dp_tab 60 33 = (.putfield 23, 3) := by decide +kernel
set_option maxRecDepth 100000 in
theorem ti_60_36 : dp_tab 60 36 = (.iconst 0, 1) := by decide +kernel
set_option maxRecDepth 100000 in
theorem ti_60_37 : dp_tab 60 37 = (.istore_n 1, 1) := by decide +kernel
set_option maxRecDepth 100000 in
theorem ti_60_38 : dp_tab 60 38 = (.iload_n 1, 1) := by decide +kernel
set_option maxRecDepth 100000 in
theorem ti_60_39 : dp_tab 60 39 = (.bipush 40, 2) := by decide +kernel
set_option maxRecDepth 100000 in
theorem ti_60_41 : dp_tab 60 41 = (.if_icmp .ge 18, 3) := by decide +kernel
set_option maxRecDepth 100000 in
theorem ti_60_44 : dp_tab 60 44 = (.aload_n 0, 1) := by decide +kernel
set_option maxRecDepth 100000 in
theorem ti_60_45 : dp_tab 60 45 = (.getfield 7, 3) := by decide +kernel
set_option maxRecDepth 100000 in
theorem ti_60_48 : dp_tab 60 48 = (.iload_n 1, 1) := by decide +kernel
set_option maxRecDepth 100000 in
theorem ti_60_49 : dp_tab 60 49 = (.iload_n 1, 1) := by decide +kernel
set_option maxRecDepth 100000 in
theorem ti_60_50 : dp_tab 60 50 = (.iconst 2, 1) := by decide +kernel
set_option maxRecDepth 100000 in
theorem ti_60_51 : dp_tab 60 51 = (.idiv, 1) := by decide +kernel
set_option maxRecDepth 100000 in
theorem ti_60_52 : dp_tab 60 52 = (.iastore, 1) := by decide +kernel
set_option maxRecDepth 100000 in
theorem ti_60_53 : dp_tab 60 53 = (.iinc 1 1, 3) := by decide +kernel
set_option maxRecDepth 100000 in
theorem ti_60_56 : dp_tab 60 56 = (.goto (-18), 3) := by decide +kernel
set_option maxRecDepth 100000 in
theorem ti_60_59 : dp_tab 60 59 = (.return_, 1) := by decide +kernel
set_option maxRecDepth 100000 in
theorem ti_61_0 : dp_tab 61 0 = (.bipush 20, 2) := by decide +kernel
set_option maxRecDepth 100000 in
theorem ti_61_2 : dp_tab 61 2 = (.newarray .int, 2) := by decide +kernel
set_option maxRecDepth 100000 in
theorem ti_61_4 : dp_tab 61 4 = (.astore_n 2, 1) := by decide +kernel
set_option maxRecDepth 100000 in
theorem ti_61_5 : dp_tab 61 5 = (.aload_n 0, 1) := by decide +kernel
set_option maxRecDepth 100000 in
theorem ti_61_6 : dp_tab 61 6 = (.getfield 14, 3) := by decide +kernel
set_option maxRecDepth 100000 in
theorem ti_61_9 : dp_tab 61 9 = (.iload_n 1, 1) := by decide +kernel
set_option maxRecDepth 100000 in
theorem ti_61_10 : dp_tab 61 10 = (.aaload, 1) := by decide +kernel
set_option maxRecDepth 100000 in
theorem ti_61_11 : dp_tab 61 11 = (.astore_n 3, 1) := by decide +kernel
set_option maxRecDepth 100000 in
theorem ti_61_12 : dp_tab 61 12 = (.aload_n 3, 1) := by decide +kernel
set_option maxRecDepth 100000 in
theorem ti_61_13 : dp_tab 61 13 = (.arraylength, 1) := by decide +kernel
set_option maxRecDepth 100000 in
theorem ti_61_14 : dp_tab 61 14 = (.istore 4, 2) := by decide +kernel
set_option maxRecDepth 100000 in
theorem ti_61_16 : dp_tab 61 16 = (.iconst 0, 1) := by decide +kernel
set_option maxRecDepth 100000 in
theorem ti_61_17 : dp_tab 61 17 = (.istore 5, 2) := by decide +kernel
set_option maxRecDepth 100000 in
theorem ti_61_19 : dp_tab 61 19 = (.iload 5, 2) := by decide +kernel
set_option maxRecDepth 100000 in
theorem ti_61_21 : dp_tab 61 21 = (.iload 4, 2) := by decide +kernel
set_option maxRecDepth 100000 in
theorem ti_61_23 : dp_tab 61 23 = (.if_icmp .ge 28, 3) := by decide +kernel
set_option maxRecDepth 100000 in
theorem ti_61_26 : dp_tab 61 26 = (.aload_n 3, 1) := by decide +kernel
set_option maxRecDepth 100000 in
theorem ti_61_27 : dp_tab 61 27 = (.iload 5, 2) := by decide +kernel
set_option maxRecDepth 100000 in
theorem ti_61_29 : dp_tab 61 29 = (.iaload, 1) := by decide +kernel
set_option maxRecDepth 100000 in
theorem ti_61_30 : dp_tab 61 30 = (.istore 6, 2) := by decide +kernel
set_option maxRecDepth 100000 in
theorem ti_61_32 : dp_tab 61 32 = (.aload_n 2, 1) := by decide +kernel
set_option maxRecDepth 100000 in
theorem ti_61_33 : dp_tab 61 33 = (.aload_n 0, 1) := by decide +kernel
set_option maxRecDepth 100000 in
theorem ti_61_34 : dp_tab 61 34 = (.getfield 7, 3) := by decide +kernel
set_option maxRecDepth 100000 in
theorem ti_61_37 : dp_tab 61 37 = (.iload 6, 2) := by decide +kernel
set_option maxRecDepth 100000 in
theorem ti_61_39 : dp_tab 61 39 = (.iaload, 1) := by decide +kernel
set_option maxRecDepth 100000 in
theorem ti_61_40 : dp_tab 61 40 = (.dup2, 1) := by decide +kernel
set_option maxRecDepth 100000 in
theorem ti_61_41 : dp_tab 61 41 = (.iaload, 1) := by decide +kernel
set_option maxRecDepth 100000 in
theorem ti_61_42 : dp_tab 61 42 = (.iconst 1, 1) := by decide +kernel
set_option maxRecDepth 100000 in
theorem ti_61_43 : dp_tab 61 43 = (.iadd, 1) := by decide +kernel
set_option maxRecDepth 100000 in
theorem ti_61_44 : dp_tab 61 44 = (.iastore, 1) := by decide +kernel
set_option maxRecDepth 100000 in
theorem ti_61_45 : dp_tab 61 45 = (.iinc 5 1, 3) := by decide +kernel
set_option maxRecDepth 100000 in
theorem ti_61_48 : dp_tab 61 48 = (.goto (-29), 3) := by decide +kernel
set_option maxRecDepth 100000 in
theorem ti_61_51 : dp_tab 61 51 = (.aload_n 2, 1) := by decide +kernel
set_option maxRecDepth 100000 in
theorem ti_61_52 : dp_tab 61 52 = (.areturn, 1) := by decide +kernel
set_option maxRecDepth 100000 in
theorem ti_62_0 : dp_tab 62 0 = (.bipush 20, 2) := by decide +kernel
set_option maxRecDepth 100000 in
theorem ti_62_2 : dp_tab 62 2 = (.newarray .int, 2) := by decide +kernel
set_option maxRecDepth 100000 in
theorem ti_62_4 : dp_tab 62 4 = (.astore_n 1, 1) := by decide +kernel
set_option maxRecDepth 100000 in
theorem ti_62_5 : dp_tab 62 5 = (.iconst 0, 1) := by decide +kernel
set_option maxRecDepth 100000 in
theorem ti_62_6 : dp_tab 62 6 = (.istore_n 2, 1) := by decide +kernel
set_option maxRecDepth 100000 in
theorem ti_62_7 : dp_tab 62 7 = (.iload_n 2, 1) := by decide +kernel
set_option maxRecDepth 100000 in
theorem ti_62_8 : dp_tab 62 8 = (.aload_n 0, 1) := by decide +kernel
set_option maxRecDepth 100000 in
theorem ti_62_9 : dp_tab 62 9 = (.getfield 14, 3) := by decide +kernel
set_option maxRecDepth 100000 in
theorem ti_62_12 : dp_tab 62 12 = (.arraylength, 1) := by decide +kernel
set_option maxRecDepth 100000 in
theorem ti_62_13 : dp_tab 62 13 = (.if_icmp .ge 50, 3) := by decide +kernel
set_option maxRecDepth 100000 in
theorem ti_62_16 : dp_tab 62 16 = (.aload_n 0, 1) := by decide +kernel
set_option maxRecDepth 100000 in
theorem ti_62_17 : dp_tab 62 17 = (.iload_n 2, 1) := by decide +kernel
set_option maxRecDepth 100000 in
theorem ti_62_18 : dp_tab 62 18 = (.invokevirtual 40, 3) := by decide +kernel
set_option maxRecDepth 100000 in
theorem ti_62_21 : dp_tab 62 21 = (.astore_n 3, 1) := by decide +kernel
set_option maxRecDepth 100000 in
theorem ti_62_22 : dp_tab 62 22 = (.iconst 0, 1) := by decide +kernel
set_option maxRecDepth 100000 in
theorem ti_62_23 : dp_tab 62 23 = (.istore 4, 2) := by decide +kernel
set_option maxRecDepth 100000 in
theorem ti_62_25 : dp_tab 62 25 = (.iload 4, 2) := by decide +kernel
set_option maxRecDepth 100000 in
theorem ti_62_27 : dp_tab 62 27 = (.bipush 20, 2) := by decide +kernel
set_option maxRecDepth 100000 in
theorem ti_62_29 : dp_tab 62 29 = (.if_icmp .ge 28, 3) := by decide +kernel
set_option maxRecDepth 100000 in
theorem ti_62_32 : dp_tab 62 32 = (.aload_n 1, 1) := by decide +kernel
set_option maxRecDepth 100000 in
theorem ti_62_33 : dp_tab 62 33 = (.iload 4, 2) := by decide +kernel
set_option maxRecDepth 100000 in
theorem ti_62_35 : dp_tab 62 35 = (.dup2, 1) := by decide +kernel
set_option maxRecDepth 100000 in
theorem ti_62_36 : dp_tab 62 36 = (.iaload, 1) := by decide +kernel
set_option maxRecDepth 100000 in
theorem ti_62_37 : dp_tab 62 37 = (.aload_n 3, 1) := by decide +kernel
set_option maxRecDepth 100000 in
theorem ti_62_38 : dp_tab 62 38 = (.iload 4, 2) := by decide +kernel
set_option maxRecDepth 100000 in
theorem ti_62_40 : dp_tab 62 40 = (.iaload, 1) := by decide +kernel
set_option maxRecDepth 100000 in
theorem ti_62_41 : dp_tab 62 41 = (.ifCond .le 7, 3) := by decide +kernel
set_option maxRecDepth 100000 in
theorem ti_62_44 : dp_tab 62 44 = (.iconst 1, 1) := by decide +kernel
set_option maxRecDepth 100000 in
theorem ti_62_45 : dp_tab 62 45 = (.goto 4, 3) := by decide +kernel
set_option maxRecDepth 100000 in
theorem ti_62_48 : dp_tab 62 48 = (.iconst 0, 1) := by decide +kernel
set_option maxRecDepth 100000 in
theorem ti_62_49 : dp_tab 62 49 = (.iadd, 1) := by decide +kernel
set_option maxRecDepth 100000 in
theorem ti_62_50 : dp_tab 62 50 = (.iastore, 1) := by decide +kernel
set_option maxRecDepth 100000 in
theorem ti_62_51 : dp_tab 62 51 = (.iinc 4 1, 3) := by decide +kernel
set_option maxRecDepth 100000 in
theorem ti_62_54 : dp_tab 62 54 = (.goto (-29), 3) := by decide +kernel
set_option maxRecDepth 100000 in
theorem ti_62_57 : dp_tab 62 57 = (.iinc 2 1, 3) := by decide +kernel
set_option maxRecDepth 100000 in
theorem ti_62_60 : dp_tab 62 60 = (.goto (-53), 3) := by decide +kernel
set_option maxRecDepth 100000 in
theorem ti_62_63 : dp_tab 62 63 = (.iconst 0, 1) := by decide +kernel
set_option maxRecDepth 100000 in
theorem ti_62_64 : dp_tab 62 64 = (.istore_n 2, 1) := by decide +kernel
set_option maxRecDepth 100000 in
theorem ti_62_65 : dp_tab 62 65 = (.iload_n 2, 1) := by decide +kernel
set_option maxRecDepth 100000 in
theorem ti_62_66 : dp_tab 62 66 = (.bipush 20, 2) := by decide +kernel
set_option maxRecDepth 100000 in
theorem ti_62_68 : dp_tab 62 68 = (.if_icmp .ge 29, 3) := by decide +kernel
set_option maxRecDepth 100000 in
theorem ti_62_71 : dp_tab 62 71 = (.aload_n 1, 1) := by decide +kernel
set_option maxRecDepth 100000 in
theorem ti_62_72 : dp_tab 62 72 = (.iload_n 2, 1) := by decide +kernel
set_option maxRecDepth 100000 in
theorem ti_62_73 : dp_tab 62 73 = (.bipush 10, 2) := by decide +kernel
set_option maxRecDepth 100000 in
theorem ti_62_75 : dp_tab 62 75 = (.aload_n 0, 1) := by decide +kernel
set_option maxRecDepth 100000 in
theorem ti_62_76 : dp_tab 62 76 = (.getfield 14, 3) := by decide +kernel
set_option maxRecDepth 100000 in
theorem ti_62_79 : dp_tab 62 79 = (.arraylength, 1) := by decide +kernel
set_option maxRecDepth 100000 in
theorem ti_62_80 : dp_tab 62 80 = (.imul, 1) := by decide +kernel
set_option maxRecDepth 100000 in
theorem ti_62_81 : dp_tab 62 81 = (.bipush 10, 2) := by decide +kernel
set_option maxRecDepth 100000 in
theorem ti_62_83 : dp_tab 62 83 = (.iadd, 1) := by decide +kernel
set_option maxRecDepth 100000 in
theorem ti_62_84 : dp_tab 62 84 = (.aload_n 1, 1) := by decide +kernel
set_option maxRecDepth 100000 in
theorem ti_62_85 : dp_tab 62 85 = (.iload_n 2, 1) := by decide +kernel
set_option maxRecDepth 100000 in
theorem ti_62_86 : dp_tab 62 86 = (.iaload, 1) := by decide +kernel
set_option maxRecDepth 100000 in
theorem ti_62_87 : dp_tab 62 87 = (.iconst 1, 1) := by decide +kernel
set_option maxRecDepth 100000 in
theorem ti_62_88 : dp_tab 62 88 = (.iadd, 1) := by decide +kernel
set_option maxRecDepth 100000 in
theorem ti_62_89 : dp_tab 62 89 = (.idiv, 1) := by decide +kernel
set_option maxRecDepth 100000 in
theorem ti_62_90 : dp_tab 62 90 = (.iastore, 1) := by decide +kernel
set_option maxRecDepth 100000 in
theorem ti_62_91 : dp_tab 62 91 = (.iinc 2 1, 3) := by decide +kernel
set_option maxRecDepth 100000 in
theorem ti_62_94 : dp_tab 62 94 = (.goto (-29), 3) := by decide +kernel
set_option maxRecDepth 100000 in
theorem ti_62_97 : dp_tab 62 97 = (.aload_n 1, 1) := by decide +kernel
set_option maxRecDepth 100000 in
theorem ti_62_98 : dp_tab 62 98 = (.areturn, 1) := by decide +kernel
set_option maxRecDepth 100000 in
theorem ti_63_0 : dp_tab 63 0 = (.iconst 0, 1) := by decide +kernel
set_option maxRecDepth 100000 in
theorem ti_63_1 : dp_tab 63 1 = (.istore 5, 2) := by decide +kernel
set_option maxRecDepth 100000 in
theorem ti_63_3 : dp_tab 63 3 = (.aload_n 1, 1) := by decide +kernel
set_option maxRecDepth 100000 in
theorem ti_63_4 : dp_tab 63 4 = (.getfield 44, 3) := by decide +kernel
set_option maxRecDepth 100000 in
theorem ti_63_7 : dp_tab 63 7 = (.arraylength, 1) := by decide +kernel
set_option maxRecDepth 100000 in
theorem ti_63_8 : dp_tab 63 8 = (.iconst 1, 1) := by decide +kernel
set_option maxRecDepth 100000 in
theorem ti_63_9 : dp_tab 63 9 = (.if_icmp .le 7, 3) := by decide +kernel
set_option maxRecDepth 100000 in
theorem ti_63_12 : dp_tab 63 12 = (.iconst 1, 1) := by decide +kernel
set_option maxRecDepth 100000 in
theorem ti_63_13 : dp_tab 63 13 = (.goto 4, 3) := by decide +kernel
set_option maxRecDepth 100000 in
theorem ti_63_16 : dp_tab 63 16 = (.iconst 0, 1) := by decide +kernel
set_option maxRecDepth 100000 in
theorem ti_63_17 : dp_tab 63 17 = (.istore 6, 2) := by decide +kernel
set_option maxRecDepth 100000 in
theorem ti_63_19 : dp_tab 63 19 = (.aload_n 1, 1) := by decide +kernel
set_option maxRecDepth 100000 in
theorem ti_63_20 : dp_tab 63 20 = (.getfield 44, 3) := by decide +kernel
set_option maxRecDepth 100000 in
theorem ti_63_23 : dp_tab 63 23 = (.astore 7, 2) := by decide +kernel
set_option maxRecDepth 100000 in
theorem ti_63_25 : dp_tab 63 25 = (.aload 7, 2) := by decide +kernel
set_option maxRecDepth 100000 in
theorem ti_63_27 : dp_tab 63 27 = (.arraylength, 1) := by decide +kernel
set_option maxRecDepth 100000 in
theorem ti_63_28 : dp_tab 63 28 = (.istore 8, 2) := by decide +kernel
set_option maxRecDepth 100000 in
theorem ti_63_30 : dp_tab 63 30 = (.iconst 0, 1) := by decide +kernel
set_option maxRecDepth 100000 in
theorem ti_63_31 : dp_tab 63 31 = (.istore 9, 2) := by decide +kernel
set_option maxRecDepth 100000 in
theorem ti_63_33 : dp_tab 63 33 = (.iload 9, 2) := by decide +kernel
set_option maxRecDepth 100000 in
theorem ti_63_35 : dp_tab 63 35 = (.iload 8, 2) := by decide +kernel
set_option maxRecDepth 100000 in
theorem ti_63_37 : dp_tab 63 37 = (.if_icmp .ge 61, 3) := by decide +kernel
set_option maxRecDepth 100000 in
theorem ti_63_40 : dp_tab 63 40 = (.aload 7, 2) := by decide +kernel
set_option maxRecDepth 100000 in
theorem ti_63_42 : dp_tab 63 42 = (.iload 9, 2) := by decide +kernel
set_option maxRecDepth 100000 in
theorem ti_63_44 : dp_tab 63 44 = (.iaload, 1) := by decide +kernel
set_option maxRecDepth 100000 in
theorem ti_63_45 : dp_tab 63 45 = (.istore 10, 2) := by decide +kernel
set_option maxRecDepth 100000 in
theorem ti_63_47 : dp_tab 63 47 = (.iload 6, 2) := by decide +kernel
set_option maxRecDepth 100000 in
theorem ti_63_49 : dp_tab 63 49 = (.ifCond .eq 14, 3) := by decide +kernel
set_option maxRecDepth 100000 in
theorem ti_63_52 : dp_tab 63 52 = (.aload_n 2, 1) := by decide +kernel
set_option maxRecDepth 100000 in
theorem ti_63_53 : dp_tab 63 53 = (.iload 10, 2) := by decide +kernel
set_option maxRecDepth 100000 in
theorem ti_63_55 : dp_tab 63 55 = (.iaload, 1) := by decide +kernel
set_option maxRecDepth 100000 in
theorem ti_63_56 : dp_tab 63 56 = (.ifCond .le 7, 3) := by decide +kernel
set_option maxRecDepth 100000 in
theorem ti_63_59 : dp_tab 63 59 = (.iconst 1, 1) := by decide +kernel
set_option maxRecDepth 100000 in
theorem ti_63_60 : dp_tab 63 60 = (.goto 4, 3) := by decide +kernel
set_option maxRecDepth 100000 in
theorem ti_63_63 : dp_tab 63 63 = (.iconst 0, 1) := by decide +kernel
set_option maxRecDepth 100000 in
theorem ti_63_64 : dp_tab 63 64 = (.istore 6, 2) := by decide +kernel
set_option maxRecDepth 100000 in
theorem ti_63_66 : dp_tab 63 66 = (.iload 5, 2) := by decide +kernel
set_option maxRecDepth 100000 in
theorem ti_63_68 : dp_tab 63 68 = (.aload_n 3, 1) := by decide +kernel
set_option maxRecDepth 100000 in
theorem ti_63_69 : dp_tab 63 69 = (.iload 10, 2) := by decide +kernel
set_option maxRecDepth 100000 in
theorem ti_63_71 : dp_tab 63 71 = (.iaload, 1) := by decide +kernel
set_option maxRecDepth 100000 in
theorem ti_63_72 : dp_tab 63 72 = (.aload_n 2, 1) := by decide +kernel
set_option maxRecDepth 100000 in
theorem ti_63_73 : dp_tab 63 73 = (.iload 10, 2) := by decide +kernel
set_option maxRecDepth 100000 in
theorem ti_63_75 : dp_tab 63 75 = (.iaload, 1) := by decide +kernel
set_option maxRecDepth 100000 in
theorem ti_63_76 : dp_tab 63 76 = (.iconst 3, 1) := by decide +kernel
set_option maxRecDepth 100000 in
theorem ti_63_77 : dp_tab 63 77 = (.if_icmp .le 7, 3) := by decide +kernel
set_option maxRecDepth 100000 in
theorem ti_63_80 : dp_tab 63 80 = (.iconst 3, 1) := by decide +kernel
set_option maxRecDepth 100000 in
theorem ti_63_81 : dp_tab 63 81 = (.goto 7, 3) := by decide +kernel
set_option maxRecDepth 100000 in
theorem ti_63_84 : dp_tab 63 84 = (.aload_n 2, 1) := by decide +kernel
set_option maxRecDepth 100000 in
theorem ti_63_85 : dp_tab 63 85 = (.iload 10, 2) := by decide +kernel
set_option maxRecDepth 100000 in
theorem ti_63_87 : dp_tab 63 87 = (.iaload, 1) := by decide +kernel
set_option maxRecDepth 100000 in
theorem ti_63_88 : dp_tab 63 88 = (.imul, 1) := by decide +kernel
set_option maxRecDepth 100000 in
theorem ti_63_89 : dp_tab 63 89 = (.iadd, 1) := by decide +kernel
set_option maxRecDepth 100000 in
theorem ti_63_90 : dp_tab 63 90 = (.istore 5, 2) := by decide +kernel
set_option maxRecDepth 100000 in
theorem ti_63_92 : dp_tab 63 92 = (.iinc 9 1, 3) := by decide +kernel
set_option maxRecDepth 100000 in
theorem ti_63_95 : dp_tab 63 95 = (.goto (-62), 3) := by decide +kernel
set_option maxRecDepth 100000 in
theorem ti_63_98 : dp_tab 63 98 = (.iload 6, 2) := by decide +kernel
set_option maxRecDepth 100000 in
theorem ti_63_100 : dp_tab 63 100 = (.ifCond .eq 13, 3) := by decide +kernel
set_option maxRecDepth 100000 in
theorem ti_63_103 : dp_tab 63 103 = (.iload 5, 2) := by decide +kernel
set_option maxRecDepth 100000 in
theorem ti_63_105 : dp_tab 63 105 = (.iload 5, 2) := by decide +kernel
set_option maxRecDepth 100000 in
theorem ti_63_107 : dp_tab 63 107 = (.iconst 2, 1) := by decide +kernel
set_option maxRecDepth 100000 in
theorem ti_63_108 : dp_tab 63 108 = (.idiv, 1) := by decide +kernel
set_option maxRecDepth 100000 in
theorem ti_63_109 : dp_tab 63 109 = (.iadd, 1) := by decide +kernel
set_option maxRecDepth 100000 in
theorem ti_63_110 : dp_tab 63 110 = (.goto 5, 3) := by decide +kernel
set_option maxRecDepth 100000 in
theorem ti_63_113 : dp_tab 63 113 = (.iload 5, 2) := by decide +kernel
set_option maxRecDepth 100000 in
theorem ti_63_115 : dp_tab 63 115 = (.iconst 3, 1) := by decide +kernel
set_option maxRecDepth 100000 in
theorem ti_63_116 : dp_tab 63 116 = (.iload 4, 2) := by decide +kernel
set_option maxRecDepth 100000 in
theorem ti_63_118 : dp_tab 63 118 = (.imul, 1) := by decide +kernel
set_option maxRecDepth 100000 in
theorem ti_63_119 : dp_tab 63 119 = (.isub, 1) := by decide +kernel
set_option maxRecDepth 100000 in
theorem ti_63_120 : dp_tab 63 120 = (.istore 5, 2) := by decide +kernel
set_option maxRecDepth 100000 in
theorem ti_63_122 : dp_tab 63 122 = (.iload 5, 2) := by decide +kernel
set_option maxRecDepth 100000 in
theorem ti_63_124 : dp_tab 63 124 = (.ifCond .ge 7, 3) := by decide +kernel
set_option maxRecDepth 100000 in
theorem ti_63_127 : dp_tab 63 127 = (.iconst 0, 1) := by decide +kernel
set_option maxRecDepth 100000 in
theorem ti_63_128 : dp_tab 63 128 = (.goto 5, 3) := by decide +kernel
set_option maxRecDepth 100000 in
theorem ti_63_131 : dp_tab 63 131 = (.iload 5, 2) := by decide +kernel
set_option maxRecDepth 100000 in
theorem ti_63_133 : dp_tab 63 133 = (.ireturn, 1) := by decide +kernel
set_option maxRecDepth 100000 in
theorem ti_64_0 : dp_tab 64 0 = (.aload_n 0, 1) := by decide +kernel
set_option maxRecDepth 100000 in
theorem ti_64_1 : dp_tab 64 1 = (.invokevirtual 47, 3) := by decide +kernel
set_option maxRecDepth 100000 in
theorem ti_64_4 : dp_tab 64 4 = (.astore_n 2, 1) := by decide +kernel
set_option maxRecDepth 100000 in
theorem ti_64_5 : dp_tab 64 5 = (.aload_n 0, 1) := by decide +kernel
set_option maxRecDepth 100000 in
theorem ti_64_6 : dp_tab 64 6 = (.getfield 14, 3) := by decide +kernel
set_option maxRecDepth 100000 in
theorem ti_64_9 : dp_tab 64 9 = (.arraylength, 1) := by decide +kernel
set_option maxRecDepth 100000 in
theorem ti_64_10 : dp_tab 64 10 = (.newarray .int, 2) := by decide +kernel
set_option maxRecDepth 100000 in
theorem ti_64_12 : dp_tab 64 12 = (.astore_n 3, 1) := by decide +kernel
set_option maxRecDepth 100000 in
theorem ti_64_13 : dp_tab 64 13 = (.iconst 0, 1) := by decide +kernel
set_option maxRecDepth 100000 in
theorem ti_64_14 : dp_tab 64 14 = (.istore 4, 2) := by decide +kernel
set_option maxRecDepth 100000 in
theorem ti_64_16 : dp_tab 64 16 = (.iload 4, 2) := by decide +kernel
set_option maxRecDepth 100000 in
theorem ti_64_18 : dp_tab 64 18 = (.aload_n 3, 1) := by decide +kernel
set_option maxRecDepth 100000 in
theorem ti_64_19 : dp_tab 64 19 = (.arraylength, 1) := by decide +kernel
set_option maxRecDepth 100000 in
theorem ti_64_20 : dp_tab 64 20 = (.if_icmp .ge 59, 3) := by decide +kernel
set_option maxRecDepth 100000 in
theorem ti_64_23 : dp_tab 64 23 = (.aload_n 0, 1) := by decide +kernel
set_option maxRecDepth 100000 in
theorem ti_64_24 : dp_tab 64 24 = (.aload_n 1, 1) := by decide +kernel
set_option maxRecDepth 100000 in
theorem ti_64_25 : dp_tab 64 25 = (.aload_n 0, 1) := by decide +kernel
set_option maxRecDepth 100000 in
theorem ti_64_26 : dp_tab 64 26 = (.iload 4, 2) := by decide +kernel
set_option maxRecDepth 100000 in
theorem ti_64_28 : dp_tab 64 28 = (.invokevirtual 40, 3) := by decide +kernel
set_option maxRecDepth 100000 in
theorem ti_64_31 : dp_tab 64 31 = (.aload_n 2, 1) := by decide +kernel
set_option maxRecDepth 100000 in
theorem ti_64_32 : dp_tab 64 32 = (.aload_n 0, 1) := by decide +kernel
set_option maxRecDepth 100000 in
theorem ti_64_33 : dp_tab 64 33 = (.getfield 18, 3) := by decide +kernel
set_option maxRecDepth 100000 in
theorem ti_64_36 : dp_tab 64 36 = (.iload 4, 2) := by decide +kernel
set_option maxRecDepth 100000 in
theorem ti_64_38 : dp_tab 64 38 = (.iaload, 1) := by decide +kernel
set_option maxRecDepth 100000 in
theorem ti_64_39 : dp_tab 64 39 = (.invokevirtual 51, 3) := by decide +kernel
set_option maxRecDepth 100000 in
theorem ti_64_42 : dp_tab 64 42 = (.istore 5, 2) := by decide +kernel
set_option maxRecDepth 100000 in
theorem ti_64_44 : dp_tab 64 44 = (.aload_n 3, 1) := by decide +kernel
set_option maxRecDepth 100000 in
theorem ti_64_45 : dp_tab 64 45 = (.iload 4, 2) := by decide +kernel
set_option maxRecDepth 100000 in
theorem ti_64_47 : dp_tab 64 47 = (.aload_n 1, 1) := by decide +kernel
set_option maxRecDepth 100000 in
theorem ti_64_48 : dp_tab 64 48 = (.getfield 55, 3) := by decide +kernel
set_option maxRecDepth 100000 in
theorem ti_64_51 : dp_tab 64 51 = (.iload 4, 2) := by decide +kernel
set_option maxRecDepth 100000 in
theorem ti_64_53 : dp_tab 64 53 = (.baload, 1) := by decide +kernel
set_option maxRecDepth 100000 in
theorem ti_64_54 : dp_tab 64 54 = (.ifCond .ne 12, 3) := by decide +kernel
set_option maxRecDepth 100000 in
theorem ti_64_57 : dp_tab 64 57 = (.iload 5, 2) := by decide +kernel
set_option maxRecDepth 100000 in
theorem ti_64_59 : dp_tab 64 59 = (.aload_n 1, 1) := by decide +kernel
set_option maxRecDepth 100000 in
theorem ti_64_60 : dp_tab 64 60 = (.getfield 59, 3) := by decide +kernel
set_option maxRecDepth 100000 in
theorem ti_64_63 : dp_tab 64 63 = (.if_icmp .ge 7, 3) := by decide +kernel
set_option maxRecDepth 100000 in
theorem ti_64_66 : dp_tab 64 66 = (.iconst (-1), 1) := by decide +kernel
set_option maxRecDepth 100000 in
theorem ti_64_67 : dp_tab 64 67 = (.goto 5, 3) := by decide +kernel
set_option maxRecDepth 100000 in
theorem ti_64_70 : dp_tab 64 70 = (.iload 5, 2) := by decide +kernel
set_option maxRecDepth 100000 in
theorem ti_64_72 : dp_tab 64 72 = (.iastore, 1) := by decide +kernel
set_option maxRecDepth 100000 in
theorem ti_64_73 : dp_tab 64 73 = (.iinc 4 1, 3) := by decide +kernel
set_option maxRecDepth 100000 in
theorem ti_64_76 : dp_tab 64 76 = (.goto (-60), 3) := by decide +kernel
set_option maxRecDepth 100000 in
theorem ti_64_79 : dp_tab 64 79 = (.aload_n 3, 1) := by decide +kernel
set_option maxRecDepth 100000 in
theorem ti_64_80 : dp_tab 64 80 = (.areturn, 1) := by decide +kernel
set_option maxRecDepth 100000 in
theorem ti_65_0 : dp_tab 65 0 = (.iconst (-1), 1) := by decide +kernel
set_option maxRecDepth 100000 in
theorem ti_65_1 : dp_tab 65 1 = (.istore_n 1, 1) := by decide +kernel
set_option maxRecDepth 100000 in
theorem ti_65_2 : dp_tab 65 2 = (.aload_n 0, 1) := by decide +kernel
set_option maxRecDepth 100000 in
theorem ti_65_3 : dp_tab 65 3 = (.arraylength, 1) := by decide +kernel
set_option maxRecDepth 100000 in
theorem ti_65_4 : dp_tab 65 4 = (.iconst 1, 1) := by decide +kernel
set_option maxRecDepth 100000 in
theorem ti_65_5 : dp_tab 65 5 = (.isub, 1) := by decide +kernel
set_option maxRecDepth 100000 in
theorem ti_65_6 : dp_tab 65 6 = (.istore_n 2, 1) := by decide +kernel
set_option maxRecDepth 100000 in
theorem ti_65_7 : dp_tab 65 7 = (.iload_n 2, 1) := by decide +kernel
set_option maxRecDepth 100000 in
theorem ti_65_8 : dp_tab 65 8 = (.ifCond .lt 30, 3) := by decide +kernel
set_option maxRecDepth 100000 in
theorem ti_65_11 : dp_tab 65 11 = (.aload_n 0, 1) := by decide +kernel
set_option maxRecDepth 100000 in
theorem ti_65_12 : dp_tab 65 12 = (.iload_n 2, 1) := by decide +kernel
set_option maxRecDepth 100000 in
theorem ti_65_13 : dp_tab 65 13 = (.iaload, 1) := by decide +kernel
set_option maxRecDepth 100000 in
theorem ti_65_14 : dp_tab 65 14 = (.ifCond .lt 18, 3) := by decide +kernel
set_option maxRecDepth 100000 in
theorem ti_65_17 : dp_tab 65 17 = (.iload_n 1, 1) := by decide +kernel
set_option maxRecDepth 100000 in
theorem ti_65_18 : dp_tab 65 18 = (.ifCond .lt 12, 3) := by decide +kernel
set_option maxRecDepth 100000 in
theorem ti_65_21 : dp_tab 65 21 = (.aload_n 0, 1) := by decide +kernel
set_option maxRecDepth 100000 in
theorem ti_65_22 : dp_tab 65 22 = (.iload_n 2, 1) := by decide +kernel
set_option maxRecDepth 100000 in
theorem ti_65_23 : dp_tab 65 23 = (.iaload, 1) := by decide +kernel
set_option maxRecDepth 100000 in
theorem ti_65_24 : dp_tab 65 24 = (.aload_n 0, 1) := by decide +kernel
set_option maxRecDepth 100000 in
theorem ti_65_25 : dp_tab 65 25 = (.iload_n 1, 1) := by decide +kernel
set_option maxRecDepth 100000 in
theorem ti_65_26 : dp_tab 65 26 = (.iaload, 1) := by decide +kernel
set_option maxRecDepth 100000 in
theorem ti_65_27 : dp_tab 65 27 = (.if_icmp .lt 5, 3) := by decide +kernel
set_option maxRecDepth 100000 in
theorem ti_65_30 : dp_tab 65 30 = (.iload_n 2, 1) := by decide +kernel
set_option maxRecDepth 100000 in
theorem ti_65_31 : dp_tab 65 31 = (.istore_n 1, 1) := by decide +kernel
set_option maxRecDepth 100000 in
theorem ti_65_32 : dp_tab 65 32 = (.iinc 2 (-1), 3) := by decide +kernel
set_option maxRecDepth 100000 in
theorem ti_65_35 : dp_tab 65 35 = (.goto (-28), 3) := by decide +kernel
set_option maxRecDepth 100000 in
theorem ti_65_38 : dp_tab 65 38 = (.iload_n 1, 1) := by decide +kernel
set_option maxRecDepth 100000 in
theorem ti_65_39 : dp_tab 65 39 = (.ireturn, 1) := by decide +kernel
set_option maxRecDepth 100000 in
theorem ti_66_0 : dp_tab 66 0 = (.aload_n 0, 1) := by decide +kernel
set_option maxRecDepth 100000 in
theorem ti_66_1 : dp_tab 66 1 = (.aload_n 1, 1) := by decide +kernel
set_option maxRecDepth 100000 in
theorem ti_66_2 : dp_tab 66 2 = (.invokevirtual 62, 3) := by decide +kernel
set_option maxRecDepth 100000 in
theorem ti_66_5 : dp_tab 66 5 = (.astore_n 2, 1) := by decide +kernel
set_option maxRecDepth 100000 in
theorem ti_66_6 : dp_tab 66 6 = (.aload_n 2, 1) := by decide +kernel
set_option maxRecDepth 100000 in
theorem ti_66_7 : dp_tab 66 7 = (.invokestatic 66, 3) := by decide +kernel
set_option maxRecDepth 100000 in
theorem ti_66_10 : dp_tab 66 10 = (.istore_n 3, 1) := by decide +kernel
set_option maxRecDepth 100000 in
theorem ti_66_11 : dp_tab 66 11 = (.iload_n 3, 1) := by decide +kernel
set_option maxRecDepth 100000 in
theorem ti_66_12 : dp_tab 66 12 = (.ifCond .ge 5, 3) := by decide +kernel
set_option maxRecDepth 100000 in
theorem ti_66_15 : dp_tab 66 15 = (.iconst (-1), 1) := by decide +kernel
set_option maxRecDepth 100000 in
theorem ti_66_16 : dp_tab 66 16 = (.ireturn, 1) := by decide +kernel
set_option maxRecDepth 100000 in
theorem ti_66_17 : dp_tab 66 17 = (.aload_n 2, 1) := by decide +kernel
set_option maxRecDepth 100000 in
theorem ti_66_18 : dp_tab 66 18 = (.iload_n 3, 1) := by decide +kernel
set_option maxRecDepth 100000 in
theorem ti_66_19 : dp_tab 66 19 = (.iaload, 1) := by decide +kernel
set_option maxRecDepth 100000 in
theorem ti_66_20 : dp_tab 66 20 = (.bipush 20, 2) := by decide +kernel
set_option maxRecDepth 100000 in
theorem ti_66_22 : dp_tab 66 22 = (.idiv, 1) := by decide +kernel
set_option maxRecDepth 100000 in
theorem ti_66_23 : dp_tab 66 23 = (.iconst 2, 1) := by decide +kernel
set_option maxRecDepth 100000 in
theorem ti_66_24 : dp_tab 66 24 = (.iadd, 1) := by decide +kernel
set_option maxRecDepth 100000 in
theorem ti_66_25 : dp_tab 66 25 = (.istore 4, 2) := by decide +kernel
set_option maxRecDepth 100000 in
theorem ti_66_27 : dp_tab 66 27 = (.aload_n 1, 1) := by decide +kernel
set_option maxRecDepth 100000 in
theorem ti_66_28 : dp_tab 66 28 = (.getfield 70, 3) := by decide +kernel
set_option maxRecDepth 100000 in
theorem ti_66_31 : dp_tab 66 31 = (.iload 4, 2) := by decide +kernel
set_option maxRecDepth 100000 in
theorem ti_66_33 : dp_tab 66 33 = (.if_icmp .ge 5, 3) := by decide +kernel
set_option maxRecDepth 100000 in
theorem ti_66_36 : dp_tab 66 36 = (.iconst (-1), 1) := by decide +kernel
set_option maxRecDepth 100000 in
theorem ti_66_37 : dp_tab 66 37 = (.ireturn, 1) := by decide +kernel
set_option maxRecDepth 100000 in
theorem ti_66_38 : dp_tab 66 38 = (.aload_n 1, 1) := by decide +kernel
set_option maxRecDepth 100000 in
theorem ti_66_39 : dp_tab 66 39 = (.dup, 1) := by decide +kernel
set_option maxRecDepth 100000 in
theorem ti_66_40 : dp_tab 66 40 = (.getfield 70, 3) := by decide +kernel
set_option maxRecDepth 100000 in
theorem ti_66_43 : dp_tab 66 43 = (.iload 4, 2) := by decide +kernel
set_option maxRecDepth 100000 in
theorem ti_66_45 : dp_tab 66 45 = (.isub, 1) := by decide +kernel
set_option maxRecDepth 100000 in
theorem ti_66_46 : dp_tab 66 46 = (.putfield 70, 3) := by decide +kernel
set_option maxRecDepth 100000 in
theorem ti_66_49 : dp_tab 66 49 = (.aload_n 1, 1) := by decide +kernel
set_option maxRecDepth 100000 in
theorem ti_66_50 : dp_tab 66 50 = (.dup, 1) := by decide +kernel
set_option maxRecDepth 100000 in
theorem ti_66_51 : dp_tab 66 51 = (.getfield 73, 3) := by decide +kernel
set_option maxRecDepth 100000 in
theorem ti_66_54 : dp_tab 66 54 = (.iload 4, 2) := by decide +kernel
set_option maxRecDepth 100000 in
theorem ti_66_56 : dp_tab 66 56 = (.iadd, 1) := by decide +kernel
set_option maxRecDepth 100000 in
theorem ti_66_57 : dp_tab 66 57 = (.putfield 73, 3) := by decide +kernel
set_option maxRecDepth 100000 in
theorem ti_66_60 : dp_tab 66 60 = (.aload_n 1, 1) := by decide +kernel
set_option maxRecDepth 100000 in
theorem ti_66_61 : dp_tab 66 61 = (.getfield 55, 3) := by decide +kernel
set_option maxRecDepth 100000 in
theorem ti_66_64 : dp_tab 66 64 = (.iload_n 3, 1) := by decide +kernel
set_option maxRecDepth 100000 in
theorem ti_66_65 : dp_tab 66 65 = (.iconst 1, 1) := by decide +kernel
set_option maxRecDepth 100000 in
theorem ti_66_66 : dp_tab 66 66 = (.bastore, 1) := by decide +kernel
set_option maxRecDepth 100000 in
theorem ti_66_67 : dp_tab 66 67 = (.iload_n 3, 1) := by decide +kernel
set_option maxRecDepth 100000 in
theorem ti_66_68 : dp_tab 66 68 = (.ireturn, 1) := by decide +kernel
set_option maxRecDepth 100000 in
theorem ti_67_0 : dp_tab 67 0 = (.iconst 0, 1) := by decide +kernel
set_option maxRecDepth 100000 in
theorem ti_67_1 : dp_tab 67 1 = (.istore_n 1, 1) := by decide +kernel
set_option maxRecDepth 100000 in
theorem ti_67_2 : dp_tab 67 2 = (.aload_n 0, 1) := by decide +kernel
set_option maxRecDepth 100000 in
theorem ti_67_3 : dp_tab 67 3 = (.getfield 23, 3) := by decide +kernel
set_option maxRecDepth 100000 in
theorem ti_67_6 : dp_tab 67 6 = (.astore_n 2, 1) := by decide +kernel
set_option maxRecDepth 100000 in
theorem ti_67_7 : dp_tab 67 7 = (.aload_n 2, 1) := by decide +kernel
set_option maxRecDepth 100000 in
theorem ti_67_8 : dp_tab 67 8 = (.arraylength, 1) := by decide +kernel
set_option maxRecDepth 100000 in
theorem ti_67_9 : dp_tab 67 9 = (.istore_n 3, 1) := by decide +kernel
set_option maxRecDepth 100000 in
theorem ti_67_10 : dp_tab 67 10 = (.iconst 0, 1) := by decide +kernel
set_option maxRecDepth 100000 in
theorem ti_67_11 : dp_tab 67 11 = (.istore 4, 2) := by decide +kernel
set_option maxRecDepth 100000 in
theorem ti_67_13 : dp_tab 67 13 = (.iload 4, 2) := by decide +kernel
set_option maxRecDepth 100000 in
theorem ti_67_15 : dp_tab 67 15 = (.iload_n 3, 1) := by decide +kernel
set_option maxRecDepth 100000 in
theorem ti_67_16 : dp_tab 67 16 = (.if_icmp .ge 49, 3) := by decide +kernel
set_option maxRecDepth 100000 in
theorem ti_67_19 : dp_tab 67 19 = (.aload_n 2, 1) := by decide +kernel
set_option maxRecDepth 100000 in
theorem ti_67_20 : dp_tab 67 20 = (.iload 4, 2) := by decide +kernel
set_option maxRecDepth 100000 in
theorem ti_67_22 : dp_tab 67 22 = (.aaload, 1) := by decide +kernel
set_option maxRecDepth 100000 in
theorem ti_67_23 : dp_tab 67 23 = (.astore 5, 2) := by decide +kernel
set_option maxRecDepth 100000 in
theorem ti_67_25 : dp_tab 67 25 = (.iload_n 1, 1) := by decide +kernel
set_option maxRecDepth 100000 in
theorem ti_67_26 : dp_tab 67 26 = (.aload_n 0, 1) := by decide +kernel
set_option maxRecDepth 100000 in
theorem ti_67_27 : dp_tab 67 27 = (.aload 5, 2) := by decide +kernel
set_option maxRecDepth 100000 in
theorem ti_67_29 : dp_tab 67 29 = (.invokevirtual 76, 3) := by decide +kernel
set_option maxRecDepth 100000 in
theorem ti_67_32 : dp_tab 67 32 = (.ifCond .ge 7, 3) := by decide +kernel
set_option maxRecDepth 100000 in
theorem ti_67_35 : dp_tab 67 35 = (.iconst 0, 1) := by decide +kernel
set_option maxRecDepth 100000 in
theorem ti_67_36 : dp_tab 67 36 = (.goto 4, 3) := by decide +kernel
set_option maxRecDepth 100000 in
theorem ti_67_39 : dp_tab 67 39 = (.iconst 1, 1) := by decide +kernel
set_option maxRecDepth 100000 in
theorem ti_67_40 : dp_tab 67 40 = (.iadd, 1) := by decide +kernel
set_option maxRecDepth 100000 in
theorem ti_67_41 : dp_tab 67 41 = (.istore_n 1, 1) := by decide +kernel
set_option maxRecDepth 100000 in
theorem ti_67_42 : dp_tab 67 42 = (.iload_n 1, 1) := by decide +kernel
set_option maxRecDepth 100000 in
theorem ti_67_43 : dp_tab 67 43 = (.aload_n 0, 1) := by decide +kernel
set_option maxRecDepth 100000 in
theorem ti_67_44 : dp_tab 67 44 = (.aload 5, 2) := by decide +kernel
set_option maxRecDepth 100000 in
theorem ti_67_46 : dp_tab 67 46 = (.invokevirtual 76, 3) := by decide +kernel
set_option maxRecDepth 100000 in
theorem ti_67_49 : dp_tab 67 49 = (.ifCond .ge 7, 3) := by decide +kernel
set_option maxRecDepth 100000 in
theorem ti_67_52 : dp_tab 67 52 = (.iconst 0, 1) := by decide +kernel
set_option maxRecDepth 100000 in
theorem ti_67_53 : dp_tab 67 53 = (.goto 4, 3) := by decide +kernel
set_option maxRecDepth 100000 in
theorem ti_67_56 : dp_tab 67 56 = (.iconst 1, 1) := by decide +kernel
set_option maxRecDepth 100000 in
theorem ti_67_57 : dp_tab 67 57 = (.iadd, 1) := by decide +kernel
set_option maxRecDepth 100000 in
theorem ti_67_58 : dp_tab 67 58 = (.istore_n 1, 1) := by decide +kernel
set_option maxRecDepth 100000 in
theorem ti_67_59 : dp_tab 67 59 = (.iinc 4 1, 3) := by decide +kernel
set_option maxRecDepth 100000 in
theorem ti_67_62 : dp_tab 67 62 = (.goto (-49), 3) := by decide +kernel
set_option maxRecDepth 100000 in
theorem ti_67_65 : dp_tab 67 65 = (.iconst 0, 1) := by decide +kernel
set_option maxRecDepth 100000 in
theorem ti_67_66 : dp_tab 67 66 = (.istore_n 2, 1) := by decide +kernel
set_option maxRecDepth 100000 in
theorem ti_67_67 : dp_tab 67 67 = (.iload_n 2, 1) := by decide +kernel
set_option maxRecDepth 100000 in
theorem ti_67_68 : dp_tab 67 68 = (.aload_n 0, 1) := by decide +kernel
set_option maxRecDepth 100000 in
theorem ti_67_69 : dp_tab 67 69 = (.getfield 14, 3) := by decide +kernel
set_option maxRecDepth 100000 in
theorem ti_67_72 : dp_tab 67 72 = (.arraylength, 1) := by decide +kernel
set_option maxRecDepth 100000 in
theorem ti_67_73 : dp_tab 67 73 = (.if_icmp .ge 19, 3) := by decide +kernel
set_option maxRecDepth 100000 in
theorem ti_67_76 : dp_tab 67 76 = (.aload_n 0, 1) := by decide +kernel
set_option maxRecDepth 100000 in
theorem ti_67_77 : dp_tab 67 77 = (.getfield 18, 3) := by decide +kernel
set_option maxRecDepth 100000 in
theorem ti_67_80 : dp_tab 67 80 = (.iload_n 2, 1) := by decide +kernel
set_option maxRecDepth 100000 in
theorem ti_67_81 : dp_tab 67 81 = (.dup2, 1) := by decide +kernel
set_option maxRecDepth 100000 in
theorem ti_67_82 : dp_tab 67 82 = (.iaload, 1) := by decide +kernel
set_option maxRecDepth 100000 in
theorem ti_67_83 : dp_tab 67 83 = (.iconst 1, 1) := by decide +kernel
set_option maxRecDepth 100000 in
theorem ti_67_84 : dp_tab 67 84 = (.iadd, 1) := by decide +kernel
set_option maxRecDepth 100000 in
theorem ti_67_85 : dp_tab 67 85 = (.iastore, 1) := by decide +kernel
set_option maxRecDepth 100000 in
theorem ti_67_86 : dp_tab 67 86 = (.iinc 2 1, 3) := by decide +kernel
set_option maxRecDepth 100000 in
theorem ti_67_89 : dp_tab 67 89 = (.goto (-22), 3) := by decide +kernel
set_option maxRecDepth 100000 in
theorem ti_67_92 : dp_tab 67 92 = (.aload_n 0, 1) := by decide +kernel
set_option maxRecDepth 100000 in
theorem ti_67_93 : dp_tab 67 93 = (.dup, 1) := by decide +kernel
set_option maxRecDepth 100000 in
theorem ti_67_94 : dp_tab 67 94 = (.getfield 36, 3) := by decide +kernel
set_option maxRecDepth 100000 in
theorem ti_67_97 : dp_tab 67 97 = (.iconst 1, 1) := by decide +kernel
set_option maxRecDepth 100000 in
theorem ti_67_98 : dp_tab 67 98 = (.iadd, 1) := by decide +kernel
set_option maxRecDepth 100000 in
theorem ti_67_99 : dp_tab 67 99 = (.putfield 36, 3) := by decide +kernel
set_option maxRecDepth 100000 in
theorem ti_67_102 : dp_tab 67 102 = (.iload_n 1, 1) := by decide +kernel
set_option maxRecDepth 100000 in
theorem ti_67_103 : dp_tab 67 103 = (.ireturn, 1) := by decide +kernel
set_option maxRecDepth 100000 in
theorem ti_68_0 : dp_tab 68 0 = (.aload_n 0, 1) := by decide +kernel
set_option maxRecDepth 100000 in
theorem ti_68_1 : dp_tab 68 1 = (.invokevirtual 47, 3) := by decide +kernel
set_option maxRecDepth 100000 in
theorem ti_68_4 : dp_tab 68 4 = (.astore_n 2, 1) := by decide +kernel
set_option maxRecDepth 100000 in
theorem ti_68_5 : dp_tab 68 5 = (.bipush 20, 2) := by decide +kernel
set_option maxRecDepth 100000 in
theorem ti_68_7 : dp_tab 68 7 = (.newarray .int, 2) := by decide +kernel
set_option maxRecDepth 100000 in
theorem ti_68_9 : dp_tab 68 9 = (.astore_n 3, 1) := by decide +kernel
set_option maxRecDepth 100000 in
theorem ti_68_10 : dp_tab 68 10 = (.iconst 0, 1) := by decide +kernel
set_option maxRecDepth 100000 in
theorem ti_68_11 : dp_tab 68 11 = (.istore 4, 2) := by decide +kernel
set_option maxRecDepth 100000 in
theorem ti_68_13 : dp_tab 68 13 = (.iconst 0, 1) := by decide +kernel
set_option maxRecDepth 100000 in
theorem ti_68_14 : dp_tab 68 14 = (.istore 5, 2) := by decide +kernel
set_option maxRecDepth 100000 in
theorem ti_68_16 : dp_tab 68 16 = (.iload 5, 2) := by decide +kernel
set_option maxRecDepth 100000 in
theorem ti_68_18 : dp_tab 68 18 = (.bipush 20, 2) := by decide +kernel
set_option maxRecDepth 100000 in
theorem ti_68_20 : dp_tab 68 20 = (.if_icmp .ge 24, 3) := by decide +kernel
set_option maxRecDepth 100000 in
theorem ti_68_23 : dp_tab 68 23 = (.aload_n 1, 1) := by decide +kernel
set_option maxRecDepth 100000 in
theorem ti_68_24 : dp_tab 68 24 = (.iload 5, 2) := by decide +kernel
set_option maxRecDepth 100000 in
theorem ti_68_26 : dp_tab 68 26 = (.invokevirtual 80, 3) := by decide +kernel
set_option maxRecDepth 100000 in
theorem ti_68_29 : dp_tab 68 29 = (.aload_n 2, 1) := by decide +kernel
set_option maxRecDepth 100000 in
theorem ti_68_30 : dp_tab 68 30 = (.iload 5, 2) := by decide +kernel
set_option maxRecDepth 100000 in
theorem ti_68_32 : dp_tab 68 32 = (.iaload, 1) := by decide +kernel
set_option maxRecDepth 100000 in
theorem ti_68_33 : dp_tab 68 33 = (.if_icmp .eq 5, 3) := by decide +kernel
set_option maxRecDepth 100000 in
theorem ti_68_36 : dp_tab 68 36 = (.iconst 0, 1) := by decide +kernel
set_option maxRecDepth 100000 in
theorem ti_68_37 : dp_tab 68 37 = (.ireturn, 1) := by decide +kernel
set_option maxRecDepth 100000 in
theorem ti_68_38 : dp_tab 68 38 = (.iinc 5 1, 3) := by decide +kernel
set_option maxRecDepth 100000 in
theorem ti_68_41 : dp_tab 68 41 = (.goto (-25), 3) := by decide +kernel
set_option maxRecDepth 100000 in
theorem ti_68_44 : dp_tab 68 44 = (.iconst 0, 1) := by decide +kernel
set_option maxRecDepth 100000 in
theorem ti_68_45 : dp_tab 68 45 = (.istore 5, 2) := by decide +kernel
set_option maxRecDepth 100000 in
theorem ti_68_47 : dp_tab 68 47 = (.iload 5, 2) := by decide +kernel
set_option maxRecDepth 100000 in
theorem ti_68_49 : dp_tab 68 49 = (.aload_n 0, 1) := by decide +kernel
set_option maxRecDepth 100000 in
theorem ti_68_50 : dp_tab 68 50 = (.getfield 14, 3) := by decide +kernel
set_option maxRecDepth 100000 in
theorem ti_68_53 : dp_tab 68 53 = (.arraylength, 1) := by decide +kernel
set_option maxRecDepth 100000 in
theorem ti_68_54 : dp_tab 68 54 = (.if_icmp .ge 251, 3) := by decide +kernel
set_option maxRecDepth 100000 in
theorem ti_68_57 : dp_tab 68 57 = (.aload_n 0, 1) := by decide +kernel
set_option maxRecDepth 100000 in
theorem ti_68_58 : dp_tab 68 58 = (.iload 5, 2) := by decide +kernel
set_option maxRecDepth 100000 in
theorem ti_68_60 : dp_tab 68 60 = (.invokevirtual 40, 3) := by decide +kernel
set_option maxRecDepth 100000 in
theorem ti_68_63 : dp_tab 68 63 = (.astore 6, 2) := by decide +kernel
set_option maxRecDepth 100000 in
theorem ti_68_65 : dp_tab 68 65 = (.iconst 0, 1) := by decide +kernel
set_option maxRecDepth 100000 in
theorem ti_68_66 : dp_tab 68 66 = (.istore 7, 2) := by decide +kernel
set_option maxRecDepth 100000 in
theorem ti_68_68 : dp_tab 68 68 = (.iconst 0, 1) := by decide +kernel
set_option maxRecDepth 100000 in
theorem ti_68_69 : dp_tab 68 69 = (.istore 8, 2) := by decide +kernel
set_option maxRecDepth 100000 in
theorem ti_68_71 : dp_tab 68 71 = (.iconst 0, 1) := by decide +kernel
set_option maxRecDepth 100000 in
theorem ti_68_72 : dp_tab 68 72 = (.istore 9, 2) := by decide +kernel
set_option maxRecDepth 100000 in
theorem ti_68_74 : dp_tab 68 74 = (.iload 9, 2) := by decide +kernel
set_option maxRecDepth 100000 in
theorem ti_68_76 : dp_tab 68 76 = (.bipush 20, 2) := by decide +kernel
set_option maxRecDepth 100000 in
theorem ti_68_78 : dp_tab 68 78 = (.if_icmp .ge 39, 3) := by decide +kernel
set_option maxRecDepth 100000 in
theorem ti_68_81 : dp_tab 68 81 = (.iload 7, 2) := by decide +kernel
set_option maxRecDepth 100000 in
theorem ti_68_83 : dp_tab 68 83 = (.aload 6, 2) := by decide +kernel
set_option maxRecDepth 100000 in
theorem ti_68_85 : dp_tab 68 85 = (.iload 9, 2) := by decide +kernel
set_option maxRecDepth 100000 in
theorem ti_68_87 : dp_tab 68 87 = (.iaload, 1) := by decide +kernel
set_option maxRecDepth 100000 in
theorem ti_68_88 : dp_tab 68 88 = (.ifCond .le 7, 3) := by decide +kernel
set_option maxRecDepth 100000 in
theorem ti_68_91 : dp_tab 68 91 = (.iconst 1, 1) := by decide +kernel
set_option maxRecDepth 100000 in
theorem ti_68_92 : dp_tab 68 92 = (.goto 4, 3) := by decide +kernel
set_option maxRecDepth 100000 in
theorem ti_68_95 : dp_tab 68 95 = (.iconst 0, 1) := by decide +kernel
set_option maxRecDepth 100000 in
theorem ti_68_96 : dp_tab 68 96 = (.iadd, 1) := by decide +kernel
set_option maxRecDepth 100000 in
theorem ti_68_97 : dp_tab 68 97 = (.istore 7, 2) := by decide +kernel
set_option maxRecDepth 100000 in
theorem ti_68_99 : dp_tab 68 99 = (.aload_n 3, 1) := by decide +kernel
set_option maxRecDepth 100000 in
theorem ti_68_100 : dp_tab 68 100 = (.iload 9, 2) := by decide +kernel
set_option maxRecDepth 100000 in
theorem ti_68_102 : dp_tab 68 102 = (.dup2, 1) := by decide +kernel
set_option maxRecDepth 100000 in
theorem ti_68_103 : dp_tab 68 103 = (.iaload, 1) := by decide +kernel
set_option maxRecDepth 100000 in
theorem ti_68_104 : dp_tab 68 104 = (.aload 6, 2) := by decide +kernel
set_option maxRecDepth 100000 in
theorem ti_68_106 : dp_tab 68 106 = (.iload 9, 2) := by decide +kernel
set_option maxRecDepth 100000 in
theorem ti_68_108 : dp_tab 68 108 = (.iaload, 1) := by decide +kernel
set_option maxRecDepth 100000 in
theorem ti_68_109 : dp_tab 68 109 = (.iadd, 1) := by decide +kernel
set_option maxRecDepth 100000 in
theorem ti_68_110 : dp_tab 68 110 = (.iastore, 1) := by decide +kernel
set_option maxRecDepth 100000 in
theorem ti_68_111 : dp_tab 68 111 = (.iinc 9 1, 3) := by decide +kernel
set_option maxRecDepth 100000 in
theorem ti_68_114 : dp_tab 68 114 = (.goto (-40), 3) := by decide +kernel
set_option maxRecDepth 100000 in
theorem ti_68_117 : dp_tab 68 117 = (.aload_n 0, 1) := by decide +kernel
set_option maxRecDepth 100000 in
theorem ti_68_118 : dp_tab 68 118 = (.getfield 23, 3) := by decide +kernel
set_option maxRecDepth 100000 in
theorem ti_68_121 : dp_tab 68 121 = (.astore 9, 2) := by decide +kernel
set_option maxRecDepth 100000 in
theorem ti_68_123 : dp_tab 68 123 = (.aload 9, 2) := by decide +kernel
set_option maxRecDepth 100000 in
theorem ti_68_125 : dp_tab 68 125 = (.arraylength, 1) := by decide +kernel
set_option maxRecDepth 100000 in
theorem ti_68_126 : dp_tab 68 126 = (.istore 10, 2) := by decide +kernel
set_option maxRecDepth 100000 in
theorem ti_68_128 : dp_tab 68 128 = (.iconst 0, 1) := by decide +kernel
set_option maxRecDepth 100000 in
theorem ti_68_129 : dp_tab 68 129 = (.istore 11, 2) := by decide +kernel
set_option maxRecDepth 100000 in
theorem ti_68_131 : dp_tab 68 131 = (.iload 11, 2) := by decide +kernel
set_option maxRecDepth 100000 in
theorem ti_68_133 : dp_tab 68 133 = (.iload 10, 2) := by decide +kernel
set_option maxRecDepth 100000 in
theorem ti_68_135 : dp_tab 68 135 = (.if_icmp .ge 37, 3) := by decide +kernel
set_option maxRecDepth 100000 in
theorem ti_68_138 : dp_tab 68 138 = (.aload 9, 2) := by decide +kernel
set_option maxRecDepth 100000 in
theorem ti_68_140 : dp_tab 68 140 = (.iload 11, 2) := by decide +kernel
set_option maxRecDepth 100000 in
theorem ti_68_142 : dp_tab 68 142 = (.aaload, 1) := by decide +kernel
set_option maxRecDepth 100000 in
theorem ti_68_143 : dp_tab 68 143 = (.astore 12, 2) := by decide +kernel
set_option maxRecDepth 100000 in
theorem ti_68_145 : dp_tab 68 145 = (.iload 8, 2) := by decide +kernel
set_option maxRecDepth 100000 in
theorem ti_68_147 : dp_tab 68 147 = (.aload 12, 2) := by decide +kernel
set_option maxRecDepth 100000 in
theorem ti_68_149 : dp_tab 68 149 = (.getfield 55, 3) := by decide +kernel
set_option maxRecDepth 100000 in
theorem ti_68_152 : dp_tab 68 152 = (.iload 5, 2) := by decide +kernel
set_option maxRecDepth 100000 in
theorem ti_68_154 : dp_tab 68 154 = (.baload, 1) := by decide +kernel
set_option maxRecDepth 100000 in
theorem ti_68_155 : dp_tab 68 155 = (.ifCond .eq 7, 3) := by decide +kernel
set_option maxRecDepth 100000 in
theorem ti_68_158 : dp_tab 68 158 = (.iconst 1, 1) := by decide +kernel
set_option maxRecDepth 100000 in
theorem ti_68_159 : dp_tab 68 159 = (.goto 4, 3) := by decide +kernel
set_option maxRecDepth 100000 in
theorem ti_68_162 : dp_tab 68 162 = (.iconst 0, 1) := by decide +kernel
set_option maxRecDepth 100000 in
theorem ti_68_163 : dp_tab 68 163 = (.iadd, 1) := by decide +kernel
set_option maxRecDepth 100000 in
theorem ti_68_164 : dp_tab 68 164 = (.istore 8, 2) := by decide +kernel
set_option maxRecDepth 100000 in
theorem ti_68_166 : dp_tab 68 166 = (.iinc 11 1, 3) := by decide +kernel
set_option maxRecDepth 100000 in
theorem ti_68_169 : dp_tab 68 169 = (.goto (-38), 3) := by decide +kernel
set_option maxRecDepth 100000 in
theorem ti_68_172 : dp_tab 68 172 = (.iconst 4, 1) := by decide +kernel
set_option maxRecDepth 100000 in
theorem ti_68_173 : dp_tab 68 173 = (.newarray .int, 2) := by decide +kernel
set_option maxRecDepth 100000 in
theorem ti_68_175 : dp_tab 68 175 = (.dup, 1) := by decide +kernel
set_option maxRecDepth 100000 in
theorem ti_68_176 : dp_tab 68 176 = (.iconst 0, 1) := by decide +kernel
set_option maxRecDepth 100000 in
theorem ti_68_177 : dp_tab 68 177 = (.aload_n 0, 1) := by decide +kernel
set_option maxRecDepth 100000 in
theorem ti_68_178 : dp_tab 68 178 = (.getfield 14, 3) := by decide +kernel
set_option maxRecDepth 100000 in
theorem ti_68_181 : dp_tab 68 181 = (.iload 5, 2) := by decide +kernel
set_option maxRecDepth 100000 in
theorem ti_68_183 : dp_tab 68 183 = (.aaload, 1) := by decide +kernel
set_option maxRecDepth 100000 in
theorem ti_68_184 : dp_tab 68 184 = (.arraylength, 1) := by decide +kernel
set_option maxRecDepth 100000 in
theorem ti_68_185 : dp_tab 68 185 = (.iastore, 1) := by decide +kernel
set_option maxRecDepth 100000 in
theorem ti_68_186 : dp_tab 68 186 = (.dup, 1) := by decide +kernel
set_option maxRecDepth 100000 in
theorem ti_68_187 : dp_tab 68 187 = (.iconst 1, 1) := by decide +kernel
set_option maxRecDepth 100000 in
theorem ti_68_188 : dp_tab 68 188 = (.iload 7, 2) := by decide +kernel
set_option maxRecDepth 100000 in
theorem ti_68_190 : dp_tab 68 190 = (.iastore, 1) := by decide +kernel
set_option maxRecDepth 100000 in
theorem ti_68_191 : dp_tab 68 191 = (.dup, 1) := by decide +kernel
set_option maxRecDepth 100000 in
theorem ti_68_192 : dp_tab 68 192 = (.iconst 2, 1) := by decide +kernel
set_option maxRecDepth 100000 in
theorem ti_68_193 : dp_tab 68 193 = (.aload_n 0, 1) := by decide +kernel
set_option maxRecDepth 100000 in
theorem ti_68_194 : dp_tab 68 194 = (.getfield 18, 3) := by decide +kernel
set_option maxRecDepth 100000 in
theorem ti_68_197 : dp_tab 68 197 = (.iload 5, 2) := by decide +kernel
set_option maxRecDepth 100000 in
theorem ti_68_199 : dp_tab 68 199 = (.iaload, 1) := by decide +kernel
set_option maxRecDepth 100000 in
theorem ti_68_200 : dp_tab 68 200 = (.iastore, 1) := by decide +kernel
set_option maxRecDepth 100000 in
theorem ti_68_201 : dp_tab 68 201 = (.dup, 1) := by decide +kernel
set_option maxRecDepth 100000 in
theorem ti_68_202 : dp_tab 68 202 = (.iconst 3, 1) := by decide +kernel
set_option maxRecDepth 100000 in
theorem ti_68_203 : dp_tab 68 203 = (.iload 8, 2) := by decide +kernel
set_option maxRecDepth 100000 in
theorem ti_68_205 : dp_tab 68 205 = (.iastore, 1) := by decide +kernel
set_option maxRecDepth 100000 in
theorem ti_68_206 : dp_tab 68 206 = (.astore 9, 2) := by decide +kernel
set_option maxRecDepth 100000 in
theorem ti_68_208 : dp_tab 68 208 = (.iconst 0, 1) := by decide +kernel
set_option maxRecDepth 100000 in
theorem ti_68_209 : dp_tab 68 209 = (.istore 10, 2) := by decide +kernel
set_option maxRecDepth 100000 in
theorem ti_68_211 : dp_tab 68 211 = (.iload 10, 2) := by decide +kernel
set_option maxRecDepth 100000 in
theorem ti_68_213 : dp_tab 68 213 = (.iconst 4, 1) := by decide +kernel
set_option maxRecDepth 100000 in
theorem ti_68_214 : dp_tab 68 214 = (.if_icmp .ge 27, 3) := by decide +kernel
set_option maxRecDepth 100000 in
theorem ti_68_217 : dp_tab 68 217 = (.aload_n 1, 1) := by decide +kernel
set_option maxRecDepth 100000 in
theorem ti_68_218 : dp_tab 68 218 = (.iload 5, 2) := by decide +kernel
set_option maxRecDepth 100000 in
theorem ti_68_220 : dp_tab 68 220 = (.iload 10, 2) := by decide +kernel
set_option maxRecDepth 100000 in
theorem ti_68_222 : dp_tab 68 222 = (.invokevirtual 86, 3) := by decide +kernel
set_option maxRecDepth 100000 in
theorem ti_68_225 : dp_tab 68 225 = (.aload 9, 2) := by decide +kernel
set_option maxRecDepth 100000 in
theorem ti_68_227 : dp_tab 68 227 = (.iload 10, 2) := by decide +kernel
set_option maxRecDepth 100000 in
theorem ti_68_229 : dp_tab 68 229 = (.iaload, 1) := by decide +kernel
set_option maxRecDepth 100000 in
theorem ti_68_230 : dp_tab 68 230 = (.if_icmp .eq 5, 3) := by decide +kernel
set_option maxRecDepth 100000 in
theorem ti_68_233 : dp_tab 68 233 = (.iconst 0, 1) := by decide +kernel
set_option maxRecDepth 100000 in
theorem ti_68_234 : dp_tab 68 234 = (.ireturn, 1) := by decide +kernel
set_option maxRecDepth 100000 in
theorem ti_68_235 : dp_tab 68 235 = (.iinc 10 1, 3) := by decide +kernel
set_option maxRecDepth 100000 in
theorem ti_68_238 : dp_tab 68 238 = (.goto (-27), 3) := by decide +kernel
set_option maxRecDepth 100000 in
theorem ti_68_241 : dp_tab 68 241 = (.iconst 0, 1) := by decide +kernel
set_option maxRecDepth 100000 in
theorem ti_68_242 : dp_tab 68 242 = (.istore 10, 2) := by decide +kernel
set_option maxRecDepth 100000 in
theorem ti_68_244 : dp_tab 68 244 = (.iload 10, 2) := by decide +kernel
set_option maxRecDepth 100000 in
theorem ti_68_246 : dp_tab 68 246 = (.aload_n 0, 1) := by decide +kernel
set_option maxRecDepth 100000 in
theorem ti_68_247 : dp_tab 68 247 = (.getfield 14, 3) := by decide +kernel
set_option maxRecDepth 100000 in
theorem ti_68_250 : dp_tab 68 250 = (.iload 5, 2) := by decide +kernel
set_option maxRecDepth 100000 in
theorem ti_68_252 : dp_tab 68 252 = (.aaload, 1) := by decide +kernel
set_option maxRecDepth 100000 in
theorem ti_68_253 : dp_tab 68 253 = (.arraylength, 1) := by decide +kernel
set_option maxRecDepth 100000 in
theorem ti_68_254 : dp_tab 68 254 = (.if_icmp .ge 32, 3) := by decide +kernel
set_option maxRecDepth 100000 in
theorem ti_68_257 : dp_tab 68 257 = (.aload_n 1, 1) := by decide +kernel
set_option maxRecDepth 100000 in
theorem ti_68_258 : dp_tab 68 258 = (.iload 5, 2) := by decide +kernel
set_option maxRecDepth 100000 in
theorem ti_68_260 : dp_tab 68 260 = (.iload 10, 2) := by decide +kernel
set_option maxRecDepth 100000 in
theorem ti_68_262 : dp_tab 68 262 = (.invokevirtual 90, 3) := by decide +kernel
set_option maxRecDepth 100000 in
theorem ti_68_265 : dp_tab 68 265 = (.aload_n 0, 1) := by decide +kernel
set_option maxRecDepth 100000 in
theorem ti_68_266 : dp_tab 68 266 = (.getfield 14, 3) := by decide +kernel
set_option maxRecDepth 100000 in
theorem ti_68_269 : dp_tab 68 269 = (.iload 5, 2) := by decide +kernel
set_option maxRecDepth 100000 in
theorem ti_68_271 : dp_tab 68 271 = (.aaload, 1) := by decide +kernel
set_option maxRecDepth 100000 in
theorem ti_68_272 : dp_tab 68 272 = (.iload 10, 2) := by decide +kernel
set_option maxRecDepth 100000 in
theorem ti_68_274 : dp_tab 68 274 = (.iaload, 1) := by decide +kernel
set_option maxRecDepth 100000 in
theorem ti_68_275 : dp_tab 68 275 = (.if_icmp .eq 5, 3) := by decide +kernel
set_option maxRecDepth 100000 in
theorem ti_68_278 : dp_tab 68 278 = (.iconst 0, 1) := by decide +kernel
set_option maxRecDepth 100000 in
theorem ti_68_279 : dp_tab 68 279 = (.ireturn, 1) := by decide +kernel
set_option maxRecDepth 100000 in
theorem ti_68_280 : dp_tab 68 280 = (.iinc 10 1, 3) := by decide +kernel
set_option maxRecDepth 100000 in
theorem ti_68_283 : dp_tab 68 283 = (.goto (-39), 3) := by decide +kernel
set_option maxRecDepth 100000 in
theorem ti_68_286 : dp_tab 68 286 = (.iload 4, 2) := by decide +kernel
set_option maxRecDepth 100000 in
theorem ti_68_288 : dp_tab 68 288 = (.aload_n 0, 1) := by decide +kernel
set_option maxRecDepth 100000 in
theorem ti_68_289 : dp_tab 68 289 = (.getfield 14, 3) := by decide +kernel
set_option maxRecDepth 100000 in
theorem ti_68_292 : dp_tab 68 292 = (.iload 5, 2) := by decide +kernel
set_option maxRecDepth 100000 in
theorem ti_68_294 : dp_tab 68 294 = (.aaload, 1) := by decide +kernel
set_option maxRecDepth 100000 in
theorem ti_68_295 : dp_tab 68 295 = (.arraylength, 1) := by decide +kernel
set_option maxRecDepth 100000 in
theorem ti_68_296 : dp_tab 68 296 = (.iadd, 1) := by decide +kernel
set_option maxRecDepth 100000 in
theorem ti_68_297 : dp_tab 68 297 = (.istore 4, 2) := by decide +kernel
set_option maxRecDepth 100000 in
theorem ti_68_299 : dp_tab 68 299 = (.iinc 5 1, 3) := by decide +kernel
set_option maxRecDepth 100000 in
theorem ti_68_302 : dp_tab 68 302 = (.goto (-255), 3) := by decide +kernel
set_option maxRecDepth 100000 in
theorem ti_68_305 : dp_tab 68 305 = (.iconst 0, 1) := by decide +kernel
set_option maxRecDepth 100000 in
theorem ti_68_306 : dp_tab 68 306 = (.istore 5, 2) := by decide +kernel
set_option maxRecDepth 100000 in
theorem ti_68_308 : dp_tab 68 308 = (.iconst 0, 1) := by decide +kernel
set_option maxRecDepth 100000 in
theorem ti_68_309 : dp_tab 68 309 = (.istore 6, 2) := by decide +kernel
set_option maxRecDepth 100000 in
theorem ti_68_311 : dp_tab 68 311 = (.iconst 0, 1) := by decide +kernel
set_option maxRecDepth 100000 in
theorem ti_68_312 : dp_tab 68 312 = (.istore 7, 2) := by decide +kernel
set_option maxRecDepth 100000 in
theorem ti_68_314 : dp_tab 68 314 = (.iload 7, 2) := by decide +kernel
set_option maxRecDepth 100000 in
theorem ti_68_316 : dp_tab 68 316 = (.aload_n 0, 1) := by decide +kernel
set_option maxRecDepth 100000 in
theorem ti_68_317 : dp_tab 68 317 = (.getfield 23, 3) := by decide +kernel
set_option maxRecDepth 100000 in
theorem ti_68_320 : dp_tab 68 320 = (.arraylength, 1) := by decide +kernel
set_option maxRecDepth 100000 in
theorem ti_68_321 : dp_tab 68 321 = (.if_icmp .ge 308, 3) := by decide +kernel
set_option maxRecDepth 100000 in
theorem ti_68_324 : dp_tab 68 324 = (.aload_n 0, 1) := by decide +kernel
set_option maxRecDepth 100000 in
theorem ti_68_325 : dp_tab 68 325 = (.getfield 23, 3) := by decide +kernel
set_option maxRecDepth 100000 in
theorem ti_68_328 : dp_tab 68 328 = (.iload 7, 2) := by decide +kernel
set_option maxRecDepth 100000 in
theorem ti_68_330 : dp_tab 68 330 = (.aaload, 1) := by decide +kernel
set_option maxRecDepth 100000 in
theorem ti_68_331 : dp_tab 68 331 = (.astore 8, 2) := by decide +kernel
set_option maxRecDepth 100000 in
theorem ti_68_333 : dp_tab 68 333 = (.aload_n 0, 1) := by decide +kernel
set_option maxRecDepth 100000 in
theorem ti_68_334 : dp_tab 68 334 = (.aload 8, 2) := by decide +kernel
set_option maxRecDepth 100000 in
theorem ti_68_336 : dp_tab 68 336 = (.invokevirtual 62, 3) := by decide +kernel
set_option maxRecDepth 100000 in
theorem ti_68_339 : dp_tab 68 339 = (.astore 9, 2) := by decide +kernel
set_option maxRecDepth 100000 in
theorem ti_68_341 : dp_tab 68 341 = (.iconst 0, 1) := by decide +kernel
set_option maxRecDepth 100000 in
theorem ti_68_342 : dp_tab 68 342 = (.istore 10, 2) := by decide +kernel
set_option maxRecDepth 100000 in
theorem ti_68_344 : dp_tab 68 344 = (.iconst 0, 1) := by decide +kernel
set_option maxRecDepth 100000 in
theorem ti_68_345 : dp_tab 68 345 = (.istore 11, 2) := by decide +kernel
set_option maxRecDepth 100000 in
theorem ti_68_347 : dp_tab 68 347 = (.iconst 0, 1) := by decide +kernel
set_option maxRecDepth 100000 in
theorem ti_68_348 : dp_tab 68 348 = (.istore 12, 2) := by decide +kernel
set_option maxRecDepth 100000 in
theorem ti_68_350 : dp_tab 68 350 = (.iload 12, 2) := by decide +kernel
set_option maxRecDepth 100000 in
theorem ti_68_352 : dp_tab 68 352 = (.aload_n 0, 1) := by decide +kernel
set_option maxRecDepth 100000 in
theorem ti_68_353 : dp_tab 68 353 = (.getfield 14, 3) := by decide +kernel
set_option maxRecDepth 100000 in
theorem ti_68_356 : dp_tab 68 356 = (.arraylength, 1) := by decide +kernel
set_option maxRecDepth 100000 in
theorem ti_68_357 : dp_tab 68 357 = (.if_icmp .ge 81, 3) := by decide +kernel
set_option maxRecDepth 100000 in
theorem ti_68_360 : dp_tab 68 360 = (.iload 10, 2) := by decide +kernel
set_option maxRecDepth 100000 in
theorem ti_68_362 : dp_tab 68 362 = (.aload 8, 2) := by decide +kernel
set_option maxRecDepth 100000 in
theorem ti_68_364 : dp_tab 68 364 = (.getfield 55, 3) := by decide +kernel
set_option maxRecDepth 100000 in
theorem ti_68_367 : dp_tab 68 367 = (.iload 12, 2) := by decide +kernel
set_option maxRecDepth 100000 in
theorem ti_68_369 : dp_tab 68 369 = (.baload, 1) := by decide +kernel
set_option maxRecDepth 100000 in
theorem ti_68_370 : dp_tab 68 370 = (.ifCond .eq 7, 3) := by decide +kernel
set_option maxRecDepth 100000 in
theorem ti_68_373 : dp_tab 68 373 = (.iconst 1, 1) := by decide +kernel
set_option maxRecDepth 100000 in
theorem ti_68_374 : dp_tab 68 374 = (.goto 4, 3) := by decide +kernel
set_option maxRecDepth 100000 in
theorem ti_68_377 : dp_tab 68 377 = (.iconst 0, 1) := by decide +kernel
set_option maxRecDepth 100000 in
theorem ti_68_378 : dp_tab 68 378 = (.iadd, 1) := by decide +kernel
set_option maxRecDepth 100000 in
theorem ti_68_379 : dp_tab 68 379 = (.istore 10, 2) := by decide +kernel
set_option maxRecDepth 100000 in
theorem ti_68_381 : dp_tab 68 381 = (.iload 11, 2) := by decide +kernel
set_option maxRecDepth 100000 in
theorem ti_68_383 : dp_tab 68 383 = (.aload 9, 2) := by decide +kernel
set_option maxRecDepth 100000 in
theorem ti_68_385 : dp_tab 68 385 = (.iload 12, 2) := by decide +kernel
set_option maxRecDepth 100000 in
theorem ti_68_387 : dp_tab 68 387 = (.iaload, 1) := by decide +kernel
set_option maxRecDepth 100000 in
theorem ti_68_388 : dp_tab 68 388 = (.ifCond .lt 7, 3) := by decide +kernel
set_option maxRecDepth 100000 in
theorem ti_68_391 : dp_tab 68 391 = (.iconst 1, 1) := by decide +kernel
set_option maxRecDepth 100000 in
theorem ti_68_392 : dp_tab 68 392 = (.goto 4, 3) := by decide +kernel
set_option maxRecDepth 100000 in
theorem ti_68_395 : dp_tab 68 395 = (.iconst 0, 1) := by decide +kernel
set_option maxRecDepth 100000 in
theorem ti_68_396 : dp_tab 68 396 = (.iadd, 1) := by decide +kernel
set_option maxRecDepth 100000 in
theorem ti_68_397 : dp_tab 68 397 = (.istore 11, 2) := by decide +kernel
set_option maxRecDepth 100000 in
theorem ti_68_399 : dp_tab 68 399 = (.aload_n 1, 1) := by decide +kernel
set_option maxRecDepth 100000 in
theorem ti_68_400 : dp_tab 68 400 = (.iload 7, 2) := by decide +kernel
set_option maxRecDepth 100000 in
theorem ti_68_402 : dp_tab 68 402 = (.iload 12, 2) := by decide +kernel
set_option maxRecDepth 100000 in
theorem ti_68_404 : dp_tab 68 404 = (.invokevirtual 93, 3) := by decide +kernel
set_option maxRecDepth 100000 in
theorem ti_68_407 : dp_tab 68 407 = (.aload_n 0, 1) := by decide +kernel
set_option maxRecDepth 100000 in
theorem ti_68_408 : dp_tab 68 408 = (.aload 8, 2) := by decide +kernel
set_option maxRecDepth 100000 in
theorem ti_68_410 : dp_tab 68 410 = (.aload_n 0, 1) := by decide +kernel
set_option maxRecDepth 100000 in
theorem ti_68_411 : dp_tab 68 411 = (.iload 12, 2) := by decide +kernel
set_option maxRecDepth 100000 in
theorem ti_68_413 : dp_tab 68 413 = (.invokevirtual 40, 3) := by decide +kernel
set_option maxRecDepth 100000 in
theorem ti_68_416 : dp_tab 68 416 = (.aload_n 2, 1) := by decide +kernel
set_option maxRecDepth 100000 in
theorem ti_68_417 : dp_tab 68 417 = (.aload_n 0, 1) := by decide +kernel
set_option maxRecDepth 100000 in
theorem ti_68_418 : dp_tab 68 418 = (.getfield 18, 3) := by decide +kernel
set_option maxRecDepth 100000 in
theorem ti_68_421 : dp_tab 68 421 = (.iload 12, 2) := by decide +kernel
set_option maxRecDepth 100000 in
theorem ti_68_423 : dp_tab 68 423 = (.iaload, 1) := by decide +kernel
set_option maxRecDepth 100000 in
theorem ti_68_424 : dp_tab 68 424 = (.invokevirtual 51, 3) := by decide +kernel
set_option maxRecDepth 100000 in
theorem ti_68_427 : dp_tab 68 427 = (.if_icmp .eq 5, 3) := by decide +kernel
set_option maxRecDepth 100000 in
theorem ti_68_430 : dp_tab 68 430 = (.iconst 0, 1) := by decide +kernel
set_option maxRecDepth 100000 in
theorem ti_68_431 : dp_tab 68 431 = (.ireturn, 1) := by decide +kernel
set_option maxRecDepth 100000 in
theorem ti_68_432 : dp_tab 68 432 = (.iinc 12 1, 3) := by decide +kernel
set_option maxRecDepth 100000 in
theorem ti_68_435 : dp_tab 68 435 = (.goto (-85), 3) := by decide +kernel
set_option maxRecDepth 100000 in
theorem ti_68_438 : dp_tab 68 438 = (.bipush 6, 2) := by decide +kernel
set_option maxRecDepth 100000 in
theorem ti_68_440 : dp_tab 68 440 = (.newarray .int, 2) := by decide +kernel
set_option maxRecDepth 100000 in
theorem ti_68_442 : dp_tab 68 442 = (.dup, 1) := by decide +kernel
set_option maxRecDepth 100000 in
theorem ti_68_443 : dp_tab 68 443 = (.iconst 0, 1) := by decide +kernel
set_option maxRecDepth 100000 in
theorem ti_68_444 : dp_tab 68 444 = (.aload 8, 2) := by decide +kernel
set_option maxRecDepth 100000 in
theorem ti_68_446 : dp_tab 68 446 = (.getfield 70, 3) := by decide +kernel
set_option maxRecDepth 100000 in
theorem ti_68_449 : dp_tab 68 449 = (.iastore, 1) := by decide +kernel
set_option maxRecDepth 100000 in
theorem ti_68_450 : dp_tab 68 450 = (.dup, 1) := by decide +kernel
set_option maxRecDepth 100000 in
theorem ti_68_451 : dp_tab 68 451 = (.iconst 1, 1) := by decide +kernel
set_option maxRecDepth 100000 in
theorem ti_68_452 : dp_tab 68 452 = (.aload 8, 2) := by decide +kernel
set_option maxRecDepth 100000 in
theorem ti_68_454 : dp_tab 68 454 = (.getfield 44, 3) := by decide +kernel
set_option maxRecDepth 100000 in
theorem ti_68_457 : dp_tab 68 457 = (.arraylength, 1) := by decide +kernel
set_option maxRecDepth 100000 in
theorem ti_68_458 : dp_tab 68 458 = (.iastore, 1) := by decide +kernel
set_option maxRecDepth 100000 in
theorem ti_68_459 : dp_tab 68 459 = (.dup, 1) := by decide +kernel
set_option maxRecDepth 100000 in
theorem ti_68_460 : dp_tab 68 460 = (.iconst 2, 1) := by decide +kernel
set_option maxRecDepth 100000 in
theorem ti_68_461 : dp_tab 68 461 = (.aload 8, 2) := by decide +kernel
set_option maxRecDepth 100000 in
theorem ti_68_463 : dp_tab 68 463 = (.getfield 59, 3) := by decide +kernel
set_option maxRecDepth 100000 in
theorem ti_68_466 : dp_tab 68 466 = (.iastore, 1) := by decide +kernel
set_option maxRecDepth 100000 in
theorem ti_68_467 : dp_tab 68 467 = (.dup, 1) := by decide +kernel
set_option maxRecDepth 100000 in
theorem ti_68_468 : dp_tab 68 468 = (.iconst 3, 1) := by decide +kernel
set_option maxRecDepth 100000 in
theorem ti_68_469 : dp_tab 68 469 = (.iload 10, 2) := by decide +kernel
set_option maxRecDepth 100000 in
theorem ti_68_471 : dp_tab 68 471 = (.iastore, 1) := by decide +kernel
set_option maxRecDepth 100000 in
theorem ti_68_472 : dp_tab 68 472 = (.dup, 1) := by decide +kernel
set_option maxRecDepth 100000 in
theorem ti_68_473 : dp_tab 68 473 = (.iconst 4, 1) := by decide +kernel
set_option maxRecDepth 100000 in
theorem ti_68_474 : dp_tab 68 474 = (.aload 8, 2) := by decide +kernel
set_option maxRecDepth 100000 in
theorem ti_68_476 : dp_tab 68 476 = (.getfield 73, 3) := by decide +kernel
set_option maxRecDepth 100000 in
theorem ti_68_479 : dp_tab 68 479 = (.iastore, 1) := by decide +kernel
set_option maxRecDepth 100000 in
theorem ti_68_480 : dp_tab 68 480 = (.dup, 1) := by decide +kernel
set_option maxRecDepth 100000 in
theorem ti_68_481 : dp_tab 68 481 = (.iconst 5, 1) := by decide +kernel
set_option maxRecDepth 100000 in
theorem ti_68_482 : dp_tab 68 482 = (.iload 11, 2) := by decide +kernel
set_option maxRecDepth 100000 in
theorem ti_68_484 : dp_tab 68 484 = (.iastore, 1) := by decide +kernel
set_option maxRecDepth 100000 in
theorem ti_68_485 : dp_tab 68 485 = (.astore 12, 2) := by decide +kernel
set_option maxRecDepth 100000 in
theorem ti_68_487 : dp_tab 68 487 = (.iconst 0, 1) := by decide +kernel
set_option maxRecDepth 100000 in
theorem ti_68_488 : dp_tab 68 488 = (.istore 13, 2) := by decide +kernel
set_option maxRecDepth 100000 in
theorem ti_68_490 : dp_tab 68 490 = (.iload 13, 2) := by decide +kernel
set_option maxRecDepth 100000 in
theorem ti_68_492 : dp_tab 68 492 = (.bipush 6, 2) := by decide +kernel
set_option maxRecDepth 100000 in
theorem ti_68_494 : dp_tab 68 494 = (.if_icmp .ge 27, 3) := by decide +kernel
set_option maxRecDepth 100000 in
theorem ti_68_497 : dp_tab 68 497 = (.aload_n 1, 1) := by decide +kernel
set_option maxRecDepth 100000 in
theorem ti_68_498 : dp_tab 68 498 = (.iload 7, 2) := by decide +kernel
set_option maxRecDepth 100000 in
theorem ti_68_500 : dp_tab 68 500 = (.iload 13, 2) := by decide +kernel
set_option maxRecDepth 100000 in
theorem ti_68_502 : dp_tab 68 502 = (.invokevirtual 95, 3) := by decide +kernel
set_option maxRecDepth 100000 in
theorem ti_68_505 : dp_tab 68 505 = (.aload 12, 2) := by decide +kernel
set_option maxRecDepth 100000 in
theorem ti_68_507 : dp_tab 68 507 = (.iload 13, 2) := by decide +kernel
set_option maxRecDepth 100000 in
theorem ti_68_509 : dp_tab 68 509 = (.iaload, 1) := by decide +kernel
set_option maxRecDepth 100000 in
theorem ti_68_510 : dp_tab 68 510 = (.if_icmp .eq 5, 3) := by decide +kernel
set_option maxRecDepth 100000 in
theorem ti_68_513 : dp_tab 68 513 = (.iconst 0, 1) := by decide +kernel
set_option maxRecDepth 100000 in
theorem ti_68_514 : dp_tab 68 514 = (.ireturn, 1) := by decide +kernel
set_option maxRecDepth 100000 in
theorem ti_68_515 : dp_tab 68 515 = (.iinc 13 1, 3) := by decide +kernel
set_option maxRecDepth 100000 in
theorem ti_68_518 : dp_tab 68 518 = (.goto (-28), 3) := by decide +kernel
set_option maxRecDepth 100000 in
theorem ti_68_521 : dp_tab 68 521 = (.iconst 0, 1) := by decide +kernel
set_option maxRecDepth 100000 in
theorem ti_68_522 : dp_tab 68 522 = (.istore 13, 2) := by decide +kernel
set_option maxRecDepth 100000 in
theorem ti_68_524 : dp_tab 68 524 = (.iload 13, 2) := by decide +kernel
set_option maxRecDepth 100000 in
theorem ti_68_526 : dp_tab 68 526 = (.aload 8, 2) := by decide +kernel
set_option maxRecDepth 100000 in
theorem ti_68_528 : dp_tab 68 528 = (.getfield 44, 3) := by decide +kernel
set_option maxRecDepth 100000 in
theorem ti_68_531 : dp_tab 68 531 = (.arraylength, 1) := by decide +kernel
set_option maxRecDepth 100000 in
theorem ti_68_532 : dp_tab 68 532 = (.if_icmp .ge 30, 3) := by decide +kernel
set_option maxRecDepth 100000 in
theorem ti_68_535 : dp_tab 68 535 = (.aload_n 1, 1) := by decide +kernel
set_option maxRecDepth 100000 in
theorem ti_68_536 : dp_tab 68 536 = (.iload 7, 2) := by decide +kernel
set_option maxRecDepth 100000 in
theorem ti_68_538 : dp_tab 68 538 = (.iload 13, 2) := by decide +kernel
set_option maxRecDepth 100000 in
theorem ti_68_540 : dp_tab 68 540 = (.invokevirtual 98, 3) := by decide +kernel
set_option maxRecDepth 100000 in
theorem ti_68_543 : dp_tab 68 543 = (.aload 8, 2) := by decide +kernel
set_option maxRecDepth 100000 in
theorem ti_68_545 : dp_tab 68 545 = (.getfield 44, 3) := by decide +kernel
set_option maxRecDepth 100000 in
theorem ti_68_548 : dp_tab 68 548 = (.iload 13, 2) := by decide +kernel
set_option maxRecDepth 100000 in
theorem ti_68_550 : dp_tab 68 550 = (.iaload, 1) := by decide +kernel
set_option maxRecDepth 100000 in
theorem ti_68_551 : dp_tab 68 551 = (.if_icmp .eq 5, 3) := by decide +kernel
set_option maxRecDepth 100000 in
theorem ti_68_554 : dp_tab 68 554 = (.iconst 0, 1) := by decide +kernel
set_option maxRecDepth 100000 in
theorem ti_68_555 : dp_tab 68 555 = (.ireturn, 1) := by decide +kernel
set_option maxRecDepth 100000 in
theorem ti_68_556 : dp_tab 68 556 = (.iinc 13 1, 3) := by decide +kernel
set_option maxRecDepth 100000 in
theorem ti_68_559 : dp_tab 68 559 = (.goto (-35), 3) := by decide +kernel
set_option maxRecDepth 100000 in
theorem ti_68_562 : dp_tab 68 562 = (.iconst 0, 1) := by decide +kernel
set_option maxRecDepth 100000 in
theorem ti_68_563 : dp_tab 68 563 = (.istore 13, 2) := by decide +kernel
set_option maxRecDepth 100000 in
theorem ti_68_565 : dp_tab 68 565 = (.iload 13, 2) := by decide +kernel
set_option maxRecDepth 100000 in
theorem ti_68_567 : dp_tab 68 567 = (.iload 11, 2) := by decide +kernel
set_option maxRecDepth 100000 in
theorem ti_68_569 : dp_tab 68 569 = (.if_icmp .ge 37, 3) := by decide +kernel
set_option maxRecDepth 100000 in
theorem ti_68_572 : dp_tab 68 572 = (.aload 9, 2) := by decide +kernel
set_option maxRecDepth 100000 in
theorem ti_68_574 : dp_tab 68 574 = (.invokestatic 66, 3) := by decide +kernel
set_option maxRecDepth 100000 in
theorem ti_68_577 : dp_tab 68 577 = (.istore 14, 2) := by decide +kernel
set_option maxRecDepth 100000 in
theorem ti_68_579 : dp_tab 68 579 = (.aload_n 1, 1) := by decide +kernel
set_option maxRecDepth 100000 in
theorem ti_68_580 : dp_tab 68 580 = (.iload 7, 2) := by decide +kernel
set_option maxRecDepth 100000 in
theorem ti_68_582 : dp_tab 68 582 = (.iload 13, 2) := by decide +kernel
set_option maxRecDepth 100000 in
theorem ti_68_584 : dp_tab 68 584 = (.invokevirtual 101, 3) := by decide +kernel
set_option maxRecDepth 100000 in
theorem ti_68_587 : dp_tab 68 587 = (.iload 14, 2) := by decide +kernel
set_option maxRecDepth 100000 in
theorem ti_68_589 : dp_tab 68 589 = (.if_icmp .eq 5, 3) := by decide +kernel
set_option maxRecDepth 100000 in
theorem ti_68_592 : dp_tab 68 592 = (.iconst 0, 1) := by decide +kernel
set_option maxRecDepth 100000 in
theorem ti_68_593 : dp_tab 68 593 = (.ireturn, 1) := by decide +kernel
set_option maxRecDepth 100000 in
theorem ti_68_594 : dp_tab 68 594 = (.aload 9, 2) := by decide +kernel
set_option maxRecDepth 100000 in
theorem ti_68_596 : dp_tab 68 596 = (.iload 14, 2) := by decide +kernel
set_option maxRecDepth 100000 in
theorem ti_68_598 : dp_tab 68 598 = (.iconst (-1), 1) := by decide +kernel
set_option maxRecDepth 100000 in
theorem ti_68_599 : dp_tab 68 599 = (.iastore, 1) := by decide +kernel
set_option maxRecDepth 100000 in
theorem ti_68_600 : dp_tab 68 600 = (.iinc 13 1, 3) := by decide +kernel
set_option maxRecDepth 100000 in
theorem ti_68_603 : dp_tab 68 603 = (.goto (-38), 3) := by decide +kernel
set_option maxRecDepth 100000 in
theorem ti_68_606 : dp_tab 68 606 = (.iload 5, 2) := by decide +kernel
set_option maxRecDepth 100000 in
theorem ti_68_608 : dp_tab 68 608 = (.iload 10, 2) := by decide +kernel
set_option maxRecDepth 100000 in
theorem ti_68_610 : dp_tab 68 610 = (.iadd, 1) := by decide +kernel
set_option maxRecDepth 100000 in
theorem ti_68_611 : dp_tab 68 611 = (.istore 5, 2) := by decide +kernel
set_option maxRecDepth 100000 in
theorem ti_68_613 : dp_tab 68 613 = (.iload 6, 2) := by decide +kernel
set_option maxRecDepth 100000 in
theorem ti_68_615 : dp_tab 68 615 = (.aload 8, 2) := by decide +kernel
set_option maxRecDepth 100000 in
theorem ti_68_617 : dp_tab 68 617 = (.getfield 73, 3) := by decide +kernel
set_option maxRecDepth 100000 in
theorem ti_68_620 : dp_tab 68 620 = (.iadd, 1) := by decide +kernel
set_option maxRecDepth 100000 in
theorem ti_68_621 : dp_tab 68 621 = (.istore 6, 2) := by decide +kernel
set_option maxRecDepth 100000 in
theorem ti_68_623 : dp_tab 68 623 = (.iinc 7 1, 3) := by decide +kernel
set_option maxRecDepth 100000 in
theorem ti_68_626 : dp_tab 68 626 = (.goto (-312), 3) := by decide +kernel
set_option maxRecDepth 100000 in
theorem ti_68_629 : dp_tab 68 629 = (.iconst 0, 1) := by decide +kernel
set_option maxRecDepth 100000 in
theorem ti_68_630 : dp_tab 68 630 = (.istore 7, 2) := by decide +kernel
set_option maxRecDepth 100000 in
theorem ti_68_632 : dp_tab 68 632 = (.aload_n 3, 1) := by decide +kernel
set_option maxRecDepth 100000 in
theorem ti_68_633 : dp_tab 68 633 = (.astore 8, 2) := by decide +kernel
set_option maxRecDepth 100000 in
theorem ti_68_635 : dp_tab 68 635 = (.aload 8, 2) := by decide +kernel
set_option maxRecDepth 100000 in
theorem ti_68_637 : dp_tab 68 637 = (.arraylength, 1) := by decide +kernel
set_option maxRecDepth 100000 in
theorem ti_68_638 : dp_tab 68 638 = (.istore 9, 2) := by decide +kernel
set_option maxRecDepth 100000 in
theorem ti_68_640 : dp_tab 68 640 = (.iconst 0, 1) := by decide +kernel
set_option maxRecDepth 100000 in
theorem ti_68_641 : dp_tab 68 641 = (.istore 10, 2) := by decide +kernel
set_option maxRecDepth 100000 in
theorem ti_68_643 : dp_tab 68 643 = (.iload 10, 2) := by decide +kernel
set_option maxRecDepth 100000 in
theorem ti_68_645 : dp_tab 68 645 = (.iload 9, 2) := by decide +kernel
set_option maxRecDepth 100000 in
theorem ti_68_647 : dp_tab 68 647 = (.if_icmp .ge 31, 3) := by decide +kernel
set_option maxRecDepth 100000 in
theorem ti_68_650 : dp_tab 68 650 = (.aload 8, 2) := by decide +kernel
set_option maxRecDepth 100000 in
theorem ti_68_652 : dp_tab 68 652 = (.iload 10, 2) := by decide +kernel
set_option maxRecDepth 100000 in
theorem ti_68_654 : dp_tab 68 654 = (.iaload, 1) := by decide +kernel
set_option maxRecDepth 100000 in
theorem ti_68_655 : dp_tab 68 655 = (.istore 11, 2) := by decide +kernel
set_option maxRecDepth 100000 in
theorem ti_68_657 : dp_tab 68 657 = (.iload 7, 2) := by decide +kernel
set_option maxRecDepth 100000 in
theorem ti_68_659 : dp_tab 68 659 = (.iload 11, 2) := by decide +kernel
set_option maxRecDepth 100000 in
theorem ti_68_661 : dp_tab 68 661 = (.ifCond .le 7, 3) := by decide +kernel
set_option maxRecDepth 100000 in
theorem ti_68_664 : dp_tab 68 664 = (.iconst 1, 1) := by decide +kernel
set_option maxRecDepth 100000 in
theorem ti_68_665 : dp_tab 68 665 = (.goto 4, 3) := by decide +kernel
set_option maxRecDepth 100000 in
theorem ti_68_668 : dp_tab 68 668 = (.iconst 0, 1) := by decide +kernel
set_option maxRecDepth 100000 in
theorem ti_68_669 : dp_tab 68 669 = (.iadd, 1) := by decide +kernel
set_option maxRecDepth 100000 in
theorem ti_68_670 : dp_tab 68 670 = (.istore 7, 2) := by decide +kernel
set_option maxRecDepth 100000 in
theorem ti_68_672 : dp_tab 68 672 = (.iinc 10 1, 3) := by decide +kernel
set_option maxRecDepth 100000 in
theorem ti_68_675 : dp_tab 68 675 = (.goto (-32), 3) := by decide +kernel
set_option maxRecDepth 100000 in
theorem ti_68_678 : dp_tab 68 678 = (.bipush 7, 2) := by decide +kernel
set_option maxRecDepth 100000 in
theorem ti_68_680 : dp_tab 68 680 = (.newarray .int, 2) := by decide +kernel
set_option maxRecDepth 100000 in
theorem ti_68_682 : dp_tab 68 682 = (.dup, 1) := by decide +kernel
set_option maxRecDepth 100000 in
theorem ti_68_683 : dp_tab 68 683 = (.iconst 0, 1) := by decide +kernel
set_option maxRecDepth 100000 in
theorem ti_68_684 : dp_tab 68 684 = (.aload_n 0, 1) := by decide +kernel
set_option maxRecDepth 100000 in
theorem ti_68_685 : dp_tab 68 685 = (.getfield 14, 3) := by decide +kernel
set_option maxRecDepth 100000 in
theorem ti_68_688 : dp_tab 68 688 = (.arraylength, 1) := by decide +kernel
set_option maxRecDepth 100000 in
theorem ti_68_689 : dp_tab 68 689 = (.iastore, 1) := by decide +kernel
set_option maxRecDepth 100000 in
theorem ti_68_690 : dp_tab 68 690 = (.dup, 1) := by decide +kernel
set_option maxRecDepth 100000 in
theorem ti_68_691 : dp_tab 68 691 = (.iconst 1, 1) := by decide +kernel
set_option maxRecDepth 100000 in
theorem ti_68_692 : dp_tab 68 692 = (.aload_n 0, 1) := by decide +kernel
set_option maxRecDepth 100000 in
theorem ti_68_693 : dp_tab 68 693 = (.getfield 23, 3) := by decide +kernel
set_option maxRecDepth 100000 in
theorem ti_68_696 : dp_tab 68 696 = (.arraylength, 1) := by decide +kernel
set_option maxRecDepth 100000 in
theorem ti_68_697 : dp_tab 68 697 = (.iastore, 1) := by decide +kernel
set_option maxRecDepth 100000 in
theorem ti_68_698 : dp_tab 68 698 = (.dup, 1) := by decide +kernel
set_option maxRecDepth 100000 in
theorem ti_68_699 : dp_tab 68 699 = (.iconst 2, 1) := by decide +kernel
set_option maxRecDepth 100000 in
theorem ti_68_700 : dp_tab 68 700 = (.iload 4, 2) := by decide +kernel
set_option maxRecDepth 100000 in
theorem ti_68_702 : dp_tab 68 702 = (.iastore, 1) := by decide +kernel
set_option maxRecDepth 100000 in
theorem ti_68_703 : dp_tab 68 703 = (.dup, 1) := by decide +kernel
set_option maxRecDepth 100000 in
theorem ti_68_704 : dp_tab 68 704 = (.iconst 3, 1) := by decide +kernel
set_option maxRecDepth 100000 in
theorem ti_68_705 : dp_tab 68 705 = (.iload 7, 2) := by decide +kernel
set_option maxRecDepth 100000 in
theorem ti_68_707 : dp_tab 68 707 = (.iastore, 1) := by decide +kernel
set_option maxRecDepth 100000 in
theorem ti_68_708 : dp_tab 68 708 = (.dup, 1) := by decide +kernel
set_option maxRecDepth 100000 in
theorem ti_68_709 : dp_tab 68 709 = (.iconst 4, 1) := by decide +kernel
set_option maxRecDepth 100000 in
theorem ti_68_710 : dp_tab 68 710 = (.aload_n 0, 1) := by decide +kernel
set_option maxRecDepth 100000 in
theorem ti_68_711 : dp_tab 68 711 = (.getfield 36, 3) := by decide +kernel
set_option maxRecDepth 100000 in
theorem ti_68_714 : dp_tab 68 714 = (.iastore, 1) := by decide +kernel
set_option maxRecDepth 100000 in
theorem ti_68_715 : dp_tab 68 715 = (.dup, 1) := by decide +kernel
set_option maxRecDepth 100000 in
theorem ti_68_716 : dp_tab 68 716 = (.iconst 5, 1) := by decide +kernel
set_option maxRecDepth 100000 in
theorem ti_68_717 : dp_tab 68 717 = (.iload 5, 2) := by decide +kernel
set_option maxRecDepth 100000 in
theorem ti_68_719 : dp_tab 68 719 = (.iastore, 1) := by decide +kernel
set_option maxRecDepth 100000 in
theorem ti_68_720 : dp_tab 68 720 = (.dup, 1) := by decide +kernel
set_option maxRecDepth 100000 in
theorem ti_68_721 : dp_tab 68 721 = (.bipush 6, 2) := by decide +kernel
set_option maxRecDepth 100000 in
theorem ti_68_723 : dp_tab 68 723 = (.iload 6, 2) := by decide +kernel
set_option maxRecDepth 100000 in
theorem ti_68_725 : dp_tab 68 725 = (.iastore, 1) := by decide +kernel
set_option maxRecDepth 100000 in
theorem ti_68_726 : dp_tab 68 726 = (.astore 8, 2) := by decide +kernel
set_option maxRecDepth 100000 in
theorem ti_68_728 : dp_tab 68 728 = (.iconst 0, 1) := by decide +kernel
set_option maxRecDepth 100000 in
theorem ti_68_729 : dp_tab 68 729 = (.istore 9, 2) := by decide +kernel
set_option maxRecDepth 100000 in
theorem ti_68_731 : dp_tab 68 731 = (.iload 9, 2) := by decide +kernel
set_option maxRecDepth 100000 in
theorem ti_68_733 : dp_tab 68 733 = (.bipush 7, 2) := by decide +kernel
set_option maxRecDepth 100000 in
theorem ti_68_735 : dp_tab 68 735 = (.if_icmp .ge 25, 3) := by decide +kernel
set_option maxRecDepth 100000 in
theorem ti_68_738 : dp_tab 68 738 = (.aload_n 1, 1) := by decide +kernel
set_option maxRecDepth 100000 in
theorem ti_68_739 : dp_tab 68 739 = (.iload 9, 2) := by decide +kernel
set_option maxRecDepth 100000 in
theorem ti_68_741 : dp_tab 68 741 = (.invokevirtual 104, 3) := by decide +kernel
set_option maxRecDepth 100000 in
theorem ti_68_744 : dp_tab 68 744 = (.aload 8, 2) := by decide +kernel
set_option maxRecDepth 100000 in
theorem ti_68_746 : dp_tab 68 746 = (.iload 9, 2) := by decide +kernel
set_option maxRecDepth 100000 in
theorem ti_68_748 : dp_tab 68 748 = (.iaload, 1) := by decide +kernel
set_option maxRecDepth 100000 in
theorem ti_68_749 : dp_tab 68 749 = (.if_icmp .eq 5, 3) := by decide +kernel
set_option maxRecDepth 100000 in
theorem ti_68_752 : dp_tab 68 752 = (.iconst 0, 1) := by decide +kernel
set_option maxRecDepth 100000 in
theorem ti_68_753 : dp_tab 68 753 = (.ireturn, 1) := by decide +kernel
set_option maxRecDepth 100000 in
theorem ti_68_754 : dp_tab 68 754 = (.iinc 9 1, 3) := by decide +kernel
set_option maxRecDepth 100000 in
theorem ti_68_757 : dp_tab 68 757 = (.goto (-26), 3) := by decide +kernel
set_option maxRecDepth 100000 in
theorem ti_68_760 : dp_tab 68 760 = (.aload_n 1, 1) := by decide +kernel
set_option maxRecDepth 100000 in
theorem ti_68_761 : dp_tab 68 761 = (.invokevirtual 107, 3) := by decide +kernel
set_option maxRecDepth 100000 in
theorem ti_68_764 : dp_tab 68 764 = (.iload 5, 2) := by decide +kernel
set_option maxRecDepth 100000 in
theorem ti_68_766 : dp_tab 68 766 = (.ifCond .ne 7, 3) := by decide +kernel
set_option maxRecDepth 100000 in
theorem ti_68_769 : dp_tab 68 769 = (.dconst 0, 1) := by decide +kernel
set_option maxRecDepth 100000 in
theorem ti_68_770 : dp_tab 68 770 = (.goto 10, 3) := by decide +kernel
set_option maxRecDepth 100000 in
theorem ti_68_773 : dp_tab 68 773 = (.iload 6, 2) := by decide +kernel
set_option maxRecDepth 100000 in
theorem ti_68_775 : dp_tab 68 775 = (.i2d, 1) := by decide +kernel
set_option maxRecDepth 100000 in
theorem ti_68_776 : dp_tab 68 776 = (.iload 5, 2) := by decide +kernel
set_option maxRecDepth 100000 in
theorem ti_68_778 : dp_tab 68 778 = (.i2d, 1) := by decide +kernel
set_option maxRecDepth 100000 in
theorem ti_68_779 : dp_tab 68 779 = (.ddiv, 1) := by decide +kernel
set_option maxRecDepth 100000 in
theorem ti_68_780 : dp_tab 68 780 = (.dcmp .l, 1) := by decide +kernel
set_option maxRecDepth 100000 in
theorem ti_68_781 : dp_tab 68 781 = (.ifCond .ne 7, 3) := by decide +kernel
set_option maxRecDepth 100000 in
theorem ti_68_784 : dp_tab 68 784 = (.iconst 1, 1) := by decide +kernel
set_option maxRecDepth 100000 in
theorem ti_68_785 : dp_tab 68 785 = (.goto 4, 3) := by decide +kernel
set_option maxRecDepth 100000 in
theorem ti_68_788 : dp_tab 68 788 = (.iconst 0, 1) := by decide +kernel
set_option maxRecDepth 100000 in
theorem ti_68_789 : dp_tab 68 789 = (.ireturn, 1) := by decide +kernel
set_option maxRecDepth 100000 in
theorem ti_69_0 : dp_tab 69 0 = (.iload_n 0, 1) := by decide +kernel
set_option maxRecDepth 100000 in
theorem ti_69_1 : dp_tab 69 1 = (.iload_n 0, 1) := by decide +kernel
set_option maxRecDepth 100000 in
theorem ti_69_2 : dp_tab 69 2 = (.iconst 1, 1) := by decide +kernel
set_option maxRecDepth 100000 in
theorem ti_69_3 : dp_tab 69 3 = (.iushr, 1) := by decide +kernel
set_option maxRecDepth 100000 in
theorem ti_69_4 : dp_tab 69 4 = (.ldc_w 265, 3) := by decide +kernel
set_option maxRecDepth 100000 in
theorem ti_69_7 : dp_tab 69 7 = (.iand, 1) := by decide +kernel
set_option maxRecDepth 100000 in
theorem ti_69_8 : dp_tab 69 8 = (.isub, 1) := by decide +kernel
set_option maxRecDepth 100000 in
theorem ti_69_9 : dp_tab 69 9 = (.istore_n 0, 1) := by decide +kernel
set_option maxRecDepth 100000 in
theorem ti_69_10 : dp_tab 69 10 = (.iload_n 0, 1) := by decide +kernel
set_option maxRecDepth 100000 in
theorem ti_69_11 : dp_tab 69 11 = (.ldc_w 266, 3) := by decide +kernel
set_option maxRecDepth 100000 in
theorem ti_69_14 : dp_tab 69 14 = (.iand, 1) := by decide +kernel
set_option maxRecDepth 100000 in
theorem ti_69_15 : dp_tab 69 15 = (.iload_n 0, 1) := by decide +kernel
set_option maxRecDepth 100000 in
theorem ti_69_16 : dp_tab 69 16 = (.iconst 2, 1) := by decide +kernel
set_option maxRecDepth 100000 in
theorem ti_69_17 : dp_tab 69 17 = (.iushr, 1) := by decide +kernel
set_option maxRecDepth 100000 in
theorem ti_69_18 : dp_tab 69 18 = (.ldc_w 266, 3) := by decide +kernel
set_option maxRecDepth 100000 in
theorem ti_69_21 : dp_tab 69 21 = (.iand, 1) := by decide +kernel
set_option maxRecDepth 100000 in
theorem ti_69_22 : dp_tab 69 22 = (.iadd, 1) := by decide +kernel
set_option maxRecDepth 100000 in
theorem ti_69_23 : dp_tab 69 23 = (.istore_n 0, 1) := by decide +kernel
set_option maxRecDepth 100000 in
theorem ti_69_24 : dp_tab 69 24 = (.iload_n 0, 1) := by decide +kernel
set_option maxRecDepth 100000 in
theorem ti_69_25 : dp_tab 69 25 = (.iload_n 0, 1) := by decide +kernel
set_option maxRecDepth 100000 in
theorem ti_69_26 : dp_tab 69 26 = (.iconst 4, 1) := by decide +kernel
set_option maxRecDepth 100000 in
theorem ti_69_27 : dp_tab 69 27 = (.iushr, 1) := by decide +kernel
set_option maxRecDepth 100000 in
theorem ti_69_28 : dp_tab 69 28 = (.iadd, 1) := by decide +kernel
set_option maxRecDepth 100000 in
theorem ti_69_29 : dp_tab 69 29 = (.ldc_w 267, 3) := by decide +kernel
set_option maxRecDepth 100000 in
theorem ti_69_32 : dp_tab 69 32 = (.iand, 1) := by decide +kernel
set_option maxRecDepth 100000 in
theorem ti_69_33 : dp_tab 69 33 = (.istore_n 0, 1) := by decide +kernel
set_option maxRecDepth 100000 in
theorem ti_69_34 : dp_tab 69 34 = (.iload_n 0, 1) := by decide +kernel
set_option maxRecDepth 100000 in
theorem ti_69_35 : dp_tab 69 35 = (.iload_n 0, 1) := by decide +kernel
set_option maxRecDepth 100000 in
theorem ti_69_36 : dp_tab 69 36 = (.bipush 8, 2) := by decide +kernel
set_option maxRecDepth 100000 in
theorem ti_69_38 : dp_tab 69 38 = (.iushr, 1) := by decide +kernel
set_option maxRecDepth 100000 in
theorem ti_69_39 : dp_tab 69 39 = (.iadd, 1) := by decide +kernel
set_option maxRecDepth 100000 in
theorem ti_69_40 : dp_tab 69 40 = (.istore_n 0, 1) := by decide +kernel
set_option maxRecDepth 100000 in
theorem ti_69_41 : dp_tab 69 41 = (.iload_n 0, 1) := by decide +kernel
set_option maxRecDepth 100000 in
theorem ti_69_42 : dp_tab 69 42 = (.iload_n 0, 1) := by decide +kernel
set_option maxRecDepth 100000 in
theorem ti_69_43 : dp_tab 69 43 = (.bipush 16, 2) := by decide +kernel
set_option maxRecDepth 100000 in
theorem ti_69_45 : dp_tab 69 45 = (.iushr, 1) := by decide +kernel
set_option maxRecDepth 100000 in
theorem ti_69_46 : dp_tab 69 46 = (.iadd, 1) := by decide +kernel
set_option maxRecDepth 100000 in
theorem ti_69_47 : dp_tab 69 47 = (.istore_n 0, 1) := by decide +kernel
set_option maxRecDepth 100000 in
theorem ti_69_48 : dp_tab 69 48 = (.iload_n 0, 1) := by decide +kernel
set_option maxRecDepth 100000 in
theorem ti_69_49 : dp_tab 69 49 = (.bipush 63, 2) := by decide +kernel
set_option maxRecDepth 100000 in
theorem ti_69_51 : dp_tab 69 51 = (.iand, 1) := by decide +kernel
set_option maxRecDepth 100000 in
theorem ti_69_52 : dp_tab 69 52 = (.ireturn, 1) := by decide +kernel
set_option maxRecDepth 100000 in
theorem ti_70_0 : dp_tab 70 0 = (.iconst 0, 1) := by decide +kernel
set_option maxRecDepth 100000 in
theorem ti_70_1 : dp_tab 70 1 = (.istore_n 2, 1) := by decide +kernel
set_option maxRecDepth 100000 in
theorem ti_70_2 : dp_tab 70 2 = (.aload_n 0, 1) := by decide +kernel
set_option maxRecDepth 100000 in
theorem ti_70_3 : dp_tab 70 3 = (.arraylength, 1) := by decide +kernel
set_option maxRecDepth 100000 in
theorem ti_70_4 : dp_tab 70 4 = (.istore_n 3, 1) := by decide +kernel
set_option maxRecDepth 100000 in
theorem ti_70_5 : dp_tab 70 5 = (.iload_n 2, 1) := by decide +kernel
set_option maxRecDepth 100000 in
theorem ti_70_6 : dp_tab 70 6 = (.iload_n 3, 1) := by decide +kernel
set_option maxRecDepth 100000 in
theorem ti_70_7 : dp_tab 70 7 = (.if_icmp .ge 13, 3) := by decide +kernel
set_option maxRecDepth 100000 in
theorem ti_70_10 : dp_tab 70 10 = (.aload_n 0, 1) := by decide +kernel
set_option maxRecDepth 100000 in
theorem ti_70_11 : dp_tab 70 11 = (.iload_n 2, 1) := by decide +kernel
set_option maxRecDepth 100000 in
theorem ti_70_12 : dp_tab 70 12 = (.iload_n 1, 1) := by decide +kernel
set_option maxRecDepth 100000 in
theorem ti_70_13 : dp_tab 70 13 = (.iastore, 1) := by decide +kernel
set_option maxRecDepth 100000 in
theorem ti_70_14 : dp_tab 70 14 = (.iinc 2 1, 3) := by decide +kernel
set_option maxRecDepth 100000 in
theorem ti_70_17 : dp_tab 70 17 = (.goto (-12), 3) := by decide +kernel
set_option maxRecDepth 100000 in
theorem ti_70_20 : dp_tab 70 20 = (.return_, 1) := by decide +kernel
set_option maxRecDepth 100000 in
theorem ti_71_0 : dp_tab 71 0 = (.iload_n 0, 1) := by decide +kernel
set_option maxRecDepth 100000 in
theorem ti_71_1 : dp_tab 71 1 = (.ldc 7, 2) := by decide +kernel
set_option maxRecDepth 100000 in
theorem ti_71_3 : dp_tab 71 3 = (.iand, 1) := by decide +kernel
set_option maxRecDepth 100000 in
theorem ti_71_4 : dp_tab 71 4 = (.iload_n 1, 1) := by decide +kernel
set_option maxRecDepth 100000 in
theorem ti_71_5 : dp_tab 71 5 = (.irem, 1) := by decide +kernel
set_option maxRecDepth 100000 in
theorem ti_71_6 : dp_tab 71 6 = (.ireturn, 1) := by decide +kernel
set_option maxRecDepth 100000 in
theorem ti_72_0 : dp_tab 72 0 = (.iload_n 1, 1) := by decide +kernel
set_option maxRecDepth 100000 in
theorem ti_72_1 : dp_tab 72 1 = (.aload_n 0, 1) := by decide +kernel
set_option maxRecDepth 100000 in
theorem ti_72_2 : dp_tab 72 2 = (.arraylength, 1) := by decide +kernel
set_option maxRecDepth 100000 in
theorem ti_72_3 : dp_tab 72 3 = (.if_icmp .ge 9, 3) := by decide +kernel
set_option maxRecDepth 100000 in
theorem ti_72_6 : dp_tab 72 6 = (.aload_n 0, 1) := by decide +kernel
set_option maxRecDepth 100000 in
theorem ti_72_7 : dp_tab 72 7 = (.iload_n 1, 1) := by decide +kernel
set_option maxRecDepth 100000 in
theorem ti_72_8 : dp_tab 72 8 = (.iaload, 1) := by decide +kernel
set_option maxRecDepth 100000 in
theorem ti_72_9 : dp_tab 72 9 = (.goto 9, 3) := by decide +kernel
set_option maxRecDepth 100000 in
theorem ti_72_12 : dp_tab 72 12 = (.ldc 8, 2) := by decide +kernel
set_option maxRecDepth 100000 in
theorem ti_72_14 : dp_tab 72 14 = (.iload_n 1, 1) := by decide +kernel
set_option maxRecDepth 100000 in
theorem ti_72_15 : dp_tab 72 15 = (.iconst 3, 1) := by decide +kernel
set_option maxRecDepth 100000 in
theorem ti_72_16 : dp_tab 72 16 = (.iadd, 1) := by decide +kernel
set_option maxRecDepth 100000 in
theorem ti_72_17 : dp_tab 72 17 = (.imul, 1) := by decide +kernel
set_option maxRecDepth 100000 in
theorem ti_72_18 : dp_tab 72 18 = (.ireturn, 1) := by decide +kernel
set_option maxRecDepth 100000 in
theorem ti_73_0 : dp_tab 73 0 = (.aload_n 0, 1) := by decide +kernel
set_option maxRecDepth 100000 in
theorem ti_73_1 : dp_tab 73 1 = (.arraylength, 1) := by decide +kernel
set_option maxRecDepth 100000 in
theorem ti_73_2 : dp_tab 73 2 = (.iconst 1, 1) := by decide +kernel
set_option maxRecDepth 100000 in
theorem ti_73_3 : dp_tab 73 3 = (.iadd, 1) := by decide +kernel
set_option maxRecDepth 100000 in
theorem ti_73_4 : dp_tab 73 4 = (.newarray .int, 2) := by decide +kernel
set_option maxRecDepth 100000 in
theorem ti_73_6 : dp_tab 73 6 = (.astore_n 2, 1) := by decide +kernel
set_option maxRecDepth 100000 in
theorem ti_73_7 : dp_tab 73 7 = (.iconst 0, 1) := by decide +kernel
set_option maxRecDepth 100000 in
theorem ti_73_8 : dp_tab 73 8 = (.istore_n 3, 1) := by decide +kernel
set_option maxRecDepth 100000 in
theorem ti_73_9 : dp_tab 73 9 = (.iload_n 3, 1) := by decide +kernel
set_option maxRecDepth 100000 in
theorem ti_73_10 : dp_tab 73 10 = (.aload_n 0, 1) := by decide +kernel
set_option maxRecDepth 100000 in
theorem ti_73_11 : dp_tab 73 11 = (.arraylength, 1) := by decide +kernel
set_option maxRecDepth 100000 in
theorem ti_73_12 : dp_tab 73 12 = (.if_icmp .ge 15, 3) := by decide +kernel
set_option maxRecDepth 100000 in
theorem ti_73_15 : dp_tab 73 15 = (.aload_n 2, 1) := by decide +kernel
set_option maxRecDepth 100000 in
theorem ti_73_16 : dp_tab 73 16 = (.iload_n 3, 1) := by decide +kernel
set_option maxRecDepth 100000 in
theorem ti_73_17 : dp_tab 73 17 = (.aload_n 0, 1) := by decide +kernel
set_option maxRecDepth 100000 in
theorem ti_73_18 : dp_tab 73 18 = (.iload_n 3, 1) := by decide +kernel
set_option maxRecDepth 100000 in
theorem ti_73_19 : dp_tab 73 19 = (.iaload, 1) := by decide +kernel
set_option maxRecDepth 100000 in
theorem ti_73_20 : dp_tab 73 20 = (.iastore, 1) := by decide +kernel
set_option maxRecDepth 100000 in
theorem ti_73_21 : dp_tab 73 21 = (.iinc 3 1, 3) := by decide +kernel
set_option maxRecDepth 100000 in
theorem ti_73_24 : dp_tab 73 24 = (.goto (-15), 3) := by decide +kernel
set_option maxRecDepth 100000 in
theorem ti_73_27 : dp_tab 73 27 = (.aload_n 2, 1) := by decide +kernel
set_option maxRecDepth 100000 in
theorem ti_73_28 : dp_tab 73 28 = (.aload_n 0, 1) := by decide +kernel
set_option maxRecDepth 100000 in
theorem ti_73_29 : dp_tab 73 29 = (.arraylength, 1) := by decide +kernel
set_option maxRecDepth 100000 in
theorem ti_73_30 : dp_tab 73 30 = (.iload_n 1, 1) := by decide +kernel
set_option maxRecDepth 100000 in
theorem ti_73_31 : dp_tab 73 31 = (.iastore, 1) := by decide +kernel
set_option maxRecDepth 100000 in
theorem ti_73_32 : dp_tab 73 32 = (.aload_n 2, 1) := by decide +kernel
set_option maxRecDepth 100000 in
theorem ti_73_33 : dp_tab 73 33 = (.areturn, 1) := by decide +kernel
set_option maxRecDepth 100000 in
theorem ti_74_0 : dp_tab 74 0 = (.aload_n 0, 1) := by decide +kernel
set_option maxRecDepth 100000 in
theorem ti_74_1 : dp_tab 74 1 = (.arraylength, 1) := by decide +kernel
set_option maxRecDepth 100000 in
theorem ti_74_2 : dp_tab 74 2 = (.iconst 1, 1) := by decide +kernel
set_option maxRecDepth 100000 in
theorem ti_74_3 : dp_tab 74 3 = (.isub, 1) := by decide +kernel
set_option maxRecDepth 100000 in
theorem ti_74_4 : dp_tab 74 4 = (.newarray .int, 2) := by decide +kernel
set_option maxRecDepth 100000 in
theorem ti_74_6 : dp_tab 74 6 = (.astore_n 2, 1) := by decide +kernel
set_option maxRecDepth 100000 in
theorem ti_74_7 : dp_tab 74 7 = (.iconst 0, 1) := by decide +kernel
set_option maxRecDepth 100000 in
theorem ti_74_8 : dp_tab 74 8 = (.istore_n 3, 1) := by decide +kernel
set_option maxRecDepth 100000 in
theorem ti_74_9 : dp_tab 74 9 = (.iload_n 3, 1) := by decide +kernel
set_option maxRecDepth 100000 in
theorem ti_74_10 : dp_tab 74 10 = (.aload_n 2, 1) := by decide +kernel
set_option maxRecDepth 100000 in
theorem ti_74_11 : dp_tab 74 11 = (.arraylength, 1) := by decide +kernel
set_option maxRecDepth 100000 in
theorem ti_74_12 : dp_tab 74 12 = (.if_icmp .ge 26, 3) := by decide +kernel
set_option maxRecDepth 100000 in
theorem ti_74_15 : dp_tab 74 15 = (.aload_n 2, 1) := by decide +kernel
set_option maxRecDepth 100000 in
theorem ti_74_16 : dp_tab 74 16 = (.iload_n 3, 1) := by decide +kernel
set_option maxRecDepth 100000 in
theorem ti_74_17 : dp_tab 74 17 = (.aload_n 0, 1) := by decide +kernel
set_option maxRecDepth 100000 in
theorem ti_74_18 : dp_tab 74 18 = (.iload_n 3, 1) := by decide +kernel
set_option maxRecDepth 100000 in
theorem ti_74_19 : dp_tab 74 19 = (.iload_n 1, 1) := by decide +kernel
set_option maxRecDepth 100000 in
theorem ti_74_20 : dp_tab 74 20 = (.if_icmp .ge 7, 3) := by decide +kernel
set_option maxRecDepth 100000 in
theorem ti_74_23 : dp_tab 74 23 = (.iload_n 3, 1) := by decide +kernel
set_option maxRecDepth 100000 in
theorem ti_74_24 : dp_tab 74 24 = (.goto 6, 3) := by decide +kernel
set_option maxRecDepth 100000 in
theorem ti_74_27 : dp_tab 74 27 = (.iload_n 3, 1) := by decide +kernel
set_option maxRecDepth 100000 in
theorem ti_74_28 : dp_tab 74 28 = (.iconst 1, 1) := by decide +kernel
set_option maxRecDepth 100000 in
theorem ti_74_29 : dp_tab 74 29 = (.iadd, 1) := by decide +kernel
set_option maxRecDepth 100000 in
theorem ti_74_30 : dp_tab 74 30 = (.iaload, 1) := by decide +kernel
set_option maxRecDepth 100000 in
theorem ti_74_31 : dp_tab 74 31 = (.iastore, 1) := by decide +kernel
set_option maxRecDepth 100000 in
theorem ti_74_32 : dp_tab 74 32 = (.iinc 3 1, 3) := by decide +kernel
set_option maxRecDepth 100000 in
theorem ti_74_35 : dp_tab 74 35 = (.goto (-26), 3) := by decide +kernel
set_option maxRecDepth 100000 in
theorem ti_74_38 : dp_tab 74 38 = (.aload_n 2, 1) := by decide +kernel
set_option maxRecDepth 100000 in
theorem ti_74_39 : dp_tab 74 39 = (.areturn, 1) := by decide +kernel
set_option maxRecDepth 100000 in
theorem ti_75_0 : dp_tab 75 0 = (.aload_n 1, 1) := by decide +kernel
set_option maxRecDepth 100000 in
theorem ti_75_1 : dp_tab 75 1 = (.getfield 9, 3) := by decide +kernel
set_option maxRecDepth 100000 in
theorem ti_75_4 : dp_tab 75 4 = (.arraylength, 1) := by decide +kernel
set_option maxRecDepth 100000 in
theorem ti_75_5 : dp_tab 75 5 = (.istore_n 3, 1) := by decide +kernel
set_option maxRecDepth 100000 in
theorem ti_75_6 : dp_tab 75 6 = (.aload_n 1, 1) := by decide +kernel
set_option maxRecDepth 100000 in
theorem ti_75_7 : dp_tab 75 7 = (.getfield 15, 3) := by decide +kernel
set_option maxRecDepth 100000 in
theorem ti_75_10 : dp_tab 75 10 = (.arraylength, 1) := by decide +kernel
set_option maxRecDepth 100000 in
theorem ti_75_11 : dp_tab 75 11 = (.istore 4, 2) := by decide +kernel
set_option maxRecDepth 100000 in
theorem ti_75_13 : dp_tab 75 13 = (.iload_n 3, 1) := by decide +kernel
set_option maxRecDepth 100000 in
theorem ti_75_14 : dp_tab 75 14 = (.ifCond .ne 7, 3) := by decide +kernel
set_option maxRecDepth 100000 in
theorem ti_75_17 : dp_tab 75 17 = (.iconst 0, 1) := by decide +kernel
set_option maxRecDepth 100000 in
theorem ti_75_18 : dp_tab 75 18 = (.goto 8, 3) := by decide +kernel
set_option maxRecDepth 100000 in
theorem ti_75_21 : dp_tab 75 21 = (.iload_n 2, 1) := by decide +kernel
set_option maxRecDepth 100000 in
theorem ti_75_22 : dp_tab 75 22 = (.iload_n 3, 1) := by decide +kernel
set_option maxRecDepth 100000 in
theorem ti_75_23 : dp_tab 75 23 = (.invokestatic 19, 3) := by decide +kernel
set_option maxRecDepth 100000 in
theorem ti_75_26 : dp_tab 75 26 = (.istore 5, 2) := by decide +kernel
set_option maxRecDepth 100000 in
theorem ti_75_28 : dp_tab 75 28 = (.iload 4, 2) := by decide +kernel
set_option maxRecDepth 100000 in
theorem ti_75_30 : dp_tab 75 30 = (.ifCond .ne 7, 3) := by decide +kernel
set_option maxRecDepth 100000 in
theorem ti_75_33 : dp_tab 75 33 = (.iconst 0, 1) := by decide +kernel
set_option maxRecDepth 100000 in
theorem ti_75_34 : dp_tab 75 34 = (.goto 11, 3) := by decide +kernel
set_option maxRecDepth 100000 in
theorem ti_75_37 : dp_tab 75 37 = (.iload_n 2, 1) := by decide +kernel
set_option maxRecDepth 100000 in
theorem ti_75_38 : dp_tab 75 38 = (.iconst 2, 1) := by decide +kernel
set_option maxRecDepth 100000 in
theorem ti_75_39 : dp_tab 75 39 = (.ishr, 1) := by decide +kernel
set_option maxRecDepth 100000 in
theorem ti_75_40 : dp_tab 75 40 = (.iload 4, 2) := by decide +kernel
set_option maxRecDepth 100000 in
theorem ti_75_42 : dp_tab 75 42 = (.invokestatic 19, 3) := by decide +kernel
set_option maxRecDepth 100000 in
theorem ti_75_45 : dp_tab 75 45 = (.istore 6, 2) := by decide +kernel
set_option maxRecDepth 100000 in
theorem ti_75_47 : dp_tab 75 47 = (.iload_n 2, 1) := by decide +kernel
set_option maxRecDepth 100000 in
theorem ti_75_48 : dp_tab 75 48 = (.iconst 3, 1) := by decide +kernel
set_option maxRecDepth 100000 in
theorem ti_75_49 : dp_tab 75 49 = (.ishr, 1) := by decide +kernel
set_option maxRecDepth 100000 in
theorem ti_75_50 : dp_tab 75 50 = (.iload_n 2, 1) := by decide +kernel
set_option maxRecDepth 100000 in
theorem ti_75_51 : dp_tab 75 51 = (.bipush 7, 2) := by decide +kernel
set_option maxRecDepth 100000 in
theorem ti_75_53 : dp_tab 75 53 = (.ishr, 1) := by decide +kernel
set_option maxRecDepth 100000 in
theorem ti_75_54 : dp_tab 75 54 = (.iconst 3, 1) := by decide +kernel
set_option maxRecDepth 100000 in
theorem ti_75_55 : dp_tab 75 55 = (.invokestatic 19, 3) := by decide +kernel
set_option maxRecDepth 100000 in
theorem ti_75_58 : dp_tab 75 58 = (.ifCond .ne 8, 3) := by decide +kernel
set_option maxRecDepth 100000 in
theorem ti_75_61 : dp_tab 75 61 = (.bipush 40, 2) := by decide +kernel
set_option maxRecDepth 100000 in
theorem ti_75_63 : dp_tab 75 63 = (.goto 5, 3) := by decide +kernel
set_option maxRecDepth 100000 in
theorem ti_75_66 : dp_tab 75 66 = (.bipush 12, 2) := by decide +kernel
set_option maxRecDepth 100000 in
theorem ti_75_68 : dp_tab 75 68 = (.invokestatic 19, 3) := by decide +kernel
set_option maxRecDepth 100000 in
theorem ti_75_71 : dp_tab 75 71 = (.istore 7, 2) := by decide +kernel
set_option maxRecDepth 100000 in
theorem ti_75_73 : dp_tab 75 73 = (.iload_n 2, 1) := by decide +kernel
set_option maxRecDepth 100000 in
theorem ti_75_74 : dp_tab 75 74 = (.iconst 4, 1) := by decide +kernel
set_option maxRecDepth 100000 in
theorem ti_75_75 : dp_tab 75 75 = (.ishr, 1) := by decide +kernel
set_option maxRecDepth 100000 in
theorem ti_75_76 : dp_tab 75 76 = (.iload_n 2, 1) := by decide +kernel
set_option maxRecDepth 100000 in
theorem ti_75_77 : dp_tab 75 77 = (.bipush 7, 2) := by decide +kernel
set_option maxRecDepth 100000 in
theorem ti_75_79 : dp_tab 75 79 = (.ishr, 1) := by decide +kernel
set_option maxRecDepth 100000 in
theorem ti_75_80 : dp_tab 75 80 = (.iconst 3, 1) := by decide +kernel
set_option maxRecDepth 100000 in
theorem ti_75_81 : dp_tab 75 81 = (.invokestatic 19, 3) := by decide +kernel
set_option maxRecDepth 100000 in
theorem ti_75_84 : dp_tab 75 84 = (.ifCond .ne 8, 3) := by decide +kernel
set_option maxRecDepth 100000 in
theorem ti_75_87 : dp_tab 75 87 = (.bipush 20, 2) := by decide +kernel
set_option maxRecDepth 100000 in
theorem ti_75_89 : dp_tab 75 89 = (.goto 5, 3) := by decide +kernel
set_option maxRecDepth 100000 in
theorem ti_75_92 : dp_tab 75 92 = (.bipush 7, 2) := by decide +kernel
set_option maxRecDepth 100000 in
theorem ti_75_94 : dp_tab 75 94 = (.invokestatic 19, 3) := by decide +kernel
set_option maxRecDepth 100000 in
theorem ti_75_97 : dp_tab 75 97 = (.istore 8, 2) := by decide +kernel
set_option maxRecDepth 100000 in
theorem ti_75_99 : dp_tab 75 99 = (.iload_n 2, 1) := by decide +kernel
set_option maxRecDepth 100000 in
theorem ti_75_100 : dp_tab 75 100 = (.bipush 9, 2) := by decide +kernel
set_option maxRecDepth 100000 in
theorem ti_75_102 : dp_tab 75 102 = (.ishr, 1) := by decide +kernel
set_option maxRecDepth 100000 in
theorem ti_75_103 : dp_tab 75 103 = (.bipush 24, 2) := by decide +kernel
set_option maxRecDepth 100000 in
theorem ti_75_105 : dp_tab 75 105 = (.invokestatic 19, 3) := by decide +kernel
set_option maxRecDepth 100000 in
theorem ti_75_108 : dp_tab 75 108 = (.tableswitch 813 0 14 #[76, 113, 113, 183, 266, 266, 386, 386, 386, 386, 510, 609, 690, 782, 782], 76) := by decide +kernel
set_option maxRecDepth 100000 in
theorem ti_75_184 : dp_tab 75 184 = (.aload_n 1, 1) := by decide +kernel
set_option maxRecDepth 100000 in
theorem ti_75_185 : dp_tab 75 185 = (.getfield 25, 3) := by decide +kernel
set_option maxRecDepth 100000 in
theorem ti_75_188 : dp_tab 75 188 = (.iload 7, 2) := by decide +kernel
set_option maxRecDepth 100000 in
theorem ti_75_190 : dp_tab 75 190 = (.iaload, 1) := by decide +kernel
set_option maxRecDepth 100000 in
theorem ti_75_191 : dp_tab 75 191 = (.istore 9, 2) := by decide +kernel
set_option maxRecDepth 100000 in
theorem ti_75_193 : dp_tab 75 193 = (.aload_n 1, 1) := by decide +kernel
set_option maxRecDepth 100000 in
theorem ti_75_194 : dp_tab 75 194 = (.getfield 25, 3) := by decide +kernel
set_option maxRecDepth 100000 in
theorem ti_75_197 : dp_tab 75 197 = (.iload 7, 2) := by decide +kernel
set_option maxRecDepth 100000 in
theorem ti_75_199 : dp_tab 75 199 = (.iload 8, 2) := by decide +kernel
set_option maxRecDepth 100000 in
theorem ti_75_201 : dp_tab 75 201 = (.iastore, 1) := by decide +kernel
set_option maxRecDepth 100000 in
theorem ti_75_202 : dp_tab 75 202 = (.aload_n 0, 1) := by decide +kernel
set_option maxRecDepth 100000 in
theorem ti_75_203 : dp_tab 75 203 = (.iload 7, 2) := by decide +kernel
set_option maxRecDepth 100000 in
theorem ti_75_205 : dp_tab 75 205 = (.iload 8, 2) := by decide +kernel
set_option maxRecDepth 100000 in
theorem ti_75_207 : dp_tab 75 207 = (.invokevirtual 29, 3) := by decide +kernel
set_option maxRecDepth 100000 in
theorem ti_75_210 : dp_tab 75 210 = (.iload 9, 2) := by decide +kernel
set_option maxRecDepth 100000 in
theorem ti_75_212 : dp_tab 75 212 = (.if_icmp .ne 7, 3) := by decide +kernel
set_option maxRecDepth 100000 in
theorem ti_75_215 : dp_tab 75 215 = (.iconst 1, 1) := by decide +kernel
set_option maxRecDepth 100000 in
theorem ti_75_216 : dp_tab 75 216 = (.goto 4, 3) := by decide +kernel
set_option maxRecDepth 100000 in
theorem ti_75_219 : dp_tab 75 219 = (.iconst 0, 1) := by decide +kernel
set_option maxRecDepth 100000 in
theorem ti_75_220 : dp_tab 75 220 = (.ireturn, 1) := by decide +kernel
set_option maxRecDepth 100000 in
theorem ti_75_221 : dp_tab 75 221 = (.iload_n 3, 1) := by decide +kernel
set_option maxRecDepth 100000 in
theorem ti_75_222 : dp_tab 75 222 = (.bipush 16, 2) := by decide +kernel
set_option maxRecDepth 100000 in
theorem ti_75_224 : dp_tab 75 224 = (.if_icmp .ne 5, 3) := by decide +kernel
set_option maxRecDepth 100000 in
theorem ti_75_227 : dp_tab 75 227 = (.iconst 1, 1) := by decide +kernel
set_option maxRecDepth 100000 in
theorem ti_75_228 : dp_tab 75 228 = (.ireturn, 1) := by decide +kernel
set_option maxRecDepth 100000 in
theorem ti_75_229 : dp_tab 75 229 = (.iload_n 3, 1) := by decide +kernel
set_option maxRecDepth 100000 in
theorem ti_75_230 : dp_tab 75 230 = (.iconst 1, 1) := by decide +kernel
set_option maxRecDepth 100000 in
theorem ti_75_231 : dp_tab 75 231 = (.iadd, 1) := by decide +kernel
set_option maxRecDepth 100000 in
theorem ti_75_232 : dp_tab 75 232 = (.anewarray 34, 3) := by decide +kernel
set_option maxRecDepth 100000 in
theorem ti_75_235 : dp_tab 75 235 = (.astore 10, 2) := by decide +kernel
set_option maxRecDepth 100000 in
theorem ti_75_237 : dp_tab 75 237 = (.iconst 0, 1) := by decide +kernel
set_option maxRecDepth 100000 in
theorem ti_75_238 : dp_tab 75 238 = (.istore 11, 2) := by decide +kernel
set_option maxRecDepth 100000 in
theorem ti_75_240 : dp_tab 75 240 = (.iload 11, 2) := by decide +kernel
set_option maxRecDepth 100000 in
theorem ti_75_242 : dp_tab 75 242 = (.iload_n 3, 1) := by decide +kernel
set_option maxRecDepth 100000 in
theorem ti_75_243 : dp_tab 75 243 = (.if_icmp .ge 21, 3) := by decide +kernel
set_option maxRecDepth 100000 in
theorem ti_75_246 : dp_tab 75 246 = (.aload 10, 2) := by decide +kernel
set_option maxRecDepth 100000 in
theorem ti_75_248 : dp_tab 75 248 = (.iload 11, 2) := by decide +kernel
set_option maxRecDepth 100000 in
theorem ti_75_250 : dp_tab 75 250 = (.aload_n 1, 1) := by decide +kernel
set_option maxRecDepth 100000 in
theorem ti_75_251 : dp_tab 75 251 = (.getfield 9, 3) := by decide +kernel
set_option maxRecDepth 100000 in
theorem ti_75_254 : dp_tab 75 254 = (.iload 11, 2) := by decide +kernel
set_option maxRecDepth 100000 in
theorem ti_75_256 : dp_tab 75 256 = (.aaload, 1) := by decide +kernel
set_option maxRecDepth 100000 in
theorem ti_75_257 : dp_tab 75 257 = (.aastore, 1) := by decide +kernel
set_option maxRecDepth 100000 in
theorem ti_75_258 : dp_tab 75 258 = (.iinc 11 1, 3) := by decide +kernel
set_option maxRecDepth 100000 in
theorem ti_75_261 : dp_tab 75 261 = (.goto (-21), 3) := by decide +kernel
set_option maxRecDepth 100000 in
theorem ti_75_264 : dp_tab 75 264 = (.aload 10, 2) := by decide +kernel
set_option maxRecDepth 100000 in
theorem ti_75_266 : dp_tab 75 266 = (.iload_n 3, 1) := by decide +kernel
set_option maxRecDepth 100000 in
theorem ti_75_267 : dp_tab 75 267 = (.iconst 0, 1) := by decide +kernel
set_option maxRecDepth 100000 in
theorem ti_75_268 : dp_tab 75 268 = (.newarray .int, 2) := by decide +kernel
set_option maxRecDepth 100000 in
theorem ti_75_270 : dp_tab 75 270 = (.aastore, 1) := by decide +kernel
set_option maxRecDepth 100000 in
theorem ti_75_271 : dp_tab 75 271 = (.aload_n 1, 1) := by decide +kernel
set_option maxRecDepth 100000 in
theorem ti_75_272 : dp_tab 75 272 = (.aload 10, 2) := by decide +kernel
set_option maxRecDepth 100000 in
theorem ti_75_274 : dp_tab 75 274 = (.putfield 9, 3) := by decide +kernel
set_option maxRecDepth 100000 in
theorem ti_75_277 : dp_tab 75 277 = (.aload_n 0, 1) := by decide +kernel
set_option maxRecDepth 100000 in
theorem ti_75_278 : dp_tab 75 278 = (.invokevirtual 35, 3) := by decide +kernel
set_option maxRecDepth 100000 in
theorem ti_75_281 : dp_tab 75 281 = (.iload_n 3, 1) := by decide +kernel
set_option maxRecDepth 100000 in
theorem ti_75_282 : dp_tab 75 282 = (.if_icmp .ne 7, 3) := by decide +kernel
set_option maxRecDepth 100000 in
theorem ti_75_285 : dp_tab 75 285 = (.iconst 1, 1) := by decide +kernel
set_option maxRecDepth 100000 in
theorem ti_75_286 : dp_tab 75 286 = (.goto 4, 3) := by decide +kernel
set_option maxRecDepth 100000 in
theorem ti_75_289 : dp_tab 75 289 = (.iconst 0, 1) := by decide +kernel
set_option maxRecDepth 100000 in
theorem ti_75_290 : dp_tab 75 290 = (.ireturn, 1) := by decide +kernel
set_option maxRecDepth 100000 in
theorem ti_75_291 : dp_tab 75 291 = (.iload_n 3, 1) := by decide +kernel
set_option maxRecDepth 100000 in
theorem ti_75_292 : dp_tab 75 292 = (.ifCond .eq 14, 3) := by decide +kernel
set_option maxRecDepth 100000 in
theorem ti_75_295 : dp_tab 75 295 = (.aload_n 1, 1) := by decide +kernel
set_option maxRecDepth 100000 in
theorem ti_75_296 : dp_tab 75 296 = (.getfield 9, 3) := by decide +kernel
set_option maxRecDepth 100000 in
theorem ti_75_299 : dp_tab 75 299 = (.iload 5, 2) := by decide +kernel
set_option maxRecDepth 100000 in
theorem ti_75_301 : dp_tab 75 301 = (.aaload, 1) := by decide +kernel
set_option maxRecDepth 100000 in
theorem ti_75_302 : dp_tab 75 302 = (.arraylength, 1) := by decide +kernel
set_option maxRecDepth 100000 in
theorem ti_75_303 : dp_tab 75 303 = (.ifCond .ne 5, 3) := by decide +kernel
set_option maxRecDepth 100000 in
theorem ti_75_306 : dp_tab 75 306 = (.iconst 1, 1) := by decide +kernel
set_option maxRecDepth 100000 in
theorem ti_75_307 : dp_tab 75 307 = (.ireturn, 1) := by decide +kernel
set_option maxRecDepth 100000 in
theorem ti_75_308 : dp_tab 75 308 = (.iload_n 2, 1) := by decide +kernel
set_option maxRecDepth 100000 in
theorem ti_75_309 : dp_tab 75 309 = (.iconst 1, 1) := by decide +kernel
set_option maxRecDepth 100000 in
theorem ti_75_310 : dp_tab 75 310 = (.ishr, 1) := by decide +kernel
set_option maxRecDepth 100000 in
theorem ti_75_311 : dp_tab 75 311 = (.aload_n 1, 1) := by decide +kernel
set_option maxRecDepth 100000 in
theorem ti_75_312 : dp_tab 75 312 = (.getfield 9, 3) := by decide +kernel
set_option maxRecDepth 100000 in
theorem ti_75_315 : dp_tab 75 315 = (.iload 5, 2) := by decide +kernel
set_option maxRecDepth 100000 in
theorem ti_75_317 : dp_tab 75 317 = (.aaload, 1) := by decide +kernel
set_option maxRecDepth 100000 in
theorem ti_75_318 : dp_tab 75 318 = (.arraylength, 1) := by decide +kernel
set_option maxRecDepth 100000 in
theorem ti_75_319 : dp_tab 75 319 = (.invokestatic 19, 3) := by decide +kernel
set_option maxRecDepth 100000 in
theorem ti_75_322 : dp_tab 75 322 = (.istore 11, 2) := by decide +kernel
set_option maxRecDepth 100000 in
theorem ti_75_324 : dp_tab 75 324 = (.aload_n 1, 1) := by decide +kernel
set_option maxRecDepth 100000 in
theorem ti_75_325 : dp_tab 75 325 = (.getfield 9, 3) := by decide +kernel
set_option maxRecDepth 100000 in
theorem ti_75_328 : dp_tab 75 328 = (.iload 5, 2) := by decide +kernel
set_option maxRecDepth 100000 in
theorem ti_75_330 : dp_tab 75 330 = (.aaload, 1) := by decide +kernel
set_option maxRecDepth 100000 in
theorem ti_75_331 : dp_tab 75 331 = (.iload 11, 2) := by decide +kernel
set_option maxRecDepth 100000 in
theorem ti_75_333 : dp_tab 75 333 = (.iaload, 1) := by decide +kernel
set_option maxRecDepth 100000 in
theorem ti_75_334 : dp_tab 75 334 = (.istore 12, 2) := by decide +kernel
set_option maxRecDepth 100000 in
theorem ti_75_336 : dp_tab 75 336 = (.aload_n 1, 1) := by decide +kernel
set_option maxRecDepth 100000 in
theorem ti_75_337 : dp_tab 75 337 = (.getfield 9, 3) := by decide +kernel
set_option maxRecDepth 100000 in
theorem ti_75_340 : dp_tab 75 340 = (.iload 5, 2) := by decide +kernel
set_option maxRecDepth 100000 in
theorem ti_75_342 : dp_tab 75 342 = (.aload_n 1, 1) := by decide +kernel
set_option maxRecDepth 100000 in
theorem ti_75_343 : dp_tab 75 343 = (.getfield 9, 3) := by decide +kernel
set_option maxRecDepth 100000 in
theorem ti_75_346 : dp_tab 75 346 = (.iload 5, 2) := by decide +kernel
set_option maxRecDepth 100000 in
theorem ti_75_348 : dp_tab 75 348 = (.aaload, 1) := by decide +kernel
set_option maxRecDepth 100000 in
theorem ti_75_349 : dp_tab 75 349 = (.iload 11, 2) := by decide +kernel
set_option maxRecDepth 100000 in
theorem ti_75_351 : dp_tab 75 351 = (.invokestatic 39, 3) := by decide +kernel
set_option maxRecDepth 100000 in
theorem ti_75_354 : dp_tab 75 354 = (.aastore, 1) := by decide +kernel
set_option maxRecDepth 100000 in
theorem ti_75_355 : dp_tab 75 355 = (.aload_n 0, 1) := by decide +kernel
set_option maxRecDepth 100000 in
theorem ti_75_356 : dp_tab 75 356 = (.iload 5, 2) := by decide +kernel
set_option maxRecDepth 100000 in
theorem ti_75_358 : dp_tab 75 358 = (.iload 11, 2) := by decide +kernel
set_option maxRecDepth 100000 in
theorem ti_75_360 : dp_tab 75 360 = (.invokevirtual 43, 3) := by decide +kernel
set_option maxRecDepth 100000 in
theorem ti_75_363 : dp_tab 75 363 = (.iload 12, 2) := by decide +kernel
set_option maxRecDepth 100000 in
theorem ti_75_365 : dp_tab 75 365 = (.if_icmp .ne 7, 3) := by decide +kernel
set_option maxRecDepth 100000 in
theorem ti_75_368 : dp_tab 75 368 = (.iconst 1, 1) := by decide +kernel
set_option maxRecDepth 100000 in
theorem ti_75_369 : dp_tab 75 369 = (.goto 4, 3) := by decide +kernel
set_option maxRecDepth 100000 in
theorem ti_75_372 : dp_tab 75 372 = (.iconst 0, 1) := by decide +kernel
set_option maxRecDepth 100000 in
theorem ti_75_373 : dp_tab 75 373 = (.ireturn, 1) := by decide +kernel
set_option maxRecDepth 100000 in
theorem ti_75_374 : dp_tab 75 374 = (.iload 4, 2) := by decide +kernel
set_option maxRecDepth 100000 in
theorem ti_75_376 : dp_tab 75 376 = (.bipush 6, 2) := by decide +kernel
set_option maxRecDepth 100000 in
theorem ti_75_378 : dp_tab 75 378 = (.if_icmp .ne 5, 3) := by decide +kernel
set_option maxRecDepth 100000 in
theorem ti_75_381 : dp_tab 75 381 = (.iconst 1, 1) := by decide +kernel
set_option maxRecDepth 100000 in
theorem ti_75_382 : dp_tab 75 382 = (.ireturn, 1) := by decide +kernel
set_option maxRecDepth 100000 in
theorem ti_75_383 : dp_tab 75 383 = (.iload 4, 2) := by decide +kernel
set_option maxRecDepth 100000 in
theorem ti_75_385 : dp_tab 75 385 = (.iconst 1, 1) := by decide +kernel
set_option maxRecDepth 100000 in
theorem ti_75_386 : dp_tab 75 386 = (.iadd, 1) := by decide +kernel
set_option maxRecDepth 100000 in
theorem ti_75_387 : dp_tab 75 387 = (.anewarray 46, 3) := by decide +kernel
set_option maxRecDepth 100000 in
theorem ti_75_390 : dp_tab 75 390 = (.astore 13, 2) := by decide +kernel
set_option maxRecDepth 100000 in
theorem ti_75_392 : dp_tab 75 392 = (.iconst 0, 1) := by decide +kernel
set_option maxRecDepth 100000 in
theorem ti_75_393 : dp_tab 75 393 = (.istore 14, 2) := by decide +kernel
set_option maxRecDepth 100000 in
theorem ti_75_395 : dp_tab 75 395 = (.iload 14, 2) := by decide +kernel
set_option maxRecDepth 100000 in
theorem ti_75_397 : dp_tab 75 397 = (.iload 4, 2) := by decide +kernel
set_option maxRecDepth 100000 in
theorem ti_75_399 : dp_tab 75 399 = (.if_icmp .ge 21, 3) := by decide +kernel
set_option maxRecDepth 100000 in
theorem ti_75_402 : dp_tab 75 402 = (.aload 13, 2) := by decide +kernel
set_option maxRecDepth 100000 in
theorem ti_75_404 : dp_tab 75 404 = (.iload 14, 2) := by decide +kernel
set_option maxRecDepth 100000 in
theorem ti_75_406 : dp_tab 75 406 = (.aload_n 1, 1) := by decide +kernel
set_option maxRecDepth 100000 in
theorem ti_75_407 : dp_tab 75 407 = (.getfield 15, 3) := by decide +kernel
set_option maxRecDepth 100000 in
theorem ti_75_410 : dp_tab 75 410 = (.iload 14, 2) := by decide +kernel
set_option maxRecDepth 100000 in
theorem ti_75_412 : dp_tab 75 412 = (.aaload, 1) := by decide +kernel
set_option maxRecDepth 100000 in
theorem ti_75_413 : dp_tab 75 413 = (.aastore, 1) := by decide +kernel
set_option maxRecDepth 100000 in
theorem ti_75_414 : dp_tab 75 414 = (.iinc 14 1, 3) := by decide +kernel
set_option maxRecDepth 100000 in
theorem ti_75_417 : dp_tab 75 417 = (.goto (-22), 3) := by decide +kernel
set_option maxRecDepth 100000 in
theorem ti_75_420 : dp_tab 75 420 = (.aload 13, 2) := by decide +kernel
set_option maxRecDepth 100000 in
theorem ti_75_422 : dp_tab 75 422 = (.iload 4, 2) := by decide +kernel
set_option maxRecDepth 100000 in
theorem ti_75_424 : dp_tab 75 424 = (.new 46, 3) := by decide +kernel
set_option maxRecDepth 100000 in
theorem ti_75_427 : dp_tab 75 427 = (.dup, 1) := by decide +kernel
set_option maxRecDepth 100000 in
theorem ti_75_428 : dp_tab 75 428 = (.invokespecial 48, 3) := by decide +kernel
set_option maxRecDepth 100000 in
theorem ti_75_431 : dp_tab 75 431 = (.aastore, 1) := by decide +kernel
set_option maxRecDepth 100000 in
theorem ti_75_432 : dp_tab 75 432 = (.aload 13, 2) := by decide +kernel
set_option maxRecDepth 100000 in
theorem ti_75_434 : dp_tab 75 434 = (.iload 4, 2) := by decide +kernel
set_option maxRecDepth 100000 in
theorem ti_75_436 : dp_tab 75 436 = (.aaload, 1) := by decide +kernel
set_option maxRecDepth 100000 in
theorem ti_75_437 : dp_tab 75 437 = (.iload_n 2, 1) := by decide +kernel
set_option maxRecDepth 100000 in
theorem ti_75_438 : dp_tab 75 438 = (.iconst 1, 1) := by decide +kernel
set_option maxRecDepth 100000 in
theorem ti_75_439 : dp_tab 75 439 = (.ishr, 1) := by decide +kernel
set_option maxRecDepth 100000 in
theorem ti_75_440 : dp_tab 75 440 = (.iload_n 2, 1) := by decide +kernel
set_option maxRecDepth 100000 in
theorem ti_75_441 : dp_tab 75 441 = (.bipush 6, 2) := by decide +kernel
set_option maxRecDepth 100000 in
theorem ti_75_443 : dp_tab 75 443 = (.ishr, 1) := by decide +kernel
set_option maxRecDepth 100000 in
theorem ti_75_444 : dp_tab 75 444 = (.iconst 2, 1) := by decide +kernel
set_option maxRecDepth 100000 in
theorem ti_75_445 : dp_tab 75 445 = (.invokestatic 19, 3) := by decide +kernel
set_option maxRecDepth 100000 in
theorem ti_75_448 : dp_tab 75 448 = (.ifCond .ne 9, 3) := by decide +kernel
set_option maxRecDepth 100000 in
theorem ti_75_451 : dp_tab 75 451 = (.sipush 1000, 3) := by decide +kernel
set_option maxRecDepth 100000 in
theorem ti_75_454 : dp_tab 75 454 = (.goto 5, 3) := by decide +kernel
set_option maxRecDepth 100000 in
theorem ti_75_457 : dp_tab 75 457 = (.bipush 40, 2) := by decide +kernel
set_option maxRecDepth 100000 in
theorem ti_75_459 : dp_tab 75 459 = (.invokestatic 19, 3) := by decide +kernel
set_option maxRecDepth 100000 in
theorem ti_75_462 : dp_tab 75 462 = (.putfield 49, 3) := by decide +kernel
set_option maxRecDepth 100000 in
theorem ti_75_465 : dp_tab 75 465 = (.aload_n 1, 1) := by decide +kernel
set_option maxRecDepth 100000 in
theorem ti_75_466 : dp_tab 75 466 = (.aload 13, 2) := by decide +kernel
set_option maxRecDepth 100000 in
theorem ti_75_468 : dp_tab 75 468 = (.putfield 15, 3) := by decide +kernel
set_option maxRecDepth 100000 in
theorem ti_75_471 : dp_tab 75 471 = (.aload_n 0, 1) := by decide +kernel
set_option maxRecDepth 100000 in
theorem ti_75_472 : dp_tab 75 472 = (.aload 13, 2) := by decide +kernel
set_option maxRecDepth 100000 in
theorem ti_75_474 : dp_tab 75 474 = (.iload 4, 2) := by decide +kernel
set_option maxRecDepth 100000 in
theorem ti_75_476 : dp_tab 75 476 = (.aaload, 1) := by decide +kernel
set_option maxRecDepth 100000 in
theorem ti_75_477 : dp_tab 75 477 = (.getfield 49, 3) := by decide +kernel
set_option maxRecDepth 100000 in
theorem ti_75_480 : dp_tab 75 480 = (.invokevirtual 53, 3) := by decide +kernel
set_option maxRecDepth 100000 in
theorem ti_75_483 : dp_tab 75 483 = (.iload 4, 2) := by decide +kernel
set_option maxRecDepth 100000 in
theorem ti_75_485 : dp_tab 75 485 = (.if_icmp .ne 7, 3) := by decide +kernel
set_option maxRecDepth 100000 in
theorem ti_75_488 : dp_tab 75 488 = (.iconst 1, 1) := by decide +kernel
set_option maxRecDepth 100000 in
theorem ti_75_489 : dp_tab 75 489 = (.goto 4, 3) := by decide +kernel
set_option maxRecDepth 100000 in
theorem ti_75_492 : dp_tab 75 492 = (.iconst 0, 1) := by decide +kernel
set_option maxRecDepth 100000 in
theorem ti_75_493 : dp_tab 75 493 = (.ireturn, 1) := by decide +kernel
set_option maxRecDepth 100000 in
theorem ti_75_494 : dp_tab 75 494 = (.iload 4, 2) := by decide +kernel
set_option maxRecDepth 100000 in
theorem ti_75_496 : dp_tab 75 496 = (.ifCond .eq 18, 3) := by decide +kernel
set_option maxRecDepth 100000 in
theorem ti_75_499 : dp_tab 75 499 = (.aload_n 1, 1) := by decide +kernel
set_option maxRecDepth 100000 in
theorem ti_75_500 : dp_tab 75 500 = (.getfield 15, 3) := by decide +kernel
set_option maxRecDepth 100000 in
theorem ti_75_503 : dp_tab 75 503 = (.iload 6, 2) := by decide +kernel
set_option maxRecDepth 100000 in
theorem ti_75_505 : dp_tab 75 505 = (.aaload, 1) := by decide +kernel
set_option maxRecDepth 100000 in
theorem ti_75_506 : dp_tab 75 506 = (.getfield 57, 3) := by decide +kernel
set_option maxRecDepth 100000 in
theorem ti_75_509 : dp_tab 75 509 = (.arraylength, 1) := by decide +kernel
set_option maxRecDepth 100000 in
theorem ti_75_510 : dp_tab 75 510 = (.iconst 5, 1) := by decide +kernel
set_option maxRecDepth 100000 in
theorem ti_75_511 : dp_tab 75 511 = (.if_icmp .ne 5, 3) := by decide +kernel
set_option maxRecDepth 100000 in
theorem ti_75_514 : dp_tab 75 514 = (.iconst 1, 1) := by decide +kernel
set_option maxRecDepth 100000 in
theorem ti_75_515 : dp_tab 75 515 = (.ireturn, 1) := by decide +kernel
set_option maxRecDepth 100000 in
theorem ti_75_516 : dp_tab 75 516 = (.aload_n 1, 1) := by decide +kernel
set_option maxRecDepth 100000 in
theorem ti_75_517 : dp_tab 75 517 = (.getfield 15, 3) := by decide +kernel
set_option maxRecDepth 100000 in
theorem ti_75_520 : dp_tab 75 520 = (.iload 6, 2) := by decide +kernel
set_option maxRecDepth 100000 in
theorem ti_75_522 : dp_tab 75 522 = (.aaload, 1) := by decide +kernel
set_option maxRecDepth 100000 in
theorem ti_75_523 : dp_tab 75 523 = (.getfield 57, 3) := by decide +kernel
set_option maxRecDepth 100000 in
theorem ti_75_526 : dp_tab 75 526 = (.astore 14, 2) := by decide +kernel
set_option maxRecDepth 100000 in
theorem ti_75_528 : dp_tab 75 528 = (.aload 14, 2) := by decide +kernel
set_option maxRecDepth 100000 in
theorem ti_75_530 : dp_tab 75 530 = (.arraylength, 1) := by decide +kernel
set_option maxRecDepth 100000 in
theorem ti_75_531 : dp_tab 75 531 = (.istore 15, 2) := by decide +kernel
set_option maxRecDepth 100000 in
theorem ti_75_533 : dp_tab 75 533 = (.iconst 0, 1) := by decide +kernel
set_option maxRecDepth 100000 in
theorem ti_75_534 : dp_tab 75 534 = (.istore 16, 2) := by decide +kernel
set_option maxRecDepth 100000 in
theorem ti_75_536 : dp_tab 75 536 = (.iload 16, 2) := by decide +kernel
set_option maxRecDepth 100000 in
theorem ti_75_538 : dp_tab 75 538 = (.iload 15, 2) := by decide +kernel
set_option maxRecDepth 100000 in
theorem ti_75_540 : dp_tab 75 540 = (.if_icmp .ge 25, 3) := by decide +kernel
set_option maxRecDepth 100000 in
theorem ti_75_543 : dp_tab 75 543 = (.aload 14, 2) := by decide +kernel
set_option maxRecDepth 100000 in
theorem ti_75_545 : dp_tab 75 545 = (.iload 16, 2) := by decide +kernel
set_option maxRecDepth 100000 in
theorem ti_75_547 : dp_tab 75 547 = (.iaload, 1) := by decide +kernel
set_option maxRecDepth 100000 in
theorem ti_75_548 : dp_tab 75 548 = (.istore 17, 2) := by decide +kernel
set_option maxRecDepth 100000 in
theorem ti_75_550 : dp_tab 75 550 = (.iload 17, 2) := by decide +kernel
set_option maxRecDepth 100000 in
theorem ti_75_552 : dp_tab 75 552 = (.iload 8, 2) := by decide +kernel
set_option maxRecDepth 100000 in
theorem ti_75_554 : dp_tab 75 554 = (.if_icmp .ne 5, 3) := by decide +kernel
set_option maxRecDepth 100000 in
theorem ti_75_557 : dp_tab 75 557 = (.iconst 1, 1) := by decide +kernel
set_option maxRecDepth 100000 in
theorem ti_75_558 : dp_tab 75 558 = (.ireturn, 1) := by decide +kernel
set_option maxRecDepth 100000 in
theorem ti_75_559 : dp_tab 75 559 = (.iinc 16 1, 3) := by decide +kernel
set_option maxRecDepth 100000 in
theorem ti_75_562 : dp_tab 75 562 = (.goto (-26), 3) := by decide +kernel
set_option maxRecDepth 100000 in
theorem ti_75_565 : dp_tab 75 565 = (.aload_n 1, 1) := by decide +kernel
set_option maxRecDepth 100000 in
theorem ti_75_566 : dp_tab 75 566 = (.getfield 15, 3) := by decide +kernel
set_option maxRecDepth 100000 in
theorem ti_75_569 : dp_tab 75 569 = (.iload 6, 2) := by decide +kernel
set_option maxRecDepth 100000 in
theorem ti_75_571 : dp_tab 75 571 = (.aaload, 1) := by decide +kernel
set_option maxRecDepth 100000 in
theorem ti_75_572 : dp_tab 75 572 = (.aload_n 1, 1) := by decide +kernel
set_option maxRecDepth 100000 in
theorem ti_75_573 : dp_tab 75 573 = (.getfield 15, 3) := by decide +kernel
set_option maxRecDepth 100000 in
theorem ti_75_576 : dp_tab 75 576 = (.iload 6, 2) := by decide +kernel
set_option maxRecDepth 100000 in
theorem ti_75_578 : dp_tab 75 578 = (.aaload, 1) := by decide +kernel
set_option maxRecDepth 100000 in
theorem ti_75_579 : dp_tab 75 579 = (.getfield 57, 3) := by decide +kernel
set_option maxRecDepth 100000 in
theorem ti_75_582 : dp_tab 75 582 = (.iload 8, 2) := by decide +kernel
set_option maxRecDepth 100000 in
theorem ti_75_584 : dp_tab 75 584 = (.invokestatic 60, 3) := by decide +kernel
set_option maxRecDepth 100000 in
theorem ti_75_587 : dp_tab 75 587 = (.putfield 57, 3) := by decide +kernel
set_option maxRecDepth 100000 in
theorem ti_75_590 : dp_tab 75 590 = (.aload_n 0, 1) := by decide +kernel
set_option maxRecDepth 100000 in
theorem ti_75_591 : dp_tab 75 591 = (.iload 6, 2) := by decide +kernel
set_option maxRecDepth 100000 in
theorem ti_75_593 : dp_tab 75 593 = (.iload 8, 2) := by decide +kernel
set_option maxRecDepth 100000 in
theorem ti_75_595 : dp_tab 75 595 = (.invokevirtual 63, 3) := by decide +kernel
set_option maxRecDepth 100000 in
theorem ti_75_598 : dp_tab 75 598 = (.aload_n 1, 1) := by decide +kernel
set_option maxRecDepth 100000 in
theorem ti_75_599 : dp_tab 75 599 = (.getfield 15, 3) := by decide +kernel
set_option maxRecDepth 100000 in
theorem ti_75_602 : dp_tab 75 602 = (.iload 6, 2) := by decide +kernel
set_option maxRecDepth 100000 in
theorem ti_75_604 : dp_tab 75 604 = (.aaload, 1) := by decide +kernel
set_option maxRecDepth 100000 in
theorem ti_75_605 : dp_tab 75 605 = (.getfield 57, 3) := by decide +kernel
set_option maxRecDepth 100000 in
theorem ti_75_608 : dp_tab 75 608 = (.arraylength, 1) := by decide +kernel
set_option maxRecDepth 100000 in
theorem ti_75_609 : dp_tab 75 609 = (.if_icmp .ne 7, 3) := by decide +kernel
set_option maxRecDepth 100000 in
theorem ti_75_612 : dp_tab 75 612 = (.iconst 1, 1) := by decide +kernel
set_option maxRecDepth 100000 in
theorem ti_75_613 : dp_tab 75 613 = (.goto 4, 3) := by decide +kernel
set_option maxRecDepth 100000 in
theorem ti_75_616 : dp_tab 75 616 = (.iconst 0, 1) := by decide +kernel
set_option maxRecDepth 100000 in
theorem ti_75_617 : dp_tab 75 617 = (.ireturn, 1) := by decide +kernel
set_option maxRecDepth 100000 in
theorem ti_75_618 : dp_tab 75 618 = (.iload 4, 2) := by decide +kernel
set_option maxRecDepth 100000 in
theorem ti_75_620 : dp_tab 75 620 = (.ifCond .ne 5, 3) := by decide +kernel
set_option maxRecDepth 100000 in
theorem ti_75_623 : dp_tab 75 623 = (.iconst 1, 1) := by decide +kernel
set_option maxRecDepth 100000 in
theorem ti_75_624 : dp_tab 75 624 = (.ireturn, 1) := by decide +kernel
set_option maxRecDepth 100000 in
theorem ti_75_625 : dp_tab 75 625 = (.iconst 0, 1) := by decide +kernel
set_option maxRecDepth 100000 in
theorem ti_75_626 : dp_tab 75 626 = (.istore 14, 2) := by decide +kernel
set_option maxRecDepth 100000 in
theorem ti_75_628 : dp_tab 75 628 = (.iload 14, 2) := by decide +kernel
set_option maxRecDepth 100000 in
theorem ti_75_630 : dp_tab 75 630 = (.aload_n 1, 1) := by decide +kernel
set_option maxRecDepth 100000 in
theorem ti_75_631 : dp_tab 75 631 = (.getfield 15, 3) := by decide +kernel
set_option maxRecDepth 100000 in
theorem ti_75_634 : dp_tab 75 634 = (.iload 6, 2) := by decide +kernel
set_option maxRecDepth 100000 in
theorem ti_75_636 : dp_tab 75 636 = (.aaload, 1) := by decide +kernel
set_option maxRecDepth 100000 in
theorem ti_75_637 : dp_tab 75 637 = (.getfield 57, 3) := by decide +kernel
set_option maxRecDepth 100000 in
theorem ti_75_640 : dp_tab 75 640 = (.arraylength, 1) := by decide +kernel
set_option maxRecDepth 100000 in
theorem ti_75_641 : dp_tab 75 641 = (.if_icmp .ge 74, 3) := by decide +kernel
set_option maxRecDepth 100000 in
theorem ti_75_644 : dp_tab 75 644 = (.aload_n 1, 1) := by decide +kernel
set_option maxRecDepth 100000 in
theorem ti_75_645 : dp_tab 75 645 = (.getfield 15, 3) := by decide +kernel
set_option maxRecDepth 100000 in
theorem ti_75_648 : dp_tab 75 648 = (.iload 6, 2) := by decide +kernel
set_option maxRecDepth 100000 in
theorem ti_75_650 : dp_tab 75 650 = (.aaload, 1) := by decide +kernel
set_option maxRecDepth 100000 in
theorem ti_75_651 : dp_tab 75 651 = (.getfield 57, 3) := by decide +kernel
set_option maxRecDepth 100000 in
theorem ti_75_654 : dp_tab 75 654 = (.iload 14, 2) := by decide +kernel
set_option maxRecDepth 100000 in
theorem ti_75_656 : dp_tab 75 656 = (.iaload, 1) := by decide +kernel
set_option maxRecDepth 100000 in
theorem ti_75_657 : dp_tab 75 657 = (.iload 8, 2) := by decide +kernel
set_option maxRecDepth 100000 in
theorem ti_75_659 : dp_tab 75 659 = (.if_icmp .eq 6, 3) := by decide +kernel
set_option maxRecDepth 100000 in
theorem ti_75_662 : dp_tab 75 662 = (.goto 47, 3) := by decide +kernel
set_option maxRecDepth 100000 in
theorem ti_75_665 : dp_tab 75 665 = (.aload_n 1, 1) := by decide +kernel
set_option maxRecDepth 100000 in
theorem ti_75_666 : dp_tab 75 666 = (.getfield 15, 3) := by decide +kernel
set_option maxRecDepth 100000 in
theorem ti_75_669 : dp_tab 75 669 = (.iload 6, 2) := by decide +kernel
set_option maxRecDepth 100000 in
theorem ti_75_671 : dp_tab 75 671 = (.aaload, 1) := by decide +kernel
set_option maxRecDepth 100000 in
theorem ti_75_672 : dp_tab 75 672 = (.aload_n 1, 1) := by decide +kernel
set_option maxRecDepth 100000 in
theorem ti_75_673 : dp_tab 75 673 = (.getfield 15, 3) := by decide +kernel
set_option maxRecDepth 100000 in
theorem ti_75_676 : dp_tab 75 676 = (.iload 6, 2) := by decide +kernel
set_option maxRecDepth 100000 in
theorem ti_75_678 : dp_tab 75 678 = (.aaload, 1) := by decide +kernel
set_option maxRecDepth 100000 in
theorem ti_75_679 : dp_tab 75 679 = (.getfield 57, 3) := by decide +kernel
set_option maxRecDepth 100000 in
theorem ti_75_682 : dp_tab 75 682 = (.iload 14, 2) := by decide +kernel
set_option maxRecDepth 100000 in
theorem ti_75_684 : dp_tab 75 684 = (.invokestatic 39, 3) := by decide +kernel
set_option maxRecDepth 100000 in
theorem ti_75_687 : dp_tab 75 687 = (.putfield 57, 3) := by decide +kernel
set_option maxRecDepth 100000 in
theorem ti_75_690 : dp_tab 75 690 = (.aload_n 0, 1) := by decide +kernel
set_option maxRecDepth 100000 in
theorem ti_75_691 : dp_tab 75 691 = (.iload 6, 2) := by decide +kernel
set_option maxRecDepth 100000 in
theorem ti_75_693 : dp_tab 75 693 = (.iload 8, 2) := by decide +kernel
set_option maxRecDepth 100000 in
theorem ti_75_695 : dp_tab 75 695 = (.invokevirtual 66, 3) := by decide +kernel
set_option maxRecDepth 100000 in
theorem ti_75_698 : dp_tab 75 698 = (.iload 14, 2) := by decide +kernel
set_option maxRecDepth 100000 in
theorem ti_75_700 : dp_tab 75 700 = (.if_icmp .ne 7, 3) := by decide +kernel
set_option maxRecDepth 100000 in
theorem ti_75_703 : dp_tab 75 703 = (.iconst 1, 1) := by decide +kernel
set_option maxRecDepth 100000 in
theorem ti_75_704 : dp_tab 75 704 = (.goto 4, 3) := by decide +kernel
set_option maxRecDepth 100000 in
theorem ti_75_707 : dp_tab 75 707 = (.iconst 0, 1) := by decide +kernel
set_option maxRecDepth 100000 in
theorem ti_75_708 : dp_tab 75 708 = (.ireturn, 1) := by decide +kernel
set_option maxRecDepth 100000 in
theorem ti_75_709 : dp_tab 75 709 = (.iinc 14 1, 3) := by decide +kernel
set_option maxRecDepth 100000 in
theorem ti_75_712 : dp_tab 75 712 = (.goto (-84), 3) := by decide +kernel
set_option maxRecDepth 100000 in
theorem ti_75_715 : dp_tab 75 715 = (.iconst 1, 1) := by decide +kernel
set_option maxRecDepth 100000 in
theorem ti_75_716 : dp_tab 75 716 = (.ireturn, 1) := by decide +kernel
set_option maxRecDepth 100000 in
theorem ti_75_717 : dp_tab 75 717 = (.iload 4, 2) := by decide +kernel
set_option maxRecDepth 100000 in
theorem ti_75_719 : dp_tab 75 719 = (.ifCond .ne 5, 3) := by decide +kernel
set_option maxRecDepth 100000 in
theorem ti_75_722 : dp_tab 75 722 = (.iconst 1, 1) := by decide +kernel
set_option maxRecDepth 100000 in
theorem ti_75_723 : dp_tab 75 723 = (.ireturn, 1) := by decide +kernel
set_option maxRecDepth 100000 in
theorem ti_75_724 : dp_tab 75 724 = (.aload_n 1, 1) := by decide +kernel
set_option maxRecDepth 100000 in
theorem ti_75_725 : dp_tab 75 725 = (.getfield 15, 3) := by decide +kernel
set_option maxRecDepth 100000 in
theorem ti_75_728 : dp_tab 75 728 = (.iload 6, 2) := by decide +kernel
set_option maxRecDepth 100000 in
theorem ti_75_730 : dp_tab 75 730 = (.aaload, 1) := by decide +kernel
set_option maxRecDepth 100000 in
theorem ti_75_731 : dp_tab 75 731 = (.getfield 69, 3) := by decide +kernel
set_option maxRecDepth 100000 in
theorem ti_75_734 : dp_tab 75 734 = (.istore 14, 2) := by decide +kernel
set_option maxRecDepth 100000 in
theorem ti_75_736 : dp_tab 75 736 = (.aload_n 1, 1) := by decide +kernel
set_option maxRecDepth 100000 in
theorem ti_75_737 : dp_tab 75 737 = (.getfield 15, 3) := by decide +kernel
set_option maxRecDepth 100000 in
theorem ti_75_740 : dp_tab 75 740 = (.iload 6, 2) := by decide +kernel
set_option maxRecDepth 100000 in
theorem ti_75_742 : dp_tab 75 742 = (.aaload, 1) := by decide +kernel
set_option maxRecDepth 100000 in
theorem ti_75_743 : dp_tab 75 743 = (.iload_n 2, 1) := by decide +kernel
set_option maxRecDepth 100000 in
theorem ti_75_744 : dp_tab 75 744 = (.iconst 1, 1) := by decide +kernel
set_option maxRecDepth 100000 in
theorem ti_75_745 : dp_tab 75 745 = (.ishr, 1) := by decide +kernel
set_option maxRecDepth 100000 in
theorem ti_75_746 : dp_tab 75 746 = (.iload_n 2, 1) := by decide +kernel
set_option maxRecDepth 100000 in
theorem ti_75_747 : dp_tab 75 747 = (.bipush 6, 2) := by decide +kernel
set_option maxRecDepth 100000 in
theorem ti_75_749 : dp_tab 75 749 = (.ishr, 1) := by decide +kernel
set_option maxRecDepth 100000 in
theorem ti_75_750 : dp_tab 75 750 = (.iconst 3, 1) := by decide +kernel
set_option maxRecDepth 100000 in
theorem ti_75_751 : dp_tab 75 751 = (.invokestatic 19, 3) := by decide +kernel
set_option maxRecDepth 100000 in
theorem ti_75_754 : dp_tab 75 754 = (.ifCond .ne 9, 3) := by decide +kernel
set_option maxRecDepth 100000 in
theorem ti_75_757 : dp_tab 75 757 = (.sipush 1000, 3) := by decide +kernel
set_option maxRecDepth 100000 in
theorem ti_75_760 : dp_tab 75 760 = (.goto 5, 3) := by decide +kernel
set_option maxRecDepth 100000 in
theorem ti_75_763 : dp_tab 75 763 = (.bipush 60, 2) := by decide +kernel
set_option maxRecDepth 100000 in
theorem ti_75_765 : dp_tab 75 765 = (.invokestatic 19, 3) := by decide +kernel
set_option maxRecDepth 100000 in
theorem ti_75_768 : dp_tab 75 768 = (.putfield 69, 3) := by decide +kernel
set_option maxRecDepth 100000 in
theorem ti_75_771 : dp_tab 75 771 = (.aload_n 0, 1) := by decide +kernel
set_option maxRecDepth 100000 in
theorem ti_75_772 : dp_tab 75 772 = (.iload 6, 2) := by decide +kernel
set_option maxRecDepth 100000 in
theorem ti_75_774 : dp_tab 75 774 = (.aload_n 1, 1) := by decide +kernel
set_option maxRecDepth 100000 in
theorem ti_75_775 : dp_tab 75 775 = (.getfield 15, 3) := by decide +kernel
set_option maxRecDepth 100000 in
theorem ti_75_778 : dp_tab 75 778 = (.iload 6, 2) := by decide +kernel
set_option maxRecDepth 100000 in
theorem ti_75_780 : dp_tab 75 780 = (.aaload, 1) := by decide +kernel
set_option maxRecDepth 100000 in
theorem ti_75_781 : dp_tab 75 781 = (.getfield 69, 3) := by decide +kernel
set_option maxRecDepth 100000 in
theorem ti_75_784 : dp_tab 75 784 = (.invokevirtual 72, 3) := by decide +kernel
set_option maxRecDepth 100000 in
theorem ti_75_787 : dp_tab 75 787 = (.iload 14, 2) := by decide +kernel
set_option maxRecDepth 100000 in
theorem ti_75_789 : dp_tab 75 789 = (.if_icmp .ne 7, 3) := by decide +kernel
set_option maxRecDepth 100000 in
theorem ti_75_792 : dp_tab 75 792 = (.iconst 1, 1) := by decide +kernel
set_option maxRecDepth 100000 in
theorem ti_75_793 : dp_tab 75 793 = (.goto 4, 3) := by decide +kernel
set_option maxRecDepth 100000 in
theorem ti_75_796 : dp_tab 75 796 = (.iconst 0, 1) := by decide +kernel
set_option maxRecDepth 100000 in
theorem ti_75_797 : dp_tab 75 797 = (.ireturn, 1) := by decide +kernel
set_option maxRecDepth 100000 in
theorem ti_75_798 : dp_tab 75 798 = (.iload 4, 2) := by decide +kernel
set_option maxRecDepth 100000 in
theorem ti_75_800 : dp_tab 75 800 = (.ifCond .ne 5, 3) := by decide +kernel
set_option maxRecDepth 100000 in
theorem ti_75_803 : dp_tab 75 803 = (.iconst 1, 1) := by decide +kernel
set_option maxRecDepth 100000 in
theorem ti_75_804 : dp_tab 75 804 = (.ireturn, 1) := by decide +kernel
set_option maxRecDepth 100000 in
theorem ti_75_805 : dp_tab 75 805 = (.iconst 1, 1) := by decide +kernel
set_option maxRecDepth 100000 in
theorem ti_75_806 : dp_tab 75 806 = (.iload_n 2, 1) := by decide +kernel
set_option maxRecDepth 100000 in
theorem ti_75_807 : dp_tab 75 807 = (.iconst 1, 1) := by decide +kernel
set_option maxRecDepth 100000 in
theorem ti_75_808 : dp_tab 75 808 = (.ishr, 1) := by decide +kernel
set_option maxRecDepth 100000 in
theorem ti_75_809 : dp_tab 75 809 = (.iload_n 2, 1) := by decide +kernel
set_option maxRecDepth 100000 in
theorem ti_75_810 : dp_tab 75 810 = (.bipush 6, 2) := by decide +kernel
set_option maxRecDepth 100000 in
theorem ti_75_812 : dp_tab 75 812 = (.ishr, 1) := by decide +kernel
set_option maxRecDepth 100000 in
theorem ti_75_813 : dp_tab 75 813 = (.iconst 2, 1) := by decide +kernel
set_option maxRecDepth 100000 in
theorem ti_75_814 : dp_tab 75 814 = (.invokestatic 19, 3) := by decide +kernel
set_option maxRecDepth 100000 in
theorem ti_75_817 : dp_tab 75 817 = (.ifCond .ne 9, 3) := by decide +kernel
set_option maxRecDepth 100000 in
theorem ti_75_820 : dp_tab 75 820 = (.sipush 999, 3) := by decide +kernel
set_option maxRecDepth 100000 in
theorem ti_75_823 : dp_tab 75 823 = (.goto 5, 3) := by decide +kernel
set_option maxRecDepth 100000 in
theorem ti_75_826 : dp_tab 75 826 = (.bipush 30, 2) := by decide +kernel
set_option maxRecDepth 100000 in
theorem ti_75_828 : dp_tab 75 828 = (.invokestatic 19, 3) := by decide +kernel
set_option maxRecDepth 100000 in
theorem ti_75_831 : dp_tab 75 831 = (.iadd, 1) := by decide +kernel
set_option maxRecDepth 100000 in
theorem ti_75_832 : dp_tab 75 832 = (.istore 15, 2) := by decide +kernel
set_option maxRecDepth 100000 in
theorem ti_75_834 : dp_tab 75 834 = (.aload_n 1, 1) := by decide +kernel
set_option maxRecDepth 100000 in
theorem ti_75_835 : dp_tab 75 835 = (.getfield 15, 3) := by decide +kernel
set_option maxRecDepth 100000 in
theorem ti_75_838 : dp_tab 75 838 = (.iload 6, 2) := by decide +kernel
set_option maxRecDepth 100000 in
theorem ti_75_840 : dp_tab 75 840 = (.aaload, 1) := by decide +kernel
set_option maxRecDepth 100000 in
theorem ti_75_841 : dp_tab 75 841 = (.sipush 9999, 3) := by decide +kernel
set_option maxRecDepth 100000 in
theorem ti_75_844 : dp_tab 75 844 = (.aload_n 1, 1) := by decide +kernel
set_option maxRecDepth 100000 in
theorem ti_75_845 : dp_tab 75 845 = (.getfield 15, 3) := by decide +kernel
set_option maxRecDepth 100000 in
theorem ti_75_848 : dp_tab 75 848 = (.iload 6, 2) := by decide +kernel
set_option maxRecDepth 100000 in
theorem ti_75_850 : dp_tab 75 850 = (.aaload, 1) := by decide +kernel
set_option maxRecDepth 100000 in
theorem ti_75_851 : dp_tab 75 851 = (.getfield 49, 3) := by decide +kernel
set_option maxRecDepth 100000 in
theorem ti_75_854 : dp_tab 75 854 = (.iload 15, 2) := by decide +kernel
set_option maxRecDepth 100000 in
theorem ti_75_856 : dp_tab 75 856 = (.iadd, 1) := by decide +kernel
set_option maxRecDepth 100000 in
theorem ti_75_857 : dp_tab 75 857 = (.invokestatic 75, 3) := by decide +kernel
set_option maxRecDepth 100000 in
theorem ti_75_860 : dp_tab 75 860 = (.putfield 49, 3) := by decide +kernel
set_option maxRecDepth 100000 in
theorem ti_75_863 : dp_tab 75 863 = (.aload_n 0, 1) := by decide +kernel
set_option maxRecDepth 100000 in
theorem ti_75_864 : dp_tab 75 864 = (.iload 6, 2) := by decide +kernel
set_option maxRecDepth 100000 in
theorem ti_75_866 : dp_tab 75 866 = (.iload 15, 2) := by decide +kernel
set_option maxRecDepth 100000 in
theorem ti_75_868 : dp_tab 75 868 = (.invokevirtual 80, 3) := by decide +kernel
set_option maxRecDepth 100000 in
theorem ti_75_871 : dp_tab 75 871 = (.aload_n 1, 1) := by decide +kernel
set_option maxRecDepth 100000 in
theorem ti_75_872 : dp_tab 75 872 = (.getfield 15, 3) := by decide +kernel
set_option maxRecDepth 100000 in
theorem ti_75_875 : dp_tab 75 875 = (.iload 6, 2) := by decide +kernel
set_option maxRecDepth 100000 in
theorem ti_75_877 : dp_tab 75 877 = (.aaload, 1) := by decide +kernel
set_option maxRecDepth 100000 in
theorem ti_75_878 : dp_tab 75 878 = (.getfield 49, 3) := by decide +kernel
set_option maxRecDepth 100000 in
theorem ti_75_881 : dp_tab 75 881 = (.if_icmp .ne 7, 3) := by decide +kernel
set_option maxRecDepth 100000 in
theorem ti_75_884 : dp_tab 75 884 = (.iconst 1, 1) := by decide +kernel
set_option maxRecDepth 100000 in
theorem ti_75_885 : dp_tab 75 885 = (.goto 4, 3) := by decide +kernel
set_option maxRecDepth 100000 in
theorem ti_75_888 : dp_tab 75 888 = (.iconst 0, 1) := by decide +kernel
set_option maxRecDepth 100000 in
theorem ti_75_889 : dp_tab 75 889 = (.ireturn, 1) := by decide +kernel
set_option maxRecDepth 100000 in
theorem ti_75_890 : dp_tab 75 890 = (.iload 4, 2) := by decide +kernel
set_option maxRecDepth 100000 in
theorem ti_75_892 : dp_tab 75 892 = (.ifCond .eq 23, 3) := by decide +kernel
set_option maxRecDepth 100000 in
theorem ti_75_895 : dp_tab 75 895 = (.aload_n 0, 1) := by decide +kernel
set_option maxRecDepth 100000 in
theorem ti_75_896 : dp_tab 75 896 = (.iload 6, 2) := by decide +kernel
set_option maxRecDepth 100000 in
theorem ti_75_898 : dp_tab 75 898 = (.invokevirtual 83, 3) := by decide +kernel
set_option maxRecDepth 100000 in
theorem ti_75_901 : dp_tab 75 901 = (.aload_n 1, 1) := by decide +kernel
set_option maxRecDepth 100000 in
theorem ti_75_902 : dp_tab 75 902 = (.aload_n 1, 1) := by decide +kernel
set_option maxRecDepth 100000 in
theorem ti_75_903 : dp_tab 75 903 = (.getfield 15, 3) := by decide +kernel
set_option maxRecDepth 100000 in
theorem ti_75_906 : dp_tab 75 906 = (.iload 6, 2) := by decide +kernel
set_option maxRecDepth 100000 in
theorem ti_75_908 : dp_tab 75 908 = (.aaload, 1) := by decide +kernel
set_option maxRecDepth 100000 in
theorem ti_75_909 : dp_tab 75 909 = (.invokevirtual 86, 3) := by decide +kernel
set_option maxRecDepth 100000 in
theorem ti_75_912 : dp_tab 75 912 = (.if_icmp .ne 7, 3) := by decide +kernel
set_option maxRecDepth 100000 in
theorem ti_75_915 : dp_tab 75 915 = (.iconst 1, 1) := by decide +kernel
set_option maxRecDepth 100000 in
theorem ti_75_916 : dp_tab 75 916 = (.goto 4, 3) := by decide +kernel
set_option maxRecDepth 100000 in
theorem ti_75_919 : dp_tab 75 919 = (.iconst 0, 1) := by decide +kernel
set_option maxRecDepth 100000 in
theorem ti_75_920 : dp_tab 75 920 = (.ireturn, 1) := by decide +kernel
set_option maxRecDepth 100000 in
theorem ti_75_921 : dp_tab 75 921 = (.iload_n 3, 1) := by decide +kernel
set_option maxRecDepth 100000 in
theorem ti_75_922 : dp_tab 75 922 = (.ifCond .eq 16, 3) := by decide +kernel
set_option maxRecDepth 100000 in
theorem ti_75_925 : dp_tab 75 925 = (.aload_n 1, 1) := by decide +kernel
set_option maxRecDepth 100000 in
theorem ti_75_926 : dp_tab 75 926 = (.getfield 9, 3) := by decide +kernel
set_option maxRecDepth 100000 in
theorem ti_75_929 : dp_tab 75 929 = (.iload 5, 2) := by decide +kernel
set_option maxRecDepth 100000 in
theorem ti_75_931 : dp_tab 75 931 = (.aaload, 1) := by decide +kernel
set_option maxRecDepth 100000 in
theorem ti_75_932 : dp_tab 75 932 = (.arraylength, 1) := by decide +kernel
set_option maxRecDepth 100000 in
theorem ti_75_933 : dp_tab 75 933 = (.bipush 12, 2) := by decide +kernel
set_option maxRecDepth 100000 in
theorem ti_75_935 : dp_tab 75 935 = (.if_icmp .ne 5, 3) := by decide +kernel
set_option maxRecDepth 100000 in
theorem ti_75_938 : dp_tab 75 938 = (.iconst 1, 1) := by decide +kernel
set_option maxRecDepth 100000 in
theorem ti_75_939 : dp_tab 75 939 = (.ireturn, 1) := by decide +kernel
set_option maxRecDepth 100000 in
theorem ti_75_940 : dp_tab 75 940 = (.aload_n 1, 1) := by decide +kernel
set_option maxRecDepth 100000 in
theorem ti_75_941 : dp_tab 75 941 = (.getfield 9, 3) := by decide +kernel
set_option maxRecDepth 100000 in
theorem ti_75_944 : dp_tab 75 944 = (.iload 5, 2) := by decide +kernel
set_option maxRecDepth 100000 in
theorem ti_75_946 : dp_tab 75 946 = (.aload_n 1, 1) := by decide +kernel
set_option maxRecDepth 100000 in
theorem ti_75_947 : dp_tab 75 947 = (.getfield 9, 3) := by decide +kernel
set_option maxRecDepth 100000 in
theorem ti_75_950 : dp_tab 75 950 = (.iload 5, 2) := by decide +kernel
set_option maxRecDepth 100000 in
theorem ti_75_952 : dp_tab 75 952 = (.aaload, 1) := by decide +kernel
set_option maxRecDepth 100000 in
theorem ti_75_953 : dp_tab 75 953 = (.iload 7, 2) := by decide +kernel
set_option maxRecDepth 100000 in
theorem ti_75_955 : dp_tab 75 955 = (.invokestatic 60, 3) := by decide +kernel
set_option maxRecDepth 100000 in
theorem ti_75_958 : dp_tab 75 958 = (.aastore, 1) := by decide +kernel
set_option maxRecDepth 100000 in
theorem ti_75_959 : dp_tab 75 959 = (.aload_n 0, 1) := by decide +kernel
set_option maxRecDepth 100000 in
theorem ti_75_960 : dp_tab 75 960 = (.iload 5, 2) := by decide +kernel
set_option maxRecDepth 100000 in
theorem ti_75_962 : dp_tab 75 962 = (.iload 7, 2) := by decide +kernel
set_option maxRecDepth 100000 in
theorem ti_75_964 : dp_tab 75 964 = (.invokevirtual 89, 3) := by decide +kernel
set_option maxRecDepth 100000 in
theorem ti_75_967 : dp_tab 75 967 = (.aload_n 1, 1) := by decide +kernel
set_option maxRecDepth 100000 in
theorem ti_75_968 : dp_tab 75 968 = (.getfield 9, 3) := by decide +kernel
set_option maxRecDepth 100000 in
theorem ti_75_971 : dp_tab 75 971 = (.iload 5, 2) := by decide +kernel
set_option maxRecDepth 100000 in
theorem ti_75_973 : dp_tab 75 973 = (.aaload, 1) := by decide +kernel
set_option maxRecDepth 100000 in
theorem ti_75_974 : dp_tab 75 974 = (.arraylength, 1) := by decide +kernel
set_option maxRecDepth 100000 in
theorem ti_75_975 : dp_tab 75 975 = (.if_icmp .ne 7, 3) := by decide +kernel
set_option maxRecDepth 100000 in
theorem ti_75_978 : dp_tab 75 978 = (.iconst 1, 1) := by decide +kernel
set_option maxRecDepth 100000 in
theorem ti_75_979 : dp_tab 75 979 = (.goto 4, 3) := by decide +kernel
set_option maxRecDepth 100000 in
theorem ti_75_982 : dp_tab 75 982 = (.iconst 0, 1) := by decide +kernel
set_option maxRecDepth 100000 in
theorem ti_75_983 : dp_tab 75 983 = (.ireturn, 1) := by decide +kernel
set_option maxRecDepth 100000 in
theorem ti_76_0 : dp_tab 76 0 = (.new 10, 3) := by decide +kernel
set_option maxRecDepth 100000 in
theorem ti_76_3 : dp_tab 76 3 = (.dup, 1) := by decide +kernel
set_option maxRecDepth 100000 in
theorem ti_76_4 : dp_tab 76 4 = (.invokespecial 92, 3) := by decide +kernel
set_option maxRecDepth 100000 in
theorem ti_76_7 : dp_tab 76 7 = (.astore_n 2, 1) := by decide +kernel
set_option maxRecDepth 100000 in
theorem ti_76_8 : dp_tab 76 8 = (.iconst 0, 1) := by decide +kernel
set_option maxRecDepth 100000 in
theorem ti_76_9 : dp_tab 76 9 = (.istore_n 3, 1) := by decide +kernel
set_option maxRecDepth 100000 in
theorem ti_76_10 : dp_tab 76 10 = (.iload_n 3, 1) := by decide +kernel
set_option maxRecDepth 100000 in
theorem ti_76_11 : dp_tab 76 11 = (.bipush 64, 2) := by decide +kernel
set_option maxRecDepth 100000 in
theorem ti_76_13 : dp_tab 76 13 = (.if_icmp .ge 58, 3) := by decide +kernel
set_option maxRecDepth 100000 in
theorem ti_76_16 : dp_tab 76 16 = (.aload_n 0, 1) := by decide +kernel
set_option maxRecDepth 100000 in
theorem ti_76_17 : dp_tab 76 17 = (.aload_n 2, 1) := by decide +kernel
set_option maxRecDepth 100000 in
theorem ti_76_18 : dp_tab 76 18 = (.aload_n 1, 1) := by decide +kernel
set_option maxRecDepth 100000 in
theorem ti_76_19 : dp_tab 76 19 = (.iload_n 3, 1) := by decide +kernel
set_option maxRecDepth 100000 in
theorem ti_76_20 : dp_tab 76 20 = (.bipush 16, 2) := by decide +kernel
set_option maxRecDepth 100000 in
theorem ti_76_22 : dp_tab 76 22 = (.irem, 1) := by decide +kernel
set_option maxRecDepth 100000 in
theorem ti_76_23 : dp_tab 76 23 = (.invokestatic 93, 3) := by decide +kernel
set_option maxRecDepth 100000 in
theorem ti_76_26 : dp_tab 76 26 = (.iload_n 3, 1) := by decide +kernel
set_option maxRecDepth 100000 in
theorem ti_76_27 : dp_tab 76 27 = (.bipush 16, 2) := by decide +kernel
set_option maxRecDepth 100000 in
theorem ti_76_29 : dp_tab 76 29 = (.idiv, 1) := by decide +kernel
set_option maxRecDepth 100000 in
theorem ti_76_30 : dp_tab 76 30 = (.iconst 3, 1) := by decide +kernel
set_option maxRecDepth 100000 in
theorem ti_76_31 : dp_tab 76 31 = (.imul, 1) := by decide +kernel
set_option maxRecDepth 100000 in
theorem ti_76_32 : dp_tab 76 32 = (.ishr, 1) := by decide +kernel
set_option maxRecDepth 100000 in
theorem ti_76_33 : dp_tab 76 33 = (.sipush 307, 3) := by decide +kernel
set_option maxRecDepth 100000 in
theorem ti_76_36 : dp_tab 76 36 = (.iload_n 3, 1) := by decide +kernel
set_option maxRecDepth 100000 in
theorem ti_76_37 : dp_tab 76 37 = (.imul, 1) := by decide +kernel
set_option maxRecDepth 100000 in
theorem ti_76_38 : dp_tab 76 38 = (.iadd, 1) := by decide +kernel
set_option maxRecDepth 100000 in
theorem ti_76_39 : dp_tab 76 39 = (.iload_n 3, 1) := by decide +kernel
set_option maxRecDepth 100000 in
theorem ti_76_40 : dp_tab 76 40 = (.bipush 8, 2) := by decide +kernel
set_option maxRecDepth 100000 in
theorem ti_76_42 : dp_tab 76 42 = (.if_icmp .ge 13, 3) := by decide +kernel
set_option maxRecDepth 100000 in
theorem ti_76_45 : dp_tab 76 45 = (.sipush 512, 3) := by decide +kernel
set_option maxRecDepth 100000 in
theorem ti_76_48 : dp_tab 76 48 = (.iload_n 3, 1) := by decide +kernel
set_option maxRecDepth 100000 in
theorem ti_76_49 : dp_tab 76 49 = (.iconst 4, 1) := by decide +kernel
set_option maxRecDepth 100000 in
theorem ti_76_50 : dp_tab 76 50 = (.irem, 1) := by decide +kernel
set_option maxRecDepth 100000 in
theorem ti_76_51 : dp_tab 76 51 = (.imul, 1) := by decide +kernel
set_option maxRecDepth 100000 in
theorem ti_76_52 : dp_tab 76 52 = (.goto 4, 3) := by decide +kernel
set_option maxRecDepth 100000 in
theorem ti_76_55 : dp_tab 76 55 = (.iconst 0, 1) := by decide +kernel
set_option maxRecDepth 100000 in
theorem ti_76_56 : dp_tab 76 56 = (.iadd, 1) := by decide +kernel
set_option maxRecDepth 100000 in
theorem ti_76_57 : dp_tab 76 57 = (.invokestatic 97, 3) := by decide +kernel
set_option maxRecDepth 100000 in
theorem ti_76_60 : dp_tab 76 60 = (.ifCond .ne 5, 3) := by decide +kernel
set_option maxRecDepth 100000 in
theorem ti_76_63 : dp_tab 76 63 = (.aconst_null, 1) := by decide +kernel
set_option maxRecDepth 100000 in
theorem ti_76_64 : dp_tab 76 64 = (.areturn, 1) := by decide +kernel
set_option maxRecDepth 100000 in
theorem ti_76_65 : dp_tab 76 65 = (.iinc 3 1, 3) := by decide +kernel
set_option maxRecDepth 100000 in
theorem ti_76_68 : dp_tab 76 68 = (.goto (-58), 3) := by decide +kernel
set_option maxRecDepth 100000 in
theorem ti_76_71 : dp_tab 76 71 = (.aload_n 2, 1) := by decide +kernel
set_option maxRecDepth 100000 in
theorem ti_76_72 : dp_tab 76 72 = (.areturn, 1) := by decide +kernel
set_option maxRecDepth 100000 in
theorem ti_77_0 : dp_tab 77 0 = (.new 30, 3) := by decide +kernel
set_option maxRecDepth 100000 in
theorem ti_77_3 : dp_tab 77 3 = (.dup, 1) := by decide +kernel
set_option maxRecDepth 100000 in
theorem ti_77_4 : dp_tab 77 4 = (.invokespecial 101, 3) := by decide +kernel
set_option maxRecDepth 100000 in
theorem ti_77_7 : dp_tab 77 7 = (.astore_n 1, 1) := by decide +kernel
set_option maxRecDepth 100000 in
theorem ti_77_8 : dp_tab 77 8 = (.aload_n 1, 1) := by decide +kernel
set_option maxRecDepth 100000 in
theorem ti_77_9 : dp_tab 77 9 = (.aload_n 0, 1) := by decide +kernel
set_option maxRecDepth 100000 in
theorem ti_77_10 : dp_tab 77 10 = (.invokestatic 102, 3) := by decide +kernel
set_option maxRecDepth 100000 in
theorem ti_77_13 : dp_tab 77 13 = (.astore_n 2, 1) := by decide +kernel
set_option maxRecDepth 100000 in
theorem ti_77_14 : dp_tab 77 14 = (.aload_n 2, 1) := by decide +kernel
set_option maxRecDepth 100000 in
theorem ti_77_15 : dp_tab 77 15 = (.ifnonnull 5, 3) := by decide +kernel
set_option maxRecDepth 100000 in
theorem ti_77_18 : dp_tab 77 18 = (.iconst 0, 1) := by decide +kernel
set_option maxRecDepth 100000 in
theorem ti_77_19 : dp_tab 77 19 = (.ireturn, 1) := by decide +kernel
set_option maxRecDepth 100000 in
theorem ti_77_20 : dp_tab 77 20 = (.iconst 0, 1) := by decide +kernel
set_option maxRecDepth 100000 in
theorem ti_77_21 : dp_tab 77 21 = (.istore_n 3, 1) := by decide +kernel
set_option maxRecDepth 100000 in
theorem ti_77_22 : dp_tab 77 22 = (.iload_n 3, 1) := by decide +kernel
set_option maxRecDepth 100000 in
theorem ti_77_23 : dp_tab 77 23 = (.bipush 24, 2) := by decide +kernel
set_option maxRecDepth 100000 in
theorem ti_77_25 : dp_tab 77 25 = (.if_icmp .ge 820, 3) := by decide +kernel
set_option maxRecDepth 100000 in
theorem ti_77_28 : dp_tab 77 28 = (.aload_n 0, 1) := by decide +kernel
set_option maxRecDepth 100000 in
theorem ti_77_29 : dp_tab 77 29 = (.iload_n 3, 1) := by decide +kernel
set_option maxRecDepth 100000 in
theorem ti_77_30 : dp_tab 77 30 = (.bipush 16, 2) := by decide +kernel
set_option maxRecDepth 100000 in
theorem ti_77_32 : dp_tab 77 32 = (.irem, 1) := by decide +kernel
set_option maxRecDepth 100000 in
theorem ti_77_33 : dp_tab 77 33 = (.invokestatic 93, 3) := by decide +kernel
set_option maxRecDepth 100000 in
theorem ti_77_36 : dp_tab 77 36 = (.iload_n 3, 1) := by decide +kernel
set_option maxRecDepth 100000 in
theorem ti_77_37 : dp_tab 77 37 = (.bipush 16, 2) := by decide +kernel
set_option maxRecDepth 100000 in
theorem ti_77_39 : dp_tab 77 39 = (.idiv, 1) := by decide +kernel
set_option maxRecDepth 100000 in
theorem ti_77_40 : dp_tab 77 40 = (.iconst 3, 1) := by decide +kernel
set_option maxRecDepth 100000 in
theorem ti_77_41 : dp_tab 77 41 = (.imul, 1) := by decide +kernel
set_option maxRecDepth 100000 in
theorem ti_77_42 : dp_tab 77 42 = (.ishr, 1) := by decide +kernel
set_option maxRecDepth 100000 in
theorem ti_77_43 : dp_tab 77 43 = (.sipush 307, 3) := by decide +kernel
set_option maxRecDepth 100000 in
theorem ti_77_46 : dp_tab 77 46 = (.iload_n 3, 1) := by decide +kernel
set_option maxRecDepth 100000 in
theorem ti_77_47 : dp_tab 77 47 = (.imul, 1) := by decide +kernel
set_option maxRecDepth 100000 in
theorem ti_77_48 : dp_tab 77 48 = (.iadd, 1) := by decide +kernel
set_option maxRecDepth 100000 in
theorem ti_77_49 : dp_tab 77 49 = (.istore 4, 2) := by decide +kernel
set_option maxRecDepth 100000 in
theorem ti_77_51 : dp_tab 77 51 = (.iconst 0, 1) := by decide +kernel
set_option maxRecDepth 100000 in
theorem ti_77_52 : dp_tab 77 52 = (.istore 5, 2) := by decide +kernel
set_option maxRecDepth 100000 in
theorem ti_77_54 : dp_tab 77 54 = (.iload 5, 2) := by decide +kernel
set_option maxRecDepth 100000 in
theorem ti_77_56 : dp_tab 77 56 = (.iconst 2, 1) := by decide +kernel
set_option maxRecDepth 100000 in
theorem ti_77_57 : dp_tab 77 57 = (.if_icmp .ge 33, 3) := by decide +kernel
set_option maxRecDepth 100000 in
theorem ti_77_60 : dp_tab 77 60 = (.aload_n 1, 1) := by decide +kernel
set_option maxRecDepth 100000 in
theorem ti_77_61 : dp_tab 77 61 = (.aload_n 2, 1) := by decide +kernel
set_option maxRecDepth 100000 in
theorem ti_77_62 : dp_tab 77 62 = (.iload 4, 2) := by decide +kernel
set_option maxRecDepth 100000 in
theorem ti_77_64 : dp_tab 77 64 = (.iconst 2, 1) := by decide +kernel
set_option maxRecDepth 100000 in
theorem ti_77_65 : dp_tab 77 65 = (.iload 5, 2) := by decide +kernel
set_option maxRecDepth 100000 in
theorem ti_77_67 : dp_tab 77 67 = (.imul, 1) := by decide +kernel
set_option maxRecDepth 100000 in
theorem ti_77_68 : dp_tab 77 68 = (.ishr, 1) := by decide +kernel
set_option maxRecDepth 100000 in
theorem ti_77_69 : dp_tab 77 69 = (.sipush 223, 3) := by decide +kernel
set_option maxRecDepth 100000 in
theorem ti_77_72 : dp_tab 77 72 = (.iload 5, 2) := by decide +kernel
set_option maxRecDepth 100000 in
theorem ti_77_74 : dp_tab 77 74 = (.imul, 1) := by decide +kernel
set_option maxRecDepth 100000 in
theorem ti_77_75 : dp_tab 77 75 = (.iadd, 1) := by decide +kernel
set_option maxRecDepth 100000 in
theorem ti_77_76 : dp_tab 77 76 = (.invokestatic 97, 3) := by decide +kernel
set_option maxRecDepth 100000 in
theorem ti_77_79 : dp_tab 77 79 = (.ifCond .ne 5, 3) := by decide +kernel
set_option maxRecDepth 100000 in
theorem ti_77_82 : dp_tab 77 82 = (.iconst 0, 1) := by decide +kernel
set_option maxRecDepth 100000 in
theorem ti_77_83 : dp_tab 77 83 = (.ireturn, 1) := by decide +kernel
set_option maxRecDepth 100000 in
theorem ti_77_84 : dp_tab 77 84 = (.iinc 5 1, 3) := by decide +kernel
set_option maxRecDepth 100000 in
theorem ti_77_87 : dp_tab 77 87 = (.goto (-33), 3) := by decide +kernel
set_option maxRecDepth 100000 in
theorem ti_77_90 : dp_tab 77 90 = (.aload_n 1, 1) := by decide +kernel
set_option maxRecDepth 100000 in
theorem ti_77_91 : dp_tab 77 91 = (.iconst 0, 1) := by decide +kernel
set_option maxRecDepth 100000 in
theorem ti_77_92 : dp_tab 77 92 = (.invokevirtual 106, 3) := by decide +kernel
set_option maxRecDepth 100000 in
theorem ti_77_95 : dp_tab 77 95 = (.istore 5, 2) := by decide +kernel
set_option maxRecDepth 100000 in
theorem ti_77_97 : dp_tab 77 97 = (.aload_n 1, 1) := by decide +kernel
set_option maxRecDepth 100000 in
theorem ti_77_98 : dp_tab 77 98 = (.iconst 1, 1) := by decide +kernel
set_option maxRecDepth 100000 in
theorem ti_77_99 : dp_tab 77 99 = (.invokevirtual 106, 3) := by decide +kernel
set_option maxRecDepth 100000 in
theorem ti_77_102 : dp_tab 77 102 = (.istore 6, 2) := by decide +kernel
set_option maxRecDepth 100000 in
theorem ti_77_104 : dp_tab 77 104 = (.aload_n 1, 1) := by decide +kernel
set_option maxRecDepth 100000 in
theorem ti_77_105 : dp_tab 77 105 = (.iconst 5, 1) := by decide +kernel
set_option maxRecDepth 100000 in
theorem ti_77_106 : dp_tab 77 106 = (.invokevirtual 106, 3) := by decide +kernel
set_option maxRecDepth 100000 in
theorem ti_77_109 : dp_tab 77 109 = (.istore 7, 2) := by decide +kernel
set_option maxRecDepth 100000 in
theorem ti_77_111 : dp_tab 77 111 = (.aload_n 1, 1) := by decide +kernel
set_option maxRecDepth 100000 in
theorem ti_77_112 : dp_tab 77 112 = (.bipush 6, 2) := by decide +kernel
set_option maxRecDepth 100000 in
theorem ti_77_114 : dp_tab 77 114 = (.invokevirtual 106, 3) := by decide +kernel
set_option maxRecDepth 100000 in
theorem ti_77_117 : dp_tab 77 117 = (.istore 8, 2) := by decide +kernel
set_option maxRecDepth 100000 in
theorem ti_77_119 : dp_tab 77 119 = (.iload 6, 2) := by decide +kernel
set_option maxRecDepth 100000 in
theorem ti_77_121 : dp_tab 77 121 = (.ifCond .le 307, 3) := by decide +kernel
set_option maxRecDepth 100000 in
theorem ti_77_124 : dp_tab 77 124 = (.iload_n 3, 1) := by decide +kernel
set_option maxRecDepth 100000 in
theorem ti_77_125 : dp_tab 77 125 = (.iconst 2, 1) := by decide +kernel
set_option maxRecDepth 100000 in
theorem ti_77_126 : dp_tab 77 126 = (.irem, 1) := by decide +kernel
set_option maxRecDepth 100000 in
theorem ti_77_127 : dp_tab 77 127 = (.ifCond .ne 301, 3) := by decide +kernel
set_option maxRecDepth 100000 in
theorem ti_77_130 : dp_tab 77 130 = (.iload 4, 2) := by decide +kernel
set_option maxRecDepth 100000 in
theorem ti_77_132 : dp_tab 77 132 = (.iconst 3, 1) := by decide +kernel
set_option maxRecDepth 100000 in
theorem ti_77_133 : dp_tab 77 133 = (.ishr, 1) := by decide +kernel
set_option maxRecDepth 100000 in
theorem ti_77_134 : dp_tab 77 134 = (.iload 6, 2) := by decide +kernel
set_option maxRecDepth 100000 in
theorem ti_77_136 : dp_tab 77 136 = (.invokestatic 19, 3) := by decide +kernel
set_option maxRecDepth 100000 in
theorem ti_77_139 : dp_tab 77 139 = (.istore 9, 2) := by decide +kernel
set_option maxRecDepth 100000 in
theorem ti_77_141 : dp_tab 77 141 = (.aload_n 1, 1) := by decide +kernel
set_option maxRecDepth 100000 in
theorem ti_77_142 : dp_tab 77 142 = (.iload 9, 2) := by decide +kernel
set_option maxRecDepth 100000 in
theorem ti_77_144 : dp_tab 77 144 = (.iconst 5, 1) := by decide +kernel
set_option maxRecDepth 100000 in
theorem ti_77_145 : dp_tab 77 145 = (.invokevirtual 109, 3) := by decide +kernel
set_option maxRecDepth 100000 in
theorem ti_77_148 : dp_tab 77 148 = (.ifCond .ne 7, 3) := by decide +kernel
set_option maxRecDepth 100000 in
theorem ti_77_151 : dp_tab 77 151 = (.iconst (-1), 1) := by decide +kernel
set_option maxRecDepth 100000 in
theorem ti_77_152 : dp_tab 77 152 = (.goto 10, 3) := by decide +kernel
set_option maxRecDepth 100000 in
theorem ti_77_155 : dp_tab 77 155 = (.aload_n 1, 1) := by decide +kernel
set_option maxRecDepth 100000 in
theorem ti_77_156 : dp_tab 77 156 = (.iload 9, 2) := by decide +kernel
set_option maxRecDepth 100000 in
theorem ti_77_158 : dp_tab 77 158 = (.iconst 0, 1) := by decide +kernel
set_option maxRecDepth 100000 in
theorem ti_77_159 : dp_tab 77 159 = (.invokevirtual 112, 3) := by decide +kernel
set_option maxRecDepth 100000 in
theorem ti_77_162 : dp_tab 77 162 = (.istore 10, 2) := by decide +kernel
set_option maxRecDepth 100000 in
theorem ti_77_164 : dp_tab 77 164 = (.iload 10, 2) := by decide +kernel
set_option maxRecDepth 100000 in
theorem ti_77_166 : dp_tab 77 166 = (.ifCond .ge 7, 3) := by decide +kernel
set_option maxRecDepth 100000 in
theorem ti_77_169 : dp_tab 77 169 = (.iconst 0, 1) := by decide +kernel
set_option maxRecDepth 100000 in
theorem ti_77_170 : dp_tab 77 170 = (.goto 16, 3) := by decide +kernel
set_option maxRecDepth 100000 in
theorem ti_77_173 : dp_tab 77 173 = (.iconst 2, 1) := by decide +kernel
set_option maxRecDepth 100000 in
theorem ti_77_174 : dp_tab 77 174 = (.aload_n 1, 1) := by decide +kernel
set_option maxRecDepth 100000 in
theorem ti_77_175 : dp_tab 77 175 = (.iload 9, 2) := by decide +kernel
set_option maxRecDepth 100000 in
theorem ti_77_177 : dp_tab 77 177 = (.iload 10, 2) := by decide +kernel
set_option maxRecDepth 100000 in
theorem ti_77_179 : dp_tab 77 179 = (.invokevirtual 115, 3) := by decide +kernel
set_option maxRecDepth 100000 in
theorem ti_77_182 : dp_tab 77 182 = (.bipush 20, 2) := by decide +kernel
set_option maxRecDepth 100000 in
theorem ti_77_184 : dp_tab 77 184 = (.idiv, 1) := by decide +kernel
set_option maxRecDepth 100000 in
theorem ti_77_185 : dp_tab 77 185 = (.iadd, 1) := by decide +kernel
set_option maxRecDepth 100000 in
theorem ti_77_186 : dp_tab 77 186 = (.istore 11, 2) := by decide +kernel
set_option maxRecDepth 100000 in
theorem ti_77_188 : dp_tab 77 188 = (.aload_n 1, 1) := by decide +kernel
set_option maxRecDepth 100000 in
theorem ti_77_189 : dp_tab 77 189 = (.iload 9, 2) := by decide +kernel
set_option maxRecDepth 100000 in
theorem ti_77_191 : dp_tab 77 191 = (.iconst 0, 1) := by decide +kernel
set_option maxRecDepth 100000 in
theorem ti_77_192 : dp_tab 77 192 = (.invokevirtual 109, 3) := by decide +kernel
set_option maxRecDepth 100000 in
theorem ti_77_195 : dp_tab 77 195 = (.istore 12, 2) := by decide +kernel
set_option maxRecDepth 100000 in
theorem ti_77_197 : dp_tab 77 197 = (.aload_n 1, 1) := by decide +kernel
set_option maxRecDepth 100000 in
theorem ti_77_198 : dp_tab 77 198 = (.iload 9, 2) := by decide +kernel
set_option maxRecDepth 100000 in
theorem ti_77_200 : dp_tab 77 200 = (.iconst 4, 1) := by decide +kernel
set_option maxRecDepth 100000 in
theorem ti_77_201 : dp_tab 77 201 = (.invokevirtual 109, 3) := by decide +kernel
set_option maxRecDepth 100000 in
theorem ti_77_204 : dp_tab 77 204 = (.istore 13, 2) := by decide +kernel
set_option maxRecDepth 100000 in
theorem ti_77_206 : dp_tab 77 206 = (.aload_n 1, 1) := by decide +kernel
set_option maxRecDepth 100000 in
theorem ti_77_207 : dp_tab 77 207 = (.iload 9, 2) := by decide +kernel
set_option maxRecDepth 100000 in
theorem ti_77_209 : dp_tab 77 209 = (.iconst 5, 1) := by decide +kernel
set_option maxRecDepth 100000 in
theorem ti_77_210 : dp_tab 77 210 = (.invokevirtual 109, 3) := by decide +kernel
set_option maxRecDepth 100000 in
theorem ti_77_213 : dp_tab 77 213 = (.istore 14, 2) := by decide +kernel
set_option maxRecDepth 100000 in
theorem ti_77_215 : dp_tab 77 215 = (.iload 10, 2) := by decide +kernel
set_option maxRecDepth 100000 in
theorem ti_77_217 : dp_tab 77 217 = (.ifCond .lt 14, 3) := by decide +kernel
set_option maxRecDepth 100000 in
theorem ti_77_220 : dp_tab 77 220 = (.iload 12, 2) := by decide +kernel
set_option maxRecDepth 100000 in
theorem ti_77_222 : dp_tab 77 222 = (.iload 11, 2) := by decide +kernel
set_option maxRecDepth 100000 in
theorem ti_77_224 : dp_tab 77 224 = (.if_icmp .lt 7, 3) := by decide +kernel
set_option maxRecDepth 100000 in
theorem ti_77_227 : dp_tab 77 227 = (.iconst 1, 1) := by decide +kernel
set_option maxRecDepth 100000 in
theorem ti_77_228 : dp_tab 77 228 = (.goto 4, 3) := by decide +kernel
set_option maxRecDepth 100000 in
theorem ti_77_231 : dp_tab 77 231 = (.iconst 0, 1) := by decide +kernel
set_option maxRecDepth 100000 in
theorem ti_77_232 : dp_tab 77 232 = (.istore 15, 2) := by decide +kernel
set_option maxRecDepth 100000 in
theorem ti_77_234 : dp_tab 77 234 = (.aload_n 1, 1) := by decide +kernel
set_option maxRecDepth 100000 in
theorem ti_77_235 : dp_tab 77 235 = (.iload 9, 2) := by decide +kernel
set_option maxRecDepth 100000 in
theorem ti_77_237 : dp_tab 77 237 = (.invokevirtual 83, 3) := by decide +kernel
set_option maxRecDepth 100000 in
theorem ti_77_240 : dp_tab 77 240 = (.iload 15, 2) := by decide +kernel
set_option maxRecDepth 100000 in
theorem ti_77_242 : dp_tab 77 242 = (.ifCond .eq 8, 3) := by decide +kernel
set_option maxRecDepth 100000 in
theorem ti_77_245 : dp_tab 77 245 = (.iload 10, 2) := by decide +kernel
set_option maxRecDepth 100000 in
theorem ti_77_247 : dp_tab 77 247 = (.goto 4, 3) := by decide +kernel
set_option maxRecDepth 100000 in
theorem ti_77_250 : dp_tab 77 250 = (.iconst (-1), 1) := by decide +kernel
set_option maxRecDepth 100000 in
theorem ti_77_251 : dp_tab 77 251 = (.if_icmp .ne 28, 3) := by decide +kernel
set_option maxRecDepth 100000 in
theorem ti_77_254 : dp_tab 77 254 = (.aload_n 2, 1) := by decide +kernel
set_option maxRecDepth 100000 in
theorem ti_77_255 : dp_tab 77 255 = (.aload_n 2, 1) := by decide +kernel
set_option maxRecDepth 100000 in
theorem ti_77_256 : dp_tab 77 256 = (.getfield 15, 3) := by decide +kernel
set_option maxRecDepth 100000 in
theorem ti_77_259 : dp_tab 77 259 = (.iload 9, 2) := by decide +kernel
set_option maxRecDepth 100000 in
theorem ti_77_261 : dp_tab 77 261 = (.aaload, 1) := by decide +kernel
set_option maxRecDepth 100000 in
theorem ti_77_262 : dp_tab 77 262 = (.invokevirtual 86, 3) := by decide +kernel
set_option maxRecDepth 100000 in
theorem ti_77_265 : dp_tab 77 265 = (.iload 15, 2) := by decide +kernel
set_option maxRecDepth 100000 in
theorem ti_77_267 : dp_tab 77 267 = (.ifCond .eq 8, 3) := by decide +kernel
set_option maxRecDepth 100000 in
theorem ti_77_270 : dp_tab 77 270 = (.iload 10, 2) := by decide +kernel
set_option maxRecDepth 100000 in
theorem ti_77_272 : dp_tab 77 272 = (.goto 4, 3) := by decide +kernel
set_option maxRecDepth 100000 in
theorem ti_77_275 : dp_tab 77 275 = (.iconst (-1), 1) := by decide +kernel
set_option maxRecDepth 100000 in
theorem ti_77_276 : dp_tab 77 276 = (.if_icmp .eq 5, 3) := by decide +kernel
set_option maxRecDepth 100000 in
theorem ti_77_279 : dp_tab 77 279 = (.iconst 0, 1) := by decide +kernel
set_option maxRecDepth 100000 in
theorem ti_77_280 : dp_tab 77 280 = (.ireturn, 1) := by decide +kernel
set_option maxRecDepth 100000 in
theorem ti_77_281 : dp_tab 77 281 = (.iload 15, 2) := by decide +kernel
set_option maxRecDepth 100000 in
theorem ti_77_283 : dp_tab 77 283 = (.ifCond .eq 8, 3) := by decide +kernel
set_option maxRecDepth 100000 in
theorem ti_77_286 : dp_tab 77 286 = (.iload 11, 2) := by decide +kernel
set_option maxRecDepth 100000 in
theorem ti_77_288 : dp_tab 77 288 = (.goto 4, 3) := by decide +kernel
set_option maxRecDepth 100000 in
theorem ti_77_291 : dp_tab 77 291 = (.iconst 0, 1) := by decide +kernel
set_option maxRecDepth 100000 in
theorem ti_77_292 : dp_tab 77 292 = (.istore 16, 2) := by decide +kernel
set_option maxRecDepth 100000 in
theorem ti_77_294 : dp_tab 77 294 = (.aload_n 1, 1) := by decide +kernel
set_option maxRecDepth 100000 in
theorem ti_77_295 : dp_tab 77 295 = (.iload 9, 2) := by decide +kernel
set_option maxRecDepth 100000 in
theorem ti_77_297 : dp_tab 77 297 = (.iconst 0, 1) := by decide +kernel
set_option maxRecDepth 100000 in
theorem ti_77_298 : dp_tab 77 298 = (.invokevirtual 109, 3) := by decide +kernel
set_option maxRecDepth 100000 in
theorem ti_77_301 : dp_tab 77 301 = (.iload 12, 2) := by decide +kernel
set_option maxRecDepth 100000 in
theorem ti_77_303 : dp_tab 77 303 = (.iload 16, 2) := by decide +kernel
set_option maxRecDepth 100000 in
theorem ti_77_305 : dp_tab 77 305 = (.isub, 1) := by decide +kernel
set_option maxRecDepth 100000 in
theorem ti_77_306 : dp_tab 77 306 = (.if_icmp .ne 76, 3) := by decide +kernel
set_option maxRecDepth 100000 in
theorem ti_77_309 : dp_tab 77 309 = (.aload_n 1, 1) := by decide +kernel
set_option maxRecDepth 100000 in
theorem ti_77_310 : dp_tab 77 310 = (.iload 9, 2) := by decide +kernel
set_option maxRecDepth 100000 in
theorem ti_77_312 : dp_tab 77 312 = (.iconst 4, 1) := by decide +kernel
set_option maxRecDepth 100000 in
theorem ti_77_313 : dp_tab 77 313 = (.invokevirtual 109, 3) := by decide +kernel
set_option maxRecDepth 100000 in
theorem ti_77_316 : dp_tab 77 316 = (.iload 13, 2) := by decide +kernel
set_option maxRecDepth 100000 in
theorem ti_77_318 : dp_tab 77 318 = (.iload 16, 2) := by decide +kernel
set_option maxRecDepth 100000 in
theorem ti_77_320 : dp_tab 77 320 = (.iadd, 1) := by decide +kernel
set_option maxRecDepth 100000 in
theorem ti_77_321 : dp_tab 77 321 = (.if_icmp .ne 61, 3) := by decide +kernel
set_option maxRecDepth 100000 in
theorem ti_77_324 : dp_tab 77 324 = (.aload_n 1, 1) := by decide +kernel
set_option maxRecDepth 100000 in
theorem ti_77_325 : dp_tab 77 325 = (.iload 9, 2) := by decide +kernel
set_option maxRecDepth 100000 in
theorem ti_77_327 : dp_tab 77 327 = (.iconst 5, 1) := by decide +kernel
set_option maxRecDepth 100000 in
theorem ti_77_328 : dp_tab 77 328 = (.invokevirtual 109, 3) := by decide +kernel
set_option maxRecDepth 100000 in
theorem ti_77_331 : dp_tab 77 331 = (.iload 14, 2) := by decide +kernel
set_option maxRecDepth 100000 in
theorem ti_77_333 : dp_tab 77 333 = (.iload 15, 2) := by decide +kernel
set_option maxRecDepth 100000 in
theorem ti_77_335 : dp_tab 77 335 = (.ifCond .eq 7, 3) := by decide +kernel
set_option maxRecDepth 100000 in
theorem ti_77_338 : dp_tab 77 338 = (.iconst 1, 1) := by decide +kernel
set_option maxRecDepth 100000 in
theorem ti_77_339 : dp_tab 77 339 = (.goto 4, 3) := by decide +kernel
set_option maxRecDepth 100000 in
theorem ti_77_342 : dp_tab 77 342 = (.iconst 0, 1) := by decide +kernel
set_option maxRecDepth 100000 in
theorem ti_77_343 : dp_tab 77 343 = (.isub, 1) := by decide +kernel
set_option maxRecDepth 100000 in
theorem ti_77_344 : dp_tab 77 344 = (.if_icmp .ne 38, 3) := by decide +kernel
set_option maxRecDepth 100000 in
theorem ti_77_347 : dp_tab 77 347 = (.aload_n 1, 1) := by decide +kernel
set_option maxRecDepth 100000 in
theorem ti_77_348 : dp_tab 77 348 = (.iconst 5, 1) := by decide +kernel
set_option maxRecDepth 100000 in
theorem ti_77_349 : dp_tab 77 349 = (.invokevirtual 106, 3) := by decide +kernel
set_option maxRecDepth 100000 in
theorem ti_77_352 : dp_tab 77 352 = (.iload 7, 2) := by decide +kernel
set_option maxRecDepth 100000 in
theorem ti_77_354 : dp_tab 77 354 = (.iload 15, 2) := by decide +kernel
set_option maxRecDepth 100000 in
theorem ti_77_356 : dp_tab 77 356 = (.ifCond .eq 7, 3) := by decide +kernel
set_option maxRecDepth 100000 in
theorem ti_77_359 : dp_tab 77 359 = (.iconst 1, 1) := by decide +kernel
set_option maxRecDepth 100000 in
theorem ti_77_360 : dp_tab 77 360 = (.goto 4, 3) := by decide +kernel
set_option maxRecDepth 100000 in
theorem ti_77_363 : dp_tab 77 363 = (.iconst 0, 1) := by decide +kernel
set_option maxRecDepth 100000 in
theorem ti_77_364 : dp_tab 77 364 = (.iadd, 1) := by decide +kernel
set_option maxRecDepth 100000 in
theorem ti_77_365 : dp_tab 77 365 = (.if_icmp .ne 17, 3) := by decide +kernel
set_option maxRecDepth 100000 in
theorem ti_77_368 : dp_tab 77 368 = (.aload_n 1, 1) := by decide +kernel
set_option maxRecDepth 100000 in
theorem ti_77_369 : dp_tab 77 369 = (.bipush 6, 2) := by decide +kernel
set_option maxRecDepth 100000 in
theorem ti_77_371 : dp_tab 77 371 = (.invokevirtual 106, 3) := by decide +kernel
set_option maxRecDepth 100000 in
theorem ti_77_374 : dp_tab 77 374 = (.iload 8, 2) := by decide +kernel
set_option maxRecDepth 100000 in
theorem ti_77_376 : dp_tab 77 376 = (.iload 16, 2) := by decide +kernel
set_option maxRecDepth 100000 in
theorem ti_77_378 : dp_tab 77 378 = (.iadd, 1) := by decide +kernel
set_option maxRecDepth 100000 in
theorem ti_77_379 : dp_tab 77 379 = (.if_icmp .eq 5, 3) := by decide +kernel
set_option maxRecDepth 100000 in
theorem ti_77_382 : dp_tab 77 382 = (.iconst 0, 1) := by decide +kernel
set_option maxRecDepth 100000 in
theorem ti_77_383 : dp_tab 77 383 = (.ireturn, 1) := by decide +kernel
set_option maxRecDepth 100000 in
theorem ti_77_384 : dp_tab 77 384 = (.iload 15, 2) := by decide +kernel
set_option maxRecDepth 100000 in
theorem ti_77_386 : dp_tab 77 386 = (.ifCond .eq 39, 3) := by decide +kernel
set_option maxRecDepth 100000 in
theorem ti_77_389 : dp_tab 77 389 = (.iconst 0, 1) := by decide +kernel
set_option maxRecDepth 100000 in
theorem ti_77_390 : dp_tab 77 390 = (.istore 17, 2) := by decide +kernel
set_option maxRecDepth 100000 in
theorem ti_77_392 : dp_tab 77 392 = (.iload 17, 2) := by decide +kernel
set_option maxRecDepth 100000 in
theorem ti_77_394 : dp_tab 77 394 = (.aload_n 1, 1) := by decide +kernel
set_option maxRecDepth 100000 in
theorem ti_77_395 : dp_tab 77 395 = (.iload 9, 2) := by decide +kernel
set_option maxRecDepth 100000 in
theorem ti_77_397 : dp_tab 77 397 = (.iconst 5, 1) := by decide +kernel
set_option maxRecDepth 100000 in
theorem ti_77_398 : dp_tab 77 398 = (.invokevirtual 109, 3) := by decide +kernel
set_option maxRecDepth 100000 in
theorem ti_77_401 : dp_tab 77 401 = (.if_icmp .ge 24, 3) := by decide +kernel
set_option maxRecDepth 100000 in
theorem ti_77_404 : dp_tab 77 404 = (.aload_n 1, 1) := by decide +kernel
set_option maxRecDepth 100000 in
theorem ti_77_405 : dp_tab 77 405 = (.iload 9, 2) := by decide +kernel
set_option maxRecDepth 100000 in
theorem ti_77_407 : dp_tab 77 407 = (.iload 17, 2) := by decide +kernel
set_option maxRecDepth 100000 in
theorem ti_77_409 : dp_tab 77 409 = (.invokevirtual 112, 3) := by decide +kernel
set_option maxRecDepth 100000 in
theorem ti_77_412 : dp_tab 77 412 = (.iload 10, 2) := by decide +kernel
set_option maxRecDepth 100000 in
theorem ti_77_414 : dp_tab 77 414 = (.if_icmp .ne 5, 3) := by decide +kernel
set_option maxRecDepth 100000 in
theorem ti_77_417 : dp_tab 77 417 = (.iconst 0, 1) := by decide +kernel
set_option maxRecDepth 100000 in
theorem ti_77_418 : dp_tab 77 418 = (.ireturn, 1) := by decide +kernel
set_option maxRecDepth 100000 in
theorem ti_77_419 : dp_tab 77 419 = (.iinc 17 1, 3) := by decide +kernel
set_option maxRecDepth 100000 in
theorem ti_77_422 : dp_tab 77 422 = (.goto (-30), 3) := by decide +kernel
set_option maxRecDepth 100000 in
theorem ti_77_425 : dp_tab 77 425 = (.goto 341, 3) := by decide +kernel
set_option maxRecDepth 100000 in
theorem ti_77_428 : dp_tab 77 428 = (.iload 6, 2) := by decide +kernel
set_option maxRecDepth 100000 in
theorem ti_77_430 : dp_tab 77 430 = (.newarray .int, 2) := by decide +kernel
set_option maxRecDepth 100000 in
theorem ti_77_432 : dp_tab 77 432 = (.astore 9, 2) := by decide +kernel
set_option maxRecDepth 100000 in
theorem ti_77_434 : dp_tab 77 434 = (.iload 6, 2) := by decide +kernel
set_option maxRecDepth 100000 in
theorem ti_77_436 : dp_tab 77 436 = (.newarray .int, 2) := by decide +kernel
set_option maxRecDepth 100000 in
theorem ti_77_438 : dp_tab 77 438 = (.astore 10, 2) := by decide +kernel
set_option maxRecDepth 100000 in
theorem ti_77_440 : dp_tab 77 440 = (.iload 5, 2) := by decide +kernel
set_option maxRecDepth 100000 in
theorem ti_77_442 : dp_tab 77 442 = (.newarray .int, 2) := by decide +kernel
set_option maxRecDepth 100000 in
theorem ti_77_444 : dp_tab 77 444 = (.astore 11, 2) := by decide +kernel
set_option maxRecDepth 100000 in
theorem ti_77_446 : dp_tab 77 446 = (.iconst 0, 1) := by decide +kernel
set_option maxRecDepth 100000 in
theorem ti_77_447 : dp_tab 77 447 = (.istore 12, 2) := by decide +kernel
set_option maxRecDepth 100000 in
theorem ti_77_449 : dp_tab 77 449 = (.iload 12, 2) := by decide +kernel
set_option maxRecDepth 100000 in
theorem ti_77_451 : dp_tab 77 451 = (.iload 6, 2) := by decide +kernel
set_option maxRecDepth 100000 in
theorem ti_77_453 : dp_tab 77 453 = (.if_icmp .ge 33, 3) := by decide +kernel
set_option maxRecDepth 100000 in
theorem ti_77_456 : dp_tab 77 456 = (.aload 9, 2) := by decide +kernel
set_option maxRecDepth 100000 in
theorem ti_77_458 : dp_tab 77 458 = (.iload 12, 2) := by decide +kernel
set_option maxRecDepth 100000 in
theorem ti_77_460 : dp_tab 77 460 = (.aload_n 1, 1) := by decide +kernel
set_option maxRecDepth 100000 in
theorem ti_77_461 : dp_tab 77 461 = (.iload 12, 2) := by decide +kernel
set_option maxRecDepth 100000 in
theorem ti_77_463 : dp_tab 77 463 = (.iconst 0, 1) := by decide +kernel
set_option maxRecDepth 100000 in
theorem ti_77_464 : dp_tab 77 464 = (.invokevirtual 109, 3) := by decide +kernel
set_option maxRecDepth 100000 in
theorem ti_77_467 : dp_tab 77 467 = (.iastore, 1) := by decide +kernel
set_option maxRecDepth 100000 in
theorem ti_77_468 : dp_tab 77 468 = (.aload 10, 2) := by decide +kernel
set_option maxRecDepth 100000 in
theorem ti_77_470 : dp_tab 77 470 = (.iload 12, 2) := by decide +kernel
set_option maxRecDepth 100000 in
theorem ti_77_472 : dp_tab 77 472 = (.aload_n 1, 1) := by decide +kernel
set_option maxRecDepth 100000 in
theorem ti_77_473 : dp_tab 77 473 = (.iload 12, 2) := by decide +kernel
set_option maxRecDepth 100000 in
theorem ti_77_475 : dp_tab 77 475 = (.iconst 3, 1) := by decide +kernel
set_option maxRecDepth 100000 in
theorem ti_77_476 : dp_tab 77 476 = (.invokevirtual 109, 3) := by decide +kernel
set_option maxRecDepth 100000 in
theorem ti_77_479 : dp_tab 77 479 = (.iastore, 1) := by decide +kernel
set_option maxRecDepth 100000 in
theorem ti_77_480 : dp_tab 77 480 = (.iinc 12 1, 3) := by decide +kernel
set_option maxRecDepth 100000 in
theorem ti_77_483 : dp_tab 77 483 = (.goto (-34), 3) := by decide +kernel
set_option maxRecDepth 100000 in
theorem ti_77_486 : dp_tab 77 486 = (.iconst 0, 1) := by decide +kernel
set_option maxRecDepth 100000 in
theorem ti_77_487 : dp_tab 77 487 = (.istore 12, 2) := by decide +kernel
set_option maxRecDepth 100000 in
theorem ti_77_489 : dp_tab 77 489 = (.iload 12, 2) := by decide +kernel
set_option maxRecDepth 100000 in
theorem ti_77_491 : dp_tab 77 491 = (.iload 5, 2) := by decide +kernel
set_option maxRecDepth 100000 in
theorem ti_77_493 : dp_tab 77 493 = (.if_icmp .ge 21, 3) := by decide +kernel
set_option maxRecDepth 100000 in
theorem ti_77_496 : dp_tab 77 496 = (.aload 11, 2) := by decide +kernel
set_option maxRecDepth 100000 in
theorem ti_77_498 : dp_tab 77 498 = (.iload 12, 2) := by decide +kernel
set_option maxRecDepth 100000 in
theorem ti_77_500 : dp_tab 77 500 = (.aload_n 1, 1) := by decide +kernel
set_option maxRecDepth 100000 in
theorem ti_77_501 : dp_tab 77 501 = (.iload 12, 2) := by decide +kernel
set_option maxRecDepth 100000 in
theorem ti_77_503 : dp_tab 77 503 = (.iconst 2, 1) := by decide +kernel
set_option maxRecDepth 100000 in
theorem ti_77_504 : dp_tab 77 504 = (.invokevirtual 118, 3) := by decide +kernel
set_option maxRecDepth 100000 in
theorem ti_77_507 : dp_tab 77 507 = (.iastore, 1) := by decide +kernel
set_option maxRecDepth 100000 in
theorem ti_77_508 : dp_tab 77 508 = (.iinc 12 1, 3) := by decide +kernel
set_option maxRecDepth 100000 in
theorem ti_77_511 : dp_tab 77 511 = (.goto (-22), 3) := by decide +kernel
set_option maxRecDepth 100000 in
theorem ti_77_514 : dp_tab 77 514 = (.aload_n 1, 1) := by decide +kernel
set_option maxRecDepth 100000 in
theorem ti_77_515 : dp_tab 77 515 = (.iconst 4, 1) := by decide +kernel
set_option maxRecDepth 100000 in
theorem ti_77_516 : dp_tab 77 516 = (.invokevirtual 106, 3) := by decide +kernel
set_option maxRecDepth 100000 in
theorem ti_77_519 : dp_tab 77 519 = (.istore 12, 2) := by decide +kernel
set_option maxRecDepth 100000 in
theorem ti_77_521 : dp_tab 77 521 = (.aload_n 1, 1) := by decide +kernel
set_option maxRecDepth 100000 in
theorem ti_77_522 : dp_tab 77 522 = (.invokevirtual 121, 3) := by decide +kernel
set_option maxRecDepth 100000 in
theorem ti_77_525 : dp_tab 77 525 = (.istore 13, 2) := by decide +kernel
set_option maxRecDepth 100000 in
theorem ti_77_527 : dp_tab 77 527 = (.aload_n 1, 1) := by decide +kernel
set_option maxRecDepth 100000 in
theorem ti_77_528 : dp_tab 77 528 = (.iconst 1, 1) := by decide +kernel
set_option maxRecDepth 100000 in
theorem ti_77_529 : dp_tab 77 529 = (.invokevirtual 124, 3) := by decide +kernel
set_option maxRecDepth 100000 in
theorem ti_77_532 : dp_tab 77 532 = (.istore 14, 2) := by decide +kernel
set_option maxRecDepth 100000 in
theorem ti_77_534 : dp_tab 77 534 = (.aload_n 2, 1) := by decide +kernel
set_option maxRecDepth 100000 in
theorem ti_77_535 : dp_tab 77 535 = (.invokevirtual 127, 3) := by decide +kernel
set_option maxRecDepth 100000 in
theorem ti_77_538 : dp_tab 77 538 = (.pop, 1) := by decide +kernel
set_option maxRecDepth 100000 in
theorem ti_77_539 : dp_tab 77 539 = (.iconst 0, 1) := by decide +kernel
set_option maxRecDepth 100000 in
theorem ti_77_540 : dp_tab 77 540 = (.istore 15, 2) := by decide +kernel
set_option maxRecDepth 100000 in
theorem ti_77_542 : dp_tab 77 542 = (.iconst 0, 1) := by decide +kernel
set_option maxRecDepth 100000 in
theorem ti_77_543 : dp_tab 77 543 = (.istore 16, 2) := by decide +kernel
set_option maxRecDepth 100000 in
theorem ti_77_545 : dp_tab 77 545 = (.iconst 0, 1) := by decide +kernel
set_option maxRecDepth 100000 in
theorem ti_77_546 : dp_tab 77 546 = (.istore 17, 2) := by decide +kernel
set_option maxRecDepth 100000 in
theorem ti_77_548 : dp_tab 77 548 = (.iload 17, 2) := by decide +kernel
set_option maxRecDepth 100000 in
theorem ti_77_550 : dp_tab 77 550 = (.iload 6, 2) := by decide +kernel
set_option maxRecDepth 100000 in
theorem ti_77_552 : dp_tab 77 552 = (.if_icmp .ge 113, 3) := by decide +kernel
set_option maxRecDepth 100000 in
theorem ti_77_555 : dp_tab 77 555 = (.iload 15, 2) := by decide +kernel
set_option maxRecDepth 100000 in
theorem ti_77_557 : dp_tab 77 557 = (.aload 9, 2) := by decide +kernel
set_option maxRecDepth 100000 in
theorem ti_77_559 : dp_tab 77 559 = (.iload 17, 2) := by decide +kernel
set_option maxRecDepth 100000 in
theorem ti_77_561 : dp_tab 77 561 = (.iaload, 1) := by decide +kernel
set_option maxRecDepth 100000 in
theorem ti_77_562 : dp_tab 77 562 = (.aload_n 1, 1) := by decide +kernel
set_option maxRecDepth 100000 in
theorem ti_77_563 : dp_tab 77 563 = (.iload 17, 2) := by decide +kernel
set_option maxRecDepth 100000 in
theorem ti_77_565 : dp_tab 77 565 = (.iconst 0, 1) := by decide +kernel
set_option maxRecDepth 100000 in
theorem ti_77_566 : dp_tab 77 566 = (.invokevirtual 109, 3) := by decide +kernel
set_option maxRecDepth 100000 in
theorem ti_77_569 : dp_tab 77 569 = (.isub, 1) := by decide +kernel
set_option maxRecDepth 100000 in
theorem ti_77_570 : dp_tab 77 570 = (.iadd, 1) := by decide +kernel
set_option maxRecDepth 100000 in
theorem ti_77_571 : dp_tab 77 571 = (.istore 15, 2) := by decide +kernel
set_option maxRecDepth 100000 in
theorem ti_77_573 : dp_tab 77 573 = (.iload 16, 2) := by decide +kernel
set_option maxRecDepth 100000 in
theorem ti_77_575 : dp_tab 77 575 = (.aload_n 1, 1) := by decide +kernel
set_option maxRecDepth 100000 in
theorem ti_77_576 : dp_tab 77 576 = (.iload 17, 2) := by decide +kernel
set_option maxRecDepth 100000 in
theorem ti_77_578 : dp_tab 77 578 = (.iconst 3, 1) := by decide +kernel
set_option maxRecDepth 100000 in
theorem ti_77_579 : dp_tab 77 579 = (.invokevirtual 109, 3) := by decide +kernel
set_option maxRecDepth 100000 in
theorem ti_77_582 : dp_tab 77 582 = (.aload 10, 2) := by decide +kernel
set_option maxRecDepth 100000 in
theorem ti_77_584 : dp_tab 77 584 = (.iload 17, 2) := by decide +kernel
set_option maxRecDepth 100000 in
theorem ti_77_586 : dp_tab 77 586 = (.iaload, 1) := by decide +kernel
set_option maxRecDepth 100000 in
theorem ti_77_587 : dp_tab 77 587 = (.isub, 1) := by decide +kernel
set_option maxRecDepth 100000 in
theorem ti_77_588 : dp_tab 77 588 = (.iadd, 1) := by decide +kernel
set_option maxRecDepth 100000 in
theorem ti_77_589 : dp_tab 77 589 = (.istore 16, 2) := by decide +kernel
set_option maxRecDepth 100000 in
theorem ti_77_591 : dp_tab 77 591 = (.aload_n 1, 1) := by decide +kernel
set_option maxRecDepth 100000 in
theorem ti_77_592 : dp_tab 77 592 = (.iload 17, 2) := by decide +kernel
set_option maxRecDepth 100000 in
theorem ti_77_594 : dp_tab 77 594 = (.iconst 3, 1) := by decide +kernel
set_option maxRecDepth 100000 in
theorem ti_77_595 : dp_tab 77 595 = (.invokevirtual 109, 3) := by decide +kernel
set_option maxRecDepth 100000 in
theorem ti_77_598 : dp_tab 77 598 = (.aload 10, 2) := by decide +kernel
set_option maxRecDepth 100000 in
theorem ti_77_600 : dp_tab 77 600 = (.iload 17, 2) := by decide +kernel
set_option maxRecDepth 100000 in
theorem ti_77_602 : dp_tab 77 602 = (.iaload, 1) := by decide +kernel
set_option maxRecDepth 100000 in
theorem ti_77_603 : dp_tab 77 603 = (.isub, 1) := by decide +kernel
set_option maxRecDepth 100000 in
theorem ti_77_604 : dp_tab 77 604 = (.istore 18, 2) := by decide +kernel
set_option maxRecDepth 100000 in
theorem ti_77_606 : dp_tab 77 606 = (.iload 18, 2) := by decide +kernel
set_option maxRecDepth 100000 in
theorem ti_77_608 : dp_tab 77 608 = (.ifCond .lt 49, 3) := by decide +kernel
set_option maxRecDepth 100000 in
theorem ti_77_611 : dp_tab 77 611 = (.iload 18, 2) := by decide +kernel
set_option maxRecDepth 100000 in
theorem ti_77_613 : dp_tab 77 613 = (.iconst 2, 1) := by decide +kernel
set_option maxRecDepth 100000 in
theorem ti_77_614 : dp_tab 77 614 = (.if_icmp .gt 43, 3) := by decide +kernel
set_option maxRecDepth 100000 in
theorem ti_77_617 : dp_tab 77 617 = (.aload 9, 2) := by decide +kernel
set_option maxRecDepth 100000 in
theorem ti_77_619 : dp_tab 77 619 = (.iload 17, 2) := by decide +kernel
set_option maxRecDepth 100000 in
theorem ti_77_621 : dp_tab 77 621 = (.iaload, 1) := by decide +kernel
set_option maxRecDepth 100000 in
theorem ti_77_622 : dp_tab 77 622 = (.aload_n 1, 1) := by decide +kernel
set_option maxRecDepth 100000 in
theorem ti_77_623 : dp_tab 77 623 = (.iload 17, 2) := by decide +kernel
set_option maxRecDepth 100000 in
theorem ti_77_625 : dp_tab 77 625 = (.iconst 0, 1) := by decide +kernel
set_option maxRecDepth 100000 in
theorem ti_77_626 : dp_tab 77 626 = (.invokevirtual 109, 3) := by decide +kernel
set_option maxRecDepth 100000 in
theorem ti_77_629 : dp_tab 77 629 = (.isub, 1) := by decide +kernel
set_option maxRecDepth 100000 in
theorem ti_77_630 : dp_tab 77 630 = (.iconst 2, 1) := by decide +kernel
set_option maxRecDepth 100000 in
theorem ti_77_631 : dp_tab 77 631 = (.iload 18, 2) := by decide +kernel
set_option maxRecDepth 100000 in
theorem ti_77_633 : dp_tab 77 633 = (.imul, 1) := by decide +kernel
set_option maxRecDepth 100000 in
theorem ti_77_634 : dp_tab 77 634 = (.if_icmp .lt 23, 3) := by decide +kernel
set_option maxRecDepth 100000 in
theorem ti_77_637 : dp_tab 77 637 = (.iload 18, 2) := by decide +kernel
set_option maxRecDepth 100000 in
theorem ti_77_639 : dp_tab 77 639 = (.ifCond .ne 20, 3) := by decide +kernel
set_option maxRecDepth 100000 in
theorem ti_77_642 : dp_tab 77 642 = (.aload 9, 2) := by decide +kernel
set_option maxRecDepth 100000 in
theorem ti_77_644 : dp_tab 77 644 = (.iload 17, 2) := by decide +kernel
set_option maxRecDepth 100000 in
theorem ti_77_646 : dp_tab 77 646 = (.iaload, 1) := by decide +kernel
set_option maxRecDepth 100000 in
theorem ti_77_647 : dp_tab 77 647 = (.aload_n 1, 1) := by decide +kernel
set_option maxRecDepth 100000 in
theorem ti_77_648 : dp_tab 77 648 = (.iload 17, 2) := by decide +kernel
set_option maxRecDepth 100000 in
theorem ti_77_650 : dp_tab 77 650 = (.iconst 0, 1) := by decide +kernel
set_option maxRecDepth 100000 in
theorem ti_77_651 : dp_tab 77 651 = (.invokevirtual 109, 3) := by decide +kernel
set_option maxRecDepth 100000 in
theorem ti_77_654 : dp_tab 77 654 = (.if_icmp .eq 5, 3) := by decide +kernel
set_option maxRecDepth 100000 in
theorem ti_77_657 : dp_tab 77 657 = (.iconst 0, 1) := by decide +kernel
set_option maxRecDepth 100000 in
theorem ti_77_658 : dp_tab 77 658 = (.ireturn, 1) := by decide +kernel
set_option maxRecDepth 100000 in
theorem ti_77_659 : dp_tab 77 659 = (.iinc 17 1, 3) := by decide +kernel
set_option maxRecDepth 100000 in
theorem ti_77_662 : dp_tab 77 662 = (.goto (-114), 3) := by decide +kernel
set_option maxRecDepth 100000 in
theorem ti_77_665 : dp_tab 77 665 = (.iload 14, 2) := by decide +kernel
set_option maxRecDepth 100000 in
theorem ti_77_667 : dp_tab 77 667 = (.iload 16, 2) := by decide +kernel
set_option maxRecDepth 100000 in
theorem ti_77_669 : dp_tab 77 669 = (.if_icmp .ne 42, 3) := by decide +kernel
set_option maxRecDepth 100000 in
theorem ti_77_672 : dp_tab 77 672 = (.aload_n 1, 1) := by decide +kernel
set_option maxRecDepth 100000 in
theorem ti_77_673 : dp_tab 77 673 = (.iconst 5, 1) := by decide +kernel
set_option maxRecDepth 100000 in
theorem ti_77_674 : dp_tab 77 674 = (.invokevirtual 106, 3) := by decide +kernel
set_option maxRecDepth 100000 in
theorem ti_77_677 : dp_tab 77 677 = (.iload 7, 2) := by decide +kernel
set_option maxRecDepth 100000 in
theorem ti_77_679 : dp_tab 77 679 = (.iload 14, 2) := by decide +kernel
set_option maxRecDepth 100000 in
theorem ti_77_681 : dp_tab 77 681 = (.iadd, 1) := by decide +kernel
set_option maxRecDepth 100000 in
theorem ti_77_682 : dp_tab 77 682 = (.if_icmp .ne 29, 3) := by decide +kernel
set_option maxRecDepth 100000 in
theorem ti_77_685 : dp_tab 77 685 = (.aload_n 1, 1) := by decide +kernel
set_option maxRecDepth 100000 in
theorem ti_77_686 : dp_tab 77 686 = (.bipush 6, 2) := by decide +kernel
set_option maxRecDepth 100000 in
theorem ti_77_688 : dp_tab 77 688 = (.invokevirtual 106, 3) := by decide +kernel
set_option maxRecDepth 100000 in
theorem ti_77_691 : dp_tab 77 691 = (.iload 8, 2) := by decide +kernel
set_option maxRecDepth 100000 in
theorem ti_77_693 : dp_tab 77 693 = (.iload 15, 2) := by decide +kernel
set_option maxRecDepth 100000 in
theorem ti_77_695 : dp_tab 77 695 = (.iadd, 1) := by decide +kernel
set_option maxRecDepth 100000 in
theorem ti_77_696 : dp_tab 77 696 = (.if_icmp .ne 15, 3) := by decide +kernel
set_option maxRecDepth 100000 in
theorem ti_77_699 : dp_tab 77 699 = (.aload_n 1, 1) := by decide +kernel
set_option maxRecDepth 100000 in
theorem ti_77_700 : dp_tab 77 700 = (.iconst 4, 1) := by decide +kernel
set_option maxRecDepth 100000 in
theorem ti_77_701 : dp_tab 77 701 = (.invokevirtual 106, 3) := by decide +kernel
set_option maxRecDepth 100000 in
theorem ti_77_704 : dp_tab 77 704 = (.iload 12, 2) := by decide +kernel
set_option maxRecDepth 100000 in
theorem ti_77_706 : dp_tab 77 706 = (.iconst 1, 1) := by decide +kernel
set_option maxRecDepth 100000 in
theorem ti_77_707 : dp_tab 77 707 = (.iadd, 1) := by decide +kernel
set_option maxRecDepth 100000 in
theorem ti_77_708 : dp_tab 77 708 = (.if_icmp .eq 5, 3) := by decide +kernel
set_option maxRecDepth 100000 in
theorem ti_77_711 : dp_tab 77 711 = (.iconst 0, 1) := by decide +kernel
set_option maxRecDepth 100000 in
theorem ti_77_712 : dp_tab 77 712 = (.ireturn, 1) := by decide +kernel
set_option maxRecDepth 100000 in
theorem ti_77_713 : dp_tab 77 713 = (.iconst 0, 1) := by decide +kernel
set_option maxRecDepth 100000 in
theorem ti_77_714 : dp_tab 77 714 = (.istore 17, 2) := by decide +kernel
set_option maxRecDepth 100000 in
theorem ti_77_716 : dp_tab 77 716 = (.iload 17, 2) := by decide +kernel
set_option maxRecDepth 100000 in
theorem ti_77_718 : dp_tab 77 718 = (.iload 5, 2) := by decide +kernel
set_option maxRecDepth 100000 in
theorem ti_77_720 : dp_tab 77 720 = (.if_icmp .ge 28, 3) := by decide +kernel
set_option maxRecDepth 100000 in
theorem ti_77_723 : dp_tab 77 723 = (.aload_n 1, 1) := by decide +kernel
set_option maxRecDepth 100000 in
theorem ti_77_724 : dp_tab 77 724 = (.iload 17, 2) := by decide +kernel
set_option maxRecDepth 100000 in
theorem ti_77_726 : dp_tab 77 726 = (.iconst 2, 1) := by decide +kernel
set_option maxRecDepth 100000 in
theorem ti_77_727 : dp_tab 77 727 = (.invokevirtual 118, 3) := by decide +kernel
set_option maxRecDepth 100000 in
theorem ti_77_730 : dp_tab 77 730 = (.aload 11, 2) := by decide +kernel
set_option maxRecDepth 100000 in
theorem ti_77_732 : dp_tab 77 732 = (.iload 17, 2) := by decide +kernel
set_option maxRecDepth 100000 in
theorem ti_77_734 : dp_tab 77 734 = (.iaload, 1) := by decide +kernel
set_option maxRecDepth 100000 in
theorem ti_77_735 : dp_tab 77 735 = (.iconst 1, 1) := by decide +kernel
set_option maxRecDepth 100000 in
theorem ti_77_736 : dp_tab 77 736 = (.iadd, 1) := by decide +kernel
set_option maxRecDepth 100000 in
theorem ti_77_737 : dp_tab 77 737 = (.if_icmp .eq 5, 3) := by decide +kernel
set_option maxRecDepth 100000 in
theorem ti_77_740 : dp_tab 77 740 = (.iconst 0, 1) := by decide +kernel
set_option maxRecDepth 100000 in
theorem ti_77_741 : dp_tab 77 741 = (.ireturn, 1) := by decide +kernel
set_option maxRecDepth 100000 in
theorem ti_77_742 : dp_tab 77 742 = (.iinc 17 1, 3) := by decide +kernel
set_option maxRecDepth 100000 in
theorem ti_77_745 : dp_tab 77 745 = (.goto (-29), 3) := by decide +kernel
set_option maxRecDepth 100000 in
theorem ti_77_748 : dp_tab 77 748 = (.iload 13, 2) := by decide +kernel
set_option maxRecDepth 100000 in
theorem ti_77_750 : dp_tab 77 750 = (.ifCond .le 16, 3) := by decide +kernel
set_option maxRecDepth 100000 in
theorem ti_77_753 : dp_tab 77 753 = (.aload_n 1, 1) := by decide +kernel
set_option maxRecDepth 100000 in
theorem ti_77_754 : dp_tab 77 754 = (.invokevirtual 121, 3) := by decide +kernel
set_option maxRecDepth 100000 in
theorem ti_77_757 : dp_tab 77 757 = (.iload 13, 2) := by decide +kernel
set_option maxRecDepth 100000 in
theorem ti_77_759 : dp_tab 77 759 = (.iconst 1, 1) := by decide +kernel
set_option maxRecDepth 100000 in
theorem ti_77_760 : dp_tab 77 760 = (.isub, 1) := by decide +kernel
set_option maxRecDepth 100000 in
theorem ti_77_761 : dp_tab 77 761 = (.if_icmp .eq 5, 3) := by decide +kernel
set_option maxRecDepth 100000 in
theorem ti_77_764 : dp_tab 77 764 = (.iconst 0, 1) := by decide +kernel
set_option maxRecDepth 100000 in
theorem ti_77_765 : dp_tab 77 765 = (.ireturn, 1) := by decide +kernel
set_option maxRecDepth 100000 in
theorem ti_77_766 : dp_tab 77 766 = (.iconst 0, 1) := by decide +kernel
set_option maxRecDepth 100000 in
theorem ti_77_767 : dp_tab 77 767 = (.istore 9, 2) := by decide +kernel
set_option maxRecDepth 100000 in
theorem ti_77_769 : dp_tab 77 769 = (.iconst 0, 1) := by decide +kernel
set_option maxRecDepth 100000 in
theorem ti_77_770 : dp_tab 77 770 = (.istore 10, 2) := by decide +kernel
set_option maxRecDepth 100000 in
theorem ti_77_772 : dp_tab 77 772 = (.iload 10, 2) := by decide +kernel
set_option maxRecDepth 100000 in
theorem ti_77_774 : dp_tab 77 774 = (.iload 6, 2) := by decide +kernel
set_option maxRecDepth 100000 in
theorem ti_77_776 : dp_tab 77 776 = (.if_icmp .ge 50, 3) := by decide +kernel
set_option maxRecDepth 100000 in
theorem ti_77_779 : dp_tab 77 779 = (.iload 9, 2) := by decide +kernel
set_option maxRecDepth 100000 in
theorem ti_77_781 : dp_tab 77 781 = (.aload_n 1, 1) := by decide +kernel
set_option maxRecDepth 100000 in
theorem ti_77_782 : dp_tab 77 782 = (.iload 10, 2) := by decide +kernel
set_option maxRecDepth 100000 in
theorem ti_77_784 : dp_tab 77 784 = (.iconst 4, 1) := by decide +kernel
set_option maxRecDepth 100000 in
theorem ti_77_785 : dp_tab 77 785 = (.invokevirtual 109, 3) := by decide +kernel
set_option maxRecDepth 100000 in
theorem ti_77_788 : dp_tab 77 788 = (.iadd, 1) := by decide +kernel
set_option maxRecDepth 100000 in
theorem ti_77_789 : dp_tab 77 789 = (.istore 9, 2) := by decide +kernel
set_option maxRecDepth 100000 in
theorem ti_77_791 : dp_tab 77 791 = (.iconst 0, 1) := by decide +kernel
set_option maxRecDepth 100000 in
theorem ti_77_792 : dp_tab 77 792 = (.istore 11, 2) := by decide +kernel
set_option maxRecDepth 100000 in
theorem ti_77_794 : dp_tab 77 794 = (.iload 11, 2) := by decide +kernel
set_option maxRecDepth 100000 in
theorem ti_77_796 : dp_tab 77 796 = (.iload 5, 2) := by decide +kernel
set_option maxRecDepth 100000 in
theorem ti_77_798 : dp_tab 77 798 = (.if_icmp .ge 22, 3) := by decide +kernel
set_option maxRecDepth 100000 in
theorem ti_77_801 : dp_tab 77 801 = (.aload_n 1, 1) := by decide +kernel
set_option maxRecDepth 100000 in
theorem ti_77_802 : dp_tab 77 802 = (.iload 10, 2) := by decide +kernel
set_option maxRecDepth 100000 in
theorem ti_77_804 : dp_tab 77 804 = (.iload 11, 2) := by decide +kernel
set_option maxRecDepth 100000 in
theorem ti_77_806 : dp_tab 77 806 = (.invokevirtual 115, 3) := by decide +kernel
set_option maxRecDepth 100000 in
theorem ti_77_809 : dp_tab 77 809 = (.ifCond .ge 5, 3) := by decide +kernel
set_option maxRecDepth 100000 in
theorem ti_77_812 : dp_tab 77 812 = (.iconst 0, 1) := by decide +kernel
set_option maxRecDepth 100000 in
theorem ti_77_813 : dp_tab 77 813 = (.ireturn, 1) := by decide +kernel
set_option maxRecDepth 100000 in
theorem ti_77_814 : dp_tab 77 814 = (.iinc 11 1, 3) := by decide +kernel
set_option maxRecDepth 100000 in
theorem ti_77_817 : dp_tab 77 817 = (.goto (-23), 3) := by decide +kernel
set_option maxRecDepth 100000 in
theorem ti_77_820 : dp_tab 77 820 = (.iinc 10 1, 3) := by decide +kernel
set_option maxRecDepth 100000 in
theorem ti_77_823 : dp_tab 77 823 = (.goto (-51), 3) := by decide +kernel
set_option maxRecDepth 100000 in
theorem ti_77_826 : dp_tab 77 826 = (.iload 9, 2) := by decide +kernel
set_option maxRecDepth 100000 in
theorem ti_77_828 : dp_tab 77 828 = (.aload_n 1, 1) := by decide +kernel
set_option maxRecDepth 100000 in
theorem ti_77_829 : dp_tab 77 829 = (.bipush 6, 2) := by decide +kernel
set_option maxRecDepth 100000 in
theorem ti_77_831 : dp_tab 77 831 = (.invokevirtual 106, 3) := by decide +kernel
set_option maxRecDepth 100000 in
theorem ti_77_834 : dp_tab 77 834 = (.if_icmp .eq 5, 3) := by decide +kernel
set_option maxRecDepth 100000 in
theorem ti_77_837 : dp_tab 77 837 = (.iconst 0, 1) := by decide +kernel
set_option maxRecDepth 100000 in
theorem ti_77_838 : dp_tab 77 838 = (.ireturn, 1) := by decide +kernel
set_option maxRecDepth 100000 in
theorem ti_77_839 : dp_tab 77 839 = (.iinc 3 1, 3) := by decide +kernel
set_option maxRecDepth 100000 in
theorem ti_77_842 : dp_tab 77 842 = (.goto (-820), 3) := by decide +kernel
set_option maxRecDepth 100000 in
theorem ti_77_845 : dp_tab 77 845 = (.aload_n 2, 1) := by decide +kernel
set_option maxRecDepth 100000 in
theorem ti_77_846 : dp_tab 77 846 = (.aload_n 1, 1) := by decide +kernel
set_option maxRecDepth 100000 in
theorem ti_77_847 : dp_tab 77 847 = (.invokevirtual 129, 3) := by decide +kernel
set_option maxRecDepth 100000 in
theorem ti_77_850 : dp_tab 77 850 = (.ireturn, 1) := by decide +kernel
