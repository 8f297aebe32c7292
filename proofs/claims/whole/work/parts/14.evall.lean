/-! the same, of the law and its helpers -/
set_option maxRecDepth 100000 in
theorem ti_123_0 : dp_tab 123 0 = (.iconst 0, 1) := by decide +kernel
set_option maxRecDepth 100000 in
theorem ti_123_1 : dp_tab 123 1 = (.istore_n 2, 1) := by decide +kernel
set_option maxRecDepth 100000 in
theorem ti_123_2 : dp_tab 123 2 = (.aload_n 0, 1) := by decide +kernel
set_option maxRecDepth 100000 in
theorem ti_123_3 : dp_tab 123 3 = (.arraylength, 1) := by decide +kernel
set_option maxRecDepth 100000 in
theorem ti_123_4 : dp_tab 123 4 = (.istore_n 3, 1) := by decide +kernel
set_option maxRecDepth 100000 in
theorem ti_123_5 : dp_tab 123 5 = (.iload_n 2, 1) := by decide +kernel
set_option maxRecDepth 100000 in
theorem ti_123_6 : dp_tab 123 6 = (.iload_n 3, 1) := by decide +kernel
set_option maxRecDepth 100000 in
theorem ti_123_7 : dp_tab 123 7 = (.if_icmp .ge 13, 3) := by decide +kernel
set_option maxRecDepth 100000 in
theorem ti_123_10 : dp_tab 123 10 = (.aload_n 0, 1) := by decide +kernel
set_option maxRecDepth 100000 in
theorem ti_123_11 : dp_tab 123 11 = (.iload_n 2, 1) := by decide +kernel
set_option maxRecDepth 100000 in
theorem ti_123_12 : dp_tab 123 12 = (.iload_n 1, 1) := by decide +kernel
set_option maxRecDepth 100000 in
theorem ti_123_13 : dp_tab 123 13 = (.iastore, 1) := by decide +kernel
set_option maxRecDepth 100000 in
theorem ti_123_14 : dp_tab 123 14 = (.iinc 2 1, 3) := by decide +kernel
set_option maxRecDepth 100000 in
theorem ti_123_17 : dp_tab 123 17 = (.goto (-12), 3) := by decide +kernel
set_option maxRecDepth 100000 in
theorem ti_123_20 : dp_tab 123 20 = (.return_, 1) := by decide +kernel
set_option maxRecDepth 100000 in
theorem ti_124_0 : dp_tab 124 0 = (.aload_n 3, 1) := by decide +kernel
set_option maxRecDepth 100000 in
theorem ti_124_1 : dp_tab 124 1 = (.iconst 0, 1) := by decide +kernel
set_option maxRecDepth 100000 in
theorem ti_124_2 : dp_tab 124 2 = (.aload_n 0, 1) := by decide +kernel
set_option maxRecDepth 100000 in
theorem ti_124_3 : dp_tab 124 3 = (.iload_n 1, 1) := by decide +kernel
set_option maxRecDepth 100000 in
theorem ti_124_4 : dp_tab 124 4 = (.iload_n 2, 1) := by decide +kernel
set_option maxRecDepth 100000 in
theorem ti_124_5 : dp_tab 124 5 = (.invokevirtual 7, 3) := by decide +kernel
set_option maxRecDepth 100000 in
theorem ti_124_8 : dp_tab 124 8 = (.i2l, 1) := by decide +kernel
set_option maxRecDepth 100000 in
theorem ti_124_9 : dp_tab 124 9 = (.lastore, 1) := by decide +kernel
set_option maxRecDepth 100000 in
theorem ti_124_10 : dp_tab 124 10 = (.goto 7, 3) := by decide +kernel
set_option maxRecDepth 100000 in
theorem ti_124_13 : dp_tab 124 13 = (.astore 4, 2) := by decide +kernel
set_option maxRecDepth 100000 in
theorem ti_124_15 : dp_tab 124 15 = (.iconst 1, 1) := by decide +kernel
set_option maxRecDepth 100000 in
theorem ti_124_16 : dp_tab 124 16 = (.ireturn, 1) := by decide +kernel
set_option maxRecDepth 100000 in
theorem ti_124_17 : dp_tab 124 17 = (.iconst 0, 1) := by decide +kernel
set_option maxRecDepth 100000 in
theorem ti_124_18 : dp_tab 124 18 = (.ireturn, 1) := by decide +kernel
set_option maxRecDepth 100000 in
theorem ti_125_0 : dp_tab 125 0 = (.aload_n 1, 1) := by decide +kernel
set_option maxRecDepth 100000 in
theorem ti_125_1 : dp_tab 125 1 = (.iconst 0, 1) := by decide +kernel
set_option maxRecDepth 100000 in
theorem ti_125_2 : dp_tab 125 2 = (.aload_n 0, 1) := by decide +kernel
set_option maxRecDepth 100000 in
theorem ti_125_3 : dp_tab 125 3 = (.invokevirtual 15, 3) := by decide +kernel
set_option maxRecDepth 100000 in
theorem ti_125_6 : dp_tab 125 6 = (.i2l, 1) := by decide +kernel
set_option maxRecDepth 100000 in
theorem ti_125_7 : dp_tab 125 7 = (.lastore, 1) := by decide +kernel
set_option maxRecDepth 100000 in
theorem ti_125_8 : dp_tab 125 8 = (.goto 6, 3) := by decide +kernel
set_option maxRecDepth 100000 in
theorem ti_125_11 : dp_tab 125 11 = (.astore_n 2, 1) := by decide +kernel
set_option maxRecDepth 100000 in
theorem ti_125_12 : dp_tab 125 12 = (.iconst 1, 1) := by decide +kernel
set_option maxRecDepth 100000 in
theorem ti_125_13 : dp_tab 125 13 = (.ireturn, 1) := by decide +kernel
set_option maxRecDepth 100000 in
theorem ti_125_14 : dp_tab 125 14 = (.iconst 0, 1) := by decide +kernel
set_option maxRecDepth 100000 in
theorem ti_125_15 : dp_tab 125 15 = (.ireturn, 1) := by decide +kernel
set_option maxRecDepth 100000 in
theorem ti_126_0 : dp_tab 126 0 = (.aload_n 3, 1) := by decide +kernel
set_option maxRecDepth 100000 in
theorem ti_126_1 : dp_tab 126 1 = (.iconst 0, 1) := by decide +kernel
set_option maxRecDepth 100000 in
theorem ti_126_2 : dp_tab 126 2 = (.aload_n 0, 1) := by decide +kernel
set_option maxRecDepth 100000 in
theorem ti_126_3 : dp_tab 126 3 = (.iload_n 1, 1) := by decide +kernel
set_option maxRecDepth 100000 in
theorem ti_126_4 : dp_tab 126 4 = (.iload_n 2, 1) := by decide +kernel
set_option maxRecDepth 100000 in
theorem ti_126_5 : dp_tab 126 5 = (.invokevirtual 21, 3) := by decide +kernel
set_option maxRecDepth 100000 in
theorem ti_126_8 : dp_tab 126 8 = (.i2l, 1) := by decide +kernel
set_option maxRecDepth 100000 in
theorem ti_126_9 : dp_tab 126 9 = (.lastore, 1) := by decide +kernel
set_option maxRecDepth 100000 in
theorem ti_126_10 : dp_tab 126 10 = (.goto 11, 3) := by decide +kernel
set_option maxRecDepth 100000 in
theorem ti_126_13 : dp_tab 126 13 = (.astore 4, 2) := by decide +kernel
set_option maxRecDepth 100000 in
theorem ti_126_15 : dp_tab 126 15 = (.iconst 1, 1) := by decide +kernel
set_option maxRecDepth 100000 in
theorem ti_126_16 : dp_tab 126 16 = (.ireturn, 1) := by decide +kernel
set_option maxRecDepth 100000 in
theorem ti_126_17 : dp_tab 126 17 = (.astore 4, 2) := by decide +kernel
set_option maxRecDepth 100000 in
theorem ti_126_19 : dp_tab 126 19 = (.iconst 2, 1) := by decide +kernel
set_option maxRecDepth 100000 in
theorem ti_126_20 : dp_tab 126 20 = (.ireturn, 1) := by decide +kernel
set_option maxRecDepth 100000 in
theorem ti_126_21 : dp_tab 126 21 = (.iconst 0, 1) := by decide +kernel
set_option maxRecDepth 100000 in
theorem ti_126_22 : dp_tab 126 22 = (.ireturn, 1) := by decide +kernel
set_option maxRecDepth 100000 in
theorem ti_127_0 : dp_tab 127 0 = (.aload_n 3, 1) := by decide +kernel
set_option maxRecDepth 100000 in
theorem ti_127_1 : dp_tab 127 1 = (.iconst 0, 1) := by decide +kernel
set_option maxRecDepth 100000 in
theorem ti_127_2 : dp_tab 127 2 = (.aload_n 0, 1) := by decide +kernel
set_option maxRecDepth 100000 in
theorem ti_127_3 : dp_tab 127 3 = (.iload_n 1, 1) := by decide +kernel
set_option maxRecDepth 100000 in
theorem ti_127_4 : dp_tab 127 4 = (.iload_n 2, 1) := by decide +kernel
set_option maxRecDepth 100000 in
theorem ti_127_5 : dp_tab 127 5 = (.invokevirtual 24, 3) := by decide +kernel
set_option maxRecDepth 100000 in
theorem ti_127_8 : dp_tab 127 8 = (.i2l, 1) := by decide +kernel
set_option maxRecDepth 100000 in
theorem ti_127_9 : dp_tab 127 9 = (.lastore, 1) := by decide +kernel
set_option maxRecDepth 100000 in
theorem ti_127_10 : dp_tab 127 10 = (.goto 7, 3) := by decide +kernel
set_option maxRecDepth 100000 in
theorem ti_127_13 : dp_tab 127 13 = (.astore 4, 2) := by decide +kernel
set_option maxRecDepth 100000 in
theorem ti_127_15 : dp_tab 127 15 = (.iconst 1, 1) := by decide +kernel
set_option maxRecDepth 100000 in
theorem ti_127_16 : dp_tab 127 16 = (.ireturn, 1) := by decide +kernel
set_option maxRecDepth 100000 in
theorem ti_127_17 : dp_tab 127 17 = (.iconst 0, 1) := by decide +kernel
set_option maxRecDepth 100000 in
theorem ti_127_18 : dp_tab 127 18 = (.ireturn, 1) := by decide +kernel
set_option maxRecDepth 100000 in
theorem ti_128_0 : dp_tab 128 0 = (.aload_n 2, 1) := by decide +kernel
set_option maxRecDepth 100000 in
theorem ti_128_1 : dp_tab 128 1 = (.iconst 0, 1) := by decide +kernel
set_option maxRecDepth 100000 in
theorem ti_128_2 : dp_tab 128 2 = (.aload_n 0, 1) := by decide +kernel
set_option maxRecDepth 100000 in
theorem ti_128_3 : dp_tab 128 3 = (.iload_n 1, 1) := by decide +kernel
set_option maxRecDepth 100000 in
theorem ti_128_4 : dp_tab 128 4 = (.invokevirtual 27, 3) := by decide +kernel
set_option maxRecDepth 100000 in
theorem ti_128_7 : dp_tab 128 7 = (.i2l, 1) := by decide +kernel
set_option maxRecDepth 100000 in
theorem ti_128_8 : dp_tab 128 8 = (.lastore, 1) := by decide +kernel
set_option maxRecDepth 100000 in
theorem ti_128_9 : dp_tab 128 9 = (.goto 9, 3) := by decide +kernel
set_option maxRecDepth 100000 in
theorem ti_128_12 : dp_tab 128 12 = (.astore_n 3, 1) := by decide +kernel
set_option maxRecDepth 100000 in
theorem ti_128_13 : dp_tab 128 13 = (.iconst 1, 1) := by decide +kernel
set_option maxRecDepth 100000 in
theorem ti_128_14 : dp_tab 128 14 = (.ireturn, 1) := by decide +kernel
set_option maxRecDepth 100000 in
theorem ti_128_15 : dp_tab 128 15 = (.astore_n 3, 1) := by decide +kernel
set_option maxRecDepth 100000 in
theorem ti_128_16 : dp_tab 128 16 = (.iconst 2, 1) := by decide +kernel
set_option maxRecDepth 100000 in
theorem ti_128_17 : dp_tab 128 17 = (.ireturn, 1) := by decide +kernel
set_option maxRecDepth 100000 in
theorem ti_128_18 : dp_tab 128 18 = (.iconst 0, 1) := by decide +kernel
set_option maxRecDepth 100000 in
theorem ti_128_19 : dp_tab 128 19 = (.ireturn, 1) := by decide +kernel
set_option maxRecDepth 100000 in
theorem ti_129_0 : dp_tab 129 0 = (.aload_n 3, 1) := by decide +kernel
set_option maxRecDepth 100000 in
theorem ti_129_1 : dp_tab 129 1 = (.iconst 0, 1) := by decide +kernel
set_option maxRecDepth 100000 in
theorem ti_129_2 : dp_tab 129 2 = (.aload_n 0, 1) := by decide +kernel
set_option maxRecDepth 100000 in
theorem ti_129_3 : dp_tab 129 3 = (.iload_n 1, 1) := by decide +kernel
set_option maxRecDepth 100000 in
theorem ti_129_4 : dp_tab 129 4 = (.iload_n 2, 1) := by decide +kernel
set_option maxRecDepth 100000 in
theorem ti_129_5 : dp_tab 129 5 = (.invokevirtual 33, 3) := by decide +kernel
set_option maxRecDepth 100000 in
theorem ti_129_8 : dp_tab 129 8 = (.i2l, 1) := by decide +kernel
set_option maxRecDepth 100000 in
theorem ti_129_9 : dp_tab 129 9 = (.lastore, 1) := by decide +kernel
set_option maxRecDepth 100000 in
theorem ti_129_10 : dp_tab 129 10 = (.goto 11, 3) := by decide +kernel
set_option maxRecDepth 100000 in
theorem ti_129_13 : dp_tab 129 13 = (.astore 4, 2) := by decide +kernel
set_option maxRecDepth 100000 in
theorem ti_129_15 : dp_tab 129 15 = (.iconst 1, 1) := by decide +kernel
set_option maxRecDepth 100000 in
theorem ti_129_16 : dp_tab 129 16 = (.ireturn, 1) := by decide +kernel
set_option maxRecDepth 100000 in
theorem ti_129_17 : dp_tab 129 17 = (.astore 4, 2) := by decide +kernel
set_option maxRecDepth 100000 in
theorem ti_129_19 : dp_tab 129 19 = (.iconst 2, 1) := by decide +kernel
set_option maxRecDepth 100000 in
theorem ti_129_20 : dp_tab 129 20 = (.ireturn, 1) := by decide +kernel
set_option maxRecDepth 100000 in
theorem ti_129_21 : dp_tab 129 21 = (.iconst 0, 1) := by decide +kernel
set_option maxRecDepth 100000 in
theorem ti_129_22 : dp_tab 129 22 = (.ireturn, 1) := by decide +kernel
set_option maxRecDepth 100000 in
theorem ti_130_0 : dp_tab 130 0 = (.aload_n 3, 1) := by decide +kernel
set_option maxRecDepth 100000 in
theorem ti_130_1 : dp_tab 130 1 = (.iconst 0, 1) := by decide +kernel
set_option maxRecDepth 100000 in
theorem ti_130_2 : dp_tab 130 2 = (.aload_n 0, 1) := by decide +kernel
set_option maxRecDepth 100000 in
theorem ti_130_3 : dp_tab 130 3 = (.iload_n 1, 1) := by decide +kernel
set_option maxRecDepth 100000 in
theorem ti_130_4 : dp_tab 130 4 = (.iload_n 2, 1) := by decide +kernel
set_option maxRecDepth 100000 in
theorem ti_130_5 : dp_tab 130 5 = (.invokevirtual 36, 3) := by decide +kernel
set_option maxRecDepth 100000 in
theorem ti_130_8 : dp_tab 130 8 = (.i2l, 1) := by decide +kernel
set_option maxRecDepth 100000 in
theorem ti_130_9 : dp_tab 130 9 = (.lastore, 1) := by decide +kernel
set_option maxRecDepth 100000 in
theorem ti_130_10 : dp_tab 130 10 = (.goto 11, 3) := by decide +kernel
set_option maxRecDepth 100000 in
theorem ti_130_13 : dp_tab 130 13 = (.astore 4, 2) := by decide +kernel
set_option maxRecDepth 100000 in
theorem ti_130_15 : dp_tab 130 15 = (.iconst 1, 1) := by decide +kernel
set_option maxRecDepth 100000 in
theorem ti_130_16 : dp_tab 130 16 = (.ireturn, 1) := by decide +kernel
set_option maxRecDepth 100000 in
theorem ti_130_17 : dp_tab 130 17 = (.astore 4, 2) := by decide +kernel
set_option maxRecDepth 100000 in
theorem ti_130_19 : dp_tab 130 19 = (.iconst 2, 1) := by decide +kernel
set_option maxRecDepth 100000 in
theorem ti_130_20 : dp_tab 130 20 = (.ireturn, 1) := by decide +kernel
set_option maxRecDepth 100000 in
theorem ti_130_21 : dp_tab 130 21 = (.iconst 0, 1) := by decide +kernel
set_option maxRecDepth 100000 in
theorem ti_130_22 : dp_tab 130 22 = (.ireturn, 1) := by decide +kernel
set_option maxRecDepth 100000 in
theorem ti_131_0 : dp_tab 131 0 = (.aload_n 3, 1) := by decide +kernel
set_option maxRecDepth 100000 in
theorem ti_131_1 : dp_tab 131 1 = (.iconst 0, 1) := by decide +kernel
set_option maxRecDepth 100000 in
theorem ti_131_2 : dp_tab 131 2 = (.aload_n 0, 1) := by decide +kernel
set_option maxRecDepth 100000 in
theorem ti_131_3 : dp_tab 131 3 = (.iload_n 1, 1) := by decide +kernel
set_option maxRecDepth 100000 in
theorem ti_131_4 : dp_tab 131 4 = (.iload_n 2, 1) := by decide +kernel
set_option maxRecDepth 100000 in
theorem ti_131_5 : dp_tab 131 5 = (.invokevirtual 39, 3) := by decide +kernel
set_option maxRecDepth 100000 in
theorem ti_131_8 : dp_tab 131 8 = (.i2l, 1) := by decide +kernel
set_option maxRecDepth 100000 in
theorem ti_131_9 : dp_tab 131 9 = (.lastore, 1) := by decide +kernel
set_option maxRecDepth 100000 in
theorem ti_131_10 : dp_tab 131 10 = (.goto 11, 3) := by decide +kernel
set_option maxRecDepth 100000 in
theorem ti_131_13 : dp_tab 131 13 = (.astore 4, 2) := by decide +kernel
set_option maxRecDepth 100000 in
theorem ti_131_15 : dp_tab 131 15 = (.iconst 1, 1) := by decide +kernel
set_option maxRecDepth 100000 in
theorem ti_131_16 : dp_tab 131 16 = (.ireturn, 1) := by decide +kernel
set_option maxRecDepth 100000 in
theorem ti_131_17 : dp_tab 131 17 = (.astore 4, 2) := by decide +kernel
set_option maxRecDepth 100000 in
theorem ti_131_19 : dp_tab 131 19 = (.iconst 2, 1) := by decide +kernel
set_option maxRecDepth 100000 in
theorem ti_131_20 : dp_tab 131 20 = (.ireturn, 1) := by decide +kernel
set_option maxRecDepth 100000 in
theorem ti_131_21 : dp_tab 131 21 = (.iconst 0, 1) := by decide +kernel
set_option maxRecDepth 100000 in
theorem ti_131_22 : dp_tab 131 22 = (.ireturn, 1) := by decide +kernel
set_option maxRecDepth 100000 in
theorem ti_132_0 : dp_tab 132 0 = (.aload_n 3, 1) := by decide +kernel
set_option maxRecDepth 100000 in
theorem ti_132_1 : dp_tab 132 1 = (.iconst 0, 1) := by decide +kernel
set_option maxRecDepth 100000 in
theorem ti_132_2 : dp_tab 132 2 = (.aload_n 0, 1) := by decide +kernel
set_option maxRecDepth 100000 in
theorem ti_132_3 : dp_tab 132 3 = (.iload_n 1, 1) := by decide +kernel
set_option maxRecDepth 100000 in
theorem ti_132_4 : dp_tab 132 4 = (.iload_n 2, 1) := by decide +kernel
set_option maxRecDepth 100000 in
theorem ti_132_5 : dp_tab 132 5 = (.invokevirtual 42, 3) := by decide +kernel
set_option maxRecDepth 100000 in
theorem ti_132_8 : dp_tab 132 8 = (.i2l, 1) := by decide +kernel
set_option maxRecDepth 100000 in
theorem ti_132_9 : dp_tab 132 9 = (.lastore, 1) := by decide +kernel
set_option maxRecDepth 100000 in
theorem ti_132_10 : dp_tab 132 10 = (.goto 11, 3) := by decide +kernel
set_option maxRecDepth 100000 in
theorem ti_132_13 : dp_tab 132 13 = (.astore 4, 2) := by decide +kernel
set_option maxRecDepth 100000 in
theorem ti_132_15 : dp_tab 132 15 = (.iconst 1, 1) := by decide +kernel
set_option maxRecDepth 100000 in
theorem ti_132_16 : dp_tab 132 16 = (.ireturn, 1) := by decide +kernel
set_option maxRecDepth 100000 in
theorem ti_132_17 : dp_tab 132 17 = (.astore 4, 2) := by decide +kernel
set_option maxRecDepth 100000 in
theorem ti_132_19 : dp_tab 132 19 = (.iconst 2, 1) := by decide +kernel
set_option maxRecDepth 100000 in
theorem ti_132_20 : dp_tab 132 20 = (.ireturn, 1) := by decide +kernel
set_option maxRecDepth 100000 in
theorem ti_132_21 : dp_tab 132 21 = (.iconst 0, 1) := by decide +kernel
set_option maxRecDepth 100000 in
theorem ti_132_22 : dp_tab 132 22 = (.ireturn, 1) := by decide +kernel
set_option maxRecDepth 100000 in
theorem ti_133_0 : dp_tab 133 0 = (.aload_n 2, 1) := by decide +kernel
set_option maxRecDepth 100000 in
theorem ti_133_1 : dp_tab 133 1 = (.iconst 0, 1) := by decide +kernel
set_option maxRecDepth 100000 in
theorem ti_133_2 : dp_tab 133 2 = (.aload_n 0, 1) := by decide +kernel
set_option maxRecDepth 100000 in
theorem ti_133_3 : dp_tab 133 3 = (.iload_n 1, 1) := by decide +kernel
set_option maxRecDepth 100000 in
theorem ti_133_4 : dp_tab 133 4 = (.invokevirtual 45, 3) := by decide +kernel
set_option maxRecDepth 100000 in
theorem ti_133_7 : dp_tab 133 7 = (.i2l, 1) := by decide +kernel
set_option maxRecDepth 100000 in
theorem ti_133_8 : dp_tab 133 8 = (.lastore, 1) := by decide +kernel
set_option maxRecDepth 100000 in
theorem ti_133_9 : dp_tab 133 9 = (.goto 6, 3) := by decide +kernel
set_option maxRecDepth 100000 in
theorem ti_133_12 : dp_tab 133 12 = (.astore_n 3, 1) := by decide +kernel
set_option maxRecDepth 100000 in
theorem ti_133_13 : dp_tab 133 13 = (.iconst 1, 1) := by decide +kernel
set_option maxRecDepth 100000 in
theorem ti_133_14 : dp_tab 133 14 = (.ireturn, 1) := by decide +kernel
set_option maxRecDepth 100000 in
theorem ti_133_15 : dp_tab 133 15 = (.iconst 0, 1) := by decide +kernel
set_option maxRecDepth 100000 in
theorem ti_133_16 : dp_tab 133 16 = (.ireturn, 1) := by decide +kernel
set_option maxRecDepth 100000 in
theorem ti_134_0 : dp_tab 134 0 = (.aload_n 2, 1) := by decide +kernel
set_option maxRecDepth 100000 in
theorem ti_134_1 : dp_tab 134 1 = (.iconst 0, 1) := by decide +kernel
set_option maxRecDepth 100000 in
theorem ti_134_2 : dp_tab 134 2 = (.aload_n 0, 1) := by decide +kernel
set_option maxRecDepth 100000 in
theorem ti_134_3 : dp_tab 134 3 = (.iload_n 1, 1) := by decide +kernel
set_option maxRecDepth 100000 in
theorem ti_134_4 : dp_tab 134 4 = (.invokevirtual 48, 3) := by decide +kernel
set_option maxRecDepth 100000 in
theorem ti_134_7 : dp_tab 134 7 = (.i2l, 1) := by decide +kernel
set_option maxRecDepth 100000 in
theorem ti_134_8 : dp_tab 134 8 = (.lastore, 1) := by decide +kernel
set_option maxRecDepth 100000 in
theorem ti_134_9 : dp_tab 134 9 = (.goto 6, 3) := by decide +kernel
set_option maxRecDepth 100000 in
theorem ti_134_12 : dp_tab 134 12 = (.astore_n 3, 1) := by decide +kernel
set_option maxRecDepth 100000 in
theorem ti_134_13 : dp_tab 134 13 = (.iconst 1, 1) := by decide +kernel
set_option maxRecDepth 100000 in
theorem ti_134_14 : dp_tab 134 14 = (.ireturn, 1) := by decide +kernel
set_option maxRecDepth 100000 in
theorem ti_134_15 : dp_tab 134 15 = (.iconst 0, 1) := by decide +kernel
set_option maxRecDepth 100000 in
theorem ti_134_16 : dp_tab 134 16 = (.ireturn, 1) := by decide +kernel
set_option maxRecDepth 100000 in
theorem ti_135_0 : dp_tab 135 0 = (.aload_n 3, 1) := by decide +kernel
set_option maxRecDepth 100000 in
theorem ti_135_1 : dp_tab 135 1 = (.iconst 0, 1) := by decide +kernel
set_option maxRecDepth 100000 in
theorem ti_135_2 : dp_tab 135 2 = (.aload_n 0, 1) := by decide +kernel
set_option maxRecDepth 100000 in
theorem ti_135_3 : dp_tab 135 3 = (.iload_n 1, 1) := by decide +kernel
set_option maxRecDepth 100000 in
theorem ti_135_4 : dp_tab 135 4 = (.iload_n 2, 1) := by decide +kernel
set_option maxRecDepth 100000 in
theorem ti_135_5 : dp_tab 135 5 = (.invokevirtual 51, 3) := by decide +kernel
set_option maxRecDepth 100000 in
theorem ti_135_8 : dp_tab 135 8 = (.i2l, 1) := by decide +kernel
set_option maxRecDepth 100000 in
theorem ti_135_9 : dp_tab 135 9 = (.lastore, 1) := by decide +kernel
set_option maxRecDepth 100000 in
theorem ti_135_10 : dp_tab 135 10 = (.goto 7, 3) := by decide +kernel
set_option maxRecDepth 100000 in
theorem ti_135_13 : dp_tab 135 13 = (.astore 4, 2) := by decide +kernel
set_option maxRecDepth 100000 in
theorem ti_135_15 : dp_tab 135 15 = (.iconst 1, 1) := by decide +kernel
set_option maxRecDepth 100000 in
theorem ti_135_16 : dp_tab 135 16 = (.ireturn, 1) := by decide +kernel
set_option maxRecDepth 100000 in
theorem ti_135_17 : dp_tab 135 17 = (.iconst 0, 1) := by decide +kernel
set_option maxRecDepth 100000 in
theorem ti_135_18 : dp_tab 135 18 = (.ireturn, 1) := by decide +kernel
set_option maxRecDepth 100000 in
theorem ti_136_0 : dp_tab 136 0 = (.aload_n 3, 1) := by decide +kernel
set_option maxRecDepth 100000 in
theorem ti_136_1 : dp_tab 136 1 = (.iconst 0, 1) := by decide +kernel
set_option maxRecDepth 100000 in
theorem ti_136_2 : dp_tab 136 2 = (.aload_n 0, 1) := by decide +kernel
set_option maxRecDepth 100000 in
theorem ti_136_3 : dp_tab 136 3 = (.iload_n 1, 1) := by decide +kernel
set_option maxRecDepth 100000 in
theorem ti_136_4 : dp_tab 136 4 = (.iload_n 2, 1) := by decide +kernel
set_option maxRecDepth 100000 in
theorem ti_136_5 : dp_tab 136 5 = (.invokevirtual 54, 3) := by decide +kernel
set_option maxRecDepth 100000 in
theorem ti_136_8 : dp_tab 136 8 = (.i2l, 1) := by decide +kernel
set_option maxRecDepth 100000 in
theorem ti_136_9 : dp_tab 136 9 = (.lastore, 1) := by decide +kernel
set_option maxRecDepth 100000 in
theorem ti_136_10 : dp_tab 136 10 = (.goto 7, 3) := by decide +kernel
set_option maxRecDepth 100000 in
theorem ti_136_13 : dp_tab 136 13 = (.astore 4, 2) := by decide +kernel
set_option maxRecDepth 100000 in
theorem ti_136_15 : dp_tab 136 15 = (.iconst 1, 1) := by decide +kernel
set_option maxRecDepth 100000 in
theorem ti_136_16 : dp_tab 136 16 = (.ireturn, 1) := by decide +kernel
set_option maxRecDepth 100000 in
theorem ti_136_17 : dp_tab 136 17 = (.iconst 0, 1) := by decide +kernel
set_option maxRecDepth 100000 in
theorem ti_136_18 : dp_tab 136 18 = (.ireturn, 1) := by decide +kernel
set_option maxRecDepth 100000 in
theorem ti_137_0 : dp_tab 137 0 = (.aload_n 3, 1) := by decide +kernel
set_option maxRecDepth 100000 in
theorem ti_137_1 : dp_tab 137 1 = (.iconst 0, 1) := by decide +kernel
set_option maxRecDepth 100000 in
theorem ti_137_2 : dp_tab 137 2 = (.aload_n 0, 1) := by decide +kernel
set_option maxRecDepth 100000 in
theorem ti_137_3 : dp_tab 137 3 = (.iload_n 1, 1) := by decide +kernel
set_option maxRecDepth 100000 in
theorem ti_137_4 : dp_tab 137 4 = (.iload_n 2, 1) := by decide +kernel
set_option maxRecDepth 100000 in
theorem ti_137_5 : dp_tab 137 5 = (.invokevirtual 57, 3) := by decide +kernel
set_option maxRecDepth 100000 in
theorem ti_137_8 : dp_tab 137 8 = (.i2l, 1) := by decide +kernel
set_option maxRecDepth 100000 in
theorem ti_137_9 : dp_tab 137 9 = (.lastore, 1) := by decide +kernel
set_option maxRecDepth 100000 in
theorem ti_137_10 : dp_tab 137 10 = (.goto 7, 3) := by decide +kernel
set_option maxRecDepth 100000 in
theorem ti_137_13 : dp_tab 137 13 = (.astore 4, 2) := by decide +kernel
set_option maxRecDepth 100000 in
theorem ti_137_15 : dp_tab 137 15 = (.iconst 1, 1) := by decide +kernel
set_option maxRecDepth 100000 in
theorem ti_137_16 : dp_tab 137 16 = (.ireturn, 1) := by decide +kernel
set_option maxRecDepth 100000 in
theorem ti_137_17 : dp_tab 137 17 = (.iconst 0, 1) := by decide +kernel
set_option maxRecDepth 100000 in
theorem ti_137_18 : dp_tab 137 18 = (.ireturn, 1) := by decide +kernel
set_option maxRecDepth 100000 in
theorem ti_138_0 : dp_tab 138 0 = (.aload_n 3, 1) := by decide +kernel
set_option maxRecDepth 100000 in
theorem ti_138_1 : dp_tab 138 1 = (.iconst 0, 1) := by decide +kernel
set_option maxRecDepth 100000 in
theorem ti_138_2 : dp_tab 138 2 = (.aload_n 0, 1) := by decide +kernel
set_option maxRecDepth 100000 in
theorem ti_138_3 : dp_tab 138 3 = (.iload_n 1, 1) := by decide +kernel
set_option maxRecDepth 100000 in
theorem ti_138_4 : dp_tab 138 4 = (.iload_n 2, 1) := by decide +kernel
set_option maxRecDepth 100000 in
theorem ti_138_5 : dp_tab 138 5 = (.invokevirtual 60, 3) := by decide +kernel
set_option maxRecDepth 100000 in
theorem ti_138_8 : dp_tab 138 8 = (.i2l, 1) := by decide +kernel
set_option maxRecDepth 100000 in
theorem ti_138_9 : dp_tab 138 9 = (.lastore, 1) := by decide +kernel
set_option maxRecDepth 100000 in
theorem ti_138_10 : dp_tab 138 10 = (.goto 7, 3) := by decide +kernel
set_option maxRecDepth 100000 in
theorem ti_138_13 : dp_tab 138 13 = (.astore 4, 2) := by decide +kernel
set_option maxRecDepth 100000 in
theorem ti_138_15 : dp_tab 138 15 = (.iconst 1, 1) := by decide +kernel
set_option maxRecDepth 100000 in
theorem ti_138_16 : dp_tab 138 16 = (.ireturn, 1) := by decide +kernel
set_option maxRecDepth 100000 in
theorem ti_138_17 : dp_tab 138 17 = (.iconst 0, 1) := by decide +kernel
set_option maxRecDepth 100000 in
theorem ti_138_18 : dp_tab 138 18 = (.ireturn, 1) := by decide +kernel
set_option maxRecDepth 100000 in
theorem ti_139_0 : dp_tab 139 0 = (.aload_n 2, 1) := by decide +kernel
set_option maxRecDepth 100000 in
theorem ti_139_1 : dp_tab 139 1 = (.iconst 0, 1) := by decide +kernel
set_option maxRecDepth 100000 in
theorem ti_139_2 : dp_tab 139 2 = (.aload_n 0, 1) := by decide +kernel
set_option maxRecDepth 100000 in
theorem ti_139_3 : dp_tab 139 3 = (.iload_n 1, 1) := by decide +kernel
set_option maxRecDepth 100000 in
theorem ti_139_4 : dp_tab 139 4 = (.invokevirtual 63, 3) := by decide +kernel
set_option maxRecDepth 100000 in
theorem ti_139_7 : dp_tab 139 7 = (.i2l, 1) := by decide +kernel
set_option maxRecDepth 100000 in
theorem ti_139_8 : dp_tab 139 8 = (.lastore, 1) := by decide +kernel
set_option maxRecDepth 100000 in
theorem ti_139_9 : dp_tab 139 9 = (.goto 6, 3) := by decide +kernel
set_option maxRecDepth 100000 in
theorem ti_139_12 : dp_tab 139 12 = (.astore_n 3, 1) := by decide +kernel
set_option maxRecDepth 100000 in
theorem ti_139_13 : dp_tab 139 13 = (.iconst 1, 1) := by decide +kernel
set_option maxRecDepth 100000 in
theorem ti_139_14 : dp_tab 139 14 = (.ireturn, 1) := by decide +kernel
set_option maxRecDepth 100000 in
theorem ti_139_15 : dp_tab 139 15 = (.iconst 0, 1) := by decide +kernel
set_option maxRecDepth 100000 in
theorem ti_139_16 : dp_tab 139 16 = (.ireturn, 1) := by decide +kernel
set_option maxRecDepth 100000 in
theorem ti_140_0 : dp_tab 140 0 = (.aload_n 2, 1) := by decide +kernel
set_option maxRecDepth 100000 in
theorem ti_140_1 : dp_tab 140 1 = (.iconst 0, 1) := by decide +kernel
set_option maxRecDepth 100000 in
theorem ti_140_2 : dp_tab 140 2 = (.aload_n 0, 1) := by decide +kernel
set_option maxRecDepth 100000 in
theorem ti_140_3 : dp_tab 140 3 = (.iload_n 1, 1) := by decide +kernel
set_option maxRecDepth 100000 in
theorem ti_140_4 : dp_tab 140 4 = (.invokevirtual 66, 3) := by decide +kernel
set_option maxRecDepth 100000 in
theorem ti_140_7 : dp_tab 140 7 = (.i2l, 1) := by decide +kernel
set_option maxRecDepth 100000 in
theorem ti_140_8 : dp_tab 140 8 = (.lastore, 1) := by decide +kernel
set_option maxRecDepth 100000 in
theorem ti_140_9 : dp_tab 140 9 = (.goto 6, 3) := by decide +kernel
set_option maxRecDepth 100000 in
theorem ti_140_12 : dp_tab 140 12 = (.astore_n 3, 1) := by decide +kernel
set_option maxRecDepth 100000 in
theorem ti_140_13 : dp_tab 140 13 = (.iconst 1, 1) := by decide +kernel
set_option maxRecDepth 100000 in
theorem ti_140_14 : dp_tab 140 14 = (.ireturn, 1) := by decide +kernel
set_option maxRecDepth 100000 in
theorem ti_140_15 : dp_tab 140 15 = (.iconst 0, 1) := by decide +kernel
set_option maxRecDepth 100000 in
theorem ti_140_16 : dp_tab 140 16 = (.ireturn, 1) := by decide +kernel
set_option maxRecDepth 100000 in
theorem ti_141_0 : dp_tab 141 0 = (.aload_n 3, 1) := by decide +kernel
set_option maxRecDepth 100000 in
theorem ti_141_1 : dp_tab 141 1 = (.iconst 0, 1) := by decide +kernel
set_option maxRecDepth 100000 in
theorem ti_141_2 : dp_tab 141 2 = (.aload_n 0, 1) := by decide +kernel
set_option maxRecDepth 100000 in
theorem ti_141_3 : dp_tab 141 3 = (.iload_n 1, 1) := by decide +kernel
set_option maxRecDepth 100000 in
theorem ti_141_4 : dp_tab 141 4 = (.iload_n 2, 1) := by decide +kernel
set_option maxRecDepth 100000 in
theorem ti_141_5 : dp_tab 141 5 = (.invokevirtual 69, 3) := by decide +kernel
set_option maxRecDepth 100000 in
theorem ti_141_8 : dp_tab 141 8 = (.i2l, 1) := by decide +kernel
set_option maxRecDepth 100000 in
theorem ti_141_9 : dp_tab 141 9 = (.lastore, 1) := by decide +kernel
set_option maxRecDepth 100000 in
theorem ti_141_10 : dp_tab 141 10 = (.goto 7, 3) := by decide +kernel
set_option maxRecDepth 100000 in
theorem ti_141_13 : dp_tab 141 13 = (.astore 4, 2) := by decide +kernel
set_option maxRecDepth 100000 in
theorem ti_141_15 : dp_tab 141 15 = (.iconst 1, 1) := by decide +kernel
set_option maxRecDepth 100000 in
theorem ti_141_16 : dp_tab 141 16 = (.ireturn, 1) := by decide +kernel
set_option maxRecDepth 100000 in
theorem ti_141_17 : dp_tab 141 17 = (.iconst 0, 1) := by decide +kernel
set_option maxRecDepth 100000 in
theorem ti_141_18 : dp_tab 141 18 = (.ireturn, 1) := by decide +kernel
set_option maxRecDepth 100000 in
theorem ti_142_0 : dp_tab 142 0 = (.aload_n 3, 1) := by decide +kernel
set_option maxRecDepth 100000 in
theorem ti_142_1 : dp_tab 142 1 = (.iconst 0, 1) := by decide +kernel
set_option maxRecDepth 100000 in
theorem ti_142_2 : dp_tab 142 2 = (.aload_n 0, 1) := by decide +kernel
set_option maxRecDepth 100000 in
theorem ti_142_3 : dp_tab 142 3 = (.iload_n 1, 1) := by decide +kernel
set_option maxRecDepth 100000 in
theorem ti_142_4 : dp_tab 142 4 = (.iload_n 2, 1) := by decide +kernel
set_option maxRecDepth 100000 in
theorem ti_142_5 : dp_tab 142 5 = (.invokevirtual 72, 3) := by decide +kernel
set_option maxRecDepth 100000 in
theorem ti_142_8 : dp_tab 142 8 = (.i2l, 1) := by decide +kernel
set_option maxRecDepth 100000 in
theorem ti_142_9 : dp_tab 142 9 = (.lastore, 1) := by decide +kernel
set_option maxRecDepth 100000 in
theorem ti_142_10 : dp_tab 142 10 = (.goto 7, 3) := by decide +kernel
set_option maxRecDepth 100000 in
theorem ti_142_13 : dp_tab 142 13 = (.astore 4, 2) := by decide +kernel
set_option maxRecDepth 100000 in
theorem ti_142_15 : dp_tab 142 15 = (.iconst 1, 1) := by decide +kernel
set_option maxRecDepth 100000 in
theorem ti_142_16 : dp_tab 142 16 = (.ireturn, 1) := by decide +kernel
set_option maxRecDepth 100000 in
theorem ti_142_17 : dp_tab 142 17 = (.iconst 0, 1) := by decide +kernel
set_option maxRecDepth 100000 in
theorem ti_142_18 : dp_tab 142 18 = (.ireturn, 1) := by decide +kernel
set_option maxRecDepth 100000 in
theorem ti_143_0 : dp_tab 143 0 = (.aload_n 3, 1) := by decide +kernel
set_option maxRecDepth 100000 in
theorem ti_143_1 : dp_tab 143 1 = (.iconst 0, 1) := by decide +kernel
set_option maxRecDepth 100000 in
theorem ti_143_2 : dp_tab 143 2 = (.aload_n 0, 1) := by decide +kernel
set_option maxRecDepth 100000 in
theorem ti_143_3 : dp_tab 143 3 = (.iload_n 1, 1) := by decide +kernel
set_option maxRecDepth 100000 in
theorem ti_143_4 : dp_tab 143 4 = (.iload_n 2, 1) := by decide +kernel
set_option maxRecDepth 100000 in
theorem ti_143_5 : dp_tab 143 5 = (.invokevirtual 75, 3) := by decide +kernel
set_option maxRecDepth 100000 in
theorem ti_143_8 : dp_tab 143 8 = (.i2l, 1) := by decide +kernel
set_option maxRecDepth 100000 in
theorem ti_143_9 : dp_tab 143 9 = (.lastore, 1) := by decide +kernel
set_option maxRecDepth 100000 in
theorem ti_143_10 : dp_tab 143 10 = (.goto 7, 3) := by decide +kernel
set_option maxRecDepth 100000 in
theorem ti_143_13 : dp_tab 143 13 = (.astore 4, 2) := by decide +kernel
set_option maxRecDepth 100000 in
theorem ti_143_15 : dp_tab 143 15 = (.iconst 1, 1) := by decide +kernel
set_option maxRecDepth 100000 in
theorem ti_143_16 : dp_tab 143 16 = (.ireturn, 1) := by decide +kernel
set_option maxRecDepth 100000 in
theorem ti_143_17 : dp_tab 143 17 = (.iconst 0, 1) := by decide +kernel
set_option maxRecDepth 100000 in
theorem ti_143_18 : dp_tab 143 18 = (.ireturn, 1) := by decide +kernel
set_option maxRecDepth 100000 in
theorem ti_144_0 : dp_tab 144 0 = (.aload_n 2, 1) := by decide +kernel
set_option maxRecDepth 100000 in
theorem ti_144_1 : dp_tab 144 1 = (.iconst 0, 1) := by decide +kernel
set_option maxRecDepth 100000 in
theorem ti_144_2 : dp_tab 144 2 = (.aload_n 0, 1) := by decide +kernel
set_option maxRecDepth 100000 in
theorem ti_144_3 : dp_tab 144 3 = (.iload_n 1, 1) := by decide +kernel
set_option maxRecDepth 100000 in
theorem ti_144_4 : dp_tab 144 4 = (.invokevirtual 78, 3) := by decide +kernel
set_option maxRecDepth 100000 in
theorem ti_144_7 : dp_tab 144 7 = (.i2l, 1) := by decide +kernel
set_option maxRecDepth 100000 in
theorem ti_144_8 : dp_tab 144 8 = (.lastore, 1) := by decide +kernel
set_option maxRecDepth 100000 in
theorem ti_144_9 : dp_tab 144 9 = (.goto 6, 3) := by decide +kernel
set_option maxRecDepth 100000 in
theorem ti_144_12 : dp_tab 144 12 = (.astore_n 3, 1) := by decide +kernel
set_option maxRecDepth 100000 in
theorem ti_144_13 : dp_tab 144 13 = (.iconst 1, 1) := by decide +kernel
set_option maxRecDepth 100000 in
theorem ti_144_14 : dp_tab 144 14 = (.ireturn, 1) := by decide +kernel
set_option maxRecDepth 100000 in
theorem ti_144_15 : dp_tab 144 15 = (.iconst 0, 1) := by decide +kernel
set_option maxRecDepth 100000 in
theorem ti_144_16 : dp_tab 144 16 = (.ireturn, 1) := by decide +kernel
set_option maxRecDepth 100000 in
theorem ti_145_0 : dp_tab 145 0 = (.aload_n 3, 1) := by decide +kernel
set_option maxRecDepth 100000 in
theorem ti_145_1 : dp_tab 145 1 = (.iconst 0, 1) := by decide +kernel
set_option maxRecDepth 100000 in
theorem ti_145_2 : dp_tab 145 2 = (.aload_n 0, 1) := by decide +kernel
set_option maxRecDepth 100000 in
theorem ti_145_3 : dp_tab 145 3 = (.iload_n 1, 1) := by decide +kernel
set_option maxRecDepth 100000 in
theorem ti_145_4 : dp_tab 145 4 = (.iload_n 2, 1) := by decide +kernel
set_option maxRecDepth 100000 in
theorem ti_145_5 : dp_tab 145 5 = (.invokevirtual 81, 3) := by decide +kernel
set_option maxRecDepth 100000 in
theorem ti_145_8 : dp_tab 145 8 = (.i2l, 1) := by decide +kernel
set_option maxRecDepth 100000 in
theorem ti_145_9 : dp_tab 145 9 = (.lastore, 1) := by decide +kernel
set_option maxRecDepth 100000 in
theorem ti_145_10 : dp_tab 145 10 = (.goto 11, 3) := by decide +kernel
set_option maxRecDepth 100000 in
theorem ti_145_13 : dp_tab 145 13 = (.astore 4, 2) := by decide +kernel
set_option maxRecDepth 100000 in
theorem ti_145_15 : dp_tab 145 15 = (.iconst 1, 1) := by decide +kernel
set_option maxRecDepth 100000 in
theorem ti_145_16 : dp_tab 145 16 = (.ireturn, 1) := by decide +kernel
set_option maxRecDepth 100000 in
theorem ti_145_17 : dp_tab 145 17 = (.astore 4, 2) := by decide +kernel
set_option maxRecDepth 100000 in
theorem ti_145_19 : dp_tab 145 19 = (.iconst 2, 1) := by decide +kernel
set_option maxRecDepth 100000 in
theorem ti_145_20 : dp_tab 145 20 = (.ireturn, 1) := by decide +kernel
set_option maxRecDepth 100000 in
theorem ti_145_21 : dp_tab 145 21 = (.iconst 0, 1) := by decide +kernel
set_option maxRecDepth 100000 in
theorem ti_145_22 : dp_tab 145 22 = (.ireturn, 1) := by decide +kernel
set_option maxRecDepth 100000 in
theorem ti_146_0 : dp_tab 146 0 = (.new 8, 3) := by decide +kernel
set_option maxRecDepth 100000 in
theorem ti_146_3 : dp_tab 146 3 = (.dup, 1) := by decide +kernel
set_option maxRecDepth 100000 in
theorem ti_146_4 : dp_tab 146 4 = (.invokespecial 84, 3) := by decide +kernel
set_option maxRecDepth 100000 in
theorem ti_146_7 : dp_tab 146 7 = (.astore_n 1, 1) := by decide +kernel
set_option maxRecDepth 100000 in
theorem ti_146_8 : dp_tab 146 8 = (.new 85, 3) := by decide +kernel
set_option maxRecDepth 100000 in
theorem ti_146_11 : dp_tab 146 11 = (.dup, 1) := by decide +kernel
set_option maxRecDepth 100000 in
theorem ti_146_12 : dp_tab 146 12 = (.invokespecial 87, 3) := by decide +kernel
set_option maxRecDepth 100000 in
theorem ti_146_15 : dp_tab 146 15 = (.astore_n 2, 1) := by decide +kernel
set_option maxRecDepth 100000 in
theorem ti_146_16 : dp_tab 146 16 = (.iconst 1, 1) := by decide +kernel
set_option maxRecDepth 100000 in
theorem ti_146_17 : dp_tab 146 17 = (.newarray .long, 2) := by decide +kernel
set_option maxRecDepth 100000 in
theorem ti_146_19 : dp_tab 146 19 = (.astore_n 3, 1) := by decide +kernel
set_option maxRecDepth 100000 in
theorem ti_146_20 : dp_tab 146 20 = (.iconst 0, 1) := by decide +kernel
set_option maxRecDepth 100000 in
theorem ti_146_21 : dp_tab 146 21 = (.istore 4, 2) := by decide +kernel
set_option maxRecDepth 100000 in
theorem ti_146_23 : dp_tab 146 23 = (.iload 4, 2) := by decide +kernel
set_option maxRecDepth 100000 in
theorem ti_146_25 : dp_tab 146 25 = (.aload_n 0, 1) := by decide +kernel
set_option maxRecDepth 100000 in
theorem ti_146_26 : dp_tab 146 26 = (.arraylength, 1) := by decide +kernel
set_option maxRecDepth 100000 in
theorem ti_146_27 : dp_tab 146 27 = (.iconst 3, 1) := by decide +kernel
set_option maxRecDepth 100000 in
theorem ti_146_28 : dp_tab 146 28 = (.isub, 1) := by decide +kernel
set_option maxRecDepth 100000 in
theorem ti_146_29 : dp_tab 146 29 = (.if_icmp .gt 1597, 3) := by decide +kernel
set_option maxRecDepth 100000 in
theorem ti_146_32 : dp_tab 146 32 = (.aload_n 0, 1) := by decide +kernel
set_option maxRecDepth 100000 in
theorem ti_146_33 : dp_tab 146 33 = (.iload 4, 2) := by decide +kernel
set_option maxRecDepth 100000 in
theorem ti_146_35 : dp_tab 146 35 = (.iaload, 1) := by decide +kernel
set_option maxRecDepth 100000 in
theorem ti_146_36 : dp_tab 146 36 = (.bipush 31, 2) := by decide +kernel
set_option maxRecDepth 100000 in
theorem ti_146_38 : dp_tab 146 38 = (.iand, 1) := by decide +kernel
set_option maxRecDepth 100000 in
theorem ti_146_39 : dp_tab 146 39 = (.tableswitch 1581 0 24 #[113, 181, 225, 293, 361, 417, 485, 553, 621, 689, 745, 801, 869, 937, 1005, 1073, 1129, 1185, 1253, 1321, 1389, 1445, 1513, 1526, 1567], 113) := by decide +kernel
set_option maxRecDepth 100000 in
theorem ti_146_152 : dp_tab 146 152 = (.aload_n 1, 1) := by decide +kernel
set_option maxRecDepth 100000 in
theorem ti_146_153 : dp_tab 146 153 = (.aload_n 0, 1) := by decide +kernel
set_option maxRecDepth 100000 in
theorem ti_146_154 : dp_tab 146 154 = (.iload 4, 2) := by decide +kernel
set_option maxRecDepth 100000 in
theorem ti_146_156 : dp_tab 146 156 = (.iconst 1, 1) := by decide +kernel
set_option maxRecDepth 100000 in
theorem ti_146_157 : dp_tab 146 157 = (.iadd, 1) := by decide +kernel
set_option maxRecDepth 100000 in
theorem ti_146_158 : dp_tab 146 158 = (.iaload, 1) := by decide +kernel
set_option maxRecDepth 100000 in
theorem ti_146_159 : dp_tab 146 159 = (.aload_n 0, 1) := by decide +kernel
set_option maxRecDepth 100000 in
theorem ti_146_160 : dp_tab 146 160 = (.iload 4, 2) := by decide +kernel
set_option maxRecDepth 100000 in
theorem ti_146_162 : dp_tab 146 162 = (.iconst 2, 1) := by decide +kernel
set_option maxRecDepth 100000 in
theorem ti_146_163 : dp_tab 146 163 = (.iadd, 1) := by decide +kernel
set_option maxRecDepth 100000 in
theorem ti_146_164 : dp_tab 146 164 = (.iaload, 1) := by decide +kernel
set_option maxRecDepth 100000 in
theorem ti_146_165 : dp_tab 146 165 = (.aload_n 3, 1) := by decide +kernel
set_option maxRecDepth 100000 in
theorem ti_146_166 : dp_tab 146 166 = (.invokestatic 88, 3) := by decide +kernel
set_option maxRecDepth 100000 in
theorem ti_146_169 : dp_tab 146 169 = (.istore 5, 2) := by decide +kernel
set_option maxRecDepth 100000 in
theorem ti_146_171 : dp_tab 146 171 = (.aload_n 2, 1) := by decide +kernel
set_option maxRecDepth 100000 in
theorem ti_146_172 : dp_tab 146 172 = (.aload_n 0, 1) := by decide +kernel
set_option maxRecDepth 100000 in
theorem ti_146_173 : dp_tab 146 173 = (.iload 4, 2) := by decide +kernel
set_option maxRecDepth 100000 in
theorem ti_146_175 : dp_tab 146 175 = (.iconst 1, 1) := by decide +kernel
set_option maxRecDepth 100000 in
theorem ti_146_176 : dp_tab 146 176 = (.iadd, 1) := by decide +kernel
set_option maxRecDepth 100000 in
theorem ti_146_177 : dp_tab 146 177 = (.iaload, 1) := by decide +kernel
set_option maxRecDepth 100000 in
theorem ti_146_178 : dp_tab 146 178 = (.aload_n 0, 1) := by decide +kernel
set_option maxRecDepth 100000 in
theorem ti_146_179 : dp_tab 146 179 = (.iload 4, 2) := by decide +kernel
set_option maxRecDepth 100000 in
theorem ti_146_181 : dp_tab 146 181 = (.iconst 2, 1) := by decide +kernel
set_option maxRecDepth 100000 in
theorem ti_146_182 : dp_tab 146 182 = (.iadd, 1) := by decide +kernel
set_option maxRecDepth 100000 in
theorem ti_146_183 : dp_tab 146 183 = (.iaload, 1) := by decide +kernel
set_option maxRecDepth 100000 in
theorem ti_146_184 : dp_tab 146 184 = (.invokevirtual 93, 3) := by decide +kernel
set_option maxRecDepth 100000 in
theorem ti_146_187 : dp_tab 146 187 = (.istore 6, 2) := by decide +kernel
set_option maxRecDepth 100000 in
theorem ti_146_189 : dp_tab 146 189 = (.aload_n 2, 1) := by decide +kernel
set_option maxRecDepth 100000 in
theorem ti_146_190 : dp_tab 146 190 = (.invokevirtual 94, 3) := by decide +kernel
set_option maxRecDepth 100000 in
theorem ti_146_193 : dp_tab 146 193 = (.iload 5, 2) := by decide +kernel
set_option maxRecDepth 100000 in
theorem ti_146_195 : dp_tab 146 195 = (.if_icmp .eq 5, 3) := by decide +kernel
set_option maxRecDepth 100000 in
theorem ti_146_198 : dp_tab 146 198 = (.iconst 0, 1) := by decide +kernel
set_option maxRecDepth 100000 in
theorem ti_146_199 : dp_tab 146 199 = (.ireturn, 1) := by decide +kernel
set_option maxRecDepth 100000 in
theorem ti_146_200 : dp_tab 146 200 = (.iload 5, 2) := by decide +kernel
set_option maxRecDepth 100000 in
theorem ti_146_202 : dp_tab 146 202 = (.ifCond .ne 15, 3) := by decide +kernel
set_option maxRecDepth 100000 in
theorem ti_146_205 : dp_tab 146 205 = (.aload_n 3, 1) := by decide +kernel
set_option maxRecDepth 100000 in
theorem ti_146_206 : dp_tab 146 206 = (.iconst 0, 1) := by decide +kernel
set_option maxRecDepth 100000 in
theorem ti_146_207 : dp_tab 146 207 = (.laload, 1) := by decide +kernel
set_option maxRecDepth 100000 in
theorem ti_146_208 : dp_tab 146 208 = (.iload 6, 2) := by decide +kernel
set_option maxRecDepth 100000 in
theorem ti_146_210 : dp_tab 146 210 = (.i2l, 1) := by decide +kernel
set_option maxRecDepth 100000 in
theorem ti_146_211 : dp_tab 146 211 = (.lcmp, 1) := by decide +kernel
set_option maxRecDepth 100000 in
theorem ti_146_212 : dp_tab 146 212 = (.ifCond .eq 5, 3) := by decide +kernel
set_option maxRecDepth 100000 in
theorem ti_146_215 : dp_tab 146 215 = (.iconst 0, 1) := by decide +kernel
set_option maxRecDepth 100000 in
theorem ti_146_216 : dp_tab 146 216 = (.ireturn, 1) := by decide +kernel
set_option maxRecDepth 100000 in
theorem ti_146_217 : dp_tab 146 217 = (.goto 1403, 3) := by decide +kernel
set_option maxRecDepth 100000 in
theorem ti_146_220 : dp_tab 146 220 = (.aload_n 1, 1) := by decide +kernel
set_option maxRecDepth 100000 in
theorem ti_146_221 : dp_tab 146 221 = (.aload_n 3, 1) := by decide +kernel
set_option maxRecDepth 100000 in
theorem ti_146_222 : dp_tab 146 222 = (.invokestatic 97, 3) := by decide +kernel
set_option maxRecDepth 100000 in
theorem ti_146_225 : dp_tab 146 225 = (.istore 5, 2) := by decide +kernel
set_option maxRecDepth 100000 in
theorem ti_146_227 : dp_tab 146 227 = (.aload_n 2, 1) := by decide +kernel
set_option maxRecDepth 100000 in
theorem ti_146_228 : dp_tab 146 228 = (.invokevirtual 100, 3) := by decide +kernel
set_option maxRecDepth 100000 in
theorem ti_146_231 : dp_tab 146 231 = (.istore 6, 2) := by decide +kernel
set_option maxRecDepth 100000 in
theorem ti_146_233 : dp_tab 146 233 = (.aload_n 2, 1) := by decide +kernel
set_option maxRecDepth 100000 in
theorem ti_146_234 : dp_tab 146 234 = (.invokevirtual 94, 3) := by decide +kernel
set_option maxRecDepth 100000 in
theorem ti_146_237 : dp_tab 146 237 = (.iload 5, 2) := by decide +kernel
set_option maxRecDepth 100000 in
theorem ti_146_239 : dp_tab 146 239 = (.if_icmp .eq 5, 3) := by decide +kernel
set_option maxRecDepth 100000 in
theorem ti_146_242 : dp_tab 146 242 = (.iconst 0, 1) := by decide +kernel
set_option maxRecDepth 100000 in
theorem ti_146_243 : dp_tab 146 243 = (.ireturn, 1) := by decide +kernel
set_option maxRecDepth 100000 in
theorem ti_146_244 : dp_tab 146 244 = (.iload 5, 2) := by decide +kernel
set_option maxRecDepth 100000 in
theorem ti_146_246 : dp_tab 146 246 = (.ifCond .ne 15, 3) := by decide +kernel
set_option maxRecDepth 100000 in
theorem ti_146_249 : dp_tab 146 249 = (.aload_n 3, 1) := by decide +kernel
set_option maxRecDepth 100000 in
theorem ti_146_250 : dp_tab 146 250 = (.iconst 0, 1) := by decide +kernel
set_option maxRecDepth 100000 in
theorem ti_146_251 : dp_tab 146 251 = (.laload, 1) := by decide +kernel
set_option maxRecDepth 100000 in
theorem ti_146_252 : dp_tab 146 252 = (.iload 6, 2) := by decide +kernel
set_option maxRecDepth 100000 in
theorem ti_146_254 : dp_tab 146 254 = (.i2l, 1) := by decide +kernel
set_option maxRecDepth 100000 in
theorem ti_146_255 : dp_tab 146 255 = (.lcmp, 1) := by decide +kernel
set_option maxRecDepth 100000 in
theorem ti_146_256 : dp_tab 146 256 = (.ifCond .eq 5, 3) := by decide +kernel
set_option maxRecDepth 100000 in
theorem ti_146_259 : dp_tab 146 259 = (.iconst 0, 1) := by decide +kernel
set_option maxRecDepth 100000 in
theorem ti_146_260 : dp_tab 146 260 = (.ireturn, 1) := by decide +kernel
set_option maxRecDepth 100000 in
theorem ti_146_261 : dp_tab 146 261 = (.goto 1359, 3) := by decide +kernel
set_option maxRecDepth 100000 in
theorem ti_146_264 : dp_tab 146 264 = (.aload_n 1, 1) := by decide +kernel
set_option maxRecDepth 100000 in
theorem ti_146_265 : dp_tab 146 265 = (.aload_n 0, 1) := by decide +kernel
set_option maxRecDepth 100000 in
theorem ti_146_266 : dp_tab 146 266 = (.iload 4, 2) := by decide +kernel
set_option maxRecDepth 100000 in
theorem ti_146_268 : dp_tab 146 268 = (.iconst 1, 1) := by decide +kernel
set_option maxRecDepth 100000 in
theorem ti_146_269 : dp_tab 146 269 = (.iadd, 1) := by decide +kernel
set_option maxRecDepth 100000 in
theorem ti_146_270 : dp_tab 146 270 = (.iaload, 1) := by decide +kernel
set_option maxRecDepth 100000 in
theorem ti_146_271 : dp_tab 146 271 = (.aload_n 0, 1) := by decide +kernel
set_option maxRecDepth 100000 in
theorem ti_146_272 : dp_tab 146 272 = (.iload 4, 2) := by decide +kernel
set_option maxRecDepth 100000 in
theorem ti_146_274 : dp_tab 146 274 = (.iconst 2, 1) := by decide +kernel
set_option maxRecDepth 100000 in
theorem ti_146_275 : dp_tab 146 275 = (.iadd, 1) := by decide +kernel
set_option maxRecDepth 100000 in
theorem ti_146_276 : dp_tab 146 276 = (.iaload, 1) := by decide +kernel
set_option maxRecDepth 100000 in
theorem ti_146_277 : dp_tab 146 277 = (.aload_n 3, 1) := by decide +kernel
set_option maxRecDepth 100000 in
theorem ti_146_278 : dp_tab 146 278 = (.invokestatic 101, 3) := by decide +kernel
set_option maxRecDepth 100000 in
theorem ti_146_281 : dp_tab 146 281 = (.istore 5, 2) := by decide +kernel
set_option maxRecDepth 100000 in
theorem ti_146_283 : dp_tab 146 283 = (.aload_n 2, 1) := by decide +kernel
set_option maxRecDepth 100000 in
theorem ti_146_284 : dp_tab 146 284 = (.aload_n 0, 1) := by decide +kernel
set_option maxRecDepth 100000 in
theorem ti_146_285 : dp_tab 146 285 = (.iload 4, 2) := by decide +kernel
set_option maxRecDepth 100000 in
theorem ti_146_287 : dp_tab 146 287 = (.iconst 1, 1) := by decide +kernel
set_option maxRecDepth 100000 in
theorem ti_146_288 : dp_tab 146 288 = (.iadd, 1) := by decide +kernel
set_option maxRecDepth 100000 in
theorem ti_146_289 : dp_tab 146 289 = (.iaload, 1) := by decide +kernel
set_option maxRecDepth 100000 in
theorem ti_146_290 : dp_tab 146 290 = (.aload_n 0, 1) := by decide +kernel
set_option maxRecDepth 100000 in
theorem ti_146_291 : dp_tab 146 291 = (.iload 4, 2) := by decide +kernel
set_option maxRecDepth 100000 in
theorem ti_146_293 : dp_tab 146 293 = (.iconst 2, 1) := by decide +kernel
set_option maxRecDepth 100000 in
theorem ti_146_294 : dp_tab 146 294 = (.iadd, 1) := by decide +kernel
set_option maxRecDepth 100000 in
theorem ti_146_295 : dp_tab 146 295 = (.iaload, 1) := by decide +kernel
set_option maxRecDepth 100000 in
theorem ti_146_296 : dp_tab 146 296 = (.invokevirtual 103, 3) := by decide +kernel
set_option maxRecDepth 100000 in
theorem ti_146_299 : dp_tab 146 299 = (.istore 6, 2) := by decide +kernel
set_option maxRecDepth 100000 in
theorem ti_146_301 : dp_tab 146 301 = (.aload_n 2, 1) := by decide +kernel
set_option maxRecDepth 100000 in
theorem ti_146_302 : dp_tab 146 302 = (.invokevirtual 94, 3) := by decide +kernel
set_option maxRecDepth 100000 in
theorem ti_146_305 : dp_tab 146 305 = (.iload 5, 2) := by decide +kernel
set_option maxRecDepth 100000 in
theorem ti_146_307 : dp_tab 146 307 = (.if_icmp .eq 5, 3) := by decide +kernel
set_option maxRecDepth 100000 in
theorem ti_146_310 : dp_tab 146 310 = (.iconst 0, 1) := by decide +kernel
set_option maxRecDepth 100000 in
theorem ti_146_311 : dp_tab 146 311 = (.ireturn, 1) := by decide +kernel
set_option maxRecDepth 100000 in
theorem ti_146_312 : dp_tab 146 312 = (.iload 5, 2) := by decide +kernel
set_option maxRecDepth 100000 in
theorem ti_146_314 : dp_tab 146 314 = (.ifCond .ne 15, 3) := by decide +kernel
set_option maxRecDepth 100000 in
theorem ti_146_317 : dp_tab 146 317 = (.aload_n 3, 1) := by decide +kernel
set_option maxRecDepth 100000 in
theorem ti_146_318 : dp_tab 146 318 = (.iconst 0, 1) := by decide +kernel
set_option maxRecDepth 100000 in
theorem ti_146_319 : dp_tab 146 319 = (.laload, 1) := by decide +kernel
set_option maxRecDepth 100000 in
theorem ti_146_320 : dp_tab 146 320 = (.iload 6, 2) := by decide +kernel
set_option maxRecDepth 100000 in
theorem ti_146_322 : dp_tab 146 322 = (.i2l, 1) := by decide +kernel
set_option maxRecDepth 100000 in
theorem ti_146_323 : dp_tab 146 323 = (.lcmp, 1) := by decide +kernel
set_option maxRecDepth 100000 in
theorem ti_146_324 : dp_tab 146 324 = (.ifCond .eq 5, 3) := by decide +kernel
set_option maxRecDepth 100000 in
theorem ti_146_327 : dp_tab 146 327 = (.iconst 0, 1) := by decide +kernel
set_option maxRecDepth 100000 in
theorem ti_146_328 : dp_tab 146 328 = (.ireturn, 1) := by decide +kernel
set_option maxRecDepth 100000 in
theorem ti_146_329 : dp_tab 146 329 = (.goto 1291, 3) := by decide +kernel
set_option maxRecDepth 100000 in
theorem ti_146_332 : dp_tab 146 332 = (.aload_n 1, 1) := by decide +kernel
set_option maxRecDepth 100000 in
theorem ti_146_333 : dp_tab 146 333 = (.aload_n 0, 1) := by decide +kernel
set_option maxRecDepth 100000 in
theorem ti_146_334 : dp_tab 146 334 = (.iload 4, 2) := by decide +kernel
set_option maxRecDepth 100000 in
theorem ti_146_336 : dp_tab 146 336 = (.iconst 1, 1) := by decide +kernel
set_option maxRecDepth 100000 in
theorem ti_146_337 : dp_tab 146 337 = (.iadd, 1) := by decide +kernel
set_option maxRecDepth 100000 in
theorem ti_146_338 : dp_tab 146 338 = (.iaload, 1) := by decide +kernel
set_option maxRecDepth 100000 in
theorem ti_146_339 : dp_tab 146 339 = (.aload_n 0, 1) := by decide +kernel
set_option maxRecDepth 100000 in
theorem ti_146_340 : dp_tab 146 340 = (.iload 4, 2) := by decide +kernel
set_option maxRecDepth 100000 in
theorem ti_146_342 : dp_tab 146 342 = (.iconst 2, 1) := by decide +kernel
set_option maxRecDepth 100000 in
theorem ti_146_343 : dp_tab 146 343 = (.iadd, 1) := by decide +kernel
set_option maxRecDepth 100000 in
theorem ti_146_344 : dp_tab 146 344 = (.iaload, 1) := by decide +kernel
set_option maxRecDepth 100000 in
theorem ti_146_345 : dp_tab 146 345 = (.aload_n 3, 1) := by decide +kernel
set_option maxRecDepth 100000 in
theorem ti_146_346 : dp_tab 146 346 = (.invokestatic 104, 3) := by decide +kernel
set_option maxRecDepth 100000 in
theorem ti_146_349 : dp_tab 146 349 = (.istore 5, 2) := by decide +kernel
set_option maxRecDepth 100000 in
theorem ti_146_351 : dp_tab 146 351 = (.aload_n 2, 1) := by decide +kernel
set_option maxRecDepth 100000 in
theorem ti_146_352 : dp_tab 146 352 = (.aload_n 0, 1) := by decide +kernel
set_option maxRecDepth 100000 in
theorem ti_146_353 : dp_tab 146 353 = (.iload 4, 2) := by decide +kernel
set_option maxRecDepth 100000 in
theorem ti_146_355 : dp_tab 146 355 = (.iconst 1, 1) := by decide +kernel
set_option maxRecDepth 100000 in
theorem ti_146_356 : dp_tab 146 356 = (.iadd, 1) := by decide +kernel
set_option maxRecDepth 100000 in
theorem ti_146_357 : dp_tab 146 357 = (.iaload, 1) := by decide +kernel
set_option maxRecDepth 100000 in
theorem ti_146_358 : dp_tab 146 358 = (.aload_n 0, 1) := by decide +kernel
set_option maxRecDepth 100000 in
theorem ti_146_359 : dp_tab 146 359 = (.iload 4, 2) := by decide +kernel
set_option maxRecDepth 100000 in
theorem ti_146_361 : dp_tab 146 361 = (.iconst 2, 1) := by decide +kernel
set_option maxRecDepth 100000 in
theorem ti_146_362 : dp_tab 146 362 = (.iadd, 1) := by decide +kernel
set_option maxRecDepth 100000 in
theorem ti_146_363 : dp_tab 146 363 = (.iaload, 1) := by decide +kernel
set_option maxRecDepth 100000 in
theorem ti_146_364 : dp_tab 146 364 = (.invokevirtual 106, 3) := by decide +kernel
set_option maxRecDepth 100000 in
theorem ti_146_367 : dp_tab 146 367 = (.istore 6, 2) := by decide +kernel
set_option maxRecDepth 100000 in
theorem ti_146_369 : dp_tab 146 369 = (.aload_n 2, 1) := by decide +kernel
set_option maxRecDepth 100000 in
theorem ti_146_370 : dp_tab 146 370 = (.invokevirtual 94, 3) := by decide +kernel
set_option maxRecDepth 100000 in
theorem ti_146_373 : dp_tab 146 373 = (.iload 5, 2) := by decide +kernel
set_option maxRecDepth 100000 in
theorem ti_146_375 : dp_tab 146 375 = (.if_icmp .eq 5, 3) := by decide +kernel
set_option maxRecDepth 100000 in
theorem ti_146_378 : dp_tab 146 378 = (.iconst 0, 1) := by decide +kernel
set_option maxRecDepth 100000 in
theorem ti_146_379 : dp_tab 146 379 = (.ireturn, 1) := by decide +kernel
set_option maxRecDepth 100000 in
theorem ti_146_380 : dp_tab 146 380 = (.iload 5, 2) := by decide +kernel
set_option maxRecDepth 100000 in
theorem ti_146_382 : dp_tab 146 382 = (.ifCond .ne 15, 3) := by decide +kernel
set_option maxRecDepth 100000 in
theorem ti_146_385 : dp_tab 146 385 = (.aload_n 3, 1) := by decide +kernel
set_option maxRecDepth 100000 in
theorem ti_146_386 : dp_tab 146 386 = (.iconst 0, 1) := by decide +kernel
set_option maxRecDepth 100000 in
theorem ti_146_387 : dp_tab 146 387 = (.laload, 1) := by decide +kernel
set_option maxRecDepth 100000 in
theorem ti_146_388 : dp_tab 146 388 = (.iload 6, 2) := by decide +kernel
set_option maxRecDepth 100000 in
theorem ti_146_390 : dp_tab 146 390 = (.i2l, 1) := by decide +kernel
set_option maxRecDepth 100000 in
theorem ti_146_391 : dp_tab 146 391 = (.lcmp, 1) := by decide +kernel
set_option maxRecDepth 100000 in
theorem ti_146_392 : dp_tab 146 392 = (.ifCond .eq 5, 3) := by decide +kernel
set_option maxRecDepth 100000 in
theorem ti_146_395 : dp_tab 146 395 = (.iconst 0, 1) := by decide +kernel
set_option maxRecDepth 100000 in
theorem ti_146_396 : dp_tab 146 396 = (.ireturn, 1) := by decide +kernel
set_option maxRecDepth 100000 in
theorem ti_146_397 : dp_tab 146 397 = (.goto 1223, 3) := by decide +kernel
set_option maxRecDepth 100000 in
theorem ti_146_400 : dp_tab 146 400 = (.aload_n 1, 1) := by decide +kernel
set_option maxRecDepth 100000 in
theorem ti_146_401 : dp_tab 146 401 = (.aload_n 0, 1) := by decide +kernel
set_option maxRecDepth 100000 in
theorem ti_146_402 : dp_tab 146 402 = (.iload 4, 2) := by decide +kernel
set_option maxRecDepth 100000 in
theorem ti_146_404 : dp_tab 146 404 = (.iconst 1, 1) := by decide +kernel
set_option maxRecDepth 100000 in
theorem ti_146_405 : dp_tab 146 405 = (.iadd, 1) := by decide +kernel
set_option maxRecDepth 100000 in
theorem ti_146_406 : dp_tab 146 406 = (.iaload, 1) := by decide +kernel
set_option maxRecDepth 100000 in
theorem ti_146_407 : dp_tab 146 407 = (.aload_n 3, 1) := by decide +kernel
set_option maxRecDepth 100000 in
theorem ti_146_408 : dp_tab 146 408 = (.invokestatic 107, 3) := by decide +kernel
set_option maxRecDepth 100000 in
theorem ti_146_411 : dp_tab 146 411 = (.istore 5, 2) := by decide +kernel
set_option maxRecDepth 100000 in
theorem ti_146_413 : dp_tab 146 413 = (.aload_n 2, 1) := by decide +kernel
set_option maxRecDepth 100000 in
theorem ti_146_414 : dp_tab 146 414 = (.aload_n 0, 1) := by decide +kernel
set_option maxRecDepth 100000 in
theorem ti_146_415 : dp_tab 146 415 = (.iload 4, 2) := by decide +kernel
set_option maxRecDepth 100000 in
theorem ti_146_417 : dp_tab 146 417 = (.iconst 1, 1) := by decide +kernel
set_option maxRecDepth 100000 in
theorem ti_146_418 : dp_tab 146 418 = (.iadd, 1) := by decide +kernel
set_option maxRecDepth 100000 in
theorem ti_146_419 : dp_tab 146 419 = (.iaload, 1) := by decide +kernel
set_option maxRecDepth 100000 in
theorem ti_146_420 : dp_tab 146 420 = (.invokevirtual 110, 3) := by decide +kernel
set_option maxRecDepth 100000 in
theorem ti_146_423 : dp_tab 146 423 = (.istore 6, 2) := by decide +kernel
set_option maxRecDepth 100000 in
theorem ti_146_425 : dp_tab 146 425 = (.aload_n 2, 1) := by decide +kernel
set_option maxRecDepth 100000 in
theorem ti_146_426 : dp_tab 146 426 = (.invokevirtual 94, 3) := by decide +kernel
set_option maxRecDepth 100000 in
theorem ti_146_429 : dp_tab 146 429 = (.iload 5, 2) := by decide +kernel
set_option maxRecDepth 100000 in
theorem ti_146_431 : dp_tab 146 431 = (.if_icmp .eq 5, 3) := by decide +kernel
set_option maxRecDepth 100000 in
theorem ti_146_434 : dp_tab 146 434 = (.iconst 0, 1) := by decide +kernel
set_option maxRecDepth 100000 in
theorem ti_146_435 : dp_tab 146 435 = (.ireturn, 1) := by decide +kernel
set_option maxRecDepth 100000 in
theorem ti_146_436 : dp_tab 146 436 = (.iload 5, 2) := by decide +kernel
set_option maxRecDepth 100000 in
theorem ti_146_438 : dp_tab 146 438 = (.ifCond .ne 15, 3) := by decide +kernel
set_option maxRecDepth 100000 in
theorem ti_146_441 : dp_tab 146 441 = (.aload_n 3, 1) := by decide +kernel
set_option maxRecDepth 100000 in
theorem ti_146_442 : dp_tab 146 442 = (.iconst 0, 1) := by decide +kernel
set_option maxRecDepth 100000 in
theorem ti_146_443 : dp_tab 146 443 = (.laload, 1) := by decide +kernel
set_option maxRecDepth 100000 in
theorem ti_146_444 : dp_tab 146 444 = (.iload 6, 2) := by decide +kernel
set_option maxRecDepth 100000 in
theorem ti_146_446 : dp_tab 146 446 = (.i2l, 1) := by decide +kernel
set_option maxRecDepth 100000 in
theorem ti_146_447 : dp_tab 146 447 = (.lcmp, 1) := by decide +kernel
set_option maxRecDepth 100000 in
theorem ti_146_448 : dp_tab 146 448 = (.ifCond .eq 5, 3) := by decide +kernel
set_option maxRecDepth 100000 in
theorem ti_146_451 : dp_tab 146 451 = (.iconst 0, 1) := by decide +kernel
set_option maxRecDepth 100000 in
theorem ti_146_452 : dp_tab 146 452 = (.ireturn, 1) := by decide +kernel
set_option maxRecDepth 100000 in
theorem ti_146_453 : dp_tab 146 453 = (.goto 1167, 3) := by decide +kernel
set_option maxRecDepth 100000 in
theorem ti_146_456 : dp_tab 146 456 = (.aload_n 1, 1) := by decide +kernel
set_option maxRecDepth 100000 in
theorem ti_146_457 : dp_tab 146 457 = (.aload_n 0, 1) := by decide +kernel
set_option maxRecDepth 100000 in
theorem ti_146_458 : dp_tab 146 458 = (.iload 4, 2) := by decide +kernel
set_option maxRecDepth 100000 in
theorem ti_146_460 : dp_tab 146 460 = (.iconst 1, 1) := by decide +kernel
set_option maxRecDepth 100000 in
theorem ti_146_461 : dp_tab 146 461 = (.iadd, 1) := by decide +kernel
set_option maxRecDepth 100000 in
theorem ti_146_462 : dp_tab 146 462 = (.iaload, 1) := by decide +kernel
set_option maxRecDepth 100000 in
theorem ti_146_463 : dp_tab 146 463 = (.aload_n 0, 1) := by decide +kernel
set_option maxRecDepth 100000 in
theorem ti_146_464 : dp_tab 146 464 = (.iload 4, 2) := by decide +kernel
set_option maxRecDepth 100000 in
theorem ti_146_466 : dp_tab 146 466 = (.iconst 2, 1) := by decide +kernel
set_option maxRecDepth 100000 in
theorem ti_146_467 : dp_tab 146 467 = (.iadd, 1) := by decide +kernel
set_option maxRecDepth 100000 in
theorem ti_146_468 : dp_tab 146 468 = (.iaload, 1) := by decide +kernel
set_option maxRecDepth 100000 in
theorem ti_146_469 : dp_tab 146 469 = (.aload_n 3, 1) := by decide +kernel
set_option maxRecDepth 100000 in
theorem ti_146_470 : dp_tab 146 470 = (.invokestatic 111, 3) := by decide +kernel
set_option maxRecDepth 100000 in
theorem ti_146_473 : dp_tab 146 473 = (.istore 5, 2) := by decide +kernel
set_option maxRecDepth 100000 in
theorem ti_146_475 : dp_tab 146 475 = (.aload_n 2, 1) := by decide +kernel
set_option maxRecDepth 100000 in
theorem ti_146_476 : dp_tab 146 476 = (.aload_n 0, 1) := by decide +kernel
set_option maxRecDepth 100000 in
theorem ti_146_477 : dp_tab 146 477 = (.iload 4, 2) := by decide +kernel
set_option maxRecDepth 100000 in
theorem ti_146_479 : dp_tab 146 479 = (.iconst 1, 1) := by decide +kernel
set_option maxRecDepth 100000 in
theorem ti_146_480 : dp_tab 146 480 = (.iadd, 1) := by decide +kernel
set_option maxRecDepth 100000 in
theorem ti_146_481 : dp_tab 146 481 = (.iaload, 1) := by decide +kernel
set_option maxRecDepth 100000 in
theorem ti_146_482 : dp_tab 146 482 = (.aload_n 0, 1) := by decide +kernel
set_option maxRecDepth 100000 in
theorem ti_146_483 : dp_tab 146 483 = (.iload 4, 2) := by decide +kernel
set_option maxRecDepth 100000 in
theorem ti_146_485 : dp_tab 146 485 = (.iconst 2, 1) := by decide +kernel
set_option maxRecDepth 100000 in
theorem ti_146_486 : dp_tab 146 486 = (.iadd, 1) := by decide +kernel
set_option maxRecDepth 100000 in
theorem ti_146_487 : dp_tab 146 487 = (.iaload, 1) := by decide +kernel
set_option maxRecDepth 100000 in
theorem ti_146_488 : dp_tab 146 488 = (.invokevirtual 113, 3) := by decide +kernel
set_option maxRecDepth 100000 in
theorem ti_146_491 : dp_tab 146 491 = (.istore 6, 2) := by decide +kernel
set_option maxRecDepth 100000 in
theorem ti_146_493 : dp_tab 146 493 = (.aload_n 2, 1) := by decide +kernel
set_option maxRecDepth 100000 in
theorem ti_146_494 : dp_tab 146 494 = (.invokevirtual 94, 3) := by decide +kernel
set_option maxRecDepth 100000 in
theorem ti_146_497 : dp_tab 146 497 = (.iload 5, 2) := by decide +kernel
set_option maxRecDepth 100000 in
theorem ti_146_499 : dp_tab 146 499 = (.if_icmp .eq 5, 3) := by decide +kernel
set_option maxRecDepth 100000 in
theorem ti_146_502 : dp_tab 146 502 = (.iconst 0, 1) := by decide +kernel
set_option maxRecDepth 100000 in
theorem ti_146_503 : dp_tab 146 503 = (.ireturn, 1) := by decide +kernel
set_option maxRecDepth 100000 in
theorem ti_146_504 : dp_tab 146 504 = (.iload 5, 2) := by decide +kernel
set_option maxRecDepth 100000 in
theorem ti_146_506 : dp_tab 146 506 = (.ifCond .ne 15, 3) := by decide +kernel
set_option maxRecDepth 100000 in
theorem ti_146_509 : dp_tab 146 509 = (.aload_n 3, 1) := by decide +kernel
set_option maxRecDepth 100000 in
theorem ti_146_510 : dp_tab 146 510 = (.iconst 0, 1) := by decide +kernel
set_option maxRecDepth 100000 in
theorem ti_146_511 : dp_tab 146 511 = (.laload, 1) := by decide +kernel
set_option maxRecDepth 100000 in
theorem ti_146_512 : dp_tab 146 512 = (.iload 6, 2) := by decide +kernel
set_option maxRecDepth 100000 in
theorem ti_146_514 : dp_tab 146 514 = (.i2l, 1) := by decide +kernel
set_option maxRecDepth 100000 in
theorem ti_146_515 : dp_tab 146 515 = (.lcmp, 1) := by decide +kernel
set_option maxRecDepth 100000 in
theorem ti_146_516 : dp_tab 146 516 = (.ifCond .eq 5, 3) := by decide +kernel
set_option maxRecDepth 100000 in
theorem ti_146_519 : dp_tab 146 519 = (.iconst 0, 1) := by decide +kernel
set_option maxRecDepth 100000 in
theorem ti_146_520 : dp_tab 146 520 = (.ireturn, 1) := by decide +kernel
set_option maxRecDepth 100000 in
theorem ti_146_521 : dp_tab 146 521 = (.goto 1099, 3) := by decide +kernel
set_option maxRecDepth 100000 in
theorem ti_146_524 : dp_tab 146 524 = (.aload_n 1, 1) := by decide +kernel
set_option maxRecDepth 100000 in
theorem ti_146_525 : dp_tab 146 525 = (.aload_n 0, 1) := by decide +kernel
set_option maxRecDepth 100000 in
theorem ti_146_526 : dp_tab 146 526 = (.iload 4, 2) := by decide +kernel
set_option maxRecDepth 100000 in
theorem ti_146_528 : dp_tab 146 528 = (.iconst 1, 1) := by decide +kernel
set_option maxRecDepth 100000 in
theorem ti_146_529 : dp_tab 146 529 = (.iadd, 1) := by decide +kernel
set_option maxRecDepth 100000 in
theorem ti_146_530 : dp_tab 146 530 = (.iaload, 1) := by decide +kernel
set_option maxRecDepth 100000 in
theorem ti_146_531 : dp_tab 146 531 = (.aload_n 0, 1) := by decide +kernel
set_option maxRecDepth 100000 in
theorem ti_146_532 : dp_tab 146 532 = (.iload 4, 2) := by decide +kernel
set_option maxRecDepth 100000 in
theorem ti_146_534 : dp_tab 146 534 = (.iconst 2, 1) := by decide +kernel
set_option maxRecDepth 100000 in
theorem ti_146_535 : dp_tab 146 535 = (.iadd, 1) := by decide +kernel
set_option maxRecDepth 100000 in
theorem ti_146_536 : dp_tab 146 536 = (.iaload, 1) := by decide +kernel
set_option maxRecDepth 100000 in
theorem ti_146_537 : dp_tab 146 537 = (.aload_n 3, 1) := by decide +kernel
set_option maxRecDepth 100000 in
theorem ti_146_538 : dp_tab 146 538 = (.invokestatic 114, 3) := by decide +kernel
set_option maxRecDepth 100000 in
theorem ti_146_541 : dp_tab 146 541 = (.istore 5, 2) := by decide +kernel
set_option maxRecDepth 100000 in
theorem ti_146_543 : dp_tab 146 543 = (.aload_n 2, 1) := by decide +kernel
set_option maxRecDepth 100000 in
theorem ti_146_544 : dp_tab 146 544 = (.aload_n 0, 1) := by decide +kernel
set_option maxRecDepth 100000 in
theorem ti_146_545 : dp_tab 146 545 = (.iload 4, 2) := by decide +kernel
set_option maxRecDepth 100000 in
theorem ti_146_547 : dp_tab 146 547 = (.iconst 1, 1) := by decide +kernel
set_option maxRecDepth 100000 in
theorem ti_146_548 : dp_tab 146 548 = (.iadd, 1) := by decide +kernel
set_option maxRecDepth 100000 in
theorem ti_146_549 : dp_tab 146 549 = (.iaload, 1) := by decide +kernel
set_option maxRecDepth 100000 in
theorem ti_146_550 : dp_tab 146 550 = (.aload_n 0, 1) := by decide +kernel
set_option maxRecDepth 100000 in
theorem ti_146_551 : dp_tab 146 551 = (.iload 4, 2) := by decide +kernel
set_option maxRecDepth 100000 in
theorem ti_146_553 : dp_tab 146 553 = (.iconst 2, 1) := by decide +kernel
set_option maxRecDepth 100000 in
theorem ti_146_554 : dp_tab 146 554 = (.iadd, 1) := by decide +kernel
set_option maxRecDepth 100000 in
theorem ti_146_555 : dp_tab 146 555 = (.iaload, 1) := by decide +kernel
set_option maxRecDepth 100000 in
theorem ti_146_556 : dp_tab 146 556 = (.invokevirtual 116, 3) := by decide +kernel
set_option maxRecDepth 100000 in
theorem ti_146_559 : dp_tab 146 559 = (.istore 6, 2) := by decide +kernel
set_option maxRecDepth 100000 in
theorem ti_146_561 : dp_tab 146 561 = (.aload_n 2, 1) := by decide +kernel
set_option maxRecDepth 100000 in
theorem ti_146_562 : dp_tab 146 562 = (.invokevirtual 94, 3) := by decide +kernel
set_option maxRecDepth 100000 in
theorem ti_146_565 : dp_tab 146 565 = (.iload 5, 2) := by decide +kernel
set_option maxRecDepth 100000 in
theorem ti_146_567 : dp_tab 146 567 = (.if_icmp .eq 5, 3) := by decide +kernel
set_option maxRecDepth 100000 in
theorem ti_146_570 : dp_tab 146 570 = (.iconst 0, 1) := by decide +kernel
set_option maxRecDepth 100000 in
theorem ti_146_571 : dp_tab 146 571 = (.ireturn, 1) := by decide +kernel
set_option maxRecDepth 100000 in
theorem ti_146_572 : dp_tab 146 572 = (.iload 5, 2) := by decide +kernel
set_option maxRecDepth 100000 in
theorem ti_146_574 : dp_tab 146 574 = (.ifCond .ne 15, 3) := by decide +kernel
set_option maxRecDepth 100000 in
theorem ti_146_577 : dp_tab 146 577 = (.aload_n 3, 1) := by decide +kernel
set_option maxRecDepth 100000 in
theorem ti_146_578 : dp_tab 146 578 = (.iconst 0, 1) := by decide +kernel
set_option maxRecDepth 100000 in
theorem ti_146_579 : dp_tab 146 579 = (.laload, 1) := by decide +kernel
set_option maxRecDepth 100000 in
theorem ti_146_580 : dp_tab 146 580 = (.iload 6, 2) := by decide +kernel
set_option maxRecDepth 100000 in
theorem ti_146_582 : dp_tab 146 582 = (.i2l, 1) := by decide +kernel
set_option maxRecDepth 100000 in
theorem ti_146_583 : dp_tab 146 583 = (.lcmp, 1) := by decide +kernel
set_option maxRecDepth 100000 in
theorem ti_146_584 : dp_tab 146 584 = (.ifCond .eq 5, 3) := by decide +kernel
set_option maxRecDepth 100000 in
theorem ti_146_587 : dp_tab 146 587 = (.iconst 0, 1) := by decide +kernel
set_option maxRecDepth 100000 in
theorem ti_146_588 : dp_tab 146 588 = (.ireturn, 1) := by decide +kernel
set_option maxRecDepth 100000 in
theorem ti_146_589 : dp_tab 146 589 = (.goto 1031, 3) := by decide +kernel
set_option maxRecDepth 100000 in
theorem ti_146_592 : dp_tab 146 592 = (.aload_n 1, 1) := by decide +kernel
set_option maxRecDepth 100000 in
theorem ti_146_593 : dp_tab 146 593 = (.aload_n 0, 1) := by decide +kernel
set_option maxRecDepth 100000 in
theorem ti_146_594 : dp_tab 146 594 = (.iload 4, 2) := by decide +kernel
set_option maxRecDepth 100000 in
theorem ti_146_596 : dp_tab 146 596 = (.iconst 1, 1) := by decide +kernel
set_option maxRecDepth 100000 in
theorem ti_146_597 : dp_tab 146 597 = (.iadd, 1) := by decide +kernel
set_option maxRecDepth 100000 in
theorem ti_146_598 : dp_tab 146 598 = (.iaload, 1) := by decide +kernel
set_option maxRecDepth 100000 in
theorem ti_146_599 : dp_tab 146 599 = (.aload_n 0, 1) := by decide +kernel
set_option maxRecDepth 100000 in
theorem ti_146_600 : dp_tab 146 600 = (.iload 4, 2) := by decide +kernel
set_option maxRecDepth 100000 in
theorem ti_146_602 : dp_tab 146 602 = (.iconst 2, 1) := by decide +kernel
set_option maxRecDepth 100000 in
theorem ti_146_603 : dp_tab 146 603 = (.iadd, 1) := by decide +kernel
set_option maxRecDepth 100000 in
theorem ti_146_604 : dp_tab 146 604 = (.iaload, 1) := by decide +kernel
set_option maxRecDepth 100000 in
theorem ti_146_605 : dp_tab 146 605 = (.aload_n 3, 1) := by decide +kernel
set_option maxRecDepth 100000 in
theorem ti_146_606 : dp_tab 146 606 = (.invokestatic 117, 3) := by decide +kernel
set_option maxRecDepth 100000 in
theorem ti_146_609 : dp_tab 146 609 = (.istore 5, 2) := by decide +kernel
set_option maxRecDepth 100000 in
theorem ti_146_611 : dp_tab 146 611 = (.aload_n 2, 1) := by decide +kernel
set_option maxRecDepth 100000 in
theorem ti_146_612 : dp_tab 146 612 = (.aload_n 0, 1) := by decide +kernel
set_option maxRecDepth 100000 in
theorem ti_146_613 : dp_tab 146 613 = (.iload 4, 2) := by decide +kernel
set_option maxRecDepth 100000 in
theorem ti_146_615 : dp_tab 146 615 = (.iconst 1, 1) := by decide +kernel
set_option maxRecDepth 100000 in
theorem ti_146_616 : dp_tab 146 616 = (.iadd, 1) := by decide +kernel
set_option maxRecDepth 100000 in
theorem ti_146_617 : dp_tab 146 617 = (.iaload, 1) := by decide +kernel
set_option maxRecDepth 100000 in
theorem ti_146_618 : dp_tab 146 618 = (.aload_n 0, 1) := by decide +kernel
set_option maxRecDepth 100000 in
theorem ti_146_619 : dp_tab 146 619 = (.iload 4, 2) := by decide +kernel
set_option maxRecDepth 100000 in
theorem ti_146_621 : dp_tab 146 621 = (.iconst 2, 1) := by decide +kernel
set_option maxRecDepth 100000 in
theorem ti_146_622 : dp_tab 146 622 = (.iadd, 1) := by decide +kernel
set_option maxRecDepth 100000 in
theorem ti_146_623 : dp_tab 146 623 = (.iaload, 1) := by decide +kernel
set_option maxRecDepth 100000 in
theorem ti_146_624 : dp_tab 146 624 = (.invokevirtual 119, 3) := by decide +kernel
set_option maxRecDepth 100000 in
theorem ti_146_627 : dp_tab 146 627 = (.istore 6, 2) := by decide +kernel
set_option maxRecDepth 100000 in
theorem ti_146_629 : dp_tab 146 629 = (.aload_n 2, 1) := by decide +kernel
set_option maxRecDepth 100000 in
theorem ti_146_630 : dp_tab 146 630 = (.invokevirtual 94, 3) := by decide +kernel
set_option maxRecDepth 100000 in
theorem ti_146_633 : dp_tab 146 633 = (.iload 5, 2) := by decide +kernel
set_option maxRecDepth 100000 in
theorem ti_146_635 : dp_tab 146 635 = (.if_icmp .eq 5, 3) := by decide +kernel
set_option maxRecDepth 100000 in
theorem ti_146_638 : dp_tab 146 638 = (.iconst 0, 1) := by decide +kernel
set_option maxRecDepth 100000 in
theorem ti_146_639 : dp_tab 146 639 = (.ireturn, 1) := by decide +kernel
set_option maxRecDepth 100000 in
theorem ti_146_640 : dp_tab 146 640 = (.iload 5, 2) := by decide +kernel
set_option maxRecDepth 100000 in
theorem ti_146_642 : dp_tab 146 642 = (.ifCond .ne 15, 3) := by decide +kernel
set_option maxRecDepth 100000 in
theorem ti_146_645 : dp_tab 146 645 = (.aload_n 3, 1) := by decide +kernel
set_option maxRecDepth 100000 in
theorem ti_146_646 : dp_tab 146 646 = (.iconst 0, 1) := by decide +kernel
set_option maxRecDepth 100000 in
theorem ti_146_647 : dp_tab 146 647 = (.laload, 1) := by decide +kernel
set_option maxRecDepth 100000 in
theorem ti_146_648 : dp_tab 146 648 = (.iload 6, 2) := by decide +kernel
set_option maxRecDepth 100000 in
theorem ti_146_650 : dp_tab 146 650 = (.i2l, 1) := by decide +kernel
set_option maxRecDepth 100000 in
theorem ti_146_651 : dp_tab 146 651 = (.lcmp, 1) := by decide +kernel
set_option maxRecDepth 100000 in
theorem ti_146_652 : dp_tab 146 652 = (.ifCond .eq 5, 3) := by decide +kernel
set_option maxRecDepth 100000 in
theorem ti_146_655 : dp_tab 146 655 = (.iconst 0, 1) := by decide +kernel
set_option maxRecDepth 100000 in
theorem ti_146_656 : dp_tab 146 656 = (.ireturn, 1) := by decide +kernel
set_option maxRecDepth 100000 in
theorem ti_146_657 : dp_tab 146 657 = (.goto 963, 3) := by decide +kernel
set_option maxRecDepth 100000 in
theorem ti_146_660 : dp_tab 146 660 = (.aload_n 1, 1) := by decide +kernel
set_option maxRecDepth 100000 in
theorem ti_146_661 : dp_tab 146 661 = (.aload_n 0, 1) := by decide +kernel
set_option maxRecDepth 100000 in
theorem ti_146_662 : dp_tab 146 662 = (.iload 4, 2) := by decide +kernel
set_option maxRecDepth 100000 in
theorem ti_146_664 : dp_tab 146 664 = (.iconst 1, 1) := by decide +kernel
set_option maxRecDepth 100000 in
theorem ti_146_665 : dp_tab 146 665 = (.iadd, 1) := by decide +kernel
set_option maxRecDepth 100000 in
theorem ti_146_666 : dp_tab 146 666 = (.iaload, 1) := by decide +kernel
set_option maxRecDepth 100000 in
theorem ti_146_667 : dp_tab 146 667 = (.aload_n 0, 1) := by decide +kernel
set_option maxRecDepth 100000 in
theorem ti_146_668 : dp_tab 146 668 = (.iload 4, 2) := by decide +kernel
set_option maxRecDepth 100000 in
theorem ti_146_670 : dp_tab 146 670 = (.iconst 2, 1) := by decide +kernel
set_option maxRecDepth 100000 in
theorem ti_146_671 : dp_tab 146 671 = (.iadd, 1) := by decide +kernel
set_option maxRecDepth 100000 in
theorem ti_146_672 : dp_tab 146 672 = (.iaload, 1) := by decide +kernel
set_option maxRecDepth 100000 in
theorem ti_146_673 : dp_tab 146 673 = (.aload_n 3, 1) := by decide +kernel
set_option maxRecDepth 100000 in
theorem ti_146_674 : dp_tab 146 674 = (.invokestatic 120, 3) := by decide +kernel
set_option maxRecDepth 100000 in
theorem ti_146_677 : dp_tab 146 677 = (.istore 5, 2) := by decide +kernel
set_option maxRecDepth 100000 in
theorem ti_146_679 : dp_tab 146 679 = (.aload_n 2, 1) := by decide +kernel
set_option maxRecDepth 100000 in
theorem ti_146_680 : dp_tab 146 680 = (.aload_n 0, 1) := by decide +kernel
set_option maxRecDepth 100000 in
theorem ti_146_681 : dp_tab 146 681 = (.iload 4, 2) := by decide +kernel
set_option maxRecDepth 100000 in
theorem ti_146_683 : dp_tab 146 683 = (.iconst 1, 1) := by decide +kernel
set_option maxRecDepth 100000 in
theorem ti_146_684 : dp_tab 146 684 = (.iadd, 1) := by decide +kernel
set_option maxRecDepth 100000 in
theorem ti_146_685 : dp_tab 146 685 = (.iaload, 1) := by decide +kernel
set_option maxRecDepth 100000 in
theorem ti_146_686 : dp_tab 146 686 = (.aload_n 0, 1) := by decide +kernel
set_option maxRecDepth 100000 in
theorem ti_146_687 : dp_tab 146 687 = (.iload 4, 2) := by decide +kernel
set_option maxRecDepth 100000 in
theorem ti_146_689 : dp_tab 146 689 = (.iconst 2, 1) := by decide +kernel
set_option maxRecDepth 100000 in
theorem ti_146_690 : dp_tab 146 690 = (.iadd, 1) := by decide +kernel
set_option maxRecDepth 100000 in
theorem ti_146_691 : dp_tab 146 691 = (.iaload, 1) := by decide +kernel
set_option maxRecDepth 100000 in
theorem ti_146_692 : dp_tab 146 692 = (.invokevirtual 122, 3) := by decide +kernel
set_option maxRecDepth 100000 in
theorem ti_146_695 : dp_tab 146 695 = (.istore 6, 2) := by decide +kernel
set_option maxRecDepth 100000 in
theorem ti_146_697 : dp_tab 146 697 = (.aload_n 2, 1) := by decide +kernel
set_option maxRecDepth 100000 in
theorem ti_146_698 : dp_tab 146 698 = (.invokevirtual 94, 3) := by decide +kernel
set_option maxRecDepth 100000 in
theorem ti_146_701 : dp_tab 146 701 = (.iload 5, 2) := by decide +kernel
set_option maxRecDepth 100000 in
theorem ti_146_703 : dp_tab 146 703 = (.if_icmp .eq 5, 3) := by decide +kernel
set_option maxRecDepth 100000 in
theorem ti_146_706 : dp_tab 146 706 = (.iconst 0, 1) := by decide +kernel
set_option maxRecDepth 100000 in
theorem ti_146_707 : dp_tab 146 707 = (.ireturn, 1) := by decide +kernel
set_option maxRecDepth 100000 in
theorem ti_146_708 : dp_tab 146 708 = (.iload 5, 2) := by decide +kernel
set_option maxRecDepth 100000 in
theorem ti_146_710 : dp_tab 146 710 = (.ifCond .ne 15, 3) := by decide +kernel
set_option maxRecDepth 100000 in
theorem ti_146_713 : dp_tab 146 713 = (.aload_n 3, 1) := by decide +kernel
set_option maxRecDepth 100000 in
theorem ti_146_714 : dp_tab 146 714 = (.iconst 0, 1) := by decide +kernel
set_option maxRecDepth 100000 in
theorem ti_146_715 : dp_tab 146 715 = (.laload, 1) := by decide +kernel
set_option maxRecDepth 100000 in
theorem ti_146_716 : dp_tab 146 716 = (.iload 6, 2) := by decide +kernel
set_option maxRecDepth 100000 in
theorem ti_146_718 : dp_tab 146 718 = (.i2l, 1) := by decide +kernel
set_option maxRecDepth 100000 in
theorem ti_146_719 : dp_tab 146 719 = (.lcmp, 1) := by decide +kernel
set_option maxRecDepth 100000 in
theorem ti_146_720 : dp_tab 146 720 = (.ifCond .eq 5, 3) := by decide +kernel
set_option maxRecDepth 100000 in
theorem ti_146_723 : dp_tab 146 723 = (.iconst 0, 1) := by decide +kernel
set_option maxRecDepth 100000 in
theorem ti_146_724 : dp_tab 146 724 = (.ireturn, 1) := by decide +kernel
set_option maxRecDepth 100000 in
theorem ti_146_725 : dp_tab 146 725 = (.goto 895, 3) := by decide +kernel
set_option maxRecDepth 100000 in
theorem ti_146_728 : dp_tab 146 728 = (.aload_n 1, 1) := by decide +kernel
set_option maxRecDepth 100000 in
theorem ti_146_729 : dp_tab 146 729 = (.aload_n 0, 1) := by decide +kernel
set_option maxRecDepth 100000 in
theorem ti_146_730 : dp_tab 146 730 = (.iload 4, 2) := by decide +kernel
set_option maxRecDepth 100000 in
theorem ti_146_732 : dp_tab 146 732 = (.iconst 1, 1) := by decide +kernel
set_option maxRecDepth 100000 in
theorem ti_146_733 : dp_tab 146 733 = (.iadd, 1) := by decide +kernel
set_option maxRecDepth 100000 in
theorem ti_146_734 : dp_tab 146 734 = (.iaload, 1) := by decide +kernel
set_option maxRecDepth 100000 in
theorem ti_146_735 : dp_tab 146 735 = (.aload_n 3, 1) := by decide +kernel
set_option maxRecDepth 100000 in
theorem ti_146_736 : dp_tab 146 736 = (.invokestatic 123, 3) := by decide +kernel
set_option maxRecDepth 100000 in
theorem ti_146_739 : dp_tab 146 739 = (.istore 5, 2) := by decide +kernel
set_option maxRecDepth 100000 in
theorem ti_146_741 : dp_tab 146 741 = (.aload_n 2, 1) := by decide +kernel
set_option maxRecDepth 100000 in
theorem ti_146_742 : dp_tab 146 742 = (.aload_n 0, 1) := by decide +kernel
set_option maxRecDepth 100000 in
theorem ti_146_743 : dp_tab 146 743 = (.iload 4, 2) := by decide +kernel
set_option maxRecDepth 100000 in
theorem ti_146_745 : dp_tab 146 745 = (.iconst 1, 1) := by decide +kernel
set_option maxRecDepth 100000 in
theorem ti_146_746 : dp_tab 146 746 = (.iadd, 1) := by decide +kernel
set_option maxRecDepth 100000 in
theorem ti_146_747 : dp_tab 146 747 = (.iaload, 1) := by decide +kernel
set_option maxRecDepth 100000 in
theorem ti_146_748 : dp_tab 146 748 = (.invokevirtual 125, 3) := by decide +kernel
set_option maxRecDepth 100000 in
theorem ti_146_751 : dp_tab 146 751 = (.istore 6, 2) := by decide +kernel
set_option maxRecDepth 100000 in
theorem ti_146_753 : dp_tab 146 753 = (.aload_n 2, 1) := by decide +kernel
set_option maxRecDepth 100000 in
theorem ti_146_754 : dp_tab 146 754 = (.invokevirtual 94, 3) := by decide +kernel
set_option maxRecDepth 100000 in
theorem ti_146_757 : dp_tab 146 757 = (.iload 5, 2) := by decide +kernel
set_option maxRecDepth 100000 in
theorem ti_146_759 : dp_tab 146 759 = (.if_icmp .eq 5, 3) := by decide +kernel
set_option maxRecDepth 100000 in
theorem ti_146_762 : dp_tab 146 762 = (.iconst 0, 1) := by decide +kernel
set_option maxRecDepth 100000 in
theorem ti_146_763 : dp_tab 146 763 = (.ireturn, 1) := by decide +kernel
set_option maxRecDepth 100000 in
theorem ti_146_764 : dp_tab 146 764 = (.iload 5, 2) := by decide +kernel
set_option maxRecDepth 100000 in
theorem ti_146_766 : dp_tab 146 766 = (.ifCond .ne 15, 3) := by decide +kernel
set_option maxRecDepth 100000 in
theorem ti_146_769 : dp_tab 146 769 = (.aload_n 3, 1) := by decide +kernel
set_option maxRecDepth 100000 in
theorem ti_146_770 : dp_tab 146 770 = (.iconst 0, 1) := by decide +kernel
set_option maxRecDepth 100000 in
theorem ti_146_771 : dp_tab 146 771 = (.laload, 1) := by decide +kernel
set_option maxRecDepth 100000 in
theorem ti_146_772 : dp_tab 146 772 = (.iload 6, 2) := by decide +kernel
set_option maxRecDepth 100000 in
theorem ti_146_774 : dp_tab 146 774 = (.i2l, 1) := by decide +kernel
set_option maxRecDepth 100000 in
theorem ti_146_775 : dp_tab 146 775 = (.lcmp, 1) := by decide +kernel
set_option maxRecDepth 100000 in
theorem ti_146_776 : dp_tab 146 776 = (.ifCond .eq 5, 3) := by decide +kernel
set_option maxRecDepth 100000 in
theorem ti_146_779 : dp_tab 146 779 = (.iconst 0, 1) := by decide +kernel
set_option maxRecDepth 100000 in
theorem ti_146_780 : dp_tab 146 780 = (.ireturn, 1) := by decide +kernel
set_option maxRecDepth 100000 in
theorem ti_146_781 : dp_tab 146 781 = (.goto 839, 3) := by decide +kernel
set_option maxRecDepth 100000 in
theorem ti_146_784 : dp_tab 146 784 = (.aload_n 1, 1) := by decide +kernel
set_option maxRecDepth 100000 in
theorem ti_146_785 : dp_tab 146 785 = (.aload_n 0, 1) := by decide +kernel
set_option maxRecDepth 100000 in
theorem ti_146_786 : dp_tab 146 786 = (.iload 4, 2) := by decide +kernel
set_option maxRecDepth 100000 in
theorem ti_146_788 : dp_tab 146 788 = (.iconst 1, 1) := by decide +kernel
set_option maxRecDepth 100000 in
theorem ti_146_789 : dp_tab 146 789 = (.iadd, 1) := by decide +kernel
set_option maxRecDepth 100000 in
theorem ti_146_790 : dp_tab 146 790 = (.iaload, 1) := by decide +kernel
set_option maxRecDepth 100000 in
theorem ti_146_791 : dp_tab 146 791 = (.aload_n 3, 1) := by decide +kernel
set_option maxRecDepth 100000 in
theorem ti_146_792 : dp_tab 146 792 = (.invokestatic 126, 3) := by decide +kernel
set_option maxRecDepth 100000 in
theorem ti_146_795 : dp_tab 146 795 = (.istore 5, 2) := by decide +kernel
set_option maxRecDepth 100000 in
theorem ti_146_797 : dp_tab 146 797 = (.aload_n 2, 1) := by decide +kernel
set_option maxRecDepth 100000 in
theorem ti_146_798 : dp_tab 146 798 = (.aload_n 0, 1) := by decide +kernel
set_option maxRecDepth 100000 in
theorem ti_146_799 : dp_tab 146 799 = (.iload 4, 2) := by decide +kernel
set_option maxRecDepth 100000 in
theorem ti_146_801 : dp_tab 146 801 = (.iconst 1, 1) := by decide +kernel
set_option maxRecDepth 100000 in
theorem ti_146_802 : dp_tab 146 802 = (.iadd, 1) := by decide +kernel
set_option maxRecDepth 100000 in
theorem ti_146_803 : dp_tab 146 803 = (.iaload, 1) := by decide +kernel
set_option maxRecDepth 100000 in
theorem ti_146_804 : dp_tab 146 804 = (.invokevirtual 128, 3) := by decide +kernel
set_option maxRecDepth 100000 in
theorem ti_146_807 : dp_tab 146 807 = (.istore 6, 2) := by decide +kernel
set_option maxRecDepth 100000 in
theorem ti_146_809 : dp_tab 146 809 = (.aload_n 2, 1) := by decide +kernel
set_option maxRecDepth 100000 in
theorem ti_146_810 : dp_tab 146 810 = (.invokevirtual 94, 3) := by decide +kernel
set_option maxRecDepth 100000 in
theorem ti_146_813 : dp_tab 146 813 = (.iload 5, 2) := by decide +kernel
set_option maxRecDepth 100000 in
theorem ti_146_815 : dp_tab 146 815 = (.if_icmp .eq 5, 3) := by decide +kernel
set_option maxRecDepth 100000 in
theorem ti_146_818 : dp_tab 146 818 = (.iconst 0, 1) := by decide +kernel
set_option maxRecDepth 100000 in
theorem ti_146_819 : dp_tab 146 819 = (.ireturn, 1) := by decide +kernel
set_option maxRecDepth 100000 in
theorem ti_146_820 : dp_tab 146 820 = (.iload 5, 2) := by decide +kernel
set_option maxRecDepth 100000 in
theorem ti_146_822 : dp_tab 146 822 = (.ifCond .ne 15, 3) := by decide +kernel
set_option maxRecDepth 100000 in
theorem ti_146_825 : dp_tab 146 825 = (.aload_n 3, 1) := by decide +kernel
set_option maxRecDepth 100000 in
theorem ti_146_826 : dp_tab 146 826 = (.iconst 0, 1) := by decide +kernel
set_option maxRecDepth 100000 in
theorem ti_146_827 : dp_tab 146 827 = (.laload, 1) := by decide +kernel
set_option maxRecDepth 100000 in
theorem ti_146_828 : dp_tab 146 828 = (.iload 6, 2) := by decide +kernel
set_option maxRecDepth 100000 in
theorem ti_146_830 : dp_tab 146 830 = (.i2l, 1) := by decide +kernel
set_option maxRecDepth 100000 in
theorem ti_146_831 : dp_tab 146 831 = (.lcmp, 1) := by decide +kernel
set_option maxRecDepth 100000 in
theorem ti_146_832 : dp_tab 146 832 = (.ifCond .eq 5, 3) := by decide +kernel
set_option maxRecDepth 100000 in
theorem ti_146_835 : dp_tab 146 835 = (.iconst 0, 1) := by decide +kernel
set_option maxRecDepth 100000 in
theorem ti_146_836 : dp_tab 146 836 = (.ireturn, 1) := by decide +kernel
set_option maxRecDepth 100000 in
theorem ti_146_837 : dp_tab 146 837 = (.goto 783, 3) := by decide +kernel
set_option maxRecDepth 100000 in
theorem ti_146_840 : dp_tab 146 840 = (.aload_n 1, 1) := by decide +kernel
set_option maxRecDepth 100000 in
theorem ti_146_841 : dp_tab 146 841 = (.aload_n 0, 1) := by decide +kernel
set_option maxRecDepth 100000 in
theorem ti_146_842 : dp_tab 146 842 = (.iload 4, 2) := by decide +kernel
set_option maxRecDepth 100000 in
theorem ti_146_844 : dp_tab 146 844 = (.iconst 1, 1) := by decide +kernel
set_option maxRecDepth 100000 in
theorem ti_146_845 : dp_tab 146 845 = (.iadd, 1) := by decide +kernel
set_option maxRecDepth 100000 in
theorem ti_146_846 : dp_tab 146 846 = (.iaload, 1) := by decide +kernel
set_option maxRecDepth 100000 in
theorem ti_146_847 : dp_tab 146 847 = (.aload_n 0, 1) := by decide +kernel
set_option maxRecDepth 100000 in
theorem ti_146_848 : dp_tab 146 848 = (.iload 4, 2) := by decide +kernel
set_option maxRecDepth 100000 in
theorem ti_146_850 : dp_tab 146 850 = (.iconst 2, 1) := by decide +kernel
set_option maxRecDepth 100000 in
theorem ti_146_851 : dp_tab 146 851 = (.iadd, 1) := by decide +kernel
set_option maxRecDepth 100000 in
theorem ti_146_852 : dp_tab 146 852 = (.iaload, 1) := by decide +kernel
set_option maxRecDepth 100000 in
theorem ti_146_853 : dp_tab 146 853 = (.aload_n 3, 1) := by decide +kernel
set_option maxRecDepth 100000 in
theorem ti_146_854 : dp_tab 146 854 = (.invokestatic 129, 3) := by decide +kernel
set_option maxRecDepth 100000 in
theorem ti_146_857 : dp_tab 146 857 = (.istore 5, 2) := by decide +kernel
set_option maxRecDepth 100000 in
theorem ti_146_859 : dp_tab 146 859 = (.aload_n 2, 1) := by decide +kernel
set_option maxRecDepth 100000 in
theorem ti_146_860 : dp_tab 146 860 = (.aload_n 0, 1) := by decide +kernel
set_option maxRecDepth 100000 in
theorem ti_146_861 : dp_tab 146 861 = (.iload 4, 2) := by decide +kernel
set_option maxRecDepth 100000 in
theorem ti_146_863 : dp_tab 146 863 = (.iconst 1, 1) := by decide +kernel
set_option maxRecDepth 100000 in
theorem ti_146_864 : dp_tab 146 864 = (.iadd, 1) := by decide +kernel
set_option maxRecDepth 100000 in
theorem ti_146_865 : dp_tab 146 865 = (.iaload, 1) := by decide +kernel
set_option maxRecDepth 100000 in
theorem ti_146_866 : dp_tab 146 866 = (.aload_n 0, 1) := by decide +kernel
set_option maxRecDepth 100000 in
theorem ti_146_867 : dp_tab 146 867 = (.iload 4, 2) := by decide +kernel
set_option maxRecDepth 100000 in
theorem ti_146_869 : dp_tab 146 869 = (.iconst 2, 1) := by decide +kernel
set_option maxRecDepth 100000 in
theorem ti_146_870 : dp_tab 146 870 = (.iadd, 1) := by decide +kernel
set_option maxRecDepth 100000 in
theorem ti_146_871 : dp_tab 146 871 = (.iaload, 1) := by decide +kernel
set_option maxRecDepth 100000 in
theorem ti_146_872 : dp_tab 146 872 = (.invokevirtual 131, 3) := by decide +kernel
set_option maxRecDepth 100000 in
theorem ti_146_875 : dp_tab 146 875 = (.istore 6, 2) := by decide +kernel
set_option maxRecDepth 100000 in
theorem ti_146_877 : dp_tab 146 877 = (.aload_n 2, 1) := by decide +kernel
set_option maxRecDepth 100000 in
theorem ti_146_878 : dp_tab 146 878 = (.invokevirtual 94, 3) := by decide +kernel
set_option maxRecDepth 100000 in
theorem ti_146_881 : dp_tab 146 881 = (.iload 5, 2) := by decide +kernel
set_option maxRecDepth 100000 in
theorem ti_146_883 : dp_tab 146 883 = (.if_icmp .eq 5, 3) := by decide +kernel
set_option maxRecDepth 100000 in
theorem ti_146_886 : dp_tab 146 886 = (.iconst 0, 1) := by decide +kernel
set_option maxRecDepth 100000 in
theorem ti_146_887 : dp_tab 146 887 = (.ireturn, 1) := by decide +kernel
set_option maxRecDepth 100000 in
theorem ti_146_888 : dp_tab 146 888 = (.iload 5, 2) := by decide +kernel
set_option maxRecDepth 100000 in
theorem ti_146_890 : dp_tab 146 890 = (.ifCond .ne 15, 3) := by decide +kernel
set_option maxRecDepth 100000 in
theorem ti_146_893 : dp_tab 146 893 = (.aload_n 3, 1) := by decide +kernel
set_option maxRecDepth 100000 in
theorem ti_146_894 : dp_tab 146 894 = (.iconst 0, 1) := by decide +kernel
set_option maxRecDepth 100000 in
theorem ti_146_895 : dp_tab 146 895 = (.laload, 1) := by decide +kernel
set_option maxRecDepth 100000 in
theorem ti_146_896 : dp_tab 146 896 = (.iload 6, 2) := by decide +kernel
set_option maxRecDepth 100000 in
theorem ti_146_898 : dp_tab 146 898 = (.i2l, 1) := by decide +kernel
set_option maxRecDepth 100000 in
theorem ti_146_899 : dp_tab 146 899 = (.lcmp, 1) := by decide +kernel
set_option maxRecDepth 100000 in
theorem ti_146_900 : dp_tab 146 900 = (.ifCond .eq 5, 3) := by decide +kernel
set_option maxRecDepth 100000 in
theorem ti_146_903 : dp_tab 146 903 = (.iconst 0, 1) := by decide +kernel
set_option maxRecDepth 100000 in
theorem ti_146_904 : dp_tab 146 904 = (.ireturn, 1) := by decide +kernel
set_option maxRecDepth 100000 in
theorem ti_146_905 : dp_tab 146 905 = (.goto 715, 3) := by decide +kernel
set_option maxRecDepth 100000 in
theorem ti_146_908 : dp_tab 146 908 = (.aload_n 1, 1) := by decide +kernel
set_option maxRecDepth 100000 in
theorem ti_146_909 : dp_tab 146 909 = (.aload_n 0, 1) := by decide +kernel
set_option maxRecDepth 100000 in
theorem ti_146_910 : dp_tab 146 910 = (.iload 4, 2) := by decide +kernel
set_option maxRecDepth 100000 in
theorem ti_146_912 : dp_tab 146 912 = (.iconst 1, 1) := by decide +kernel
set_option maxRecDepth 100000 in
theorem ti_146_913 : dp_tab 146 913 = (.iadd, 1) := by decide +kernel
set_option maxRecDepth 100000 in
theorem ti_146_914 : dp_tab 146 914 = (.iaload, 1) := by decide +kernel
set_option maxRecDepth 100000 in
theorem ti_146_915 : dp_tab 146 915 = (.aload_n 0, 1) := by decide +kernel
set_option maxRecDepth 100000 in
theorem ti_146_916 : dp_tab 146 916 = (.iload 4, 2) := by decide +kernel
set_option maxRecDepth 100000 in
theorem ti_146_918 : dp_tab 146 918 = (.iconst 2, 1) := by decide +kernel
set_option maxRecDepth 100000 in
theorem ti_146_919 : dp_tab 146 919 = (.iadd, 1) := by decide +kernel
set_option maxRecDepth 100000 in
theorem ti_146_920 : dp_tab 146 920 = (.iaload, 1) := by decide +kernel
set_option maxRecDepth 100000 in
theorem ti_146_921 : dp_tab 146 921 = (.aload_n 3, 1) := by decide +kernel
set_option maxRecDepth 100000 in
theorem ti_146_922 : dp_tab 146 922 = (.invokestatic 132, 3) := by decide +kernel
set_option maxRecDepth 100000 in
theorem ti_146_925 : dp_tab 146 925 = (.istore 5, 2) := by decide +kernel
set_option maxRecDepth 100000 in
theorem ti_146_927 : dp_tab 146 927 = (.aload_n 2, 1) := by decide +kernel
set_option maxRecDepth 100000 in
theorem ti_146_928 : dp_tab 146 928 = (.aload_n 0, 1) := by decide +kernel
set_option maxRecDepth 100000 in
theorem ti_146_929 : dp_tab 146 929 = (.iload 4, 2) := by decide +kernel
set_option maxRecDepth 100000 in
theorem ti_146_931 : dp_tab 146 931 = (.iconst 1, 1) := by decide +kernel
set_option maxRecDepth 100000 in
theorem ti_146_932 : dp_tab 146 932 = (.iadd, 1) := by decide +kernel
set_option maxRecDepth 100000 in
theorem ti_146_933 : dp_tab 146 933 = (.iaload, 1) := by decide +kernel
set_option maxRecDepth 100000 in
theorem ti_146_934 : dp_tab 146 934 = (.aload_n 0, 1) := by decide +kernel
set_option maxRecDepth 100000 in
theorem ti_146_935 : dp_tab 146 935 = (.iload 4, 2) := by decide +kernel
set_option maxRecDepth 100000 in
theorem ti_146_937 : dp_tab 146 937 = (.iconst 2, 1) := by decide +kernel
set_option maxRecDepth 100000 in
theorem ti_146_938 : dp_tab 146 938 = (.iadd, 1) := by decide +kernel
set_option maxRecDepth 100000 in
theorem ti_146_939 : dp_tab 146 939 = (.iaload, 1) := by decide +kernel
set_option maxRecDepth 100000 in
theorem ti_146_940 : dp_tab 146 940 = (.invokevirtual 134, 3) := by decide +kernel
set_option maxRecDepth 100000 in
theorem ti_146_943 : dp_tab 146 943 = (.istore 6, 2) := by decide +kernel
set_option maxRecDepth 100000 in
theorem ti_146_945 : dp_tab 146 945 = (.aload_n 2, 1) := by decide +kernel
set_option maxRecDepth 100000 in
theorem ti_146_946 : dp_tab 146 946 = (.invokevirtual 94, 3) := by decide +kernel
set_option maxRecDepth 100000 in
theorem ti_146_949 : dp_tab 146 949 = (.iload 5, 2) := by decide +kernel
set_option maxRecDepth 100000 in
theorem ti_146_951 : dp_tab 146 951 = (.if_icmp .eq 5, 3) := by decide +kernel
set_option maxRecDepth 100000 in
theorem ti_146_954 : dp_tab 146 954 = (.iconst 0, 1) := by decide +kernel
set_option maxRecDepth 100000 in
theorem ti_146_955 : dp_tab 146 955 = (.ireturn, 1) := by decide +kernel
set_option maxRecDepth 100000 in
theorem ti_146_956 : dp_tab 146 956 = (.iload 5, 2) := by decide +kernel
set_option maxRecDepth 100000 in
theorem ti_146_958 : dp_tab 146 958 = (.ifCond .ne 15, 3) := by decide +kernel
set_option maxRecDepth 100000 in
theorem ti_146_961 : dp_tab 146 961 = (.aload_n 3, 1) := by decide +kernel
set_option maxRecDepth 100000 in
theorem ti_146_962 : dp_tab 146 962 = (.iconst 0, 1) := by decide +kernel
set_option maxRecDepth 100000 in
theorem ti_146_963 : dp_tab 146 963 = (.laload, 1) := by decide +kernel
set_option maxRecDepth 100000 in
theorem ti_146_964 : dp_tab 146 964 = (.iload 6, 2) := by decide +kernel
set_option maxRecDepth 100000 in
theorem ti_146_966 : dp_tab 146 966 = (.i2l, 1) := by decide +kernel
set_option maxRecDepth 100000 in
theorem ti_146_967 : dp_tab 146 967 = (.lcmp, 1) := by decide +kernel
set_option maxRecDepth 100000 in
theorem ti_146_968 : dp_tab 146 968 = (.ifCond .eq 5, 3) := by decide +kernel
set_option maxRecDepth 100000 in
theorem ti_146_971 : dp_tab 146 971 = (.iconst 0, 1) := by decide +kernel
set_option maxRecDepth 100000 in
theorem ti_146_972 : dp_tab 146 972 = (.ireturn, 1) := by decide +kernel
set_option maxRecDepth 100000 in
theorem ti_146_973 : dp_tab 146 973 = (.goto 647, 3) := by decide +kernel
set_option maxRecDepth 100000 in
theorem ti_146_976 : dp_tab 146 976 = (.aload_n 1, 1) := by decide +kernel
set_option maxRecDepth 100000 in
theorem ti_146_977 : dp_tab 146 977 = (.aload_n 0, 1) := by decide +kernel
set_option maxRecDepth 100000 in
theorem ti_146_978 : dp_tab 146 978 = (.iload 4, 2) := by decide +kernel
set_option maxRecDepth 100000 in
theorem ti_146_980 : dp_tab 146 980 = (.iconst 1, 1) := by decide +kernel
set_option maxRecDepth 100000 in
theorem ti_146_981 : dp_tab 146 981 = (.iadd, 1) := by decide +kernel
set_option maxRecDepth 100000 in
theorem ti_146_982 : dp_tab 146 982 = (.iaload, 1) := by decide +kernel
set_option maxRecDepth 100000 in
theorem ti_146_983 : dp_tab 146 983 = (.aload_n 0, 1) := by decide +kernel
set_option maxRecDepth 100000 in
theorem ti_146_984 : dp_tab 146 984 = (.iload 4, 2) := by decide +kernel
set_option maxRecDepth 100000 in
theorem ti_146_986 : dp_tab 146 986 = (.iconst 2, 1) := by decide +kernel
set_option maxRecDepth 100000 in
theorem ti_146_987 : dp_tab 146 987 = (.iadd, 1) := by decide +kernel
set_option maxRecDepth 100000 in
theorem ti_146_988 : dp_tab 146 988 = (.iaload, 1) := by decide +kernel
set_option maxRecDepth 100000 in
theorem ti_146_989 : dp_tab 146 989 = (.aload_n 3, 1) := by decide +kernel
set_option maxRecDepth 100000 in
theorem ti_146_990 : dp_tab 146 990 = (.invokestatic 135, 3) := by decide +kernel
set_option maxRecDepth 100000 in
theorem ti_146_993 : dp_tab 146 993 = (.istore 5, 2) := by decide +kernel
set_option maxRecDepth 100000 in
theorem ti_146_995 : dp_tab 146 995 = (.aload_n 2, 1) := by decide +kernel
set_option maxRecDepth 100000 in
theorem ti_146_996 : dp_tab 146 996 = (.aload_n 0, 1) := by decide +kernel
set_option maxRecDepth 100000 in
theorem ti_146_997 : dp_tab 146 997 = (.iload 4, 2) := by decide +kernel
set_option maxRecDepth 100000 in
theorem ti_146_999 : dp_tab 146 999 = (.iconst 1, 1) := by decide +kernel
set_option maxRecDepth 100000 in
theorem ti_146_1000 : dp_tab 146 1000 = (.iadd, 1) := by decide +kernel
set_option maxRecDepth 100000 in
theorem ti_146_1001 : dp_tab 146 1001 = (.iaload, 1) := by decide +kernel
set_option maxRecDepth 100000 in
theorem ti_146_1002 : dp_tab 146 1002 = (.aload_n 0, 1) := by decide +kernel
set_option maxRecDepth 100000 in
theorem ti_146_1003 : dp_tab 146 1003 = (.iload 4, 2) := by decide +kernel
set_option maxRecDepth 100000 in
theorem ti_146_1005 : dp_tab 146 1005 = (.iconst 2, 1) := by decide +kernel
set_option maxRecDepth 100000 in
theorem ti_146_1006 : dp_tab 146 1006 = (.iadd, 1) := by decide +kernel
set_option maxRecDepth 100000 in
theorem ti_146_1007 : dp_tab 146 1007 = (.iaload, 1) := by decide +kernel
set_option maxRecDepth 100000 in
theorem ti_146_1008 : dp_tab 146 1008 = (.invokevirtual 137, 3) := by decide +kernel
set_option maxRecDepth 100000 in
theorem ti_146_1011 : dp_tab 146 1011 = (.istore 6, 2) := by decide +kernel
set_option maxRecDepth 100000 in
theorem ti_146_1013 : dp_tab 146 1013 = (.aload_n 2, 1) := by decide +kernel
set_option maxRecDepth 100000 in
theorem ti_146_1014 : dp_tab 146 1014 = (.invokevirtual 94, 3) := by decide +kernel
set_option maxRecDepth 100000 in
theorem ti_146_1017 : dp_tab 146 1017 = (.iload 5, 2) := by decide +kernel
set_option maxRecDepth 100000 in
theorem ti_146_1019 : dp_tab 146 1019 = (.if_icmp .eq 5, 3) := by decide +kernel
set_option maxRecDepth 100000 in
theorem ti_146_1022 : dp_tab 146 1022 = (.iconst 0, 1) := by decide +kernel
set_option maxRecDepth 100000 in
theorem ti_146_1023 : dp_tab 146 1023 = (.ireturn, 1) := by decide +kernel
set_option maxRecDepth 100000 in
theorem ti_146_1024 : dp_tab 146 1024 = (.iload 5, 2) := by decide +kernel
set_option maxRecDepth 100000 in
theorem ti_146_1026 : dp_tab 146 1026 = (.ifCond .ne 15, 3) := by decide +kernel
set_option maxRecDepth 100000 in
theorem ti_146_1029 : dp_tab 146 1029 = (.aload_n 3, 1) := by decide +kernel
set_option maxRecDepth 100000 in
theorem ti_146_1030 : dp_tab 146 1030 = (.iconst 0, 1) := by decide +kernel
set_option maxRecDepth 100000 in
theorem ti_146_1031 : dp_tab 146 1031 = (.laload, 1) := by decide +kernel
set_option maxRecDepth 100000 in
theorem ti_146_1032 : dp_tab 146 1032 = (.iload 6, 2) := by decide +kernel
set_option maxRecDepth 100000 in
theorem ti_146_1034 : dp_tab 146 1034 = (.i2l, 1) := by decide +kernel
set_option maxRecDepth 100000 in
theorem ti_146_1035 : dp_tab 146 1035 = (.lcmp, 1) := by decide +kernel
set_option maxRecDepth 100000 in
theorem ti_146_1036 : dp_tab 146 1036 = (.ifCond .eq 5, 3) := by decide +kernel
set_option maxRecDepth 100000 in
theorem ti_146_1039 : dp_tab 146 1039 = (.iconst 0, 1) := by decide +kernel
set_option maxRecDepth 100000 in
theorem ti_146_1040 : dp_tab 146 1040 = (.ireturn, 1) := by decide +kernel
set_option maxRecDepth 100000 in
theorem ti_146_1041 : dp_tab 146 1041 = (.goto 579, 3) := by decide +kernel
set_option maxRecDepth 100000 in
theorem ti_146_1044 : dp_tab 146 1044 = (.aload_n 1, 1) := by decide +kernel
set_option maxRecDepth 100000 in
theorem ti_146_1045 : dp_tab 146 1045 = (.aload_n 0, 1) := by decide +kernel
set_option maxRecDepth 100000 in
theorem ti_146_1046 : dp_tab 146 1046 = (.iload 4, 2) := by decide +kernel
set_option maxRecDepth 100000 in
theorem ti_146_1048 : dp_tab 146 1048 = (.iconst 1, 1) := by decide +kernel
set_option maxRecDepth 100000 in
theorem ti_146_1049 : dp_tab 146 1049 = (.iadd, 1) := by decide +kernel
set_option maxRecDepth 100000 in
theorem ti_146_1050 : dp_tab 146 1050 = (.iaload, 1) := by decide +kernel
set_option maxRecDepth 100000 in
theorem ti_146_1051 : dp_tab 146 1051 = (.aload_n 0, 1) := by decide +kernel
set_option maxRecDepth 100000 in
theorem ti_146_1052 : dp_tab 146 1052 = (.iload 4, 2) := by decide +kernel
set_option maxRecDepth 100000 in
theorem ti_146_1054 : dp_tab 146 1054 = (.iconst 2, 1) := by decide +kernel
set_option maxRecDepth 100000 in
theorem ti_146_1055 : dp_tab 146 1055 = (.iadd, 1) := by decide +kernel
set_option maxRecDepth 100000 in
theorem ti_146_1056 : dp_tab 146 1056 = (.iaload, 1) := by decide +kernel
set_option maxRecDepth 100000 in
theorem ti_146_1057 : dp_tab 146 1057 = (.aload_n 3, 1) := by decide +kernel
set_option maxRecDepth 100000 in
theorem ti_146_1058 : dp_tab 146 1058 = (.invokestatic 138, 3) := by decide +kernel
set_option maxRecDepth 100000 in
theorem ti_146_1061 : dp_tab 146 1061 = (.istore 5, 2) := by decide +kernel
set_option maxRecDepth 100000 in
theorem ti_146_1063 : dp_tab 146 1063 = (.aload_n 2, 1) := by decide +kernel
set_option maxRecDepth 100000 in
theorem ti_146_1064 : dp_tab 146 1064 = (.aload_n 0, 1) := by decide +kernel
set_option maxRecDepth 100000 in
theorem ti_146_1065 : dp_tab 146 1065 = (.iload 4, 2) := by decide +kernel
set_option maxRecDepth 100000 in
theorem ti_146_1067 : dp_tab 146 1067 = (.iconst 1, 1) := by decide +kernel
set_option maxRecDepth 100000 in
theorem ti_146_1068 : dp_tab 146 1068 = (.iadd, 1) := by decide +kernel
set_option maxRecDepth 100000 in
theorem ti_146_1069 : dp_tab 146 1069 = (.iaload, 1) := by decide +kernel
set_option maxRecDepth 100000 in
theorem ti_146_1070 : dp_tab 146 1070 = (.aload_n 0, 1) := by decide +kernel
set_option maxRecDepth 100000 in
theorem ti_146_1071 : dp_tab 146 1071 = (.iload 4, 2) := by decide +kernel
set_option maxRecDepth 100000 in
theorem ti_146_1073 : dp_tab 146 1073 = (.iconst 2, 1) := by decide +kernel
set_option maxRecDepth 100000 in
theorem ti_146_1074 : dp_tab 146 1074 = (.iadd, 1) := by decide +kernel
set_option maxRecDepth 100000 in
theorem ti_146_1075 : dp_tab 146 1075 = (.iaload, 1) := by decide +kernel
set_option maxRecDepth 100000 in
theorem ti_146_1076 : dp_tab 146 1076 = (.invokevirtual 140, 3) := by decide +kernel
set_option maxRecDepth 100000 in
theorem ti_146_1079 : dp_tab 146 1079 = (.istore 6, 2) := by decide +kernel
set_option maxRecDepth 100000 in
theorem ti_146_1081 : dp_tab 146 1081 = (.aload_n 2, 1) := by decide +kernel
set_option maxRecDepth 100000 in
theorem ti_146_1082 : dp_tab 146 1082 = (.invokevirtual 94, 3) := by decide +kernel
set_option maxRecDepth 100000 in
theorem ti_146_1085 : dp_tab 146 1085 = (.iload 5, 2) := by decide +kernel
set_option maxRecDepth 100000 in
theorem ti_146_1087 : dp_tab 146 1087 = (.if_icmp .eq 5, 3) := by decide +kernel
set_option maxRecDepth 100000 in
theorem ti_146_1090 : dp_tab 146 1090 = (.iconst 0, 1) := by decide +kernel
set_option maxRecDepth 100000 in
theorem ti_146_1091 : dp_tab 146 1091 = (.ireturn, 1) := by decide +kernel
set_option maxRecDepth 100000 in
theorem ti_146_1092 : dp_tab 146 1092 = (.iload 5, 2) := by decide +kernel
set_option maxRecDepth 100000 in
theorem ti_146_1094 : dp_tab 146 1094 = (.ifCond .ne 15, 3) := by decide +kernel
set_option maxRecDepth 100000 in
theorem ti_146_1097 : dp_tab 146 1097 = (.aload_n 3, 1) := by decide +kernel
set_option maxRecDepth 100000 in
theorem ti_146_1098 : dp_tab 146 1098 = (.iconst 0, 1) := by decide +kernel
set_option maxRecDepth 100000 in
theorem ti_146_1099 : dp_tab 146 1099 = (.laload, 1) := by decide +kernel
set_option maxRecDepth 100000 in
theorem ti_146_1100 : dp_tab 146 1100 = (.iload 6, 2) := by decide +kernel
set_option maxRecDepth 100000 in
theorem ti_146_1102 : dp_tab 146 1102 = (.i2l, 1) := by decide +kernel
set_option maxRecDepth 100000 in
theorem ti_146_1103 : dp_tab 146 1103 = (.lcmp, 1) := by decide +kernel
set_option maxRecDepth 100000 in
theorem ti_146_1104 : dp_tab 146 1104 = (.ifCond .eq 5, 3) := by decide +kernel
set_option maxRecDepth 100000 in
theorem ti_146_1107 : dp_tab 146 1107 = (.iconst 0, 1) := by decide +kernel
set_option maxRecDepth 100000 in
theorem ti_146_1108 : dp_tab 146 1108 = (.ireturn, 1) := by decide +kernel
set_option maxRecDepth 100000 in
theorem ti_146_1109 : dp_tab 146 1109 = (.goto 511, 3) := by decide +kernel
set_option maxRecDepth 100000 in
theorem ti_146_1112 : dp_tab 146 1112 = (.aload_n 1, 1) := by decide +kernel
set_option maxRecDepth 100000 in
theorem ti_146_1113 : dp_tab 146 1113 = (.aload_n 0, 1) := by decide +kernel
set_option maxRecDepth 100000 in
theorem ti_146_1114 : dp_tab 146 1114 = (.iload 4, 2) := by decide +kernel
set_option maxRecDepth 100000 in
theorem ti_146_1116 : dp_tab 146 1116 = (.iconst 1, 1) := by decide +kernel
set_option maxRecDepth 100000 in
theorem ti_146_1117 : dp_tab 146 1117 = (.iadd, 1) := by decide +kernel
set_option maxRecDepth 100000 in
theorem ti_146_1118 : dp_tab 146 1118 = (.iaload, 1) := by decide +kernel
set_option maxRecDepth 100000 in
theorem ti_146_1119 : dp_tab 146 1119 = (.aload_n 3, 1) := by decide +kernel
set_option maxRecDepth 100000 in
theorem ti_146_1120 : dp_tab 146 1120 = (.invokestatic 141, 3) := by decide +kernel
set_option maxRecDepth 100000 in
theorem ti_146_1123 : dp_tab 146 1123 = (.istore 5, 2) := by decide +kernel
set_option maxRecDepth 100000 in
theorem ti_146_1125 : dp_tab 146 1125 = (.aload_n 2, 1) := by decide +kernel
set_option maxRecDepth 100000 in
theorem ti_146_1126 : dp_tab 146 1126 = (.aload_n 0, 1) := by decide +kernel
set_option maxRecDepth 100000 in
theorem ti_146_1127 : dp_tab 146 1127 = (.iload 4, 2) := by decide +kernel
set_option maxRecDepth 100000 in
theorem ti_146_1129 : dp_tab 146 1129 = (.iconst 1, 1) := by decide +kernel
set_option maxRecDepth 100000 in
theorem ti_146_1130 : dp_tab 146 1130 = (.iadd, 1) := by decide +kernel
set_option maxRecDepth 100000 in
theorem ti_146_1131 : dp_tab 146 1131 = (.iaload, 1) := by decide +kernel
set_option maxRecDepth 100000 in
theorem ti_146_1132 : dp_tab 146 1132 = (.invokevirtual 143, 3) := by decide +kernel
set_option maxRecDepth 100000 in
theorem ti_146_1135 : dp_tab 146 1135 = (.istore 6, 2) := by decide +kernel
set_option maxRecDepth 100000 in
theorem ti_146_1137 : dp_tab 146 1137 = (.aload_n 2, 1) := by decide +kernel
set_option maxRecDepth 100000 in
theorem ti_146_1138 : dp_tab 146 1138 = (.invokevirtual 94, 3) := by decide +kernel
set_option maxRecDepth 100000 in
theorem ti_146_1141 : dp_tab 146 1141 = (.iload 5, 2) := by decide +kernel
set_option maxRecDepth 100000 in
theorem ti_146_1143 : dp_tab 146 1143 = (.if_icmp .eq 5, 3) := by decide +kernel
set_option maxRecDepth 100000 in
theorem ti_146_1146 : dp_tab 146 1146 = (.iconst 0, 1) := by decide +kernel
set_option maxRecDepth 100000 in
theorem ti_146_1147 : dp_tab 146 1147 = (.ireturn, 1) := by decide +kernel
set_option maxRecDepth 100000 in
theorem ti_146_1148 : dp_tab 146 1148 = (.iload 5, 2) := by decide +kernel
set_option maxRecDepth 100000 in
theorem ti_146_1150 : dp_tab 146 1150 = (.ifCond .ne 15, 3) := by decide +kernel
set_option maxRecDepth 100000 in
theorem ti_146_1153 : dp_tab 146 1153 = (.aload_n 3, 1) := by decide +kernel
set_option maxRecDepth 100000 in
theorem ti_146_1154 : dp_tab 146 1154 = (.iconst 0, 1) := by decide +kernel
set_option maxRecDepth 100000 in
theorem ti_146_1155 : dp_tab 146 1155 = (.laload, 1) := by decide +kernel
set_option maxRecDepth 100000 in
theorem ti_146_1156 : dp_tab 146 1156 = (.iload 6, 2) := by decide +kernel
set_option maxRecDepth 100000 in
theorem ti_146_1158 : dp_tab 146 1158 = (.i2l, 1) := by decide +kernel
set_option maxRecDepth 100000 in
theorem ti_146_1159 : dp_tab 146 1159 = (.lcmp, 1) := by decide +kernel
set_option maxRecDepth 100000 in
theorem ti_146_1160 : dp_tab 146 1160 = (.ifCond .eq 5, 3) := by decide +kernel
set_option maxRecDepth 100000 in
theorem ti_146_1163 : dp_tab 146 1163 = (.iconst 0, 1) := by decide +kernel
set_option maxRecDepth 100000 in
theorem ti_146_1164 : dp_tab 146 1164 = (.ireturn, 1) := by decide +kernel
set_option maxRecDepth 100000 in
theorem ti_146_1165 : dp_tab 146 1165 = (.goto 455, 3) := by decide +kernel
set_option maxRecDepth 100000 in
theorem ti_146_1168 : dp_tab 146 1168 = (.aload_n 1, 1) := by decide +kernel
set_option maxRecDepth 100000 in
theorem ti_146_1169 : dp_tab 146 1169 = (.aload_n 0, 1) := by decide +kernel
set_option maxRecDepth 100000 in
theorem ti_146_1170 : dp_tab 146 1170 = (.iload 4, 2) := by decide +kernel
set_option maxRecDepth 100000 in
theorem ti_146_1172 : dp_tab 146 1172 = (.iconst 1, 1) := by decide +kernel
set_option maxRecDepth 100000 in
theorem ti_146_1173 : dp_tab 146 1173 = (.iadd, 1) := by decide +kernel
set_option maxRecDepth 100000 in
theorem ti_146_1174 : dp_tab 146 1174 = (.iaload, 1) := by decide +kernel
set_option maxRecDepth 100000 in
theorem ti_146_1175 : dp_tab 146 1175 = (.aload_n 3, 1) := by decide +kernel
set_option maxRecDepth 100000 in
theorem ti_146_1176 : dp_tab 146 1176 = (.invokestatic 144, 3) := by decide +kernel
set_option maxRecDepth 100000 in
theorem ti_146_1179 : dp_tab 146 1179 = (.istore 5, 2) := by decide +kernel
set_option maxRecDepth 100000 in
theorem ti_146_1181 : dp_tab 146 1181 = (.aload_n 2, 1) := by decide +kernel
set_option maxRecDepth 100000 in
theorem ti_146_1182 : dp_tab 146 1182 = (.aload_n 0, 1) := by decide +kernel
set_option maxRecDepth 100000 in
theorem ti_146_1183 : dp_tab 146 1183 = (.iload 4, 2) := by decide +kernel
set_option maxRecDepth 100000 in
theorem ti_146_1185 : dp_tab 146 1185 = (.iconst 1, 1) := by decide +kernel
set_option maxRecDepth 100000 in
theorem ti_146_1186 : dp_tab 146 1186 = (.iadd, 1) := by decide +kernel
set_option maxRecDepth 100000 in
theorem ti_146_1187 : dp_tab 146 1187 = (.iaload, 1) := by decide +kernel
set_option maxRecDepth 100000 in
theorem ti_146_1188 : dp_tab 146 1188 = (.invokevirtual 146, 3) := by decide +kernel
set_option maxRecDepth 100000 in
theorem ti_146_1191 : dp_tab 146 1191 = (.istore 6, 2) := by decide +kernel
set_option maxRecDepth 100000 in
theorem ti_146_1193 : dp_tab 146 1193 = (.aload_n 2, 1) := by decide +kernel
set_option maxRecDepth 100000 in
theorem ti_146_1194 : dp_tab 146 1194 = (.invokevirtual 94, 3) := by decide +kernel
set_option maxRecDepth 100000 in
theorem ti_146_1197 : dp_tab 146 1197 = (.iload 5, 2) := by decide +kernel
set_option maxRecDepth 100000 in
theorem ti_146_1199 : dp_tab 146 1199 = (.if_icmp .eq 5, 3) := by decide +kernel
set_option maxRecDepth 100000 in
theorem ti_146_1202 : dp_tab 146 1202 = (.iconst 0, 1) := by decide +kernel
set_option maxRecDepth 100000 in
theorem ti_146_1203 : dp_tab 146 1203 = (.ireturn, 1) := by decide +kernel
set_option maxRecDepth 100000 in
theorem ti_146_1204 : dp_tab 146 1204 = (.iload 5, 2) := by decide +kernel
set_option maxRecDepth 100000 in
theorem ti_146_1206 : dp_tab 146 1206 = (.ifCond .ne 15, 3) := by decide +kernel
set_option maxRecDepth 100000 in
theorem ti_146_1209 : dp_tab 146 1209 = (.aload_n 3, 1) := by decide +kernel
set_option maxRecDepth 100000 in
theorem ti_146_1210 : dp_tab 146 1210 = (.iconst 0, 1) := by decide +kernel
set_option maxRecDepth 100000 in
theorem ti_146_1211 : dp_tab 146 1211 = (.laload, 1) := by decide +kernel
set_option maxRecDepth 100000 in
theorem ti_146_1212 : dp_tab 146 1212 = (.iload 6, 2) := by decide +kernel
set_option maxRecDepth 100000 in
theorem ti_146_1214 : dp_tab 146 1214 = (.i2l, 1) := by decide +kernel
set_option maxRecDepth 100000 in
theorem ti_146_1215 : dp_tab 146 1215 = (.lcmp, 1) := by decide +kernel
set_option maxRecDepth 100000 in
theorem ti_146_1216 : dp_tab 146 1216 = (.ifCond .eq 5, 3) := by decide +kernel
set_option maxRecDepth 100000 in
theorem ti_146_1219 : dp_tab 146 1219 = (.iconst 0, 1) := by decide +kernel
set_option maxRecDepth 100000 in
theorem ti_146_1220 : dp_tab 146 1220 = (.ireturn, 1) := by decide +kernel
set_option maxRecDepth 100000 in
theorem ti_146_1221 : dp_tab 146 1221 = (.goto 399, 3) := by decide +kernel
set_option maxRecDepth 100000 in
theorem ti_146_1224 : dp_tab 146 1224 = (.aload_n 1, 1) := by decide +kernel
set_option maxRecDepth 100000 in
theorem ti_146_1225 : dp_tab 146 1225 = (.aload_n 0, 1) := by decide +kernel
set_option maxRecDepth 100000 in
theorem ti_146_1226 : dp_tab 146 1226 = (.iload 4, 2) := by decide +kernel
set_option maxRecDepth 100000 in
theorem ti_146_1228 : dp_tab 146 1228 = (.iconst 1, 1) := by decide +kernel
set_option maxRecDepth 100000 in
theorem ti_146_1229 : dp_tab 146 1229 = (.iadd, 1) := by decide +kernel
set_option maxRecDepth 100000 in
theorem ti_146_1230 : dp_tab 146 1230 = (.iaload, 1) := by decide +kernel
set_option maxRecDepth 100000 in
theorem ti_146_1231 : dp_tab 146 1231 = (.aload_n 0, 1) := by decide +kernel
set_option maxRecDepth 100000 in
theorem ti_146_1232 : dp_tab 146 1232 = (.iload 4, 2) := by decide +kernel
set_option maxRecDepth 100000 in
theorem ti_146_1234 : dp_tab 146 1234 = (.iconst 2, 1) := by decide +kernel
set_option maxRecDepth 100000 in
theorem ti_146_1235 : dp_tab 146 1235 = (.iadd, 1) := by decide +kernel
set_option maxRecDepth 100000 in
theorem ti_146_1236 : dp_tab 146 1236 = (.iaload, 1) := by decide +kernel
set_option maxRecDepth 100000 in
theorem ti_146_1237 : dp_tab 146 1237 = (.aload_n 3, 1) := by decide +kernel
set_option maxRecDepth 100000 in
theorem ti_146_1238 : dp_tab 146 1238 = (.invokestatic 147, 3) := by decide +kernel
set_option maxRecDepth 100000 in
theorem ti_146_1241 : dp_tab 146 1241 = (.istore 5, 2) := by decide +kernel
set_option maxRecDepth 100000 in
theorem ti_146_1243 : dp_tab 146 1243 = (.aload_n 2, 1) := by decide +kernel
set_option maxRecDepth 100000 in
theorem ti_146_1244 : dp_tab 146 1244 = (.aload_n 0, 1) := by decide +kernel
set_option maxRecDepth 100000 in
theorem ti_146_1245 : dp_tab 146 1245 = (.iload 4, 2) := by decide +kernel
set_option maxRecDepth 100000 in
theorem ti_146_1247 : dp_tab 146 1247 = (.iconst 1, 1) := by decide +kernel
set_option maxRecDepth 100000 in
theorem ti_146_1248 : dp_tab 146 1248 = (.iadd, 1) := by decide +kernel
set_option maxRecDepth 100000 in
theorem ti_146_1249 : dp_tab 146 1249 = (.iaload, 1) := by decide +kernel
set_option maxRecDepth 100000 in
theorem ti_146_1250 : dp_tab 146 1250 = (.aload_n 0, 1) := by decide +kernel
set_option maxRecDepth 100000 in
theorem ti_146_1251 : dp_tab 146 1251 = (.iload 4, 2) := by decide +kernel
set_option maxRecDepth 100000 in
theorem ti_146_1253 : dp_tab 146 1253 = (.iconst 2, 1) := by decide +kernel
set_option maxRecDepth 100000 in
theorem ti_146_1254 : dp_tab 146 1254 = (.iadd, 1) := by decide +kernel
set_option maxRecDepth 100000 in
theorem ti_146_1255 : dp_tab 146 1255 = (.iaload, 1) := by decide +kernel
set_option maxRecDepth 100000 in
theorem ti_146_1256 : dp_tab 146 1256 = (.invokevirtual 149, 3) := by decide +kernel
set_option maxRecDepth 100000 in
theorem ti_146_1259 : dp_tab 146 1259 = (.istore 6, 2) := by decide +kernel
set_option maxRecDepth 100000 in
theorem ti_146_1261 : dp_tab 146 1261 = (.aload_n 2, 1) := by decide +kernel
set_option maxRecDepth 100000 in
theorem ti_146_1262 : dp_tab 146 1262 = (.invokevirtual 94, 3) := by decide +kernel
set_option maxRecDepth 100000 in
theorem ti_146_1265 : dp_tab 146 1265 = (.iload 5, 2) := by decide +kernel
set_option maxRecDepth 100000 in
theorem ti_146_1267 : dp_tab 146 1267 = (.if_icmp .eq 5, 3) := by decide +kernel
set_option maxRecDepth 100000 in
theorem ti_146_1270 : dp_tab 146 1270 = (.iconst 0, 1) := by decide +kernel
set_option maxRecDepth 100000 in
theorem ti_146_1271 : dp_tab 146 1271 = (.ireturn, 1) := by decide +kernel
set_option maxRecDepth 100000 in
theorem ti_146_1272 : dp_tab 146 1272 = (.iload 5, 2) := by decide +kernel
set_option maxRecDepth 100000 in
theorem ti_146_1274 : dp_tab 146 1274 = (.ifCond .ne 15, 3) := by decide +kernel
set_option maxRecDepth 100000 in
theorem ti_146_1277 : dp_tab 146 1277 = (.aload_n 3, 1) := by decide +kernel
set_option maxRecDepth 100000 in
theorem ti_146_1278 : dp_tab 146 1278 = (.iconst 0, 1) := by decide +kernel
set_option maxRecDepth 100000 in
theorem ti_146_1279 : dp_tab 146 1279 = (.laload, 1) := by decide +kernel
set_option maxRecDepth 100000 in
theorem ti_146_1280 : dp_tab 146 1280 = (.iload 6, 2) := by decide +kernel
set_option maxRecDepth 100000 in
theorem ti_146_1282 : dp_tab 146 1282 = (.i2l, 1) := by decide +kernel
set_option maxRecDepth 100000 in
theorem ti_146_1283 : dp_tab 146 1283 = (.lcmp, 1) := by decide +kernel
set_option maxRecDepth 100000 in
theorem ti_146_1284 : dp_tab 146 1284 = (.ifCond .eq 5, 3) := by decide +kernel
set_option maxRecDepth 100000 in
theorem ti_146_1287 : dp_tab 146 1287 = (.iconst 0, 1) := by decide +kernel
set_option maxRecDepth 100000 in
theorem ti_146_1288 : dp_tab 146 1288 = (.ireturn, 1) := by decide +kernel
set_option maxRecDepth 100000 in
theorem ti_146_1289 : dp_tab 146 1289 = (.goto 331, 3) := by decide +kernel
set_option maxRecDepth 100000 in
theorem ti_146_1292 : dp_tab 146 1292 = (.aload_n 1, 1) := by decide +kernel
set_option maxRecDepth 100000 in
theorem ti_146_1293 : dp_tab 146 1293 = (.aload_n 0, 1) := by decide +kernel
set_option maxRecDepth 100000 in
theorem ti_146_1294 : dp_tab 146 1294 = (.iload 4, 2) := by decide +kernel
set_option maxRecDepth 100000 in
theorem ti_146_1296 : dp_tab 146 1296 = (.iconst 1, 1) := by decide +kernel
set_option maxRecDepth 100000 in
theorem ti_146_1297 : dp_tab 146 1297 = (.iadd, 1) := by decide +kernel
set_option maxRecDepth 100000 in
theorem ti_146_1298 : dp_tab 146 1298 = (.iaload, 1) := by decide +kernel
set_option maxRecDepth 100000 in
theorem ti_146_1299 : dp_tab 146 1299 = (.aload_n 0, 1) := by decide +kernel
set_option maxRecDepth 100000 in
theorem ti_146_1300 : dp_tab 146 1300 = (.iload 4, 2) := by decide +kernel
set_option maxRecDepth 100000 in
theorem ti_146_1302 : dp_tab 146 1302 = (.iconst 2, 1) := by decide +kernel
set_option maxRecDepth 100000 in
theorem ti_146_1303 : dp_tab 146 1303 = (.iadd, 1) := by decide +kernel
set_option maxRecDepth 100000 in
theorem ti_146_1304 : dp_tab 146 1304 = (.iaload, 1) := by decide +kernel
set_option maxRecDepth 100000 in
theorem ti_146_1305 : dp_tab 146 1305 = (.aload_n 3, 1) := by decide +kernel
set_option maxRecDepth 100000 in
theorem ti_146_1306 : dp_tab 146 1306 = (.invokestatic 150, 3) := by decide +kernel
set_option maxRecDepth 100000 in
theorem ti_146_1309 : dp_tab 146 1309 = (.istore 5, 2) := by decide +kernel
set_option maxRecDepth 100000 in
theorem ti_146_1311 : dp_tab 146 1311 = (.aload_n 2, 1) := by decide +kernel
set_option maxRecDepth 100000 in
theorem ti_146_1312 : dp_tab 146 1312 = (.aload_n 0, 1) := by decide +kernel
set_option maxRecDepth 100000 in
theorem ti_146_1313 : dp_tab 146 1313 = (.iload 4, 2) := by decide +kernel
set_option maxRecDepth 100000 in
theorem ti_146_1315 : dp_tab 146 1315 = (.iconst 1, 1) := by decide +kernel
set_option maxRecDepth 100000 in
theorem ti_146_1316 : dp_tab 146 1316 = (.iadd, 1) := by decide +kernel
set_option maxRecDepth 100000 in
theorem ti_146_1317 : dp_tab 146 1317 = (.iaload, 1) := by decide +kernel
set_option maxRecDepth 100000 in
theorem ti_146_1318 : dp_tab 146 1318 = (.aload_n 0, 1) := by decide +kernel
set_option maxRecDepth 100000 in
theorem ti_146_1319 : dp_tab 146 1319 = (.iload 4, 2) := by decide +kernel
set_option maxRecDepth 100000 in
theorem ti_146_1321 : dp_tab 146 1321 = (.iconst 2, 1) := by decide +kernel
set_option maxRecDepth 100000 in
theorem ti_146_1322 : dp_tab 146 1322 = (.iadd, 1) := by decide +kernel
set_option maxRecDepth 100000 in
theorem ti_146_1323 : dp_tab 146 1323 = (.iaload, 1) := by decide +kernel
set_option maxRecDepth 100000 in
theorem ti_146_1324 : dp_tab 146 1324 = (.invokevirtual 152, 3) := by decide +kernel
set_option maxRecDepth 100000 in
theorem ti_146_1327 : dp_tab 146 1327 = (.istore 6, 2) := by decide +kernel
set_option maxRecDepth 100000 in
theorem ti_146_1329 : dp_tab 146 1329 = (.aload_n 2, 1) := by decide +kernel
set_option maxRecDepth 100000 in
theorem ti_146_1330 : dp_tab 146 1330 = (.invokevirtual 94, 3) := by decide +kernel
set_option maxRecDepth 100000 in
theorem ti_146_1333 : dp_tab 146 1333 = (.iload 5, 2) := by decide +kernel
set_option maxRecDepth 100000 in
theorem ti_146_1335 : dp_tab 146 1335 = (.if_icmp .eq 5, 3) := by decide +kernel
set_option maxRecDepth 100000 in
theorem ti_146_1338 : dp_tab 146 1338 = (.iconst 0, 1) := by decide +kernel
set_option maxRecDepth 100000 in
theorem ti_146_1339 : dp_tab 146 1339 = (.ireturn, 1) := by decide +kernel
set_option maxRecDepth 100000 in
theorem ti_146_1340 : dp_tab 146 1340 = (.iload 5, 2) := by decide +kernel
set_option maxRecDepth 100000 in
theorem ti_146_1342 : dp_tab 146 1342 = (.ifCond .ne 15, 3) := by decide +kernel
set_option maxRecDepth 100000 in
theorem ti_146_1345 : dp_tab 146 1345 = (.aload_n 3, 1) := by decide +kernel
set_option maxRecDepth 100000 in
theorem ti_146_1346 : dp_tab 146 1346 = (.iconst 0, 1) := by decide +kernel
set_option maxRecDepth 100000 in
theorem ti_146_1347 : dp_tab 146 1347 = (.laload, 1) := by decide +kernel
set_option maxRecDepth 100000 in
theorem ti_146_1348 : dp_tab 146 1348 = (.iload 6, 2) := by decide +kernel
set_option maxRecDepth 100000 in
theorem ti_146_1350 : dp_tab 146 1350 = (.i2l, 1) := by decide +kernel
set_option maxRecDepth 100000 in
theorem ti_146_1351 : dp_tab 146 1351 = (.lcmp, 1) := by decide +kernel
set_option maxRecDepth 100000 in
theorem ti_146_1352 : dp_tab 146 1352 = (.ifCond .eq 5, 3) := by decide +kernel
set_option maxRecDepth 100000 in
theorem ti_146_1355 : dp_tab 146 1355 = (.iconst 0, 1) := by decide +kernel
set_option maxRecDepth 100000 in
theorem ti_146_1356 : dp_tab 146 1356 = (.ireturn, 1) := by decide +kernel
set_option maxRecDepth 100000 in
theorem ti_146_1357 : dp_tab 146 1357 = (.goto 263, 3) := by decide +kernel
set_option maxRecDepth 100000 in
theorem ti_146_1360 : dp_tab 146 1360 = (.aload_n 1, 1) := by decide +kernel
set_option maxRecDepth 100000 in
theorem ti_146_1361 : dp_tab 146 1361 = (.aload_n 0, 1) := by decide +kernel
set_option maxRecDepth 100000 in
theorem ti_146_1362 : dp_tab 146 1362 = (.iload 4, 2) := by decide +kernel
set_option maxRecDepth 100000 in
theorem ti_146_1364 : dp_tab 146 1364 = (.iconst 1, 1) := by decide +kernel
set_option maxRecDepth 100000 in
theorem ti_146_1365 : dp_tab 146 1365 = (.iadd, 1) := by decide +kernel
set_option maxRecDepth 100000 in
theorem ti_146_1366 : dp_tab 146 1366 = (.iaload, 1) := by decide +kernel
set_option maxRecDepth 100000 in
theorem ti_146_1367 : dp_tab 146 1367 = (.aload_n 0, 1) := by decide +kernel
set_option maxRecDepth 100000 in
theorem ti_146_1368 : dp_tab 146 1368 = (.iload 4, 2) := by decide +kernel
set_option maxRecDepth 100000 in
theorem ti_146_1370 : dp_tab 146 1370 = (.iconst 2, 1) := by decide +kernel
set_option maxRecDepth 100000 in
theorem ti_146_1371 : dp_tab 146 1371 = (.iadd, 1) := by decide +kernel
set_option maxRecDepth 100000 in
theorem ti_146_1372 : dp_tab 146 1372 = (.iaload, 1) := by decide +kernel
set_option maxRecDepth 100000 in
theorem ti_146_1373 : dp_tab 146 1373 = (.aload_n 3, 1) := by decide +kernel
set_option maxRecDepth 100000 in
theorem ti_146_1374 : dp_tab 146 1374 = (.invokestatic 153, 3) := by decide +kernel
set_option maxRecDepth 100000 in
theorem ti_146_1377 : dp_tab 146 1377 = (.istore 5, 2) := by decide +kernel
set_option maxRecDepth 100000 in
theorem ti_146_1379 : dp_tab 146 1379 = (.aload_n 2, 1) := by decide +kernel
set_option maxRecDepth 100000 in
theorem ti_146_1380 : dp_tab 146 1380 = (.aload_n 0, 1) := by decide +kernel
set_option maxRecDepth 100000 in
theorem ti_146_1381 : dp_tab 146 1381 = (.iload 4, 2) := by decide +kernel
set_option maxRecDepth 100000 in
theorem ti_146_1383 : dp_tab 146 1383 = (.iconst 1, 1) := by decide +kernel
set_option maxRecDepth 100000 in
theorem ti_146_1384 : dp_tab 146 1384 = (.iadd, 1) := by decide +kernel
set_option maxRecDepth 100000 in
theorem ti_146_1385 : dp_tab 146 1385 = (.iaload, 1) := by decide +kernel
set_option maxRecDepth 100000 in
theorem ti_146_1386 : dp_tab 146 1386 = (.aload_n 0, 1) := by decide +kernel
set_option maxRecDepth 100000 in
theorem ti_146_1387 : dp_tab 146 1387 = (.iload 4, 2) := by decide +kernel
set_option maxRecDepth 100000 in
theorem ti_146_1389 : dp_tab 146 1389 = (.iconst 2, 1) := by decide +kernel
set_option maxRecDepth 100000 in
theorem ti_146_1390 : dp_tab 146 1390 = (.iadd, 1) := by decide +kernel
set_option maxRecDepth 100000 in
theorem ti_146_1391 : dp_tab 146 1391 = (.iaload, 1) := by decide +kernel
set_option maxRecDepth 100000 in
theorem ti_146_1392 : dp_tab 146 1392 = (.invokevirtual 155, 3) := by decide +kernel
set_option maxRecDepth 100000 in
theorem ti_146_1395 : dp_tab 146 1395 = (.istore 6, 2) := by decide +kernel
set_option maxRecDepth 100000 in
theorem ti_146_1397 : dp_tab 146 1397 = (.aload_n 2, 1) := by decide +kernel
set_option maxRecDepth 100000 in
theorem ti_146_1398 : dp_tab 146 1398 = (.invokevirtual 94, 3) := by decide +kernel
set_option maxRecDepth 100000 in
theorem ti_146_1401 : dp_tab 146 1401 = (.iload 5, 2) := by decide +kernel
set_option maxRecDepth 100000 in
theorem ti_146_1403 : dp_tab 146 1403 = (.if_icmp .eq 5, 3) := by decide +kernel
set_option maxRecDepth 100000 in
theorem ti_146_1406 : dp_tab 146 1406 = (.iconst 0, 1) := by decide +kernel
set_option maxRecDepth 100000 in
theorem ti_146_1407 : dp_tab 146 1407 = (.ireturn, 1) := by decide +kernel
set_option maxRecDepth 100000 in
theorem ti_146_1408 : dp_tab 146 1408 = (.iload 5, 2) := by decide +kernel
set_option maxRecDepth 100000 in
theorem ti_146_1410 : dp_tab 146 1410 = (.ifCond .ne 15, 3) := by decide +kernel
set_option maxRecDepth 100000 in
theorem ti_146_1413 : dp_tab 146 1413 = (.aload_n 3, 1) := by decide +kernel
set_option maxRecDepth 100000 in
theorem ti_146_1414 : dp_tab 146 1414 = (.iconst 0, 1) := by decide +kernel
set_option maxRecDepth 100000 in
theorem ti_146_1415 : dp_tab 146 1415 = (.laload, 1) := by decide +kernel
set_option maxRecDepth 100000 in
theorem ti_146_1416 : dp_tab 146 1416 = (.iload 6, 2) := by decide +kernel
set_option maxRecDepth 100000 in
theorem ti_146_1418 : dp_tab 146 1418 = (.i2l, 1) := by decide +kernel
set_option maxRecDepth 100000 in
theorem ti_146_1419 : dp_tab 146 1419 = (.lcmp, 1) := by decide +kernel
set_option maxRecDepth 100000 in
theorem ti_146_1420 : dp_tab 146 1420 = (.ifCond .eq 5, 3) := by decide +kernel
set_option maxRecDepth 100000 in
theorem ti_146_1423 : dp_tab 146 1423 = (.iconst 0, 1) := by decide +kernel
set_option maxRecDepth 100000 in
theorem ti_146_1424 : dp_tab 146 1424 = (.ireturn, 1) := by decide +kernel
set_option maxRecDepth 100000 in
theorem ti_146_1425 : dp_tab 146 1425 = (.goto 195, 3) := by decide +kernel
set_option maxRecDepth 100000 in
theorem ti_146_1428 : dp_tab 146 1428 = (.aload_n 1, 1) := by decide +kernel
set_option maxRecDepth 100000 in
theorem ti_146_1429 : dp_tab 146 1429 = (.aload_n 0, 1) := by decide +kernel
set_option maxRecDepth 100000 in
theorem ti_146_1430 : dp_tab 146 1430 = (.iload 4, 2) := by decide +kernel
set_option maxRecDepth 100000 in
theorem ti_146_1432 : dp_tab 146 1432 = (.iconst 1, 1) := by decide +kernel
set_option maxRecDepth 100000 in
theorem ti_146_1433 : dp_tab 146 1433 = (.iadd, 1) := by decide +kernel
set_option maxRecDepth 100000 in
theorem ti_146_1434 : dp_tab 146 1434 = (.iaload, 1) := by decide +kernel
set_option maxRecDepth 100000 in
theorem ti_146_1435 : dp_tab 146 1435 = (.aload_n 3, 1) := by decide +kernel
set_option maxRecDepth 100000 in
theorem ti_146_1436 : dp_tab 146 1436 = (.invokestatic 156, 3) := by decide +kernel
set_option maxRecDepth 100000 in
theorem ti_146_1439 : dp_tab 146 1439 = (.istore 5, 2) := by decide +kernel
set_option maxRecDepth 100000 in
theorem ti_146_1441 : dp_tab 146 1441 = (.aload_n 2, 1) := by decide +kernel
set_option maxRecDepth 100000 in
theorem ti_146_1442 : dp_tab 146 1442 = (.aload_n 0, 1) := by decide +kernel
set_option maxRecDepth 100000 in
theorem ti_146_1443 : dp_tab 146 1443 = (.iload 4, 2) := by decide +kernel
set_option maxRecDepth 100000 in
theorem ti_146_1445 : dp_tab 146 1445 = (.iconst 1, 1) := by decide +kernel
set_option maxRecDepth 100000 in
theorem ti_146_1446 : dp_tab 146 1446 = (.iadd, 1) := by decide +kernel
set_option maxRecDepth 100000 in
theorem ti_146_1447 : dp_tab 146 1447 = (.iaload, 1) := by decide +kernel
set_option maxRecDepth 100000 in
theorem ti_146_1448 : dp_tab 146 1448 = (.invokevirtual 158, 3) := by decide +kernel
set_option maxRecDepth 100000 in
theorem ti_146_1451 : dp_tab 146 1451 = (.istore 6, 2) := by decide +kernel
set_option maxRecDepth 100000 in
theorem ti_146_1453 : dp_tab 146 1453 = (.aload_n 2, 1) := by decide +kernel
set_option maxRecDepth 100000 in
theorem ti_146_1454 : dp_tab 146 1454 = (.invokevirtual 94, 3) := by decide +kernel
set_option maxRecDepth 100000 in
theorem ti_146_1457 : dp_tab 146 1457 = (.iload 5, 2) := by decide +kernel
set_option maxRecDepth 100000 in
theorem ti_146_1459 : dp_tab 146 1459 = (.if_icmp .eq 5, 3) := by decide +kernel
set_option maxRecDepth 100000 in
theorem ti_146_1462 : dp_tab 146 1462 = (.iconst 0, 1) := by decide +kernel
set_option maxRecDepth 100000 in
theorem ti_146_1463 : dp_tab 146 1463 = (.ireturn, 1) := by decide +kernel
set_option maxRecDepth 100000 in
theorem ti_146_1464 : dp_tab 146 1464 = (.iload 5, 2) := by decide +kernel
set_option maxRecDepth 100000 in
theorem ti_146_1466 : dp_tab 146 1466 = (.ifCond .ne 15, 3) := by decide +kernel
set_option maxRecDepth 100000 in
theorem ti_146_1469 : dp_tab 146 1469 = (.aload_n 3, 1) := by decide +kernel
set_option maxRecDepth 100000 in
theorem ti_146_1470 : dp_tab 146 1470 = (.iconst 0, 1) := by decide +kernel
set_option maxRecDepth 100000 in
theorem ti_146_1471 : dp_tab 146 1471 = (.laload, 1) := by decide +kernel
set_option maxRecDepth 100000 in
theorem ti_146_1472 : dp_tab 146 1472 = (.iload 6, 2) := by decide +kernel
set_option maxRecDepth 100000 in
theorem ti_146_1474 : dp_tab 146 1474 = (.i2l, 1) := by decide +kernel
set_option maxRecDepth 100000 in
theorem ti_146_1475 : dp_tab 146 1475 = (.lcmp, 1) := by decide +kernel
set_option maxRecDepth 100000 in
theorem ti_146_1476 : dp_tab 146 1476 = (.ifCond .eq 5, 3) := by decide +kernel
set_option maxRecDepth 100000 in
theorem ti_146_1479 : dp_tab 146 1479 = (.iconst 0, 1) := by decide +kernel
set_option maxRecDepth 100000 in
theorem ti_146_1480 : dp_tab 146 1480 = (.ireturn, 1) := by decide +kernel
set_option maxRecDepth 100000 in
theorem ti_146_1481 : dp_tab 146 1481 = (.goto 139, 3) := by decide +kernel
set_option maxRecDepth 100000 in
theorem ti_146_1484 : dp_tab 146 1484 = (.aload_n 1, 1) := by decide +kernel
set_option maxRecDepth 100000 in
theorem ti_146_1485 : dp_tab 146 1485 = (.aload_n 0, 1) := by decide +kernel
set_option maxRecDepth 100000 in
theorem ti_146_1486 : dp_tab 146 1486 = (.iload 4, 2) := by decide +kernel
set_option maxRecDepth 100000 in
theorem ti_146_1488 : dp_tab 146 1488 = (.iconst 1, 1) := by decide +kernel
set_option maxRecDepth 100000 in
theorem ti_146_1489 : dp_tab 146 1489 = (.iadd, 1) := by decide +kernel
set_option maxRecDepth 100000 in
theorem ti_146_1490 : dp_tab 146 1490 = (.iaload, 1) := by decide +kernel
set_option maxRecDepth 100000 in
theorem ti_146_1491 : dp_tab 146 1491 = (.aload_n 0, 1) := by decide +kernel
set_option maxRecDepth 100000 in
theorem ti_146_1492 : dp_tab 146 1492 = (.iload 4, 2) := by decide +kernel
set_option maxRecDepth 100000 in
theorem ti_146_1494 : dp_tab 146 1494 = (.iconst 2, 1) := by decide +kernel
set_option maxRecDepth 100000 in
theorem ti_146_1495 : dp_tab 146 1495 = (.iadd, 1) := by decide +kernel
set_option maxRecDepth 100000 in
theorem ti_146_1496 : dp_tab 146 1496 = (.iaload, 1) := by decide +kernel
set_option maxRecDepth 100000 in
theorem ti_146_1497 : dp_tab 146 1497 = (.aload_n 3, 1) := by decide +kernel
set_option maxRecDepth 100000 in
theorem ti_146_1498 : dp_tab 146 1498 = (.invokestatic 159, 3) := by decide +kernel
set_option maxRecDepth 100000 in
theorem ti_146_1501 : dp_tab 146 1501 = (.istore 5, 2) := by decide +kernel
set_option maxRecDepth 100000 in
theorem ti_146_1503 : dp_tab 146 1503 = (.aload_n 2, 1) := by decide +kernel
set_option maxRecDepth 100000 in
theorem ti_146_1504 : dp_tab 146 1504 = (.aload_n 0, 1) := by decide +kernel
set_option maxRecDepth 100000 in
theorem ti_146_1505 : dp_tab 146 1505 = (.iload 4, 2) := by decide +kernel
set_option maxRecDepth 100000 in
theorem ti_146_1507 : dp_tab 146 1507 = (.iconst 1, 1) := by decide +kernel
set_option maxRecDepth 100000 in
theorem ti_146_1508 : dp_tab 146 1508 = (.iadd, 1) := by decide +kernel
set_option maxRecDepth 100000 in
theorem ti_146_1509 : dp_tab 146 1509 = (.iaload, 1) := by decide +kernel
set_option maxRecDepth 100000 in
theorem ti_146_1510 : dp_tab 146 1510 = (.aload_n 0, 1) := by decide +kernel
set_option maxRecDepth 100000 in
theorem ti_146_1511 : dp_tab 146 1511 = (.iload 4, 2) := by decide +kernel
set_option maxRecDepth 100000 in
theorem ti_146_1513 : dp_tab 146 1513 = (.iconst 2, 1) := by decide +kernel
set_option maxRecDepth 100000 in
theorem ti_146_1514 : dp_tab 146 1514 = (.iadd, 1) := by decide +kernel
set_option maxRecDepth 100000 in
theorem ti_146_1515 : dp_tab 146 1515 = (.iaload, 1) := by decide +kernel
set_option maxRecDepth 100000 in
theorem ti_146_1516 : dp_tab 146 1516 = (.invokevirtual 161, 3) := by decide +kernel
set_option maxRecDepth 100000 in
theorem ti_146_1519 : dp_tab 146 1519 = (.istore 6, 2) := by decide +kernel
set_option maxRecDepth 100000 in
theorem ti_146_1521 : dp_tab 146 1521 = (.aload_n 2, 1) := by decide +kernel
set_option maxRecDepth 100000 in
theorem ti_146_1522 : dp_tab 146 1522 = (.invokevirtual 94, 3) := by decide +kernel
set_option maxRecDepth 100000 in
theorem ti_146_1525 : dp_tab 146 1525 = (.iload 5, 2) := by decide +kernel
set_option maxRecDepth 100000 in
theorem ti_146_1527 : dp_tab 146 1527 = (.if_icmp .eq 5, 3) := by decide +kernel
set_option maxRecDepth 100000 in
theorem ti_146_1530 : dp_tab 146 1530 = (.iconst 0, 1) := by decide +kernel
set_option maxRecDepth 100000 in
theorem ti_146_1531 : dp_tab 146 1531 = (.ireturn, 1) := by decide +kernel
set_option maxRecDepth 100000 in
theorem ti_146_1532 : dp_tab 146 1532 = (.iload 5, 2) := by decide +kernel
set_option maxRecDepth 100000 in
theorem ti_146_1534 : dp_tab 146 1534 = (.ifCond .ne 15, 3) := by decide +kernel
set_option maxRecDepth 100000 in
theorem ti_146_1537 : dp_tab 146 1537 = (.aload_n 3, 1) := by decide +kernel
set_option maxRecDepth 100000 in
theorem ti_146_1538 : dp_tab 146 1538 = (.iconst 0, 1) := by decide +kernel
set_option maxRecDepth 100000 in
theorem ti_146_1539 : dp_tab 146 1539 = (.laload, 1) := by decide +kernel
set_option maxRecDepth 100000 in
theorem ti_146_1540 : dp_tab 146 1540 = (.iload 6, 2) := by decide +kernel
set_option maxRecDepth 100000 in
theorem ti_146_1542 : dp_tab 146 1542 = (.i2l, 1) := by decide +kernel
set_option maxRecDepth 100000 in
theorem ti_146_1543 : dp_tab 146 1543 = (.lcmp, 1) := by decide +kernel
set_option maxRecDepth 100000 in
theorem ti_146_1544 : dp_tab 146 1544 = (.ifCond .eq 5, 3) := by decide +kernel
set_option maxRecDepth 100000 in
theorem ti_146_1547 : dp_tab 146 1547 = (.iconst 0, 1) := by decide +kernel
set_option maxRecDepth 100000 in
theorem ti_146_1548 : dp_tab 146 1548 = (.ireturn, 1) := by decide +kernel
set_option maxRecDepth 100000 in
theorem ti_146_1549 : dp_tab 146 1549 = (.goto 71, 3) := by decide +kernel
set_option maxRecDepth 100000 in
theorem ti_146_1552 : dp_tab 146 1552 = (.aload_n 1, 1) := by decide +kernel
set_option maxRecDepth 100000 in
theorem ti_146_1553 : dp_tab 146 1553 = (.invokevirtual 162, 3) := by decide +kernel
set_option maxRecDepth 100000 in
theorem ti_146_1556 : dp_tab 146 1556 = (.aload_n 2, 1) := by decide +kernel
set_option maxRecDepth 100000 in
theorem ti_146_1557 : dp_tab 146 1557 = (.invokevirtual 165, 3) := by decide +kernel
set_option maxRecDepth 100000 in
theorem ti_146_1560 : dp_tab 146 1560 = (.if_icmp .eq 60, 3) := by decide +kernel
set_option maxRecDepth 100000 in
theorem ti_146_1563 : dp_tab 146 1563 = (.iconst 0, 1) := by decide +kernel
set_option maxRecDepth 100000 in
theorem ti_146_1564 : dp_tab 146 1564 = (.ireturn, 1) := by decide +kernel
set_option maxRecDepth 100000 in
theorem ti_146_1565 : dp_tab 146 1565 = (.aload_n 1, 1) := by decide +kernel
set_option maxRecDepth 100000 in
theorem ti_146_1566 : dp_tab 146 1566 = (.invokevirtual 166, 3) := by decide +kernel
set_option maxRecDepth 100000 in
theorem ti_146_1569 : dp_tab 146 1569 = (.dstore 5, 2) := by decide +kernel
set_option maxRecDepth 100000 in
theorem ti_146_1571 : dp_tab 146 1571 = (.aload_n 2, 1) := by decide +kernel
set_option maxRecDepth 100000 in
theorem ti_146_1572 : dp_tab 146 1572 = (.invokevirtual 170, 3) := by decide +kernel
set_option maxRecDepth 100000 in
theorem ti_146_1575 : dp_tab 146 1575 = (.dstore 7, 2) := by decide +kernel
set_option maxRecDepth 100000 in
theorem ti_146_1577 : dp_tab 146 1577 = (.dload 5, 2) := by decide +kernel
set_option maxRecDepth 100000 in
theorem ti_146_1579 : dp_tab 146 1579 = (.dload 7, 2) := by decide +kernel
set_option maxRecDepth 100000 in
theorem ti_146_1581 : dp_tab 146 1581 = (.dcmp .l, 1) := by decide +kernel
set_option maxRecDepth 100000 in
theorem ti_146_1582 : dp_tab 146 1582 = (.ifCond .eq 21, 3) := by decide +kernel
set_option maxRecDepth 100000 in
theorem ti_146_1585 : dp_tab 146 1585 = (.dload 5, 2) := by decide +kernel
set_option maxRecDepth 100000 in
theorem ti_146_1587 : dp_tab 146 1587 = (.dload 5, 2) := by decide +kernel
set_option maxRecDepth 100000 in
theorem ti_146_1589 : dp_tab 146 1589 = (.dcmp .l, 1) := by decide +kernel
set_option maxRecDepth 100000 in
theorem ti_146_1590 : dp_tab 146 1590 = (.ifCond .eq 11, 3) := by decide +kernel
set_option maxRecDepth 100000 in
theorem ti_146_1593 : dp_tab 146 1593 = (.dload 7, 2) := by decide +kernel
set_option maxRecDepth 100000 in
theorem ti_146_1595 : dp_tab 146 1595 = (.dload 7, 2) := by decide +kernel
set_option maxRecDepth 100000 in
theorem ti_146_1597 : dp_tab 146 1597 = (.dcmp .l, 1) := by decide +kernel
set_option maxRecDepth 100000 in
theorem ti_146_1598 : dp_tab 146 1598 = (.ifCond .ne 5, 3) := by decide +kernel
set_option maxRecDepth 100000 in
theorem ti_146_1601 : dp_tab 146 1601 = (.iconst 0, 1) := by decide +kernel
set_option maxRecDepth 100000 in
theorem ti_146_1602 : dp_tab 146 1602 = (.ireturn, 1) := by decide +kernel
set_option maxRecDepth 100000 in
theorem ti_146_1603 : dp_tab 146 1603 = (.goto 17, 3) := by decide +kernel
set_option maxRecDepth 100000 in
theorem ti_146_1606 : dp_tab 146 1606 = (.aload_n 1, 1) := by decide +kernel
set_option maxRecDepth 100000 in
theorem ti_146_1607 : dp_tab 146 1607 = (.invokevirtual 171, 3) := by decide +kernel
set_option maxRecDepth 100000 in
theorem ti_146_1610 : dp_tab 146 1610 = (.aload_n 2, 1) := by decide +kernel
set_option maxRecDepth 100000 in
theorem ti_146_1611 : dp_tab 146 1611 = (.invokevirtual 175, 3) := by decide +kernel
set_option maxRecDepth 100000 in
theorem ti_146_1614 : dp_tab 146 1614 = (.lcmp, 1) := by decide +kernel
set_option maxRecDepth 100000 in
theorem ti_146_1615 : dp_tab 146 1615 = (.ifCond .eq 5, 3) := by decide +kernel
set_option maxRecDepth 100000 in
theorem ti_146_1618 : dp_tab 146 1618 = (.iconst 0, 1) := by decide +kernel
set_option maxRecDepth 100000 in
theorem ti_146_1619 : dp_tab 146 1619 = (.ireturn, 1) := by decide +kernel
set_option maxRecDepth 100000 in
theorem ti_146_1620 : dp_tab 146 1620 = (.iinc 4 3, 3) := by decide +kernel
set_option maxRecDepth 100000 in
theorem ti_146_1623 : dp_tab 146 1623 = (.goto (-1600), 3) := by decide +kernel
set_option maxRecDepth 100000 in
theorem ti_146_1626 : dp_tab 146 1626 = (.iconst 1, 1) := by decide +kernel
set_option maxRecDepth 100000 in
theorem ti_146_1627 : dp_tab 146 1627 = (.ireturn, 1) := by decide +kernel
