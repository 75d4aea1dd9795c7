theorem d_C_sumAt_27 : decode c0_C_sumAt 27 = .ok (.aload_n 0, 1) := by decide +kernel
theorem d_C_sumAt_28 : decode c0_C_sumAt 28 = .ok (.getfield 33, 3) := by decide +kernel
theorem d_C_sumAt_31 : decode c0_C_sumAt 31 = .ok (.iload 5, 2) := by decide +kernel
theorem d_C_sumAt_33 : decode c0_C_sumAt 33 = .ok (.iaload, 1) := by decide +kernel
theorem d_C_sumAt_34 : decode c0_C_sumAt 34 = .ok (.istore 6, 2) := by decide +kernel
theorem d_C_sumAt_36 : decode c0_C_sumAt 36 = .ok (.iload 4, 2) := by decide +kernel
theorem d_C_sumAt_38 : decode c0_C_sumAt 38 = .ok (.aload_n 0, 1) := by decide +kernel
theorem d_C_sumAt_39 : decode c0_C_sumAt 39 = .ok (.getfield 27, 3) := by decide +kernel
theorem d_C_sumAt_42 : decode c0_C_sumAt 42 = .ok (.iload_n 1, 1) := by decide +kernel
theorem d_C_sumAt_43 : decode c0_C_sumAt 43 = .ok (.iconst 3, 1) := by decide +kernel
theorem d_C_sumAt_44 : decode c0_C_sumAt 44 = .ok (.imul, 1) := by decide +kernel
theorem d_C_sumAt_45 : decode c0_C_sumAt 45 = .ok (.iload 5, 2) := by decide +kernel
theorem d_C_sumAt_47 : decode c0_C_sumAt 47 = .ok (.iadd, 1) := by decide +kernel
theorem d_C_sumAt_48 : decode c0_C_sumAt 48 = .ok (.iaload, 1) := by decide +kernel
theorem d_C_sumAt_49 : decode c0_C_sumAt 49 = .ok (.iload 6, 2) := by decide +kernel
theorem d_C_sumAt_51 : decode c0_C_sumAt 51 = .ok (.imul, 1) := by decide +kernel
theorem d_C_sumAt_52 : decode c0_C_sumAt 52 = .ok (.iadd, 1) := by decide +kernel
theorem d_C_sumAt_53 : decode c0_C_sumAt 53 = .ok (.istore 4, 2) := by decide +kernel
theorem d_C_sumAt_55 : decode c0_C_sumAt 55 = .ok (.iinc 5 1, 3) := by decide +kernel
theorem d_C_sumAt_58 : decode c0_C_sumAt 58 = .ok (.goto (-47), 3) := by decide +kernel
theorem d_C_sumAt_61 : decode c0_C_sumAt 61 = .ok (.iload 4, 2) := by decide +kernel
theorem d_C_sumAt_63 : decode c0_C_sumAt 63 = .ok (.ireturn, 1) := by decide +kernel
theorem d_C_lowBits_0 : decode c0_C_lowBits 0 = .ok (.iload_n 0, 1) := by decide +kernel
theorem d_C_lowBits_1 : decode c0_C_lowBits 1 = .ok (.ifCond .gt 5, 3) := by decide +kernel
theorem d_C_lowBits_4 : decode c0_C_lowBits 4 = .ok (.lconst 0, 1) := by decide +kernel
theorem d_C_lowBits_5 : decode c0_C_lowBits 5 = .ok (.lreturn, 1) := by decide +kernel
theorem d_C_lowBits_6 : decode c0_C_lowBits 6 = .ok (.iload_n 0, 1) := by decide +kernel
theorem d_C_lowBits_7 : decode c0_C_lowBits 7 = .ok (.bipush 64, 2) := by decide +kernel
theorem d_C_lowBits_9 : decode c0_C_lowBits 9 = .ok (.if_icmp .lt 9, 3) := by decide +kernel
theorem d_C_lowBits_12 : decode c0_C_lowBits 12 = .ok (.ldc2_w 57, 3) := by decide +kernel
theorem d_C_lowBits_15 : decode c0_C_lowBits 15 = .ok (.goto 8, 3) := by decide +kernel
theorem d_C_lowBits_18 : decode c0_C_lowBits 18 = .ok (.lconst 1, 1) := by decide +kernel
theorem d_C_lowBits_19 : decode c0_C_lowBits 19 = .ok (.iload_n 0, 1) := by decide +kernel
theorem d_C_lowBits_20 : decode c0_C_lowBits 20 = .ok (.lshl, 1) := by decide +kernel
theorem d_C_lowBits_21 : decode c0_C_lowBits 21 = .ok (.lconst 1, 1) := by decide +kernel
theorem d_C_lowBits_22 : decode c0_C_lowBits 22 = .ok (.lsub, 1) := by decide +kernel
theorem d_C_lowBits_23 : decode c0_C_lowBits 23 = .ok (.lreturn, 1) := by decide +kernel
theorem d_C_belowWord_0 : decode c0_C_belowWord 0 = .ok (.iload_n 0, 1) := by decide +kernel
theorem d_C_belowWord_1 : decode c0_C_belowWord 1 = .ok (.ifCond .le 13, 3) := by decide +kernel
theorem d_C_belowWord_4 : decode c0_C_belowWord 4 = .ok (.iload_n 1, 1) := by decide +kernel
theorem d_C_belowWord_5 : decode c0_C_belowWord 5 = .ok (.iload_n 0, 1) := by decide +kernel
theorem d_C_belowWord_6 : decode c0_C_belowWord 6 = .ok (.invokestatic 92, 3) := by decide +kernel
theorem d_C_belowWord_9 : decode c0_C_belowWord 9 = .ok (.ineg, 1) := by decide +kernel
theorem d_C_belowWord_10 : decode c0_C_belowWord 10 = .ok (.invokestatic 95, 3) := by decide +kernel
theorem d_C_belowWord_13 : decode c0_C_belowWord 13 = .ok (.lreturn, 1) := by decide +kernel
theorem d_C_belowWord_14 : decode c0_C_belowWord 14 = .ok (.iload_n 0, 1) := by decide +kernel
theorem d_C_belowWord_15 : decode c0_C_belowWord 15 = .ok (.ifCond .ge 19, 3) := by decide +kernel
theorem d_C_belowWord_18 : decode c0_C_belowWord 18 = .ok (.iload_n 1, 1) := by decide +kernel
theorem d_C_belowWord_19 : decode c0_C_belowWord 19 = .ok (.iload_n 0, 1) := by decide +kernel
theorem d_C_belowWord_20 : decode c0_C_belowWord 20 = .ok (.ineg, 1) := by decide +kernel
theorem d_C_belowWord_21 : decode c0_C_belowWord 21 = .ok (.invokestatic 92, 3) := by decide +kernel
theorem d_C_belowWord_24 : decode c0_C_belowWord 24 = .ok (.iconst 1, 1) := by decide +kernel
theorem d_C_belowWord_25 : decode c0_C_belowWord 25 = .ok (.iadd, 1) := by decide +kernel
theorem d_C_belowWord_26 : decode c0_C_belowWord 26 = .ok (.invokestatic 95, 3) := by decide +kernel
theorem d_C_belowWord_29 : decode c0_C_belowWord 29 = .ok (.ldc2_w 57, 3) := by decide +kernel
theorem d_C_belowWord_32 : decode c0_C_belowWord 32 = .ok (.lxor, 1) := by decide +kernel
theorem d_C_belowWord_33 : decode c0_C_belowWord 33 = .ok (.lreturn, 1) := by decide +kernel
theorem d_C_belowWord_34 : decode c0_C_belowWord 34 = .ok (.iload_n 1, 1) := by decide +kernel
theorem d_C_belowWord_35 : decode c0_C_belowWord 35 = .ok (.ifCond .ge 9, 3) := by decide +kernel
theorem d_C_belowWord_38 : decode c0_C_belowWord 38 = .ok (.ldc2_w 57, 3) := by decide +kernel
theorem d_C_belowWord_41 : decode c0_C_belowWord 41 = .ok (.goto 4, 3) := by decide +kernel
theorem d_C_belowWord_44 : decode c0_C_belowWord 44 = .ok (.lconst 0, 1) := by decide +kernel
theorem d_C_belowWord_45 : decode c0_C_belowWord 45 = .ok (.lreturn, 1) := by decide +kernel
theorem d_C_equalWord_0 : decode c0_C_equalWord 0 = .ok (.iload_n 0, 1) := by decide +kernel
theorem d_C_equalWord_1 : decode c0_C_equalWord 1 = .ok (.ifCond .ne 15, 3) := by decide +kernel
theorem d_C_equalWord_4 : decode c0_C_equalWord 4 = .ok (.iload_n 1, 1) := by decide +kernel
theorem d_C_equalWord_5 : decode c0_C_equalWord 5 = .ok (.ifCond .ne 9, 3) := by decide +kernel
theorem d_C_equalWord_8 : decode c0_C_equalWord 8 = .ok (.ldc2_w 57, 3) := by decide +kernel
theorem d_C_equalWord_11 : decode c0_C_equalWord 11 = .ok (.goto 4, 3) := by decide +kernel
theorem d_C_equalWord_14 : decode c0_C_equalWord 14 = .ok (.lconst 0, 1) := by decide +kernel
theorem d_C_equalWord_15 : decode c0_C_equalWord 15 = .ok (.lreturn, 1) := by decide +kernel
theorem d_C_equalWord_16 : decode c0_C_equalWord 16 = .ok (.iload_n 1, 1) := by decide +kernel
theorem d_C_equalWord_17 : decode c0_C_equalWord 17 = .ok (.ineg, 1) := by decide +kernel
theorem d_C_equalWord_18 : decode c0_C_equalWord 18 = .ok (.iload_n 0, 1) := by decide +kernel
theorem d_C_equalWord_19 : decode c0_C_equalWord 19 = .ok (.idiv, 1) := by decide +kernel
theorem d_C_equalWord_20 : decode c0_C_equalWord 20 = .ok (.istore_n 2, 1) := by decide +kernel
theorem d_C_equalWord_21 : decode c0_C_equalWord 21 = .ok (.iload_n 2, 1) := by decide +kernel
theorem d_C_equalWord_22 : decode c0_C_equalWord 22 = .ok (.iload_n 0, 1) := by decide +kernel
theorem d_C_equalWord_23 : decode c0_C_equalWord 23 = .ok (.imul, 1) := by decide +kernel
theorem d_C_equalWord_24 : decode c0_C_equalWord 24 = .ok (.iload_n 1, 1) := by decide +kernel
theorem d_C_equalWord_25 : decode c0_C_equalWord 25 = .ok (.ineg, 1) := by decide +kernel
theorem d_C_equalWord_26 : decode c0_C_equalWord 26 = .ok (.if_icmp .ne 19, 3) := by decide +kernel
theorem d_C_equalWord_29 : decode c0_C_equalWord 29 = .ok (.iload_n 2, 1) := by decide +kernel
theorem d_C_equalWord_30 : decode c0_C_equalWord 30 = .ok (.ifCond .lt 15, 3) := by decide +kernel
theorem d_C_equalWord_33 : decode c0_C_equalWord 33 = .ok (.iload_n 2, 1) := by decide +kernel
theorem d_C_equalWord_34 : decode c0_C_equalWord 34 = .ok (.bipush 64, 2) := by decide +kernel
theorem d_C_equalWord_36 : decode c0_C_equalWord 36 = .ok (.if_icmp .ge 9, 3) := by decide +kernel
theorem d_C_equalWord_39 : decode c0_C_equalWord 39 = .ok (.lconst 1, 1) := by decide +kernel
theorem d_C_equalWord_40 : decode c0_C_equalWord 40 = .ok (.iload_n 2, 1) := by decide +kernel
theorem d_C_equalWord_41 : decode c0_C_equalWord 41 = .ok (.lshl, 1) := by decide +kernel
theorem d_C_equalWord_42 : decode c0_C_equalWord 42 = .ok (.goto 4, 3) := by decide +kernel
theorem d_C_equalWord_45 : decode c0_C_equalWord 45 = .ok (.lconst 0, 1) := by decide +kernel
theorem d_C_equalWord_46 : decode c0_C_equalWord 46 = .ok (.lreturn, 1) := by decide +kernel
theorem d_C_dividesWord_0 : decode c0_C_dividesWord 0 = .ok (.iload_n 0, 1) := by decide +kernel
theorem d_C_dividesWord_1 : decode c0_C_dividesWord 1 = .ok (.iconst 2, 1) := by decide +kernel
theorem d_C_dividesWord_2 : decode c0_C_dividesWord 2 = .ok (.if_icmp .eq 10, 3) := by decide +kernel
theorem d_C_dividesWord_5 : decode c0_C_dividesWord 5 = .ok (.iload_n 0, 1) := by decide +kernel
theorem d_C_dividesWord_6 : decode c0_C_dividesWord 6 = .ok (.iconst 3, 1) := by decide +kernel
theorem d_C_dividesWord_7 : decode c0_C_dividesWord 7 = .ok (.if_icmp .eq 5, 3) := by decide +kernel
theorem d_C_dividesWord_10 : decode c0_C_dividesWord 10 = .ok (.lconst 0, 1) := by decide +kernel
theorem d_C_dividesWord_11 : decode c0_C_dividesWord 11 = .ok (.lreturn, 1) := by decide +kernel
theorem d_C_dividesWord_12 : decode c0_C_dividesWord 12 = .ok (.lconst 0, 1) := by decide +kernel
theorem d_C_dividesWord_13 : decode c0_C_dividesWord 13 = .ok (.lstore_n 3, 1) := by decide +kernel
theorem d_C_dividesWord_14 : decode c0_C_dividesWord 14 = .ok (.iconst 0, 1) := by decide +kernel
theorem d_C_dividesWord_15 : decode c0_C_dividesWord 15 = .ok (.istore 5, 2) := by decide +kernel
theorem d_C_dividesWord_17 : decode c0_C_dividesWord 17 = .ok (.iload 5, 2) := by decide +kernel
theorem d_C_dividesWord_19 : decode c0_C_dividesWord 19 = .ok (.iload_n 0, 1) := by decide +kernel
theorem d_C_dividesWord_20 : decode c0_C_dividesWord 20 = .ok (.if_icmp .ge 40, 3) := by decide +kernel
theorem d_C_dividesWord_23 : decode c0_C_dividesWord 23 = .ok (.iload_n 2, 1) := by decide +kernel
theorem d_C_dividesWord_24 : decode c0_C_dividesWord 24 = .ok (.iload_n 1, 1) := by decide +kernel
theorem d_C_dividesWord_25 : decode c0_C_dividesWord 25 = .ok (.iload 5, 2) := by decide +kernel
theorem d_C_dividesWord_27 : decode c0_C_dividesWord 27 = .ok (.imul, 1) := by decide +kernel
theorem d_C_dividesWord_28 : decode c0_C_dividesWord 28 = .ok (.iadd, 1) := by decide +kernel
theorem d_C_dividesWord_29 : decode c0_C_dividesWord 29 = .ok (.iload_n 0, 1) := by decide +kernel
theorem d_C_dividesWord_30 : decode c0_C_dividesWord 30 = .ok (.irem, 1) := by decide +kernel
theorem d_C_dividesWord_31 : decode c0_C_dividesWord 31 = .ok (.ifCond .ne 23, 3) := by decide +kernel
theorem d_C_dividesWord_34 : decode c0_C_dividesWord 34 = .ok (.lload_n 3, 1) := by decide +kernel
theorem d_C_dividesWord_35 : decode c0_C_dividesWord 35 = .ok (.iload_n 0, 1) := by decide +kernel
theorem d_C_dividesWord_36 : decode c0_C_dividesWord 36 = .ok (.iconst 2, 1) := by decide +kernel
theorem d_C_dividesWord_37 : decode c0_C_dividesWord 37 = .ok (.if_icmp .ne 9, 3) := by decide +kernel
theorem d_C_dividesWord_40 : decode c0_C_dividesWord 40 = .ok (.ldc2_w 99, 3) := by decide +kernel
theorem d_C_dividesWord_43 : decode c0_C_dividesWord 43 = .ok (.goto 6, 3) := by decide +kernel
theorem d_C_dividesWord_46 : decode c0_C_dividesWord 46 = .ok (.ldc2_w 101, 3) := by decide +kernel
theorem d_C_dividesWord_49 : decode c0_C_dividesWord 49 = .ok (.iload 5, 2) := by decide +kernel
theorem d_C_dividesWord_51 : decode c0_C_dividesWord 51 = .ok (.lshl, 1) := by decide +kernel
theorem d_C_dividesWord_52 : decode c0_C_dividesWord 52 = .ok (.lor, 1) := by decide +kernel
theorem d_C_dividesWord_53 : decode c0_C_dividesWord 53 = .ok (.lstore_n 3, 1) := by decide +kernel
theorem d_C_dividesWord_54 : decode c0_C_dividesWord 54 = .ok (.iinc 5 1, 3) := by decide +kernel
theorem d_C_dividesWord_57 : decode c0_C_dividesWord 57 = .ok (.goto (-40), 3) := by decide +kernel
theorem d_C_dividesWord_60 : decode c0_C_dividesWord 60 = .ok (.lload_n 3, 1) := by decide +kernel
theorem d_C_dividesWord_61 : decode c0_C_dividesWord 61 = .ok (.lreturn, 1) := by decide +kernel
theorem d_C_word_0 : decode c0_C_word 0 = .ok (.aload_n 0, 1) := by decide +kernel
theorem d_C_word_1 : decode c0_C_word 1 = .ok (.iload_n 1, 1) := by decide +kernel
theorem d_C_word_2 : decode c0_C_word 2 = .ok (.invokevirtual 40, 3) := by decide +kernel
theorem d_C_word_5 : decode c0_C_word 5 = .ok (.ifCond .ne 5, 3) := by decide +kernel
theorem d_C_word_8 : decode c0_C_word 8 = .ok (.lconst 0, 1) := by decide +kernel
theorem d_C_word_9 : decode c0_C_word 9 = .ok (.lreturn, 1) := by decide +kernel
theorem d_C_word_10 : decode c0_C_word 10 = .ok (.aload_n 0, 1) := by decide +kernel
theorem d_C_word_11 : decode c0_C_word 11 = .ok (.getfield 11, 3) := by decide +kernel
theorem d_C_word_14 : decode c0_C_word 14 = .ok (.iload_n 1, 1) := by decide +kernel
theorem d_C_word_15 : decode c0_C_word 15 = .ok (.iaload, 1) := by decide +kernel
theorem d_C_word_16 : decode c0_C_word 16 = .ok (.lookupswitch 140 #[(33, 76), (38, 90), (47, 90), (60, 106), (61, 123), (62, 90), (65, 98), (69, 98)], 76) := by decide +kernel
theorem d_C_word_92 : decode c0_C_word 92 = .ok (.aload_n 0, 1) := by decide +kernel
theorem d_C_word_93 : decode c0_C_word 93 = .ok (.iload_n 1, 1) := by decide +kernel
theorem d_C_word_94 : decode c0_C_word 94 = .ok (.iconst 1, 1) := by decide +kernel
theorem d_C_word_95 : decode c0_C_word 95 = .ok (.iadd, 1) := by decide +kernel
theorem d_C_word_96 : decode c0_C_word 96 = .ok (.iload_n 2, 1) := by decide +kernel
theorem d_C_word_97 : decode c0_C_word 97 = .ok (.iload_n 3, 1) := by decide +kernel
theorem d_C_word_98 : decode c0_C_word 98 = .ok (.invokevirtual 53, 3) := by decide +kernel
theorem d_C_word_101 : decode c0_C_word 101 = .ok (.ldc2_w 57, 3) := by decide +kernel
theorem d_C_word_104 : decode c0_C_word 104 = .ok (.lxor, 1) := by decide +kernel
theorem d_C_word_105 : decode c0_C_word 105 = .ok (.lreturn, 1) := by decide +kernel
theorem d_C_word_106 : decode c0_C_word 106 = .ok (.aload_n 0, 1) := by decide +kernel
theorem d_C_word_107 : decode c0_C_word 107 = .ok (.iload_n 1, 1) := by decide +kernel
theorem d_C_word_108 : decode c0_C_word 108 = .ok (.iload_n 2, 1) := by decide +kernel
theorem d_C_word_109 : decode c0_C_word 109 = .ok (.iload_n 3, 1) := by decide +kernel
theorem d_C_word_110 : decode c0_C_word 110 = .ok (.invokevirtual 59, 3) := by decide +kernel
theorem d_C_word_113 : decode c0_C_word 113 = .ok (.lreturn, 1) := by decide +kernel
theorem d_C_word_114 : decode c0_C_word 114 = .ok (.aload_n 0, 1) := by decide +kernel
theorem d_C_word_115 : decode c0_C_word 115 = .ok (.iload_n 1, 1) := by decide +kernel
theorem d_C_word_116 : decode c0_C_word 116 = .ok (.iload_n 2, 1) := by decide +kernel
theorem d_C_word_117 : decode c0_C_word 117 = .ok (.iload_n 3, 1) := by decide +kernel
theorem d_C_word_118 : decode c0_C_word 118 = .ok (.invokevirtual 62, 3) := by decide +kernel
theorem d_C_word_121 : decode c0_C_word 121 = .ok (.lreturn, 1) := by decide +kernel
theorem d_C_word_122 : decode c0_C_word 122 = .ok (.aload_n 0, 1) := by decide +kernel
theorem d_C_word_123 : decode c0_C_word 123 = .ok (.iload_n 1, 1) := by decide +kernel
theorem d_C_word_124 : decode c0_C_word 124 = .ok (.iload_n 2, 1) := by decide +kernel
theorem d_C_word_125 : decode c0_C_word 125 = .ok (.invokevirtual 65, 3) := by decide +kernel
theorem d_C_word_128 : decode c0_C_word 128 = .ok (.aload_n 0, 1) := by decide +kernel
theorem d_C_word_129 : decode c0_C_word 129 = .ok (.iload_n 1, 1) := by decide +kernel
theorem d_C_word_130 : decode c0_C_word 130 = .ok (.iload_n 2, 1) := by decide +kernel
theorem d_C_word_131 : decode c0_C_word 131 = .ok (.iload_n 3, 1) := by decide +kernel
theorem d_C_word_132 : decode c0_C_word 132 = .ok (.invokevirtual 69, 3) := by decide +kernel
theorem d_C_word_135 : decode c0_C_word 135 = .ok (.invokestatic 73, 3) := by decide +kernel
theorem d_C_word_138 : decode c0_C_word 138 = .ok (.lreturn, 1) := by decide +kernel
theorem d_C_word_139 : decode c0_C_word 139 = .ok (.aload_n 0, 1) := by decide +kernel
theorem d_C_word_140 : decode c0_C_word 140 = .ok (.iload_n 1, 1) := by decide +kernel
theorem d_C_word_141 : decode c0_C_word 141 = .ok (.iload_n 2, 1) := by decide +kernel
theorem d_C_word_142 : decode c0_C_word 142 = .ok (.invokevirtual 65, 3) := by decide +kernel
theorem d_C_word_145 : decode c0_C_word 145 = .ok (.aload_n 0, 1) := by decide +kernel
theorem d_C_word_146 : decode c0_C_word 146 = .ok (.iload_n 1, 1) := by decide +kernel
theorem d_C_word_147 : decode c0_C_word 147 = .ok (.iload_n 2, 1) := by decide +kernel
theorem d_C_word_148 : decode c0_C_word 148 = .ok (.iload_n 3, 1) := by decide +kernel
theorem d_C_word_149 : decode c0_C_word 149 = .ok (.invokevirtual 69, 3) := by decide +kernel
theorem d_C_word_152 : decode c0_C_word 152 = .ok (.invokestatic 77, 3) := by decide +kernel
theorem d_C_word_155 : decode c0_C_word 155 = .ok (.lreturn, 1) := by decide +kernel
theorem d_C_word_156 : decode c0_C_word 156 = .ok (.aload_n 0, 1) := by decide +kernel
theorem d_C_word_157 : decode c0_C_word 157 = .ok (.getfield 21, 3) := by decide +kernel
theorem d_C_word_160 : decode c0_C_word 160 = .ok (.iload_n 1, 1) := by decide +kernel
theorem d_C_word_161 : decode c0_C_word 161 = .ok (.iaload, 1) := by decide +kernel
theorem d_C_word_162 : decode c0_C_word 162 = .ok (.aload_n 0, 1) := by decide +kernel
theorem d_C_word_163 : decode c0_C_word 163 = .ok (.iload_n 1, 1) := by decide +kernel
theorem d_C_word_164 : decode c0_C_word 164 = .ok (.iload_n 2, 1) := by decide +kernel
theorem d_C_word_165 : decode c0_C_word 165 = .ok (.invokevirtual 65, 3) := by decide +kernel
theorem d_C_word_168 : decode c0_C_word 168 = .ok (.aload_n 0, 1) := by decide +kernel
theorem d_C_word_169 : decode c0_C_word 169 = .ok (.iload_n 1, 1) := by decide +kernel
theorem d_C_word_170 : decode c0_C_word 170 = .ok (.iload_n 2, 1) := by decide +kernel
theorem d_C_word_171 : decode c0_C_word 171 = .ok (.iload_n 3, 1) := by decide +kernel
theorem d_C_word_172 : decode c0_C_word 172 = .ok (.invokevirtual 69, 3) := by decide +kernel
theorem d_C_word_175 : decode c0_C_word 175 = .ok (.invokestatic 80, 3) := by decide +kernel
theorem d_C_word_178 : decode c0_C_word 178 = .ok (.lreturn, 1) := by decide +kernel
