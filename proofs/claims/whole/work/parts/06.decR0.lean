theorem d_R_mark_0 : decode c0_R_mark 0 = .ok (.aload_n 0, 1) := by decide +kernel
theorem d_R_mark_1 : decode c0_R_mark 1 = .ok (.getfield 20, 3) := by decide +kernel
theorem d_R_mark_4 : decode c0_R_mark 4 = .ok (.aload_n 0, 1) := by decide +kernel
theorem d_R_mark_5 : decode c0_R_mark 5 = .ok (.getfield 7, 3) := by decide +kernel
theorem d_R_mark_8 : decode c0_R_mark 8 = .ok (.invokevirtual 54, 3) := by decide +kernel
theorem d_R_mark_11 : decode c0_R_mark 11 = .ok (.ireturn, 1) := by decide +kernel
theorem d_R_begin_0 : decode c0_R_begin 0 = .ok (.aload_n 0, 1) := by decide +kernel
theorem d_R_begin_1 : decode c0_R_begin 1 = .ok (.getfield 24, 3) := by decide +kernel
theorem d_R_begin_4 : decode c0_R_begin 4 = .ok (.aload_n 0, 1) := by decide +kernel
theorem d_R_begin_5 : decode c0_R_begin 5 = .ok (.invokevirtual 37, 3) := by decide +kernel
theorem d_R_begin_8 : decode c0_R_begin 8 = .ok (.invokevirtual 73, 3) := by decide +kernel
theorem d_R_begin_11 : decode c0_R_begin 11 = .ok (.istore_n 1, 1) := by decide +kernel
theorem d_R_begin_12 : decode c0_R_begin 12 = .ok (.aload_n 0, 1) := by decide +kernel
theorem d_R_begin_13 : decode c0_R_begin 13 = .ok (.dup, 1) := by decide +kernel
theorem d_R_begin_14 : decode c0_R_begin 14 = .ok (.getfield 7, 3) := by decide +kernel
theorem d_R_begin_17 : decode c0_R_begin 17 = .ok (.iconst 1, 1) := by decide +kernel
theorem d_R_begin_18 : decode c0_R_begin 18 = .ok (.iadd, 1) := by decide +kernel
theorem d_R_begin_19 : decode c0_R_begin 19 = .ok (.putfield 7, 3) := by decide +kernel
theorem d_R_begin_22 : decode c0_R_begin 22 = .ok (.iload_n 1, 1) := by decide +kernel
theorem d_R_begin_23 : decode c0_R_begin 23 = .ok (.ireturn, 1) := by decide +kernel
theorem d_R_isDivisor_0 : decode c0_R_isDivisor 0 = .ok (.aload_n 0, 1) := by decide +kernel
theorem d_R_isDivisor_1 : decode c0_R_isDivisor 1 = .ok (.invokevirtual 37, 3) := by decide +kernel
theorem d_R_isDivisor_4 : decode c0_R_isDivisor 4 = .ok (.bipush 50, 2) := by decide +kernel
theorem d_R_isDivisor_6 : decode c0_R_isDivisor 6 = .ok (.if_icmp .eq 12, 3) := by decide +kernel
theorem d_R_isDivisor_9 : decode c0_R_isDivisor 9 = .ok (.aload_n 0, 1) := by decide +kernel
theorem d_R_isDivisor_10 : decode c0_R_isDivisor 10 = .ok (.invokevirtual 37, 3) := by decide +kernel
theorem d_R_isDivisor_13 : decode c0_R_isDivisor 13 = .ok (.bipush 51, 2) := by decide +kernel
theorem d_R_isDivisor_15 : decode c0_R_isDivisor 15 = .ok (.if_icmp .ne 25, 3) := by decide +kernel
theorem d_R_isDivisor_18 : decode c0_R_isDivisor 18 = .ok (.aload_n 0, 1) := by decide +kernel
theorem d_R_isDivisor_19 : decode c0_R_isDivisor 19 = .ok (.getfield 20, 3) := by decide +kernel
theorem d_R_isDivisor_22 : decode c0_R_isDivisor 22 = .ok (.aload_n 0, 1) := by decide +kernel
theorem d_R_isDivisor_23 : decode c0_R_isDivisor 23 = .ok (.getfield 7, 3) := by decide +kernel
theorem d_R_isDivisor_26 : decode c0_R_isDivisor 26 = .ok (.iconst 1, 1) := by decide +kernel
theorem d_R_isDivisor_27 : decode c0_R_isDivisor 27 = .ok (.iadd, 1) := by decide +kernel
theorem d_R_isDivisor_28 : decode c0_R_isDivisor 28 = .ok (.invokevirtual 54, 3) := by decide +kernel
theorem d_R_isDivisor_31 : decode c0_R_isDivisor 31 = .ok (.bipush 58, 2) := by decide +kernel
theorem d_R_isDivisor_33 : decode c0_R_isDivisor 33 = .ok (.if_icmp .ne 7, 3) := by decide +kernel
theorem d_R_isDivisor_36 : decode c0_R_isDivisor 36 = .ok (.iconst 1, 1) := by decide +kernel
theorem d_R_isDivisor_37 : decode c0_R_isDivisor 37 = .ok (.goto 4, 3) := by decide +kernel
theorem d_R_isDivisor_40 : decode c0_R_isDivisor 40 = .ok (.iconst 0, 1) := by decide +kernel
theorem d_R_isDivisor_41 : decode c0_R_isDivisor 41 = .ok (.ireturn, 1) := by decide +kernel
theorem d_R_digitOf_0 : decode c0_R_digitOf 0 = .ok (.iload_n 0, 1) := by decide +kernel
theorem d_R_digitOf_1 : decode c0_R_digitOf 1 = .ok (.bipush 48, 2) := by decide +kernel
theorem d_R_digitOf_3 : decode c0_R_digitOf 3 = .ok (.if_icmp .lt 16, 3) := by decide +kernel
theorem d_R_digitOf_6 : decode c0_R_digitOf 6 = .ok (.iload_n 0, 1) := by decide +kernel
theorem d_R_digitOf_7 : decode c0_R_digitOf 7 = .ok (.bipush 57, 2) := by decide +kernel
theorem d_R_digitOf_9 : decode c0_R_digitOf 9 = .ok (.if_icmp .gt 10, 3) := by decide +kernel
theorem d_R_digitOf_12 : decode c0_R_digitOf 12 = .ok (.iload_n 0, 1) := by decide +kernel
theorem d_R_digitOf_13 : decode c0_R_digitOf 13 = .ok (.bipush 48, 2) := by decide +kernel
theorem d_R_digitOf_15 : decode c0_R_digitOf 15 = .ok (.isub, 1) := by decide +kernel
theorem d_R_digitOf_16 : decode c0_R_digitOf 16 = .ok (.goto 4, 3) := by decide +kernel
theorem d_R_digitOf_19 : decode c0_R_digitOf 19 = .ok (.iconst (-1), 1) := by decide +kernel
theorem d_R_digitOf_20 : decode c0_R_digitOf 20 = .ok (.ireturn, 1) := by decide +kernel
theorem d_R_variableOf_0 : decode c0_R_variableOf 0 = .ok (.iload_n 0, 1) := by decide +kernel
theorem d_R_variableOf_1 : decode c0_R_variableOf 1 = .ok (.bipush 120, 2) := by decide +kernel
theorem d_R_variableOf_3 : decode c0_R_variableOf 3 = .ok (.if_icmp .lt 16, 3) := by decide +kernel
theorem d_R_variableOf_6 : decode c0_R_variableOf 6 = .ok (.iload_n 0, 1) := by decide +kernel
theorem d_R_variableOf_7 : decode c0_R_variableOf 7 = .ok (.bipush 122, 2) := by decide +kernel
theorem d_R_variableOf_9 : decode c0_R_variableOf 9 = .ok (.if_icmp .gt 10, 3) := by decide +kernel
theorem d_R_variableOf_12 : decode c0_R_variableOf 12 = .ok (.iload_n 0, 1) := by decide +kernel
theorem d_R_variableOf_13 : decode c0_R_variableOf 13 = .ok (.bipush 120, 2) := by decide +kernel
theorem d_R_variableOf_15 : decode c0_R_variableOf 15 = .ok (.isub, 1) := by decide +kernel
theorem d_R_variableOf_16 : decode c0_R_variableOf 16 = .ok (.goto 4, 3) := by decide +kernel
theorem d_R_variableOf_19 : decode c0_R_variableOf 19 = .ok (.iconst (-1), 1) := by decide +kernel
theorem d_R_variableOf_20 : decode c0_R_variableOf 20 = .ok (.ireturn, 1) := by decide +kernel
theorem d_R_readPart_0 : decode c0_R_readPart 0 = .ok (.aload_n 0, 1) := by decide +kernel
theorem d_R_readPart_1 : decode c0_R_readPart 1 = .ok (.invokevirtual 37, 3) := by decide +kernel
theorem d_R_readPart_4 : decode c0_R_readPart 4 = .ok (.invokestatic 106, 3) := by decide +kernel
theorem d_R_readPart_7 : decode c0_R_readPart 7 = .ok (.istore 4, 2) := by decide +kernel
theorem d_R_readPart_9 : decode c0_R_readPart 9 = .ok (.iconst (-1), 1) := by decide +kernel
theorem d_R_readPart_10 : decode c0_R_readPart 10 = .ok (.istore 5, 2) := by decide +kernel
theorem d_R_readPart_12 : decode c0_R_readPart 12 = .ok (.iload 4, 2) := by decide +kernel
theorem d_R_readPart_14 : decode c0_R_readPart 14 = .ok (.ifCond .lt 22, 3) := by decide +kernel
theorem d_R_readPart_17 : decode c0_R_readPart 17 = .ok (.aload_n 0, 1) := by decide +kernel
theorem d_R_readPart_18 : decode c0_R_readPart 18 = .ok (.dup, 1) := by decide +kernel
theorem d_R_readPart_19 : decode c0_R_readPart 19 = .ok (.getfield 7, 3) := by decide +kernel
theorem d_R_readPart_22 : decode c0_R_readPart 22 = .ok (.iconst 1, 1) := by decide +kernel
theorem d_R_readPart_23 : decode c0_R_readPart 23 = .ok (.iadd, 1) := by decide +kernel
theorem d_R_readPart_24 : decode c0_R_readPart 24 = .ok (.putfield 7, 3) := by decide +kernel
theorem d_R_readPart_27 : decode c0_R_readPart 27 = .ok (.aload_n 0, 1) := by decide +kernel
theorem d_R_readPart_28 : decode c0_R_readPart 28 = .ok (.invokevirtual 37, 3) := by decide +kernel
theorem d_R_readPart_31 : decode c0_R_readPart 31 = .ok (.invokestatic 106, 3) := by decide +kernel
theorem d_R_readPart_34 : decode c0_R_readPart 34 = .ok (.istore 5, 2) := by decide +kernel
theorem d_R_readPart_36 : decode c0_R_readPart 36 = .ok (.iload 5, 2) := by decide +kernel
theorem d_R_readPart_38 : decode c0_R_readPart 38 = .ok (.ifCond .lt 33, 3) := by decide +kernel
theorem d_R_readPart_41 : decode c0_R_readPart 41 = .ok (.aload_n 0, 1) := by decide +kernel
theorem d_R_readPart_42 : decode c0_R_readPart 42 = .ok (.dup, 1) := by decide +kernel
theorem d_R_readPart_43 : decode c0_R_readPart 43 = .ok (.getfield 7, 3) := by decide +kernel
theorem d_R_readPart_46 : decode c0_R_readPart 46 = .ok (.iconst 1, 1) := by decide +kernel
theorem d_R_readPart_47 : decode c0_R_readPart 47 = .ok (.iadd, 1) := by decide +kernel
theorem d_R_readPart_48 : decode c0_R_readPart 48 = .ok (.putfield 7, 3) := by decide +kernel
theorem d_R_readPart_51 : decode c0_R_readPart 51 = .ok (.aload_n 0, 1) := by decide +kernel
theorem d_R_readPart_52 : decode c0_R_readPart 52 = .ok (.getfield 24, 3) := by decide +kernel
theorem d_R_readPart_55 : decode c0_R_readPart 55 = .ok (.iload_n 1, 1) := by decide +kernel
theorem d_R_readPart_56 : decode c0_R_readPart 56 = .ok (.iload_n 3, 1) := by decide +kernel
theorem d_R_readPart_57 : decode c0_R_readPart 57 = .ok (.bipush 10, 2) := by decide +kernel
theorem d_R_readPart_59 : decode c0_R_readPart 59 = .ok (.iload 4, 2) := by decide +kernel
theorem d_R_readPart_61 : decode c0_R_readPart 61 = .ok (.imul, 1) := by decide +kernel
theorem d_R_readPart_62 : decode c0_R_readPart 62 = .ok (.iload 5, 2) := by decide +kernel
theorem d_R_readPart_64 : decode c0_R_readPart 64 = .ok (.iadd, 1) := by decide +kernel
theorem d_R_readPart_65 : decode c0_R_readPart 65 = .ok (.imul, 1) := by decide +kernel
theorem d_R_readPart_66 : decode c0_R_readPart 66 = .ok (.invokevirtual 109, 3) := by decide +kernel
theorem d_R_readPart_69 : decode c0_R_readPart 69 = .ok (.iconst 1, 1) := by decide +kernel
theorem d_R_readPart_70 : decode c0_R_readPart 70 = .ok (.ireturn, 1) := by decide +kernel
theorem d_R_readPart_71 : decode c0_R_readPart 71 = .ok (.aload_n 0, 1) := by decide +kernel
theorem d_R_readPart_72 : decode c0_R_readPart 72 = .ok (.invokevirtual 37, 3) := by decide +kernel
theorem d_R_readPart_75 : decode c0_R_readPart 75 = .ok (.invokestatic 80, 3) := by decide +kernel
theorem d_R_readPart_78 : decode c0_R_readPart 78 = .ok (.istore 6, 2) := by decide +kernel
theorem d_R_readPart_80 : decode c0_R_readPart 80 = .ok (.iload 6, 2) := by decide +kernel
theorem d_R_readPart_82 : decode c0_R_readPart 82 = .ok (.ifCond .lt 19, 3) := by decide +kernel
theorem d_R_readPart_85 : decode c0_R_readPart 85 = .ok (.iload 4, 2) := by decide +kernel
theorem d_R_readPart_87 : decode c0_R_readPart 87 = .ok (.iconst 1, 1) := by decide +kernel
theorem d_R_readPart_88 : decode c0_R_readPart 88 = .ok (.if_icmp .eq 9, 3) := by decide +kernel
theorem d_R_readPart_91 : decode c0_R_readPart 91 = .ok (.iload 4, 2) := by decide +kernel
theorem d_R_readPart_93 : decode c0_R_readPart 93 = .ok (.iconst 2, 1) := by decide +kernel
theorem d_R_readPart_94 : decode c0_R_readPart 94 = .ok (.if_icmp .ne 7, 3) := by decide +kernel
theorem d_R_readPart_97 : decode c0_R_readPart 97 = .ok (.iconst 1, 1) := by decide +kernel
theorem d_R_readPart_98 : decode c0_R_readPart 98 = .ok (.goto 4, 3) := by decide +kernel
theorem d_R_readPart_101 : decode c0_R_readPart 101 = .ok (.iconst 0, 1) := by decide +kernel
theorem d_R_readPart_102 : decode c0_R_readPart 102 = .ok (.istore 7, 2) := by decide +kernel
theorem d_R_readPart_104 : decode c0_R_readPart 104 = .ok (.iload 4, 2) := by decide +kernel
theorem d_R_readPart_106 : decode c0_R_readPart 106 = .ok (.ifCond .lt 22, 3) := by decide +kernel
theorem d_R_readPart_109 : decode c0_R_readPart 109 = .ok (.iload 7, 2) := by decide +kernel
theorem d_R_readPart_111 : decode c0_R_readPart 111 = .ok (.ifCond .ne 17, 3) := by decide +kernel
theorem d_R_readPart_114 : decode c0_R_readPart 114 = .ok (.aload_n 0, 1) := by decide +kernel
theorem d_R_readPart_115 : decode c0_R_readPart 115 = .ok (.getfield 24, 3) := by decide +kernel
theorem d_R_readPart_118 : decode c0_R_readPart 118 = .ok (.iload_n 1, 1) := by decide +kernel
theorem d_R_readPart_119 : decode c0_R_readPart 119 = .ok (.iload_n 3, 1) := by decide +kernel
theorem d_R_readPart_120 : decode c0_R_readPart 120 = .ok (.iload 4, 2) := by decide +kernel
theorem d_R_readPart_122 : decode c0_R_readPart 122 = .ok (.imul, 1) := by decide +kernel
theorem d_R_readPart_123 : decode c0_R_readPart 123 = .ok (.invokevirtual 109, 3) := by decide +kernel
theorem d_R_readPart_126 : decode c0_R_readPart 126 = .ok (.iconst 1, 1) := by decide +kernel
theorem d_R_readPart_127 : decode c0_R_readPart 127 = .ok (.ireturn, 1) := by decide +kernel
theorem d_R_readPart_128 : decode c0_R_readPart 128 = .ok (.iload 6, 2) := by decide +kernel
theorem d_R_readPart_130 : decode c0_R_readPart 130 = .ok (.ifCond .lt 17, 3) := by decide +kernel
theorem d_R_readPart_133 : decode c0_R_readPart 133 = .ok (.iload 6, 2) := by decide +kernel
theorem d_R_readPart_135 : decode c0_R_readPart 135 = .ok (.ifCond .eq 14, 3) := by decide +kernel
theorem d_R_readPart_138 : decode c0_R_readPart 138 = .ok (.iload_n 2, 1) := by decide +kernel
theorem d_R_readPart_139 : decode c0_R_readPart 139 = .ok (.iload 6, 2) := by decide +kernel
theorem d_R_readPart_141 : decode c0_R_readPart 141 = .ok (.ishr, 1) := by decide +kernel
theorem d_R_readPart_142 : decode c0_R_readPart 142 = .ok (.iconst 1, 1) := by decide +kernel
theorem d_R_readPart_143 : decode c0_R_readPart 143 = .ok (.iand, 1) := by decide +kernel
theorem d_R_readPart_144 : decode c0_R_readPart 144 = .ok (.ifCond .ne 5, 3) := by decide +kernel
theorem d_R_readPart_147 : decode c0_R_readPart 147 = .ok (.iconst 0, 1) := by decide +kernel
theorem d_R_readPart_148 : decode c0_R_readPart 148 = .ok (.ireturn, 1) := by decide +kernel
theorem d_R_readPart_149 : decode c0_R_readPart 149 = .ok (.aload_n 0, 1) := by decide +kernel
theorem d_R_readPart_150 : decode c0_R_readPart 150 = .ok (.getfield 24, 3) := by decide +kernel
theorem d_R_readPart_153 : decode c0_R_readPart 153 = .ok (.iload_n 1, 1) := by decide +kernel
theorem d_R_readPart_154 : decode c0_R_readPart 154 = .ok (.iload 6, 2) := by decide +kernel
theorem d_R_readPart_156 : decode c0_R_readPart 156 = .ok (.iload 7, 2) := by decide +kernel
theorem d_R_readPart_158 : decode c0_R_readPart 158 = .ok (.ifCond .eq 10, 3) := by decide +kernel
theorem d_R_readPart_161 : decode c0_R_readPart 161 = .ok (.iload_n 3, 1) := by decide +kernel
theorem d_R_readPart_162 : decode c0_R_readPart 162 = .ok (.iload 4, 2) := by decide +kernel
theorem d_R_readPart_164 : decode c0_R_readPart 164 = .ok (.imul, 1) := by decide +kernel
theorem d_R_readPart_165 : decode c0_R_readPart 165 = .ok (.goto 4, 3) := by decide +kernel
theorem d_R_readPart_168 : decode c0_R_readPart 168 = .ok (.iload_n 3, 1) := by decide +kernel
theorem d_R_readPart_169 : decode c0_R_readPart 169 = .ok (.invokevirtual 112, 3) := by decide +kernel
theorem d_R_readPart_172 : decode c0_R_readPart 172 = .ok (.aload_n 0, 1) := by decide +kernel
theorem d_R_readPart_173 : decode c0_R_readPart 173 = .ok (.dup, 1) := by decide +kernel
theorem d_R_readPart_174 : decode c0_R_readPart 174 = .ok (.getfield 7, 3) := by decide +kernel
theorem d_R_readPart_177 : decode c0_R_readPart 177 = .ok (.iconst 1, 1) := by decide +kernel
theorem d_R_readPart_178 : decode c0_R_readPart 178 = .ok (.iadd, 1) := by decide +kernel
theorem d_R_readPart_179 : decode c0_R_readPart 179 = .ok (.putfield 7, 3) := by decide +kernel
theorem d_R_readPart_182 : decode c0_R_readPart 182 = .ok (.iconst 1, 1) := by decide +kernel
theorem d_R_readPart_183 : decode c0_R_readPart 183 = .ok (.ireturn, 1) := by decide +kernel
theorem d_R_readSum_0 : decode c0_R_readSum 0 = .ok (.iload_n 3, 1) := by decide +kernel
theorem d_R_readSum_1 : decode c0_R_readSum 1 = .ok (.istore 4, 2) := by decide +kernel
theorem d_R_readSum_3 : decode c0_R_readSum 3 = .ok (.aload_n 0, 1) := by decide +kernel
theorem d_R_readSum_4 : decode c0_R_readSum 4 = .ok (.invokevirtual 37, 3) := by decide +kernel
theorem d_R_readSum_7 : decode c0_R_readSum 7 = .ok (.bipush 45, 2) := by decide +kernel
theorem d_R_readSum_9 : decode c0_R_readSum 9 = .ok (.if_icmp .ne 17, 3) := by decide +kernel
theorem d_R_readSum_12 : decode c0_R_readSum 12 = .ok (.iload_n 3, 1) := by decide +kernel
theorem d_R_readSum_13 : decode c0_R_readSum 13 = .ok (.ineg, 1) := by decide +kernel
theorem d_R_readSum_14 : decode c0_R_readSum 14 = .ok (.istore 4, 2) := by decide +kernel
theorem d_R_readSum_16 : decode c0_R_readSum 16 = .ok (.aload_n 0, 1) := by decide +kernel
theorem d_R_readSum_17 : decode c0_R_readSum 17 = .ok (.dup, 1) := by decide +kernel
theorem d_R_readSum_18 : decode c0_R_readSum 18 = .ok (.getfield 7, 3) := by decide +kernel
theorem d_R_readSum_21 : decode c0_R_readSum 21 = .ok (.iconst 1, 1) := by decide +kernel
theorem d_R_readSum_22 : decode c0_R_readSum 22 = .ok (.iadd, 1) := by decide +kernel
theorem d_R_readSum_23 : decode c0_R_readSum 23 = .ok (.putfield 7, 3) := by decide +kernel
theorem d_R_readSum_26 : decode c0_R_readSum 26 = .ok (.iconst 0, 1) := by decide +kernel
theorem d_R_readSum_27 : decode c0_R_readSum 27 = .ok (.istore 5, 2) := by decide +kernel
theorem d_R_readSum_29 : decode c0_R_readSum 29 = .ok (.iload 5, 2) := by decide +kernel
theorem d_R_readSum_31 : decode c0_R_readSum 31 = .ok (.bipush 120, 2) := by decide +kernel
theorem d_R_readSum_33 : decode c0_R_readSum 33 = .ok (.if_icmp .ge 69, 3) := by decide +kernel
theorem d_R_readSum_36 : decode c0_R_readSum 36 = .ok (.aload_n 0, 1) := by decide +kernel
theorem d_R_readSum_37 : decode c0_R_readSum 37 = .ok (.iload_n 1, 1) := by decide +kernel
theorem d_R_readSum_38 : decode c0_R_readSum 38 = .ok (.iload_n 2, 1) := by decide +kernel
theorem d_R_readSum_39 : decode c0_R_readSum 39 = .ok (.iload 4, 2) := by decide +kernel
theorem d_R_readSum_41 : decode c0_R_readSum 41 = .ok (.invokevirtual 103, 3) := by decide +kernel
theorem d_R_readSum_44 : decode c0_R_readSum 44 = .ok (.ifCond .ne 5, 3) := by decide +kernel
theorem d_R_readSum_47 : decode c0_R_readSum 47 = .ok (.iconst 0, 1) := by decide +kernel
theorem d_R_readSum_48 : decode c0_R_readSum 48 = .ok (.ireturn, 1) := by decide +kernel
theorem d_R_readSum_49 : decode c0_R_readSum 49 = .ok (.aload_n 0, 1) := by decide +kernel
theorem d_R_readSum_50 : decode c0_R_readSum 50 = .ok (.invokevirtual 37, 3) := by decide +kernel
theorem d_R_readSum_53 : decode c0_R_readSum 53 = .ok (.istore 6, 2) := by decide +kernel
theorem d_R_readSum_55 : decode c0_R_readSum 55 = .ok (.iload 6, 2) := by decide +kernel
theorem d_R_readSum_57 : decode c0_R_readSum 57 = .ok (.bipush 43, 2) := by decide +kernel
theorem d_R_readSum_59 : decode c0_R_readSum 59 = .ok (.if_icmp .eq 12, 3) := by decide +kernel
theorem d_R_readSum_62 : decode c0_R_readSum 62 = .ok (.iload 6, 2) := by decide +kernel
theorem d_R_readSum_64 : decode c0_R_readSum 64 = .ok (.bipush 45, 2) := by decide +kernel
theorem d_R_readSum_66 : decode c0_R_readSum 66 = .ok (.if_icmp .eq 5, 3) := by decide +kernel
theorem d_R_readSum_69 : decode c0_R_readSum 69 = .ok (.iconst 1, 1) := by decide +kernel
theorem d_R_readSum_70 : decode c0_R_readSum 70 = .ok (.ireturn, 1) := by decide +kernel
theorem d_R_readSum_71 : decode c0_R_readSum 71 = .ok (.iload 6, 2) := by decide +kernel
theorem d_R_readSum_73 : decode c0_R_readSum 73 = .ok (.bipush 43, 2) := by decide +kernel
theorem d_R_readSum_75 : decode c0_R_readSum 75 = .ok (.if_icmp .ne 7, 3) := by decide +kernel
theorem d_R_readSum_78 : decode c0_R_readSum 78 = .ok (.iload_n 3, 1) := by decide +kernel
theorem d_R_readSum_79 : decode c0_R_readSum 79 = .ok (.goto 5, 3) := by decide +kernel
theorem d_R_readSum_82 : decode c0_R_readSum 82 = .ok (.iload_n 3, 1) := by decide +kernel
theorem d_R_readSum_83 : decode c0_R_readSum 83 = .ok (.ineg, 1) := by decide +kernel
theorem d_R_readSum_84 : decode c0_R_readSum 84 = .ok (.istore 4, 2) := by decide +kernel
theorem d_R_readSum_86 : decode c0_R_readSum 86 = .ok (.aload_n 0, 1) := by decide +kernel
theorem d_R_readSum_87 : decode c0_R_readSum 87 = .ok (.dup, 1) := by decide +kernel
theorem d_R_readSum_88 : decode c0_R_readSum 88 = .ok (.getfield 7, 3) := by decide +kernel
theorem d_R_readSum_91 : decode c0_R_readSum 91 = .ok (.iconst 1, 1) := by decide +kernel
theorem d_R_readSum_92 : decode c0_R_readSum 92 = .ok (.iadd, 1) := by decide +kernel
theorem d_R_readSum_93 : decode c0_R_readSum 93 = .ok (.putfield 7, 3) := by decide +kernel
theorem d_R_readSum_96 : decode c0_R_readSum 96 = .ok (.iinc 5 1, 3) := by decide +kernel
theorem d_R_readSum_99 : decode c0_R_readSum 99 = .ok (.goto (-70), 3) := by decide +kernel
theorem d_R_readSum_102 : decode c0_R_readSum 102 = .ok (.iconst 0, 1) := by decide +kernel
theorem d_R_readSum_103 : decode c0_R_readSum 103 = .ok (.ireturn, 1) := by decide +kernel
theorem d_R_readBracket_0 : decode c0_R_readBracket 0 = .ok (.aload_n 0, 1) := by decide +kernel
theorem d_R_readBracket_1 : decode c0_R_readBracket 1 = .ok (.getfield 13, 3) := by decide +kernel
theorem d_R_readBracket_4 : decode c0_R_readBracket 4 = .ok (.bipush 8, 2) := by decide +kernel
theorem d_R_readBracket_6 : decode c0_R_readBracket 6 = .ok (.if_icmp .lt 5, 3) := by decide +kernel
theorem d_R_readBracket_9 : decode c0_R_readBracket 9 = .ok (.iconst 0, 1) := by decide +kernel
theorem d_R_readBracket_10 : decode c0_R_readBracket 10 = .ok (.ireturn, 1) := by decide +kernel
theorem d_R_readBracket_11 : decode c0_R_readBracket 11 = .ok (.aload_n 0, 1) := by decide +kernel
theorem d_R_readBracket_12 : decode c0_R_readBracket 12 = .ok (.dup, 1) := by decide +kernel
theorem d_R_readBracket_13 : decode c0_R_readBracket 13 = .ok (.getfield 13, 3) := by decide +kernel
theorem d_R_readBracket_16 : decode c0_R_readBracket 16 = .ok (.iconst 1, 1) := by decide +kernel
theorem d_R_readBracket_17 : decode c0_R_readBracket 17 = .ok (.iadd, 1) := by decide +kernel
theorem d_R_readBracket_18 : decode c0_R_readBracket 18 = .ok (.putfield 13, 3) := by decide +kernel
theorem d_R_readBracket_21 : decode c0_R_readBracket 21 = .ok (.aload_n 0, 1) := by decide +kernel
theorem d_R_readBracket_22 : decode c0_R_readBracket 22 = .ok (.invokevirtual 64, 3) := by decide +kernel
theorem d_R_readBracket_25 : decode c0_R_readBracket 25 = .ok (.istore_n 2, 1) := by decide +kernel
theorem d_R_readBracket_26 : decode c0_R_readBracket 26 = .ok (.aload_n 0, 1) := by decide +kernel
theorem d_R_readBracket_27 : decode c0_R_readBracket 27 = .ok (.invokevirtual 87, 3) := by decide +kernel
theorem d_R_readBracket_30 : decode c0_R_readBracket 30 = .ok (.istore_n 3, 1) := by decide +kernel
theorem d_R_readBracket_31 : decode c0_R_readBracket 31 = .ok (.iload_n 3, 1) := by decide +kernel
theorem d_R_readBracket_32 : decode c0_R_readBracket 32 = .ok (.ifCond .eq 31, 3) := by decide +kernel
theorem d_R_readBracket_35 : decode c0_R_readBracket 35 = .ok (.aload_n 0, 1) := by decide +kernel
theorem d_R_readBracket_36 : decode c0_R_readBracket 36 = .ok (.getfield 24, 3) := by decide +kernel
theorem d_R_readBracket_39 : decode c0_R_readBracket 39 = .ok (.iload_n 2, 1) := by decide +kernel
theorem d_R_readBracket_40 : decode c0_R_readBracket 40 = .ok (.aload_n 0, 1) := by decide +kernel
theorem d_R_readBracket_41 : decode c0_R_readBracket 41 = .ok (.invokevirtual 37, 3) := by decide +kernel
theorem d_R_readBracket_44 : decode c0_R_readBracket 44 = .ok (.bipush 48, 2) := by decide +kernel
theorem d_R_readBracket_46 : decode c0_R_readBracket 46 = .ok (.isub, 1) := by decide +kernel
theorem d_R_readBracket_47 : decode c0_R_readBracket 47 = .ok (.invokevirtual 90, 3) := by decide +kernel
theorem d_R_readBracket_50 : decode c0_R_readBracket 50 = .ok (.aload_n 0, 1) := by decide +kernel
theorem d_R_readBracket_51 : decode c0_R_readBracket 51 = .ok (.dup, 1) := by decide +kernel
theorem d_R_readBracket_52 : decode c0_R_readBracket 52 = .ok (.getfield 7, 3) := by decide +kernel
theorem d_R_readBracket_55 : decode c0_R_readBracket 55 = .ok (.iconst 1, 1) := by decide +kernel
theorem d_R_readBracket_56 : decode c0_R_readBracket 56 = .ok (.iadd, 1) := by decide +kernel
theorem d_R_readBracket_57 : decode c0_R_readBracket 57 = .ok (.putfield 7, 3) := by decide +kernel
theorem d_R_readBracket_60 : decode c0_R_readBracket 60 = .ok (.goto 15, 3) := by decide +kernel
theorem d_R_readBracket_63 : decode c0_R_readBracket 63 = .ok (.aload_n 0, 1) := by decide +kernel
theorem d_R_readBracket_64 : decode c0_R_readBracket 64 = .ok (.iload_n 2, 1) := by decide +kernel
theorem d_R_readBracket_65 : decode c0_R_readBracket 65 = .ok (.iload_n 1, 1) := by decide +kernel
theorem d_R_readBracket_66 : decode c0_R_readBracket 66 = .ok (.iconst 1, 1) := by decide +kernel
theorem d_R_readBracket_67 : decode c0_R_readBracket 67 = .ok (.invokevirtual 93, 3) := by decide +kernel
theorem d_R_readBracket_70 : decode c0_R_readBracket 70 = .ok (.ifCond .ne 5, 3) := by decide +kernel
theorem d_R_readBracket_73 : decode c0_R_readBracket 73 = .ok (.iconst 0, 1) := by decide +kernel
theorem d_R_readBracket_74 : decode c0_R_readBracket 74 = .ok (.ireturn, 1) := by decide +kernel
theorem d_R_readBracket_75 : decode c0_R_readBracket 75 = .ok (.aload_n 0, 1) := by decide +kernel
theorem d_R_readBracket_76 : decode c0_R_readBracket 76 = .ok (.invokevirtual 37, 3) := by decide +kernel
theorem d_R_readBracket_79 : decode c0_R_readBracket 79 = .ok (.istore 4, 2) := by decide +kernel
theorem d_R_readBracket_81 : decode c0_R_readBracket 81 = .ok (.iload_n 3, 1) := by decide +kernel
theorem d_R_readBracket_82 : decode c0_R_readBracket 82 = .ok (.ifCond .ne 19, 3) := by decide +kernel
theorem d_R_readBracket_85 : decode c0_R_readBracket 85 = .ok (.iload 4, 2) := by decide +kernel
theorem d_R_readBracket_87 : decode c0_R_readBracket 87 = .ok (.bipush 60, 2) := by decide +kernel
theorem d_R_readBracket_89 : decode c0_R_readBracket 89 = .ok (.if_icmp .eq 12, 3) := by decide +kernel
theorem d_R_readBracket_92 : decode c0_R_readBracket 92 = .ok (.iload 4, 2) := by decide +kernel
theorem d_R_readBracket_94 : decode c0_R_readBracket 94 = .ok (.bipush 61, 2) := by decide +kernel
theorem d_R_readBracket_96 : decode c0_R_readBracket 96 = .ok (.if_icmp .eq 5, 3) := by decide +kernel
theorem d_R_readBracket_99 : decode c0_R_readBracket 99 = .ok (.iconst 0, 1) := by decide +kernel
theorem d_R_readBracket_100 : decode c0_R_readBracket 100 = .ok (.ireturn, 1) := by decide +kernel
theorem d_R_readBracket_101 : decode c0_R_readBracket 101 = .ok (.aload_n 0, 1) := by decide +kernel
theorem d_R_readBracket_102 : decode c0_R_readBracket 102 = .ok (.getfield 24, 3) := by decide +kernel
theorem d_R_readBracket_105 : decode c0_R_readBracket 105 = .ok (.iload_n 2, 1) := by decide +kernel
theorem d_R_readBracket_106 : decode c0_R_readBracket 106 = .ok (.iload 4, 2) := by decide +kernel
theorem d_R_readBracket_108 : decode c0_R_readBracket 108 = .ok (.invokevirtual 97, 3) := by decide +kernel
theorem d_R_readBracket_111 : decode c0_R_readBracket 111 = .ok (.aload_n 0, 1) := by decide +kernel
theorem d_R_readBracket_112 : decode c0_R_readBracket 112 = .ok (.dup, 1) := by decide +kernel
theorem d_R_readBracket_113 : decode c0_R_readBracket 113 = .ok (.getfield 7, 3) := by decide +kernel
theorem d_R_readBracket_116 : decode c0_R_readBracket 116 = .ok (.iconst 1, 1) := by decide +kernel
theorem d_R_readBracket_117 : decode c0_R_readBracket 117 = .ok (.iadd, 1) := by decide +kernel
theorem d_R_readBracket_118 : decode c0_R_readBracket 118 = .ok (.putfield 7, 3) := by decide +kernel
theorem d_R_readBracket_121 : decode c0_R_readBracket 121 = .ok (.aload_n 0, 1) := by decide +kernel
theorem d_R_readBracket_122 : decode c0_R_readBracket 122 = .ok (.iload_n 2, 1) := by decide +kernel
theorem d_R_readBracket_123 : decode c0_R_readBracket 123 = .ok (.iload_n 1, 1) := by decide +kernel
theorem d_R_readBracket_124 : decode c0_R_readBracket 124 = .ok (.iload_n 3, 1) := by decide +kernel
theorem d_R_readBracket_125 : decode c0_R_readBracket 125 = .ok (.ifCond .eq 7, 3) := by decide +kernel
theorem d_R_readBracket_128 : decode c0_R_readBracket 128 = .ok (.iconst 1, 1) := by decide +kernel
theorem d_R_readBracket_129 : decode c0_R_readBracket 129 = .ok (.goto 4, 3) := by decide +kernel
theorem d_R_readBracket_132 : decode c0_R_readBracket 132 = .ok (.iconst (-1), 1) := by decide +kernel
theorem d_R_readBracket_133 : decode c0_R_readBracket 133 = .ok (.invokevirtual 93, 3) := by decide +kernel
theorem d_R_readBracket_136 : decode c0_R_readBracket 136 = .ok (.ifCond .eq 12, 3) := by decide +kernel
theorem d_R_readBracket_139 : decode c0_R_readBracket 139 = .ok (.aload_n 0, 1) := by decide +kernel
theorem d_R_readBracket_140 : decode c0_R_readBracket 140 = .ok (.invokevirtual 37, 3) := by decide +kernel
theorem d_R_readBracket_143 : decode c0_R_readBracket 143 = .ok (.bipush 93, 2) := by decide +kernel
theorem d_R_readBracket_145 : decode c0_R_readBracket 145 = .ok (.if_icmp .eq 5, 3) := by decide +kernel
theorem d_R_readBracket_148 : decode c0_R_readBracket 148 = .ok (.iconst 0, 1) := by decide +kernel
theorem d_R_readBracket_149 : decode c0_R_readBracket 149 = .ok (.ireturn, 1) := by decide +kernel
theorem d_R_readBracket_150 : decode c0_R_readBracket 150 = .ok (.aload_n 0, 1) := by decide +kernel
theorem d_R_readBracket_151 : decode c0_R_readBracket 151 = .ok (.getfield 24, 3) := by decide +kernel
theorem d_R_readBracket_154 : decode c0_R_readBracket 154 = .ok (.iload_n 2, 1) := by decide +kernel
theorem d_R_readBracket_155 : decode c0_R_readBracket 155 = .ok (.iconst 2, 1) := by decide +kernel
theorem d_R_readBracket_156 : decode c0_R_readBracket 156 = .ok (.bipush 15, 2) := by decide +kernel
theorem d_R_readBracket_158 : decode c0_R_readBracket 158 = .ok (.invokevirtual 100, 3) := by decide +kernel
theorem d_R_readBracket_161 : decode c0_R_readBracket 161 = .ok (.ifCond .ne 5, 3) := by decide +kernel
theorem d_R_readBracket_164 : decode c0_R_readBracket 164 = .ok (.iconst 0, 1) := by decide +kernel
theorem d_R_readBracket_165 : decode c0_R_readBracket 165 = .ok (.ireturn, 1) := by decide +kernel
theorem d_R_readBracket_166 : decode c0_R_readBracket 166 = .ok (.aload_n 0, 1) := by decide +kernel
theorem d_R_readBracket_167 : decode c0_R_readBracket 167 = .ok (.dup, 1) := by decide +kernel
theorem d_R_readBracket_168 : decode c0_R_readBracket 168 = .ok (.getfield 7, 3) := by decide +kernel
theorem d_R_readBracket_171 : decode c0_R_readBracket 171 = .ok (.iconst 1, 1) := by decide +kernel
theorem d_R_readBracket_172 : decode c0_R_readBracket 172 = .ok (.iadd, 1) := by decide +kernel
theorem d_R_readBracket_173 : decode c0_R_readBracket 173 = .ok (.putfield 7, 3) := by decide +kernel
theorem d_R_readBracket_176 : decode c0_R_readBracket 176 = .ok (.iconst 1, 1) := by decide +kernel
theorem d_R_readBracket_177 : decode c0_R_readBracket 177 = .ok (.ireturn, 1) := by decide +kernel
theorem d_R_readPair_0 : decode c0_R_readPair 0 = .ok (.aload_n 0, 1) := by decide +kernel
theorem d_R_readPair_1 : decode c0_R_readPair 1 = .ok (.invokevirtual 64, 3) := by decide +kernel
theorem d_R_readPair_4 : decode c0_R_readPair 4 = .ok (.istore_n 3, 1) := by decide +kernel
theorem d_R_readPair_5 : decode c0_R_readPair 5 = .ok (.aload_n 0, 1) := by decide +kernel
theorem d_R_readPair_6 : decode c0_R_readPair 6 = .ok (.iload_n 1, 1) := by decide +kernel
theorem d_R_readPair_7 : decode c0_R_readPair 7 = .ok (.iload_n 2, 1) := by decide +kernel
theorem d_R_readPair_8 : decode c0_R_readPair 8 = .ok (.invokevirtual 33, 3) := by decide +kernel
theorem d_R_readPair_11 : decode c0_R_readPair 11 = .ok (.ifCond .ne 5, 3) := by decide +kernel
theorem d_R_readPair_14 : decode c0_R_readPair 14 = .ok (.iconst 0, 1) := by decide +kernel
theorem d_R_readPair_15 : decode c0_R_readPair 15 = .ok (.ireturn, 1) := by decide +kernel
theorem d_R_readPair_16 : decode c0_R_readPair 16 = .ok (.aload_n 0, 1) := by decide +kernel
theorem d_R_readPair_17 : decode c0_R_readPair 17 = .ok (.getfield 24, 3) := by decide +kernel
theorem d_R_readPair_20 : decode c0_R_readPair 20 = .ok (.iload_n 3, 1) := by decide +kernel
theorem d_R_readPair_21 : decode c0_R_readPair 21 = .ok (.invokevirtual 76, 3) := by decide +kernel
theorem d_R_readPair_24 : decode c0_R_readPair 24 = .ok (.aload_n 0, 1) := by decide +kernel
theorem d_R_readPair_25 : decode c0_R_readPair 25 = .ok (.iload_n 1, 1) := by decide +kernel
theorem d_R_readPair_26 : decode c0_R_readPair 26 = .ok (.iload_n 2, 1) := by decide +kernel
theorem d_R_readPair_27 : decode c0_R_readPair 27 = .ok (.invokevirtual 33, 3) := by decide +kernel
theorem d_R_readPair_30 : decode c0_R_readPair 30 = .ok (.ireturn, 1) := by decide +kernel
theorem d_R_readQuantified_0 : decode c0_R_readQuantified 0 = .ok (.iload_n 2, 1) := by decide +kernel
theorem d_R_readQuantified_1 : decode c0_R_readQuantified 1 = .ok (.iconst 2, 1) := by decide +kernel
theorem d_R_readQuantified_2 : decode c0_R_readQuantified 2 = .ok (.if_icmp .lt 5, 3) := by decide +kernel
theorem d_R_readQuantified_5 : decode c0_R_readQuantified 5 = .ok (.iconst 0, 1) := by decide +kernel
theorem d_R_readQuantified_6 : decode c0_R_readQuantified 6 = .ok (.ireturn, 1) := by decide +kernel
theorem d_R_readQuantified_7 : decode c0_R_readQuantified 7 = .ok (.aload_n 0, 1) := by decide +kernel
theorem d_R_readQuantified_8 : decode c0_R_readQuantified 8 = .ok (.aload_n 0, 1) := by decide +kernel
theorem d_R_readQuantified_9 : decode c0_R_readQuantified 9 = .ok (.getfield 16, 3) := by decide +kernel
theorem d_R_readQuantified_12 : decode c0_R_readQuantified 12 = .ok (.ifCond .ne 7, 3) := by decide +kernel
theorem d_R_readQuantified_15 : decode c0_R_readQuantified 15 = .ok (.iload_n 2, 1) := by decide +kernel
theorem d_R_readQuantified_16 : decode c0_R_readQuantified 16 = .ok (.ifCond .le 7, 3) := by decide +kernel
theorem d_R_readQuantified_19 : decode c0_R_readQuantified 19 = .ok (.iconst 1, 1) := by decide +kernel
theorem d_R_readQuantified_20 : decode c0_R_readQuantified 20 = .ok (.goto 4, 3) := by decide +kernel
theorem d_R_readQuantified_23 : decode c0_R_readQuantified 23 = .ok (.iconst 0, 1) := by decide +kernel
theorem d_R_readQuantified_24 : decode c0_R_readQuantified 24 = .ok (.putfield 16, 3) := by decide +kernel
theorem d_R_readQuantified_27 : decode c0_R_readQuantified 27 = .ok (.aload_n 0, 1) := by decide +kernel
theorem d_R_readQuantified_28 : decode c0_R_readQuantified 28 = .ok (.invokevirtual 64, 3) := by decide +kernel
theorem d_R_readQuantified_31 : decode c0_R_readQuantified 31 = .ok (.istore_n 3, 1) := by decide +kernel
theorem d_R_readQuantified_32 : decode c0_R_readQuantified 32 = .ok (.aload_n 0, 1) := by decide +kernel
theorem d_R_readQuantified_33 : decode c0_R_readQuantified 33 = .ok (.invokevirtual 37, 3) := by decide +kernel
theorem d_R_readQuantified_36 : decode c0_R_readQuantified 36 = .ok (.invokestatic 80, 3) := by decide +kernel
theorem d_R_readQuantified_39 : decode c0_R_readQuantified 39 = .ok (.istore 4, 2) := by decide +kernel
theorem d_R_readQuantified_41 : decode c0_R_readQuantified 41 = .ok (.iload 4, 2) := by decide +kernel
theorem d_R_readQuantified_43 : decode c0_R_readQuantified 43 = .ok (.ifCond .ge 5, 3) := by decide +kernel
theorem d_R_readQuantified_46 : decode c0_R_readQuantified 46 = .ok (.iconst 0, 1) := by decide +kernel
theorem d_R_readQuantified_47 : decode c0_R_readQuantified 47 = .ok (.ireturn, 1) := by decide +kernel
theorem d_R_readQuantified_48 : decode c0_R_readQuantified 48 = .ok (.aload_n 0, 1) := by decide +kernel
theorem d_R_readQuantified_49 : decode c0_R_readQuantified 49 = .ok (.dup, 1) := by decide +kernel
theorem d_R_readQuantified_50 : decode c0_R_readQuantified 50 = .ok (.getfield 7, 3) := by decide +kernel
theorem d_R_readQuantified_53 : decode c0_R_readQuantified 53 = .ok (.iconst 1, 1) := by decide +kernel
theorem d_R_readQuantified_54 : decode c0_R_readQuantified 54 = .ok (.iadd, 1) := by decide +kernel
theorem d_R_readQuantified_55 : decode c0_R_readQuantified 55 = .ok (.putfield 7, 3) := by decide +kernel
theorem d_R_readQuantified_58 : decode c0_R_readQuantified 58 = .ok (.aload_n 0, 1) := by decide +kernel
theorem d_R_readQuantified_59 : decode c0_R_readQuantified 59 = .ok (.getfield 24, 3) := by decide +kernel
theorem d_R_readQuantified_62 : decode c0_R_readQuantified 62 = .ok (.iload_n 3, 1) := by decide +kernel
theorem d_R_readQuantified_63 : decode c0_R_readQuantified 63 = .ok (.iload 4, 2) := by decide +kernel
theorem d_R_readQuantified_65 : decode c0_R_readQuantified 65 = .ok (.invokevirtual 83, 3) := by decide +kernel
theorem d_R_readQuantified_68 : decode c0_R_readQuantified 68 = .ok (.aload_n 0, 1) := by decide +kernel
theorem d_R_readQuantified_69 : decode c0_R_readQuantified 69 = .ok (.iload_n 1, 1) := by decide +kernel
theorem d_R_readQuantified_70 : decode c0_R_readQuantified 70 = .ok (.iconst 1, 1) := by decide +kernel
theorem d_R_readQuantified_71 : decode c0_R_readQuantified 71 = .ok (.iload 4, 2) := by decide +kernel
theorem d_R_readQuantified_73 : decode c0_R_readQuantified 73 = .ok (.ishl, 1) := by decide +kernel
theorem d_R_readQuantified_74 : decode c0_R_readQuantified 74 = .ok (.ior, 1) := by decide +kernel
theorem d_R_readQuantified_75 : decode c0_R_readQuantified 75 = .ok (.iload_n 2, 1) := by decide +kernel
theorem d_R_readQuantified_76 : decode c0_R_readQuantified 76 = .ok (.iconst 1, 1) := by decide +kernel
theorem d_R_readQuantified_77 : decode c0_R_readQuantified 77 = .ok (.iadd, 1) := by decide +kernel
theorem d_R_readQuantified_78 : decode c0_R_readQuantified 78 = .ok (.invokevirtual 33, 3) := by decide +kernel
theorem d_R_readQuantified_81 : decode c0_R_readQuantified 81 = .ok (.ireturn, 1) := by decide +kernel
theorem d_R_readClaim_0 : decode c0_R_readClaim 0 = .ok (.aload_n 0, 1) := by decide +kernel
theorem d_R_readClaim_1 : decode c0_R_readClaim 1 = .ok (.getfield 24, 3) := by decide +kernel
theorem d_R_readClaim_4 : decode c0_R_readClaim 4 = .ok (.invokevirtual 57, 3) := by decide +kernel
theorem d_R_readClaim_7 : decode c0_R_readClaim 7 = .ok (.ifCond .eq 5, 3) := by decide +kernel
theorem d_R_readClaim_10 : decode c0_R_readClaim 10 = .ok (.iconst 0, 1) := by decide +kernel
theorem d_R_readClaim_11 : decode c0_R_readClaim 11 = .ok (.ireturn, 1) := by decide +kernel
theorem d_R_readClaim_12 : decode c0_R_readClaim 12 = .ok (.aload_n 0, 1) := by decide +kernel
theorem d_R_readClaim_13 : decode c0_R_readClaim 13 = .ok (.invokevirtual 37, 3) := by decide +kernel
theorem d_R_readClaim_16 : decode c0_R_readClaim 16 = .ok (.lookupswitch 100 #[(33, 74), (38, 86), (47, 86), (62, 86), (65, 93), (69, 93), (91, 68)], 68) := by decide +kernel
theorem d_R_readClaim_84 : decode c0_R_readClaim 84 = .ok (.aload_n 0, 1) := by decide +kernel
theorem d_R_readClaim_85 : decode c0_R_readClaim 85 = .ok (.iload_n 1, 1) := by decide +kernel
theorem d_R_readClaim_86 : decode c0_R_readClaim 86 = .ok (.invokevirtual 61, 3) := by decide +kernel
theorem d_R_readClaim_89 : decode c0_R_readClaim 89 = .ok (.ireturn, 1) := by decide +kernel
theorem d_R_readClaim_90 : decode c0_R_readClaim 90 = .ok (.aload_n 0, 1) := by decide +kernel
theorem d_R_readClaim_91 : decode c0_R_readClaim 91 = .ok (.invokevirtual 64, 3) := by decide +kernel
theorem d_R_readClaim_94 : decode c0_R_readClaim 94 = .ok (.pop, 1) := by decide +kernel
theorem d_R_readClaim_95 : decode c0_R_readClaim 95 = .ok (.aload_n 0, 1) := by decide +kernel
theorem d_R_readClaim_96 : decode c0_R_readClaim 96 = .ok (.iload_n 1, 1) := by decide +kernel
theorem d_R_readClaim_97 : decode c0_R_readClaim 97 = .ok (.iload_n 2, 1) := by decide +kernel
theorem d_R_readClaim_98 : decode c0_R_readClaim 98 = .ok (.invokevirtual 33, 3) := by decide +kernel
theorem d_R_readClaim_101 : decode c0_R_readClaim 101 = .ok (.ireturn, 1) := by decide +kernel
theorem d_R_readClaim_102 : decode c0_R_readClaim 102 = .ok (.aload_n 0, 1) := by decide +kernel
theorem d_R_readClaim_103 : decode c0_R_readClaim 103 = .ok (.iload_n 1, 1) := by decide +kernel
theorem d_R_readClaim_104 : decode c0_R_readClaim 104 = .ok (.iload_n 2, 1) := by decide +kernel
theorem d_R_readClaim_105 : decode c0_R_readClaim 105 = .ok (.invokevirtual 67, 3) := by decide +kernel
theorem d_R_readClaim_108 : decode c0_R_readClaim 108 = .ok (.ireturn, 1) := by decide +kernel
theorem d_R_readClaim_109 : decode c0_R_readClaim 109 = .ok (.aload_n 0, 1) := by decide +kernel
theorem d_R_readClaim_110 : decode c0_R_readClaim 110 = .ok (.iload_n 1, 1) := by decide +kernel
theorem d_R_readClaim_111 : decode c0_R_readClaim 111 = .ok (.iload_n 2, 1) := by decide +kernel
theorem d_R_readClaim_112 : decode c0_R_readClaim 112 = .ok (.invokevirtual 70, 3) := by decide +kernel
theorem d_R_readClaim_115 : decode c0_R_readClaim 115 = .ok (.ireturn, 1) := by decide +kernel
theorem d_R_readClaim_116 : decode c0_R_readClaim 116 = .ok (.iconst 0, 1) := by decide +kernel
theorem d_R_readClaim_117 : decode c0_R_readClaim 117 = .ok (.ireturn, 1) := by decide +kernel
theorem d_R_readWhole_0 : decode c0_R_readWhole 0 = .ok (.aload_n 0, 1) := by decide +kernel
theorem d_R_readWhole_1 : decode c0_R_readWhole 1 = .ok (.iconst 0, 1) := by decide +kernel
theorem d_R_readWhole_2 : decode c0_R_readWhole 2 = .ok (.putfield 7, 3) := by decide +kernel
theorem d_R_readWhole_5 : decode c0_R_readWhole 5 = .ok (.aload_n 0, 1) := by decide +kernel
theorem d_R_readWhole_6 : decode c0_R_readWhole 6 = .ok (.iconst 0, 1) := by decide +kernel
theorem d_R_readWhole_7 : decode c0_R_readWhole 7 = .ok (.putfield 13, 3) := by decide +kernel
theorem d_R_readWhole_10 : decode c0_R_readWhole 10 = .ok (.aload_n 0, 1) := by decide +kernel
theorem d_R_readWhole_11 : decode c0_R_readWhole 11 = .ok (.iconst 0, 1) := by decide +kernel
theorem d_R_readWhole_12 : decode c0_R_readWhole 12 = .ok (.putfield 16, 3) := by decide +kernel
theorem d_R_readWhole_15 : decode c0_R_readWhole 15 = .ok (.aload_n 0, 1) := by decide +kernel
theorem d_R_readWhole_16 : decode c0_R_readWhole 16 = .ok (.getfield 24, 3) := by decide +kernel
theorem d_R_readWhole_19 : decode c0_R_readWhole 19 = .ok (.invokevirtual 28, 3) := by decide +kernel
theorem d_R_readWhole_22 : decode c0_R_readWhole 22 = .ok (.aload_n 0, 1) := by decide +kernel
theorem d_R_readWhole_23 : decode c0_R_readWhole 23 = .ok (.iconst 0, 1) := by decide +kernel
theorem d_R_readWhole_24 : decode c0_R_readWhole 24 = .ok (.iconst 0, 1) := by decide +kernel
theorem d_R_readWhole_25 : decode c0_R_readWhole 25 = .ok (.invokevirtual 33, 3) := by decide +kernel
theorem d_R_readWhole_28 : decode c0_R_readWhole 28 = .ok (.ifCond .eq 10, 3) := by decide +kernel
theorem d_R_readWhole_31 : decode c0_R_readWhole 31 = .ok (.aload_n 0, 1) := by decide +kernel
theorem d_R_readWhole_32 : decode c0_R_readWhole 32 = .ok (.invokevirtual 37, 3) := by decide +kernel
theorem d_R_readWhole_35 : decode c0_R_readWhole 35 = .ok (.ifCond .eq 5, 3) := by decide +kernel
theorem d_R_readWhole_38 : decode c0_R_readWhole 38 = .ok (.iconst 0, 1) := by decide +kernel
theorem d_R_readWhole_39 : decode c0_R_readWhole 39 = .ok (.ireturn, 1) := by decide +kernel
theorem d_R_readWhole_40 : decode c0_R_readWhole 40 = .ok (.aload_n 0, 1) := by decide +kernel
theorem d_R_readWhole_41 : decode c0_R_readWhole 41 = .ok (.getfield 24, 3) := by decide +kernel
theorem d_R_readWhole_44 : decode c0_R_readWhole 44 = .ok (.invokevirtual 41, 3) := by decide +kernel
theorem d_R_readWhole_47 : decode c0_R_readWhole 47 = .ok (.aload_n 0, 1) := by decide +kernel
theorem d_R_readWhole_48 : decode c0_R_readWhole 48 = .ok (.getfield 16, 3) := by decide +kernel
theorem d_R_readWhole_51 : decode c0_R_readWhole 51 = .ok (.ifCond .eq 14, 3) := by decide +kernel
theorem d_R_readWhole_54 : decode c0_R_readWhole 54 = .ok (.aload_n 0, 1) := by decide +kernel
theorem d_R_readWhole_55 : decode c0_R_readWhole 55 = .ok (.getfield 24, 3) := by decide +kernel
theorem d_R_readWhole_58 : decode c0_R_readWhole 58 = .ok (.iconst 0, 1) := by decide +kernel
theorem d_R_readWhole_59 : decode c0_R_readWhole 59 = .ok (.invokevirtual 44, 3) := by decide +kernel
theorem d_R_readWhole_62 : decode c0_R_readWhole 62 = .ok (.ifCond .ne 7, 3) := by decide +kernel
theorem d_R_readWhole_65 : decode c0_R_readWhole 65 = .ok (.iconst 1, 1) := by decide +kernel
theorem d_R_readWhole_66 : decode c0_R_readWhole 66 = .ok (.goto 4, 3) := by decide +kernel
theorem d_R_readWhole_69 : decode c0_R_readWhole 69 = .ok (.iconst 0, 1) := by decide +kernel
theorem d_R_readWhole_70 : decode c0_R_readWhole 70 = .ok (.ireturn, 1) := by decide +kernel
theorem d_R_bracketsRead_0 : decode c0_R_bracketsRead 0 = .ok (.aload_n 0, 1) := by decide +kernel
theorem d_R_bracketsRead_1 : decode c0_R_bracketsRead 1 = .ok (.getfield 13, 3) := by decide +kernel
theorem d_R_bracketsRead_4 : decode c0_R_bracketsRead 4 = .ok (.ireturn, 1) := by decide +kernel
theorem d_R_faultPlace_0 : decode c0_R_faultPlace 0 = .ok (.aload_n 0, 1) := by decide +kernel
theorem d_R_faultPlace_1 : decode c0_R_faultPlace 1 = .ok (.getfield 20, 3) := by decide +kernel
theorem d_R_faultPlace_4 : decode c0_R_faultPlace 4 = .ok (.aload_n 0, 1) := by decide +kernel
theorem d_R_faultPlace_5 : decode c0_R_faultPlace 5 = .ok (.getfield 7, 3) := by decide +kernel
theorem d_R_faultPlace_8 : decode c0_R_faultPlace 8 = .ok (.invokevirtual 48, 3) := by decide +kernel
theorem d_R_faultPlace_11 : decode c0_R_faultPlace 11 = .ok (.ireturn, 1) := by decide +kernel
