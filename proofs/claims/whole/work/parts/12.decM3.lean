theorem d_M_middleQuantifier_82 : decode c0_M_middleQuantifier 82 = .ok (.aload_n 0, 1) := by decide +kernel
theorem d_M_middleQuantifier_83 : decode c0_M_middleQuantifier 83 = .ok (.getfield 46, 3) := by decide +kernel
theorem d_M_middleQuantifier_86 : decode c0_M_middleQuantifier 86 = .ok (.iload_n 3, 1) := by decide +kernel
theorem d_M_middleQuantifier_87 : decode c0_M_middleQuantifier 87 = .ok (.iload 4, 2) := by decide +kernel
theorem d_M_middleQuantifier_89 : decode c0_M_middleQuantifier 89 = .ok (.iastore, 1) := by decide +kernel
theorem d_M_middleQuantifier_90 : decode c0_M_middleQuantifier 90 = .ok (.iload 5, 2) := by decide +kernel
theorem d_M_middleQuantifier_92 : decode c0_M_middleQuantifier 92 = .ok (.iload_n 2, 1) := by decide +kernel
theorem d_M_middleQuantifier_93 : decode c0_M_middleQuantifier 93 = .ok (.if_icmp .ne 7, 3) := by decide +kernel
theorem d_M_middleQuantifier_96 : decode c0_M_middleQuantifier 96 = .ok (.iconst 1, 1) := by decide +kernel
theorem d_M_middleQuantifier_97 : decode c0_M_middleQuantifier 97 = .ok (.goto 4, 3) := by decide +kernel
theorem d_M_middleQuantifier_100 : decode c0_M_middleQuantifier 100 = .ok (.iconst 0, 1) := by decide +kernel
theorem d_M_middleQuantifier_101 : decode c0_M_middleQuantifier 101 = .ok (.ireturn, 1) := by decide +kernel
theorem d_M_workedOut_0 : decode c0_M_workedOut 0 = .ok (.aload_n 0, 1) := by decide +kernel
theorem d_M_workedOut_1 : decode c0_M_workedOut 1 = .ok (.getfield 46, 3) := by decide +kernel
theorem d_M_workedOut_4 : decode c0_M_workedOut 4 = .ok (.iconst 0, 1) := by decide +kernel
theorem d_M_workedOut_5 : decode c0_M_workedOut 5 = .ok (.iload_n 1, 1) := by decide +kernel
theorem d_M_workedOut_6 : decode c0_M_workedOut 6 = .ok (.iastore, 1) := by decide +kernel
theorem d_M_workedOut_7 : decode c0_M_workedOut 7 = .ok (.iconst 0, 1) := by decide +kernel
theorem d_M_workedOut_8 : decode c0_M_workedOut 8 = .ok (.istore_n 2, 1) := by decide +kernel
theorem d_M_workedOut_9 : decode c0_M_workedOut 9 = .ok (.aload_n 0, 1) := by decide +kernel
theorem d_M_workedOut_10 : decode c0_M_workedOut 10 = .ok (.getfield 59, 3) := by decide +kernel
theorem d_M_workedOut_13 : decode c0_M_workedOut 13 = .ok (.iconst 1, 1) := by decide +kernel
theorem d_M_workedOut_14 : decode c0_M_workedOut 14 = .ok (.isub, 1) := by decide +kernel
theorem d_M_workedOut_15 : decode c0_M_workedOut 15 = .ok (.istore_n 3, 1) := by decide +kernel
theorem d_M_workedOut_16 : decode c0_M_workedOut 16 = .ok (.iload_n 3, 1) := by decide +kernel
theorem d_M_workedOut_17 : decode c0_M_workedOut 17 = .ok (.ifCond .lt 166, 3) := by decide +kernel
theorem d_M_workedOut_20 : decode c0_M_workedOut 20 = .ok (.aload_n 0, 1) := by decide +kernel
theorem d_M_workedOut_21 : decode c0_M_workedOut 21 = .ok (.getfield 16, 3) := by decide +kernel
theorem d_M_workedOut_24 : decode c0_M_workedOut 24 = .ok (.iload_n 3, 1) := by decide +kernel
theorem d_M_workedOut_25 : decode c0_M_workedOut 25 = .ok (.iaload, 1) := by decide +kernel
theorem d_M_workedOut_26 : decode c0_M_workedOut 26 = .ok (.iconst (-1), 1) := by decide +kernel
theorem d_M_workedOut_27 : decode c0_M_workedOut 27 = .ok (.if_icmp .ne 63, 3) := by decide +kernel
theorem d_M_workedOut_30 : decode c0_M_workedOut 30 = .ok (.aload_n 0, 1) := by decide +kernel
theorem d_M_workedOut_31 : decode c0_M_workedOut 31 = .ok (.getfield 13, 3) := by decide +kernel
theorem d_M_workedOut_34 : decode c0_M_workedOut 34 = .ok (.iload_n 3, 1) := by decide +kernel
theorem d_M_workedOut_35 : decode c0_M_workedOut 35 = .ok (.iaload, 1) := by decide +kernel
theorem d_M_workedOut_36 : decode c0_M_workedOut 36 = .ok (.iconst 4, 1) := by decide +kernel
theorem d_M_workedOut_37 : decode c0_M_workedOut 37 = .ok (.if_icmp .lt 53, 3) := by decide +kernel
theorem d_M_workedOut_40 : decode c0_M_workedOut 40 = .ok (.aload_n 0, 1) := by decide +kernel
theorem d_M_workedOut_41 : decode c0_M_workedOut 41 = .ok (.getfield 56, 3) := by decide +kernel
theorem d_M_workedOut_44 : decode c0_M_workedOut 44 = .ok (.iload_n 2, 1) := by decide +kernel
theorem d_M_workedOut_45 : decode c0_M_workedOut 45 = .ok (.aload_n 0, 1) := by decide +kernel
theorem d_M_workedOut_46 : decode c0_M_workedOut 46 = .ok (.iload_n 3, 1) := by decide +kernel
theorem d_M_workedOut_47 : decode c0_M_workedOut 47 = .ok (.invokevirtual 137, 3) := by decide +kernel
theorem d_M_workedOut_50 : decode c0_M_workedOut 50 = .ok (.ifCond .eq 11, 3) := by decide +kernel
theorem d_M_workedOut_53 : decode c0_M_workedOut 53 = .ok (.aload_n 0, 1) := by decide +kernel
theorem d_M_workedOut_54 : decode c0_M_workedOut 54 = .ok (.iload_n 3, 1) := by decide +kernel
theorem d_M_workedOut_55 : decode c0_M_workedOut 55 = .ok (.invokevirtual 140, 3) := by decide +kernel
theorem d_M_workedOut_58 : decode c0_M_workedOut 58 = .ok (.goto 24, 3) := by decide +kernel
theorem d_M_workedOut_61 : decode c0_M_workedOut 61 = .ok (.aload_n 0, 1) := by decide +kernel
theorem d_M_workedOut_62 : decode c0_M_workedOut 62 = .ok (.iload_n 3, 1) := by decide +kernel
theorem d_M_workedOut_63 : decode c0_M_workedOut 63 = .ok (.invokevirtual 159, 3) := by decide +kernel
theorem d_M_workedOut_66 : decode c0_M_workedOut 66 = .ok (.ifCond .eq 11, 3) := by decide +kernel
theorem d_M_workedOut_69 : decode c0_M_workedOut 69 = .ok (.aload_n 0, 1) := by decide +kernel
theorem d_M_workedOut_70 : decode c0_M_workedOut 70 = .ok (.iload_n 3, 1) := by decide +kernel
theorem d_M_workedOut_71 : decode c0_M_workedOut 71 = .ok (.invokevirtual 162, 3) := by decide +kernel
theorem d_M_workedOut_74 : decode c0_M_workedOut 74 = .ok (.goto 8, 3) := by decide +kernel
theorem d_M_workedOut_77 : decode c0_M_workedOut 77 = .ok (.aload_n 0, 1) := by decide +kernel
theorem d_M_workedOut_78 : decode c0_M_workedOut 78 = .ok (.iload_n 3, 1) := by decide +kernel
theorem d_M_workedOut_79 : decode c0_M_workedOut 79 = .ok (.invokevirtual 153, 3) := by decide +kernel
theorem d_M_workedOut_82 : decode c0_M_workedOut 82 = .ok (.bastore, 1) := by decide +kernel
theorem d_M_workedOut_83 : decode c0_M_workedOut 83 = .ok (.iload_n 2, 1) := by decide +kernel
theorem d_M_workedOut_84 : decode c0_M_workedOut 84 = .ok (.iconst 1, 1) := by decide +kernel
theorem d_M_workedOut_85 : decode c0_M_workedOut 85 = .ok (.iadd, 1) := by decide +kernel
theorem d_M_workedOut_86 : decode c0_M_workedOut 86 = .ok (.istore_n 2, 1) := by decide +kernel
theorem d_M_workedOut_87 : decode c0_M_workedOut 87 = .ok (.goto 90, 3) := by decide +kernel
theorem d_M_workedOut_90 : decode c0_M_workedOut 90 = .ok (.aload_n 0, 1) := by decide +kernel
theorem d_M_workedOut_91 : decode c0_M_workedOut 91 = .ok (.getfield 16, 3) := by decide +kernel
theorem d_M_workedOut_94 : decode c0_M_workedOut 94 = .ok (.iload_n 3, 1) := by decide +kernel
theorem d_M_workedOut_95 : decode c0_M_workedOut 95 = .ok (.iaload, 1) := by decide +kernel
theorem d_M_workedOut_96 : decode c0_M_workedOut 96 = .ok (.iconst (-1), 1) := by decide +kernel
theorem d_M_workedOut_97 : decode c0_M_workedOut 97 = .ok (.if_icmp .ne 80, 3) := by decide +kernel
theorem d_M_workedOut_100 : decode c0_M_workedOut 100 = .ok (.aload_n 0, 1) := by decide +kernel
theorem d_M_workedOut_101 : decode c0_M_workedOut 101 = .ok (.getfield 56, 3) := by decide +kernel
theorem d_M_workedOut_104 : decode c0_M_workedOut 104 = .ok (.iload_n 2, 1) := by decide +kernel
theorem d_M_workedOut_105 : decode c0_M_workedOut 105 = .ok (.iconst 1, 1) := by decide +kernel
theorem d_M_workedOut_106 : decode c0_M_workedOut 106 = .ok (.isub, 1) := by decide +kernel
theorem d_M_workedOut_107 : decode c0_M_workedOut 107 = .ok (.baload, 1) := by decide +kernel
theorem d_M_workedOut_108 : decode c0_M_workedOut 108 = .ok (.istore 4, 2) := by decide +kernel
theorem d_M_workedOut_110 : decode c0_M_workedOut 110 = .ok (.aload_n 0, 1) := by decide +kernel
theorem d_M_workedOut_111 : decode c0_M_workedOut 111 = .ok (.getfield 13, 3) := by decide +kernel
theorem d_M_workedOut_114 : decode c0_M_workedOut 114 = .ok (.iload_n 3, 1) := by decide +kernel
theorem d_M_workedOut_115 : decode c0_M_workedOut 115 = .ok (.iaload, 1) := by decide +kernel
theorem d_M_workedOut_116 : decode c0_M_workedOut 116 = .ok (.iconst 3, 1) := by decide +kernel
theorem d_M_workedOut_117 : decode c0_M_workedOut 117 = .ok (.if_icmp .ge 18, 3) := by decide +kernel
theorem d_M_workedOut_120 : decode c0_M_workedOut 120 = .ok (.aload_n 0, 1) := by decide +kernel
theorem d_M_workedOut_121 : decode c0_M_workedOut 121 = .ok (.getfield 56, 3) := by decide +kernel
theorem d_M_workedOut_124 : decode c0_M_workedOut 124 = .ok (.iload_n 2, 1) := by decide +kernel
theorem d_M_workedOut_125 : decode c0_M_workedOut 125 = .ok (.iconst 2, 1) := by decide +kernel
theorem d_M_workedOut_126 : decode c0_M_workedOut 126 = .ok (.isub, 1) := by decide +kernel
theorem d_M_workedOut_127 : decode c0_M_workedOut 127 = .ok (.baload, 1) := by decide +kernel
theorem d_M_workedOut_128 : decode c0_M_workedOut 128 = .ok (.ifCond .eq 7, 3) := by decide +kernel
theorem d_M_workedOut_131 : decode c0_M_workedOut 131 = .ok (.iconst 1, 1) := by decide +kernel
theorem d_M_workedOut_132 : decode c0_M_workedOut 132 = .ok (.goto 4, 3) := by decide +kernel
theorem d_M_workedOut_135 : decode c0_M_workedOut 135 = .ok (.iconst 0, 1) := by decide +kernel
theorem d_M_workedOut_136 : decode c0_M_workedOut 136 = .ok (.istore 5, 2) := by decide +kernel
theorem d_M_workedOut_138 : decode c0_M_workedOut 138 = .ok (.aload_n 0, 1) := by decide +kernel
theorem d_M_workedOut_139 : decode c0_M_workedOut 139 = .ok (.getfield 13, 3) := by decide +kernel
theorem d_M_workedOut_142 : decode c0_M_workedOut 142 = .ok (.iload_n 3, 1) := by decide +kernel
theorem d_M_workedOut_143 : decode c0_M_workedOut 143 = .ok (.iaload, 1) := by decide +kernel
theorem d_M_workedOut_144 : decode c0_M_workedOut 144 = .ok (.iconst 3, 1) := by decide +kernel
theorem d_M_workedOut_145 : decode c0_M_workedOut 145 = .ok (.if_icmp .ge 9, 3) := by decide +kernel
theorem d_M_workedOut_148 : decode c0_M_workedOut 148 = .ok (.iload_n 2, 1) := by decide +kernel
theorem d_M_workedOut_149 : decode c0_M_workedOut 149 = .ok (.iconst 1, 1) := by decide +kernel
theorem d_M_workedOut_150 : decode c0_M_workedOut 150 = .ok (.isub, 1) := by decide +kernel
theorem d_M_workedOut_151 : decode c0_M_workedOut 151 = .ok (.goto 4, 3) := by decide +kernel
theorem d_M_workedOut_154 : decode c0_M_workedOut 154 = .ok (.iload_n 2, 1) := by decide +kernel
theorem d_M_workedOut_155 : decode c0_M_workedOut 155 = .ok (.istore_n 2, 1) := by decide +kernel
theorem d_M_workedOut_156 : decode c0_M_workedOut 156 = .ok (.aload_n 0, 1) := by decide +kernel
theorem d_M_workedOut_157 : decode c0_M_workedOut 157 = .ok (.getfield 56, 3) := by decide +kernel
theorem d_M_workedOut_160 : decode c0_M_workedOut 160 = .ok (.iload_n 2, 1) := by decide +kernel
theorem d_M_workedOut_161 : decode c0_M_workedOut 161 = .ok (.iconst 1, 1) := by decide +kernel
theorem d_M_workedOut_162 : decode c0_M_workedOut 162 = .ok (.isub, 1) := by decide +kernel
theorem d_M_workedOut_163 : decode c0_M_workedOut 163 = .ok (.aload_n 0, 1) := by decide +kernel
theorem d_M_workedOut_164 : decode c0_M_workedOut 164 = .ok (.getfield 13, 3) := by decide +kernel
theorem d_M_workedOut_167 : decode c0_M_workedOut 167 = .ok (.iload_n 3, 1) := by decide +kernel
theorem d_M_workedOut_168 : decode c0_M_workedOut 168 = .ok (.iaload, 1) := by decide +kernel
theorem d_M_workedOut_169 : decode c0_M_workedOut 169 = .ok (.iload 4, 2) := by decide +kernel
theorem d_M_workedOut_171 : decode c0_M_workedOut 171 = .ok (.iload 5, 2) := by decide +kernel
theorem d_M_workedOut_173 : decode c0_M_workedOut 173 = .ok (.invokestatic 143, 3) := by decide +kernel
theorem d_M_workedOut_176 : decode c0_M_workedOut 176 = .ok (.bastore, 1) := by decide +kernel
theorem d_M_workedOut_177 : decode c0_M_workedOut 177 = .ok (.iinc 3 (-1), 3) := by decide +kernel
theorem d_M_workedOut_180 : decode c0_M_workedOut 180 = .ok (.goto (-164), 3) := by decide +kernel
theorem d_M_workedOut_183 : decode c0_M_workedOut 183 = .ok (.aload_n 0, 1) := by decide +kernel
theorem d_M_workedOut_184 : decode c0_M_workedOut 184 = .ok (.getfield 56, 3) := by decide +kernel
theorem d_M_workedOut_187 : decode c0_M_workedOut 187 = .ok (.iconst 0, 1) := by decide +kernel
theorem d_M_workedOut_188 : decode c0_M_workedOut 188 = .ok (.baload, 1) := by decide +kernel
theorem d_M_workedOut_189 : decode c0_M_workedOut 189 = .ok (.ireturn, 1) := by decide +kernel
theorem d_M_take_0 : decode c0_M_take 0 = .ok (.aload_n 0, 1) := by decide +kernel
theorem d_M_take_1 : decode c0_M_take 1 = .ok (.iconst 0, 1) := by decide +kernel
theorem d_M_take_2 : decode c0_M_take 2 = .ok (.putfield 77, 3) := by decide +kernel
theorem d_M_take_5 : decode c0_M_take 5 = .ok (.aload_n 0, 1) := by decide +kernel
theorem d_M_take_6 : decode c0_M_take 6 = .ok (.aload_n 0, 1) := by decide +kernel
theorem d_M_take_7 : decode c0_M_take 7 = .ok (.getfield 74, 3) := by decide +kernel
theorem d_M_take_10 : decode c0_M_take 10 = .ok (.putfield 80, 3) := by decide +kernel
theorem d_M_take_13 : decode c0_M_take 13 = .ok (.aload_n 0, 1) := by decide +kernel
theorem d_M_take_14 : decode c0_M_take 14 = .ok (.iconst 0, 1) := by decide +kernel
theorem d_M_take_15 : decode c0_M_take 15 = .ok (.putfield 74, 3) := by decide +kernel
theorem d_M_take_18 : decode c0_M_take 18 = .ok (.aload_n 0, 1) := by decide +kernel
theorem d_M_take_19 : decode c0_M_take 19 = .ok (.iconst (-1), 1) := by decide +kernel
theorem d_M_take_20 : decode c0_M_take 20 = .ok (.putfield 87, 3) := by decide +kernel
theorem d_M_take_23 : decode c0_M_take 23 = .ok (.aload_n 0, 1) := by decide +kernel
theorem d_M_take_24 : decode c0_M_take 24 = .ok (.invokevirtual 123, 3) := by decide +kernel
theorem d_M_take_27 : decode c0_M_take 27 = .ok (.aload_n 0, 1) := by decide +kernel
theorem d_M_take_28 : decode c0_M_take 28 = .ok (.getfield 87, 3) := by decide +kernel
theorem d_M_take_31 : decode c0_M_take 31 = .ok (.ifCond .ge 14, 3) := by decide +kernel
theorem d_M_take_34 : decode c0_M_take 34 = .ok (.aload_n 0, 1) := by decide +kernel
theorem d_M_take_35 : decode c0_M_take 35 = .ok (.invokevirtual 83, 3) := by decide +kernel
theorem d_M_take_38 : decode c0_M_take 38 = .ok (.ifCond .lt 7, 3) := by decide +kernel
theorem d_M_take_41 : decode c0_M_take 41 = .ok (.aload_n 0, 1) := by decide +kernel
theorem d_M_take_42 : decode c0_M_take 42 = .ok (.invokevirtual 90, 3) := by decide +kernel
theorem d_M_take_45 : decode c0_M_take 45 = .ok (.aload_n 0, 1) := by decide +kernel
theorem d_M_take_46 : decode c0_M_take 46 = .ok (.getfield 87, 3) := by decide +kernel
theorem d_M_take_49 : decode c0_M_take 49 = .ok (.ifCond .ge 25, 3) := by decide +kernel
theorem d_M_take_52 : decode c0_M_take 52 = .ok (.aload_n 0, 1) := by decide +kernel
theorem d_M_take_53 : decode c0_M_take 53 = .ok (.getfield 93, 3) := by decide +kernel
theorem d_M_take_56 : decode c0_M_take 56 = .ok (.ifCond .eq 18, 3) := by decide +kernel
theorem d_M_take_59 : decode c0_M_take 59 = .ok (.aload_n 0, 1) := by decide +kernel
theorem d_M_take_60 : decode c0_M_take 60 = .ok (.getfield 116, 3) := by decide +kernel
theorem d_M_take_63 : decode c0_M_take 63 = .ok (.ifCond .eq 11, 3) := by decide +kernel
theorem d_M_take_66 : decode c0_M_take 66 = .ok (.aload_n 0, 1) := by decide +kernel
theorem d_M_take_67 : decode c0_M_take 67 = .ok (.aload_n 0, 1) := by decide +kernel
theorem d_M_take_68 : decode c0_M_take 68 = .ok (.getfield 80, 3) := by decide +kernel
theorem d_M_take_71 : decode c0_M_take 71 = .ok (.putfield 87, 3) := by decide +kernel
theorem d_M_take_74 : decode c0_M_take 74 = .ok (.aload_n 0, 1) := by decide +kernel
theorem d_M_take_75 : decode c0_M_take 75 = .ok (.getfield 87, 3) := by decide +kernel
theorem d_M_take_78 : decode c0_M_take 78 = .ok (.ifCond .lt 10, 3) := by decide +kernel
theorem d_M_take_81 : decode c0_M_take 81 = .ok (.iconst (-1), 1) := by decide +kernel
theorem d_M_take_82 : decode c0_M_take 82 = .ok (.aload_n 0, 1) := by decide +kernel
theorem d_M_take_83 : decode c0_M_take 83 = .ok (.getfield 87, 3) := by decide +kernel
theorem d_M_take_86 : decode c0_M_take 86 = .ok (.isub, 1) := by decide +kernel
theorem d_M_take_87 : decode c0_M_take 87 = .ok (.ireturn, 1) := by decide +kernel
theorem d_M_take_88 : decode c0_M_take 88 = .ok (.aload_n 0, 1) := by decide +kernel
theorem d_M_take_89 : decode c0_M_take 89 = .ok (.aload_n 0, 1) := by decide +kernel
theorem d_M_take_90 : decode c0_M_take 90 = .ok (.getfield 113, 3) := by decide +kernel
theorem d_M_take_93 : decode c0_M_take 93 = .ok (.putfield 59, 3) := by decide +kernel
theorem d_M_take_96 : decode c0_M_take 96 = .ok (.aload_n 0, 1) := by decide +kernel
theorem d_M_take_97 : decode c0_M_take 97 = .ok (.aload_n 0, 1) := by decide +kernel
theorem d_M_take_98 : decode c0_M_take 98 = .ok (.getfield 103, 3) := by decide +kernel
theorem d_M_take_101 : decode c0_M_take 101 = .ok (.putfield 63, 3) := by decide +kernel
theorem d_M_take_104 : decode c0_M_take 104 = .ok (.aload_n 0, 1) := by decide +kernel
theorem d_M_take_105 : decode c0_M_take 105 = .ok (.aload_n 0, 1) := by decide +kernel
theorem d_M_take_106 : decode c0_M_take 106 = .ok (.getfield 93, 3) := by decide +kernel
theorem d_M_take_109 : decode c0_M_take 109 = .ok (.putfield 126, 3) := by decide +kernel
theorem d_M_take_112 : decode c0_M_take 112 = .ok (.iconst 0, 1) := by decide +kernel
theorem d_M_take_113 : decode c0_M_take 113 = .ok (.istore_n 1, 1) := by decide +kernel
theorem d_M_take_114 : decode c0_M_take 114 = .ok (.iload_n 1, 1) := by decide +kernel
theorem d_M_take_115 : decode c0_M_take 115 = .ok (.aload_n 0, 1) := by decide +kernel
theorem d_M_take_116 : decode c0_M_take 116 = .ok (.getfield 59, 3) := by decide +kernel
theorem d_M_take_119 : decode c0_M_take 119 = .ok (.if_icmp .ge 78, 3) := by decide +kernel
theorem d_M_take_122 : decode c0_M_take 122 = .ok (.aload_n 0, 1) := by decide +kernel
theorem d_M_take_123 : decode c0_M_take 123 = .ok (.getfield 13, 3) := by decide +kernel
theorem d_M_take_126 : decode c0_M_take 126 = .ok (.iload_n 1, 1) := by decide +kernel
theorem d_M_take_127 : decode c0_M_take 127 = .ok (.aload_n 0, 1) := by decide +kernel
theorem d_M_take_128 : decode c0_M_take 128 = .ok (.getfield 25, 3) := by decide +kernel
theorem d_M_take_131 : decode c0_M_take 131 = .ok (.iload_n 1, 1) := by decide +kernel
theorem d_M_take_132 : decode c0_M_take 132 = .ok (.iaload, 1) := by decide +kernel
theorem d_M_take_133 : decode c0_M_take 133 = .ok (.iastore, 1) := by decide +kernel
theorem d_M_take_134 : decode c0_M_take 134 = .ok (.aload_n 0, 1) := by decide +kernel
theorem d_M_take_135 : decode c0_M_take 135 = .ok (.getfield 16, 3) := by decide +kernel
theorem d_M_take_138 : decode c0_M_take 138 = .ok (.iload_n 1, 1) := by decide +kernel
theorem d_M_take_139 : decode c0_M_take 139 = .ok (.aload_n 0, 1) := by decide +kernel
theorem d_M_take_140 : decode c0_M_take 140 = .ok (.getfield 28, 3) := by decide +kernel
theorem d_M_take_143 : decode c0_M_take 143 = .ok (.iload_n 1, 1) := by decide +kernel
theorem d_M_take_144 : decode c0_M_take 144 = .ok (.iaload, 1) := by decide +kernel
theorem d_M_take_145 : decode c0_M_take 145 = .ok (.iastore, 1) := by decide +kernel
theorem d_M_take_146 : decode c0_M_take 146 = .ok (.aload_n 0, 1) := by decide +kernel
theorem d_M_take_147 : decode c0_M_take 147 = .ok (.getfield 19, 3) := by decide +kernel
theorem d_M_take_150 : decode c0_M_take 150 = .ok (.iload_n 1, 1) := by decide +kernel
theorem d_M_take_151 : decode c0_M_take 151 = .ok (.aload_n 0, 1) := by decide +kernel
theorem d_M_take_152 : decode c0_M_take 152 = .ok (.getfield 31, 3) := by decide +kernel
theorem d_M_take_155 : decode c0_M_take 155 = .ok (.iload_n 1, 1) := by decide +kernel
theorem d_M_take_156 : decode c0_M_take 156 = .ok (.iaload, 1) := by decide +kernel
theorem d_M_take_157 : decode c0_M_take 157 = .ok (.iastore, 1) := by decide +kernel
theorem d_M_take_158 : decode c0_M_take 158 = .ok (.iconst 0, 1) := by decide +kernel
theorem d_M_take_159 : decode c0_M_take 159 = .ok (.istore_n 2, 1) := by decide +kernel
theorem d_M_take_160 : decode c0_M_take 160 = .ok (.iload_n 2, 1) := by decide +kernel
theorem d_M_take_161 : decode c0_M_take 161 = .ok (.iconst 4, 1) := by decide +kernel
theorem d_M_take_162 : decode c0_M_take 162 = .ok (.if_icmp .ge 29, 3) := by decide +kernel
theorem d_M_take_165 : decode c0_M_take 165 = .ok (.aload_n 0, 1) := by decide +kernel
theorem d_M_take_166 : decode c0_M_take 166 = .ok (.getfield 22, 3) := by decide +kernel
theorem d_M_take_169 : decode c0_M_take 169 = .ok (.iconst 4, 1) := by decide +kernel
theorem d_M_take_170 : decode c0_M_take 170 = .ok (.iload_n 1, 1) := by decide +kernel
theorem d_M_take_171 : decode c0_M_take 171 = .ok (.imul, 1) := by decide +kernel
theorem d_M_take_172 : decode c0_M_take 172 = .ok (.iload_n 2, 1) := by decide +kernel
theorem d_M_take_173 : decode c0_M_take 173 = .ok (.iadd, 1) := by decide +kernel
theorem d_M_take_174 : decode c0_M_take 174 = .ok (.aload_n 0, 1) := by decide +kernel
theorem d_M_take_175 : decode c0_M_take 175 = .ok (.getfield 34, 3) := by decide +kernel
theorem d_M_take_178 : decode c0_M_take 178 = .ok (.iconst 4, 1) := by decide +kernel
theorem d_M_take_179 : decode c0_M_take 179 = .ok (.iload_n 1, 1) := by decide +kernel
theorem d_M_take_180 : decode c0_M_take 180 = .ok (.imul, 1) := by decide +kernel
theorem d_M_take_181 : decode c0_M_take 181 = .ok (.iload_n 2, 1) := by decide +kernel
theorem d_M_take_182 : decode c0_M_take 182 = .ok (.iadd, 1) := by decide +kernel
theorem d_M_take_183 : decode c0_M_take 183 = .ok (.iaload, 1) := by decide +kernel
theorem d_M_take_184 : decode c0_M_take 184 = .ok (.iastore, 1) := by decide +kernel
theorem d_M_take_185 : decode c0_M_take 185 = .ok (.iinc 2 1, 3) := by decide +kernel
theorem d_M_take_188 : decode c0_M_take 188 = .ok (.goto (-28), 3) := by decide +kernel
theorem d_M_take_191 : decode c0_M_take 191 = .ok (.iinc 1 1, 3) := by decide +kernel
theorem d_M_take_194 : decode c0_M_take 194 = .ok (.goto (-80), 3) := by decide +kernel
theorem d_M_take_197 : decode c0_M_take 197 = .ok (.aload_n 0, 1) := by decide +kernel
theorem d_M_take_198 : decode c0_M_take 198 = .ok (.aload_n 0, 1) := by decide +kernel
theorem d_M_take_199 : decode c0_M_take 199 = .ok (.getfield 126, 3) := by decide +kernel
theorem d_M_take_202 : decode c0_M_take 202 = .ok (.ifCond .ne 15, 3) := by decide +kernel
theorem d_M_take_205 : decode c0_M_take 205 = .ok (.aload_n 0, 1) := by decide +kernel
theorem d_M_take_206 : decode c0_M_take 206 = .ok (.iconst 0, 1) := by decide +kernel
theorem d_M_take_207 : decode c0_M_take 207 = .ok (.invokevirtual 129, 3) := by decide +kernel
theorem d_M_take_210 : decode c0_M_take 210 = .ok (.ifCond .eq 7, 3) := by decide +kernel
theorem d_M_take_213 : decode c0_M_take 213 = .ok (.iconst 1, 1) := by decide +kernel
theorem d_M_take_214 : decode c0_M_take 214 = .ok (.goto 4, 3) := by decide +kernel
theorem d_M_take_217 : decode c0_M_take 217 = .ok (.iconst 0, 1) := by decide +kernel
theorem d_M_take_218 : decode c0_M_take 218 = .ok (.putfield 66, 3) := by decide +kernel
theorem d_M_take_221 : decode c0_M_take 221 = .ok (.aload_n 0, 1) := by decide +kernel
theorem d_M_take_222 : decode c0_M_take 222 = .ok (.getfield 63, 3) := by decide +kernel
theorem d_M_take_225 : decode c0_M_take 225 = .ok (.ireturn, 1) := by decide +kernel
theorem d_M_isSo_0 : decode c0_M_isSo 0 = .ok (.aload_n 0, 1) := by decide +kernel
theorem d_M_isSo_1 : decode c0_M_isSo 1 = .ok (.getfield 126, 3) := by decide +kernel
theorem d_M_isSo_4 : decode c0_M_isSo 4 = .ok (.ifCond .eq 11, 3) := by decide +kernel
theorem d_M_isSo_7 : decode c0_M_isSo 7 = .ok (.aload_n 0, 1) := by decide +kernel
theorem d_M_isSo_8 : decode c0_M_isSo 8 = .ok (.iload_n 1, 1) := by decide +kernel
theorem d_M_isSo_9 : decode c0_M_isSo 9 = .ok (.invokevirtual 129, 3) := by decide +kernel
theorem d_M_isSo_12 : decode c0_M_isSo 12 = .ok (.goto 7, 3) := by decide +kernel
theorem d_M_isSo_15 : decode c0_M_isSo 15 = .ok (.aload_n 0, 1) := by decide +kernel
theorem d_M_isSo_16 : decode c0_M_isSo 16 = .ok (.getfield 66, 3) := by decide +kernel
theorem d_M_isSo_19 : decode c0_M_isSo 19 = .ok (.ireturn, 1) := by decide +kernel
theorem d_M_free_0 : decode c0_M_free 0 = .ok (.aload_n 0, 1) := by decide +kernel
theorem d_M_free_1 : decode c0_M_free 1 = .ok (.getfield 126, 3) := by decide +kernel
theorem d_M_free_4 : decode c0_M_free 4 = .ok (.ireturn, 1) := by decide +kernel
theorem d_M_isNear_0 : decode c0_M_isNear 0 = .ok (.iload_n 0, 1) := by decide +kernel
theorem d_M_isNear_1 : decode c0_M_isNear 1 = .ok (.sipush (-1000), 3) := by decide +kernel
theorem d_M_isNear_4 : decode c0_M_isNear 4 = .ok (.sipush 1000, 3) := by decide +kernel
theorem d_M_isNear_7 : decode c0_M_isNear 7 = .ok (.invokestatic 70, 3) := by decide +kernel
theorem d_M_isNear_10 : decode c0_M_isNear 10 = .ok (.ireturn, 1) := by decide +kernel
theorem d_M_holds_0 : decode c0_M_holds 0 = .ok (.iload_n 1, 1) := by decide +kernel
theorem d_M_holds_1 : decode c0_M_holds 1 = .ok (.invokestatic 165, 3) := by decide +kernel
theorem d_M_holds_4 : decode c0_M_holds 4 = .ok (.ifCond .eq 15, 3) := by decide +kernel
theorem d_M_holds_7 : decode c0_M_holds 7 = .ok (.aload_n 0, 1) := by decide +kernel
theorem d_M_holds_8 : decode c0_M_holds 8 = .ok (.iload_n 1, 1) := by decide +kernel
theorem d_M_holds_9 : decode c0_M_holds 9 = .ok (.invokevirtual 168, 3) := by decide +kernel
theorem d_M_holds_12 : decode c0_M_holds 12 = .ok (.ifCond .eq 7, 3) := by decide +kernel
theorem d_M_holds_15 : decode c0_M_holds 15 = .ok (.iconst 1, 1) := by decide +kernel
theorem d_M_holds_16 : decode c0_M_holds 16 = .ok (.goto 4, 3) := by decide +kernel
theorem d_M_holds_19 : decode c0_M_holds 19 = .ok (.iconst 0, 1) := by decide +kernel
theorem d_M_holds_20 : decode c0_M_holds 20 = .ok (.ireturn, 1) := by decide +kernel
theorem d_M_many_0 : decode c0_M_many 0 = .ok (.iconst 0, 1) := by decide +kernel
theorem d_M_many_1 : decode c0_M_many 1 = .ok (.istore 4, 2) := by decide +kernel
theorem d_M_many_3 : decode c0_M_many 3 = .ok (.iload_n 1, 1) := by decide +kernel
theorem d_M_many_4 : decode c0_M_many 4 = .ok (.istore 5, 2) := by decide +kernel
theorem d_M_many_6 : decode c0_M_many 6 = .ok (.iload 5, 2) := by decide +kernel
theorem d_M_many_8 : decode c0_M_many 8 = .ok (.iload_n 2, 1) := by decide +kernel
theorem d_M_many_9 : decode c0_M_many 9 = .ok (.if_icmp .gt 38, 3) := by decide +kernel
theorem d_M_many_12 : decode c0_M_many 12 = .ok (.iload_n 3, 1) := by decide +kernel
theorem d_M_many_13 : decode c0_M_many 13 = .ok (.ifCond .eq 8, 3) := by decide +kernel
theorem d_M_many_16 : decode c0_M_many 16 = .ok (.iload 4, 2) := by decide +kernel
theorem d_M_many_18 : decode c0_M_many 18 = .ok (.ifCond .gt 29, 3) := by decide +kernel
theorem d_M_many_21 : decode c0_M_many 21 = .ok (.aload_n 0, 1) := by decide +kernel
theorem d_M_many_22 : decode c0_M_many 22 = .ok (.iload 5, 2) := by decide +kernel
theorem d_M_many_24 : decode c0_M_many 24 = .ok (.invokevirtual 168, 3) := by decide +kernel
theorem d_M_many_27 : decode c0_M_many 27 = .ok (.ifCond .eq 10, 3) := by decide +kernel
theorem d_M_many_30 : decode c0_M_many 30 = .ok (.iload 4, 2) := by decide +kernel
theorem d_M_many_32 : decode c0_M_many 32 = .ok (.iconst 1, 1) := by decide +kernel
theorem d_M_many_33 : decode c0_M_many 33 = .ok (.iadd, 1) := by decide +kernel
theorem d_M_many_34 : decode c0_M_many 34 = .ok (.goto 5, 3) := by decide +kernel
theorem d_M_many_37 : decode c0_M_many 37 = .ok (.iload 4, 2) := by decide +kernel
theorem d_M_many_39 : decode c0_M_many 39 = .ok (.istore 4, 2) := by decide +kernel
theorem d_M_many_41 : decode c0_M_many 41 = .ok (.iinc 5 1, 3) := by decide +kernel
theorem d_M_many_44 : decode c0_M_many 44 = .ok (.goto (-38), 3) := by decide +kernel
theorem d_M_many_47 : decode c0_M_many 47 = .ok (.iload 4, 2) := by decide +kernel
theorem d_M_many_49 : decode c0_M_many 49 = .ok (.ireturn, 1) := by decide +kernel
theorem d_M_some_0 : decode c0_M_some 0 = .ok (.aload_n 0, 1) := by decide +kernel
theorem d_M_some_1 : decode c0_M_some 1 = .ok (.sipush (-150), 3) := by decide +kernel
theorem d_M_some_4 : decode c0_M_some 4 = .ok (.aload_n 0, 1) := by decide +kernel
theorem d_M_some_5 : decode c0_M_some 5 = .ok (.getfield 126, 3) := by decide +kernel
theorem d_M_some_8 : decode c0_M_some 8 = .ok (.ifCond .eq 9, 3) := by decide +kernel
theorem d_M_some_11 : decode c0_M_some 11 = .ok (.sipush 150, 3) := by decide +kernel
theorem d_M_some_14 : decode c0_M_some 14 = .ok (.goto 6, 3) := by decide +kernel
theorem d_M_some_17 : decode c0_M_some 17 = .ok (.sipush (-150), 3) := by decide +kernel
theorem d_M_some_20 : decode c0_M_some 20 = .ok (.iconst 1, 1) := by decide +kernel
theorem d_M_some_21 : decode c0_M_some 21 = .ok (.invokevirtual 171, 3) := by decide +kernel
theorem d_M_some_24 : decode c0_M_some 24 = .ok (.ifCond .le 7, 3) := by decide +kernel
theorem d_M_some_27 : decode c0_M_some 27 = .ok (.iconst 1, 1) := by decide +kernel
theorem d_M_some_28 : decode c0_M_some 28 = .ok (.goto 4, 3) := by decide +kernel
theorem d_M_some_31 : decode c0_M_some 31 = .ok (.iconst 0, 1) := by decide +kernel
theorem d_M_some_32 : decode c0_M_some 32 = .ok (.ireturn, 1) := by decide +kernel
theorem d_M_all_0 : decode c0_M_all 0 = .ok (.aload_n 0, 1) := by decide +kernel
theorem d_M_all_1 : decode c0_M_all 1 = .ok (.getfield 126, 3) := by decide +kernel
theorem d_M_all_4 : decode c0_M_all 4 = .ok (.ifCond .eq 9, 3) := by decide +kernel
theorem d_M_all_7 : decode c0_M_all 7 = .ok (.sipush 150, 3) := by decide +kernel
theorem d_M_all_10 : decode c0_M_all 10 = .ok (.goto 6, 3) := by decide +kernel
theorem d_M_all_13 : decode c0_M_all 13 = .ok (.sipush (-150), 3) := by decide +kernel
theorem d_M_all_16 : decode c0_M_all 16 = .ok (.istore_n 1, 1) := by decide +kernel
theorem d_M_all_17 : decode c0_M_all 17 = .ok (.aload_n 0, 1) := by decide +kernel
theorem d_M_all_18 : decode c0_M_all 18 = .ok (.sipush (-150), 3) := by decide +kernel
theorem d_M_all_21 : decode c0_M_all 21 = .ok (.iload_n 1, 1) := by decide +kernel
theorem d_M_all_22 : decode c0_M_all 22 = .ok (.iconst 0, 1) := by decide +kernel
theorem d_M_all_23 : decode c0_M_all 23 = .ok (.invokevirtual 171, 3) := by decide +kernel
theorem d_M_all_26 : decode c0_M_all 26 = .ok (.iload_n 1, 1) := by decide +kernel
theorem d_M_all_27 : decode c0_M_all 27 = .ok (.sipush 150, 3) := by decide +kernel
theorem d_M_all_30 : decode c0_M_all 30 = .ok (.iadd, 1) := by decide +kernel
theorem d_M_all_31 : decode c0_M_all 31 = .ok (.iconst 1, 1) := by decide +kernel
theorem d_M_all_32 : decode c0_M_all 32 = .ok (.iadd, 1) := by decide +kernel
theorem d_M_all_33 : decode c0_M_all 33 = .ok (.if_icmp .ne 7, 3) := by decide +kernel
theorem d_M_all_36 : decode c0_M_all 36 = .ok (.iconst 1, 1) := by decide +kernel
theorem d_M_all_37 : decode c0_M_all 37 = .ok (.goto 4, 3) := by decide +kernel
theorem d_M_all_40 : decode c0_M_all 40 = .ok (.iconst 0, 1) := by decide +kernel
theorem d_M_all_41 : decode c0_M_all 41 = .ok (.ireturn, 1) := by decide +kernel
theorem d_M_next_0 : decode c0_M_next 0 = .ok (.iload_n 1, 1) := by decide +kernel
theorem d_M_next_1 : decode c0_M_next 1 = .ok (.sipush 150, 3) := by decide +kernel
theorem d_M_next_4 : decode c0_M_next 4 = .ok (.if_icmp .le 7, 3) := by decide +kernel
theorem d_M_next_7 : decode c0_M_next 7 = .ok (.iload_n 1, 1) := by decide +kernel
theorem d_M_next_8 : decode c0_M_next 8 = .ok (.goto 6, 3) := by decide +kernel
theorem d_M_next_11 : decode c0_M_next 11 = .ok (.sipush 150, 3) := by decide +kernel
theorem d_M_next_14 : decode c0_M_next 14 = .ok (.bipush 12, 2) := by decide +kernel
theorem d_M_next_16 : decode c0_M_next 16 = .ok (.iadd, 1) := by decide +kernel
theorem d_M_next_17 : decode c0_M_next 17 = .ok (.istore_n 2, 1) := by decide +kernel
theorem d_M_next_18 : decode c0_M_next 18 = .ok (.iload_n 1, 1) := by decide +kernel
theorem d_M_next_19 : decode c0_M_next 19 = .ok (.istore_n 3, 1) := by decide +kernel
theorem d_M_next_20 : decode c0_M_next 20 = .ok (.iload_n 1, 1) := by decide +kernel
theorem d_M_next_21 : decode c0_M_next 21 = .ok (.invokestatic 165, 3) := by decide +kernel
theorem d_M_next_24 : decode c0_M_next 24 = .ok (.ifCond .eq 24, 3) := by decide +kernel
theorem d_M_next_27 : decode c0_M_next 27 = .ok (.iload_n 3, 1) := by decide +kernel
theorem d_M_next_28 : decode c0_M_next 28 = .ok (.iload_n 2, 1) := by decide +kernel
theorem d_M_next_29 : decode c0_M_next 29 = .ok (.if_icmp .gt 19, 3) := by decide +kernel
theorem d_M_next_32 : decode c0_M_next 32 = .ok (.aload_n 0, 1) := by decide +kernel
theorem d_M_next_33 : decode c0_M_next 33 = .ok (.iload_n 3, 1) := by decide +kernel
theorem d_M_next_34 : decode c0_M_next 34 = .ok (.invokevirtual 168, 3) := by decide +kernel
theorem d_M_next_37 : decode c0_M_next 37 = .ok (.ifCond .eq 5, 3) := by decide +kernel
theorem d_M_next_40 : decode c0_M_next 40 = .ok (.iload_n 3, 1) := by decide +kernel
theorem d_M_next_41 : decode c0_M_next 41 = .ok (.ireturn, 1) := by decide +kernel
theorem d_M_next_42 : decode c0_M_next 42 = .ok (.iinc 3 1, 3) := by decide +kernel
theorem d_M_next_45 : decode c0_M_next 45 = .ok (.goto (-25), 3) := by decide +kernel
theorem d_M_next_48 : decode c0_M_next 48 = .ok (.ldc 175, 2) := by decide +kernel
theorem d_M_next_50 : decode c0_M_next 50 = .ok (.ireturn, 1) := by decide +kernel
theorem d_M_last_0 : decode c0_M_last 0 = .ok (.iload_n 1, 1) := by decide +kernel
theorem d_M_last_1 : decode c0_M_last 1 = .ok (.sipush (-150), 3) := by decide +kernel
theorem d_M_last_4 : decode c0_M_last 4 = .ok (.if_icmp .ge 7, 3) := by decide +kernel
theorem d_M_last_7 : decode c0_M_last 7 = .ok (.iload_n 1, 1) := by decide +kernel
theorem d_M_last_8 : decode c0_M_last 8 = .ok (.goto 6, 3) := by decide +kernel
theorem d_M_last_11 : decode c0_M_last 11 = .ok (.sipush (-150), 3) := by decide +kernel
theorem d_M_last_14 : decode c0_M_last 14 = .ok (.bipush 12, 2) := by decide +kernel
theorem d_M_last_16 : decode c0_M_last 16 = .ok (.isub, 1) := by decide +kernel
theorem d_M_last_17 : decode c0_M_last 17 = .ok (.istore_n 2, 1) := by decide +kernel
theorem d_M_last_18 : decode c0_M_last 18 = .ok (.iload_n 1, 1) := by decide +kernel
theorem d_M_last_19 : decode c0_M_last 19 = .ok (.istore_n 3, 1) := by decide +kernel
theorem d_M_last_20 : decode c0_M_last 20 = .ok (.iload_n 1, 1) := by decide +kernel
theorem d_M_last_21 : decode c0_M_last 21 = .ok (.invokestatic 165, 3) := by decide +kernel
theorem d_M_last_24 : decode c0_M_last 24 = .ok (.ifCond .eq 24, 3) := by decide +kernel
theorem d_M_last_27 : decode c0_M_last 27 = .ok (.iload_n 3, 1) := by decide +kernel
theorem d_M_last_28 : decode c0_M_last 28 = .ok (.iload_n 2, 1) := by decide +kernel
theorem d_M_last_29 : decode c0_M_last 29 = .ok (.if_icmp .lt 19, 3) := by decide +kernel
theorem d_M_last_32 : decode c0_M_last 32 = .ok (.aload_n 0, 1) := by decide +kernel
theorem d_M_last_33 : decode c0_M_last 33 = .ok (.iload_n 3, 1) := by decide +kernel
theorem d_M_last_34 : decode c0_M_last 34 = .ok (.invokevirtual 168, 3) := by decide +kernel
theorem d_M_last_37 : decode c0_M_last 37 = .ok (.ifCond .eq 5, 3) := by decide +kernel
theorem d_M_last_40 : decode c0_M_last 40 = .ok (.iload_n 3, 1) := by decide +kernel
theorem d_M_last_41 : decode c0_M_last 41 = .ok (.ireturn, 1) := by decide +kernel
theorem d_M_last_42 : decode c0_M_last 42 = .ok (.iinc 3 (-1), 3) := by decide +kernel
theorem d_M_last_45 : decode c0_M_last 45 = .ok (.goto (-25), 3) := by decide +kernel
theorem d_M_last_48 : decode c0_M_last 48 = .ok (.ldc 176, 2) := by decide +kernel
theorem d_M_last_50 : decode c0_M_last 50 = .ok (.ireturn, 1) := by decide +kernel
theorem d_M_again_0 : decode c0_M_again 0 = .ok (.iload_n 1, 1) := by decide +kernel
theorem d_M_again_1 : decode c0_M_again 1 = .ok (.ifCond .eq 25, 3) := by decide +kernel
theorem d_M_again_4 : decode c0_M_again 4 = .ok (.aload_n 0, 1) := by decide +kernel
theorem d_M_again_5 : decode c0_M_again 5 = .ok (.sipush 150, 3) := by decide +kernel
theorem d_M_again_8 : decode c0_M_again 8 = .ok (.sipush 162, 3) := by decide +kernel
theorem d_M_again_11 : decode c0_M_again 11 = .ok (.iconst 1, 1) := by decide +kernel
theorem d_M_again_12 : decode c0_M_again 12 = .ok (.invokevirtual 171, 3) := by decide +kernel
theorem d_M_again_15 : decode c0_M_again 15 = .ok (.ifCond .le 7, 3) := by decide +kernel
theorem d_M_again_18 : decode c0_M_again 18 = .ok (.iconst 1, 1) := by decide +kernel
theorem d_M_again_19 : decode c0_M_again 19 = .ok (.goto 26, 3) := by decide +kernel
theorem d_M_again_22 : decode c0_M_again 22 = .ok (.iconst 0, 1) := by decide +kernel
theorem d_M_again_23 : decode c0_M_again 23 = .ok (.goto 22, 3) := by decide +kernel
theorem d_M_again_26 : decode c0_M_again 26 = .ok (.aload_n 0, 1) := by decide +kernel
theorem d_M_again_27 : decode c0_M_again 27 = .ok (.sipush (-162), 3) := by decide +kernel
theorem d_M_again_30 : decode c0_M_again 30 = .ok (.sipush (-150), 3) := by decide +kernel
theorem d_M_again_33 : decode c0_M_again 33 = .ok (.iconst 1, 1) := by decide +kernel
theorem d_M_again_34 : decode c0_M_again 34 = .ok (.invokevirtual 171, 3) := by decide +kernel
theorem d_M_again_37 : decode c0_M_again 37 = .ok (.ifCond .le 7, 3) := by decide +kernel
theorem d_M_again_40 : decode c0_M_again 40 = .ok (.iconst 1, 1) := by decide +kernel
theorem d_M_again_41 : decode c0_M_again 41 = .ok (.goto 4, 3) := by decide +kernel
theorem d_M_again_44 : decode c0_M_again 44 = .ok (.iconst 0, 1) := by decide +kernel
theorem d_M_again_45 : decode c0_M_again 45 = .ok (.ireturn, 1) := by decide +kernel
theorem d_M_count_0 : decode c0_M_count 0 = .ok (.iload_n 1, 1) := by decide +kernel
theorem d_M_count_1 : decode c0_M_count 1 = .ok (.invokestatic 165, 3) := by decide +kernel
theorem d_M_count_4 : decode c0_M_count 4 = .ok (.ifCond .eq 34, 3) := by decide +kernel
theorem d_M_count_7 : decode c0_M_count 7 = .ok (.iload_n 2, 1) := by decide +kernel
theorem d_M_count_8 : decode c0_M_count 8 = .ok (.invokestatic 165, 3) := by decide +kernel
theorem d_M_count_11 : decode c0_M_count 11 = .ok (.ifCond .eq 27, 3) := by decide +kernel
theorem d_M_count_14 : decode c0_M_count 14 = .ok (.iload_n 2, 1) := by decide +kernel
theorem d_M_count_15 : decode c0_M_count 15 = .ok (.iload_n 1, 1) := by decide +kernel
theorem d_M_count_16 : decode c0_M_count 16 = .ok (.iconst 1, 1) := by decide +kernel
theorem d_M_count_17 : decode c0_M_count 17 = .ok (.isub, 1) := by decide +kernel
theorem d_M_count_18 : decode c0_M_count 18 = .ok (.iload_n 1, 1) := by decide +kernel
theorem d_M_count_19 : decode c0_M_count 19 = .ok (.bipush 99, 2) := by decide +kernel
theorem d_M_count_21 : decode c0_M_count 21 = .ok (.iadd, 1) := by decide +kernel
theorem d_M_count_22 : decode c0_M_count 22 = .ok (.invokestatic 70, 3) := by decide +kernel
theorem d_M_count_25 : decode c0_M_count 25 = .ok (.ifCond .eq 13, 3) := by decide +kernel
theorem d_M_count_28 : decode c0_M_count 28 = .ok (.aload_n 0, 1) := by decide +kernel
theorem d_M_count_29 : decode c0_M_count 29 = .ok (.iload_n 1, 1) := by decide +kernel
theorem d_M_count_30 : decode c0_M_count 30 = .ok (.iload_n 2, 1) := by decide +kernel
theorem d_M_count_31 : decode c0_M_count 31 = .ok (.iconst 0, 1) := by decide +kernel
theorem d_M_count_32 : decode c0_M_count 32 = .ok (.invokevirtual 171, 3) := by decide +kernel
theorem d_M_count_35 : decode c0_M_count 35 = .ok (.goto 4, 3) := by decide +kernel
theorem d_M_count_38 : decode c0_M_count 38 = .ok (.iconst (-1), 1) := by decide +kernel
theorem d_M_count_39 : decode c0_M_count 39 = .ok (.ireturn, 1) := by decide +kernel
theorem d_M_period_0 : decode c0_M_period 0 = .ok (.iconst 0, 1) := by decide +kernel
theorem d_M_period_1 : decode c0_M_period 1 = .ok (.istore_n 1, 1) := by decide +kernel
theorem d_M_period_2 : decode c0_M_period 2 = .ok (.iconst 0, 1) := by decide +kernel
theorem d_M_period_3 : decode c0_M_period 3 = .ok (.istore_n 2, 1) := by decide +kernel
theorem d_M_period_4 : decode c0_M_period 4 = .ok (.iload_n 2, 1) := by decide +kernel
theorem d_M_period_5 : decode c0_M_period 5 = .ok (.ifCond .ne 54, 3) := by decide +kernel
theorem d_M_period_8 : decode c0_M_period 8 = .ok (.iload_n 1, 1) := by decide +kernel
theorem d_M_period_9 : decode c0_M_period 9 = .ok (.iconst 1, 1) := by decide +kernel
theorem d_M_period_10 : decode c0_M_period 10 = .ok (.iadd, 1) := by decide +kernel
theorem d_M_period_11 : decode c0_M_period 11 = .ok (.istore_n 1, 1) := by decide +kernel
theorem d_M_period_12 : decode c0_M_period 12 = .ok (.iconst 1, 1) := by decide +kernel
theorem d_M_period_13 : decode c0_M_period 13 = .ok (.istore_n 2, 1) := by decide +kernel
theorem d_M_period_14 : decode c0_M_period 14 = .ok (.sipush 150, 3) := by decide +kernel
theorem d_M_period_17 : decode c0_M_period 17 = .ok (.istore_n 3, 1) := by decide +kernel
theorem d_M_period_18 : decode c0_M_period 18 = .ok (.iload_n 3, 1) := by decide +kernel
theorem d_M_period_19 : decode c0_M_period 19 = .ok (.sipush 162, 3) := by decide +kernel
theorem d_M_period_22 : decode c0_M_period 22 = .ok (.if_icmp .ge 34, 3) := by decide +kernel
theorem d_M_period_25 : decode c0_M_period 25 = .ok (.iload_n 2, 1) := by decide +kernel
theorem d_M_period_26 : decode c0_M_period 26 = .ok (.ifCond .eq 30, 3) := by decide +kernel
theorem d_M_period_29 : decode c0_M_period 29 = .ok (.aload_n 0, 1) := by decide +kernel
theorem d_M_period_30 : decode c0_M_period 30 = .ok (.iload_n 3, 1) := by decide +kernel
theorem d_M_period_31 : decode c0_M_period 31 = .ok (.invokevirtual 168, 3) := by decide +kernel
theorem d_M_period_34 : decode c0_M_period 34 = .ok (.aload_n 0, 1) := by decide +kernel
theorem d_M_period_35 : decode c0_M_period 35 = .ok (.iload_n 3, 1) := by decide +kernel
theorem d_M_period_36 : decode c0_M_period 36 = .ok (.iload_n 1, 1) := by decide +kernel
theorem d_M_period_37 : decode c0_M_period 37 = .ok (.iadd, 1) := by decide +kernel
theorem d_M_period_38 : decode c0_M_period 38 = .ok (.invokevirtual 168, 3) := by decide +kernel
theorem d_M_period_41 : decode c0_M_period 41 = .ok (.if_icmp .ne 7, 3) := by decide +kernel
theorem d_M_period_44 : decode c0_M_period 44 = .ok (.iconst 1, 1) := by decide +kernel
theorem d_M_period_45 : decode c0_M_period 45 = .ok (.goto 4, 3) := by decide +kernel
theorem d_M_period_48 : decode c0_M_period 48 = .ok (.iconst 0, 1) := by decide +kernel
theorem d_M_period_49 : decode c0_M_period 49 = .ok (.istore_n 2, 1) := by decide +kernel
theorem d_M_period_50 : decode c0_M_period 50 = .ok (.iinc 3 1, 3) := by decide +kernel
theorem d_M_period_53 : decode c0_M_period 53 = .ok (.goto (-35), 3) := by decide +kernel
theorem d_M_period_56 : decode c0_M_period 56 = .ok (.goto (-52), 3) := by decide +kernel
theorem d_M_period_59 : decode c0_M_period 59 = .ok (.iload_n 1, 1) := by decide +kernel
theorem d_M_period_60 : decode c0_M_period 60 = .ok (.ireturn, 1) := by decide +kernel
