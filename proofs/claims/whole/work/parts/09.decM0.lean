theorem d_M_init_0 : decode c0_M_init 0 = .ok (.aload_n 0, 1) := by decide +kernel
theorem d_M_init_1 : decode c0_M_init 1 = .ok (.invokespecial 1, 3) := by decide +kernel
theorem d_M_init_4 : decode c0_M_init 4 = .ok (.aload_n 0, 1) := by decide +kernel
theorem d_M_init_5 : decode c0_M_init 5 = .ok (.bipush 120, 2) := by decide +kernel
theorem d_M_init_7 : decode c0_M_init 7 = .ok (.newarray .int, 2) := by decide +kernel
theorem d_M_init_9 : decode c0_M_init 9 = .ok (.putfield 7, 3) := by decide +kernel
theorem d_M_init_12 : decode c0_M_init 12 = .ok (.aload_n 0, 1) := by decide +kernel
theorem d_M_init_13 : decode c0_M_init 13 = .ok (.bipush 20, 2) := by decide +kernel
theorem d_M_init_15 : decode c0_M_init 15 = .ok (.newarray .int, 2) := by decide +kernel
theorem d_M_init_17 : decode c0_M_init 17 = .ok (.putfield 13, 3) := by decide +kernel
theorem d_M_init_20 : decode c0_M_init 20 = .ok (.aload_n 0, 1) := by decide +kernel
theorem d_M_init_21 : decode c0_M_init 21 = .ok (.bipush 20, 2) := by decide +kernel
theorem d_M_init_23 : decode c0_M_init 23 = .ok (.newarray .int, 2) := by decide +kernel
theorem d_M_init_25 : decode c0_M_init 25 = .ok (.putfield 16, 3) := by decide +kernel
theorem d_M_init_28 : decode c0_M_init 28 = .ok (.aload_n 0, 1) := by decide +kernel
theorem d_M_init_29 : decode c0_M_init 29 = .ok (.bipush 20, 2) := by decide +kernel
theorem d_M_init_31 : decode c0_M_init 31 = .ok (.newarray .int, 2) := by decide +kernel
theorem d_M_init_33 : decode c0_M_init 33 = .ok (.putfield 19, 3) := by decide +kernel
theorem d_M_init_36 : decode c0_M_init 36 = .ok (.aload_n 0, 1) := by decide +kernel
theorem d_M_init_37 : decode c0_M_init 37 = .ok (.bipush 80, 2) := by decide +kernel
theorem d_M_init_39 : decode c0_M_init 39 = .ok (.newarray .int, 2) := by decide +kernel
theorem d_M_init_41 : decode c0_M_init 41 = .ok (.putfield 22, 3) := by decide +kernel
theorem d_M_init_44 : decode c0_M_init 44 = .ok (.aload_n 0, 1) := by decide +kernel
theorem d_M_init_45 : decode c0_M_init 45 = .ok (.bipush 20, 2) := by decide +kernel
theorem d_M_init_47 : decode c0_M_init 47 = .ok (.newarray .int, 2) := by decide +kernel
theorem d_M_init_49 : decode c0_M_init 49 = .ok (.putfield 25, 3) := by decide +kernel
theorem d_M_init_52 : decode c0_M_init 52 = .ok (.aload_n 0, 1) := by decide +kernel
theorem d_M_init_53 : decode c0_M_init 53 = .ok (.bipush 20, 2) := by decide +kernel
theorem d_M_init_55 : decode c0_M_init 55 = .ok (.newarray .int, 2) := by decide +kernel
theorem d_M_init_57 : decode c0_M_init 57 = .ok (.putfield 28, 3) := by decide +kernel
theorem d_M_init_60 : decode c0_M_init 60 = .ok (.aload_n 0, 1) := by decide +kernel
theorem d_M_init_61 : decode c0_M_init 61 = .ok (.bipush 20, 2) := by decide +kernel
theorem d_M_init_63 : decode c0_M_init 63 = .ok (.newarray .int, 2) := by decide +kernel
theorem d_M_init_65 : decode c0_M_init 65 = .ok (.putfield 31, 3) := by decide +kernel
theorem d_M_init_68 : decode c0_M_init 68 = .ok (.aload_n 0, 1) := by decide +kernel
theorem d_M_init_69 : decode c0_M_init 69 = .ok (.bipush 80, 2) := by decide +kernel
theorem d_M_init_71 : decode c0_M_init 71 = .ok (.newarray .int, 2) := by decide +kernel
theorem d_M_init_73 : decode c0_M_init 73 = .ok (.putfield 34, 3) := by decide +kernel
theorem d_M_init_76 : decode c0_M_init 76 = .ok (.aload_n 0, 1) := by decide +kernel
theorem d_M_init_77 : decode c0_M_init 77 = .ok (.iconst 3, 1) := by decide +kernel
theorem d_M_init_78 : decode c0_M_init 78 = .ok (.newarray .int, 2) := by decide +kernel
theorem d_M_init_80 : decode c0_M_init 80 = .ok (.putfield 37, 3) := by decide +kernel
theorem d_M_init_83 : decode c0_M_init 83 = .ok (.aload_n 0, 1) := by decide +kernel
theorem d_M_init_84 : decode c0_M_init 84 = .ok (.bipush 21, 2) := by decide +kernel
theorem d_M_init_86 : decode c0_M_init 86 = .ok (.newarray .int, 2) := by decide +kernel
theorem d_M_init_88 : decode c0_M_init 88 = .ok (.putfield 40, 3) := by decide +kernel
theorem d_M_init_91 : decode c0_M_init 91 = .ok (.aload_n 0, 1) := by decide +kernel
theorem d_M_init_92 : decode c0_M_init 92 = .ok (.bipush 21, 2) := by decide +kernel
theorem d_M_init_94 : decode c0_M_init 94 = .ok (.newarray .int, 2) := by decide +kernel
theorem d_M_init_96 : decode c0_M_init 96 = .ok (.putfield 43, 3) := by decide +kernel
theorem d_M_init_99 : decode c0_M_init 99 = .ok (.aload_n 0, 1) := by decide +kernel
theorem d_M_init_100 : decode c0_M_init 100 = .ok (.iconst 3, 1) := by decide +kernel
theorem d_M_init_101 : decode c0_M_init 101 = .ok (.newarray .int, 2) := by decide +kernel
theorem d_M_init_103 : decode c0_M_init 103 = .ok (.putfield 46, 3) := by decide +kernel
theorem d_M_init_106 : decode c0_M_init 106 = .ok (.aload_n 0, 1) := by decide +kernel
theorem d_M_init_107 : decode c0_M_init 107 = .ok (.bipush 24, 2) := by decide +kernel
theorem d_M_init_109 : decode c0_M_init 109 = .ok (.newarray .boolean, 2) := by decide +kernel
theorem d_M_init_111 : decode c0_M_init 111 = .ok (.putfield 49, 3) := by decide +kernel
theorem d_M_init_114 : decode c0_M_init 114 = .ok (.aload_n 0, 1) := by decide +kernel
theorem d_M_init_115 : decode c0_M_init 115 = .ok (.bipush 24, 2) := by decide +kernel
theorem d_M_init_117 : decode c0_M_init 117 = .ok (.newarray .boolean, 2) := by decide +kernel
theorem d_M_init_119 : decode c0_M_init 119 = .ok (.putfield 53, 3) := by decide +kernel
theorem d_M_init_122 : decode c0_M_init 122 = .ok (.aload_n 0, 1) := by decide +kernel
theorem d_M_init_123 : decode c0_M_init 123 = .ok (.bipush 24, 2) := by decide +kernel
theorem d_M_init_125 : decode c0_M_init 125 = .ok (.newarray .boolean, 2) := by decide +kernel
theorem d_M_init_127 : decode c0_M_init 127 = .ok (.putfield 56, 3) := by decide +kernel
theorem d_M_init_130 : decode c0_M_init 130 = .ok (.aload_n 0, 1) := by decide +kernel
theorem d_M_init_131 : decode c0_M_init 131 = .ok (.iconst 1, 1) := by decide +kernel
theorem d_M_init_132 : decode c0_M_init 132 = .ok (.putfield 59, 3) := by decide +kernel
theorem d_M_init_135 : decode c0_M_init 135 = .ok (.aload_n 0, 1) := by decide +kernel
theorem d_M_init_136 : decode c0_M_init 136 = .ok (.iconst 1, 1) := by decide +kernel
theorem d_M_init_137 : decode c0_M_init 137 = .ok (.putfield 63, 3) := by decide +kernel
theorem d_M_init_140 : decode c0_M_init 140 = .ok (.aload_n 0, 1) := by decide +kernel
theorem d_M_init_141 : decode c0_M_init 141 = .ok (.getfield 13, 3) := by decide +kernel
theorem d_M_init_144 : decode c0_M_init 144 = .ok (.iconst 0, 1) := by decide +kernel
theorem d_M_init_145 : decode c0_M_init 145 = .ok (.bipush 6, 2) := by decide +kernel
theorem d_M_init_147 : decode c0_M_init 147 = .ok (.iastore, 1) := by decide +kernel
theorem d_M_init_148 : decode c0_M_init 148 = .ok (.aload_n 0, 1) := by decide +kernel
theorem d_M_init_149 : decode c0_M_init 149 = .ok (.getfield 16, 3) := by decide +kernel
theorem d_M_init_152 : decode c0_M_init 152 = .ok (.iconst 0, 1) := by decide +kernel
theorem d_M_init_153 : decode c0_M_init 153 = .ok (.iconst (-1), 1) := by decide +kernel
theorem d_M_init_154 : decode c0_M_init 154 = .ok (.iastore, 1) := by decide +kernel
theorem d_M_init_155 : decode c0_M_init 155 = .ok (.aload_n 0, 1) := by decide +kernel
theorem d_M_init_156 : decode c0_M_init 156 = .ok (.getfield 22, 3) := by decide +kernel
theorem d_M_init_159 : decode c0_M_init 159 = .ok (.iconst 3, 1) := by decide +kernel
theorem d_M_init_160 : decode c0_M_init 160 = .ok (.iconst (-1), 1) := by decide +kernel
theorem d_M_init_161 : decode c0_M_init 161 = .ok (.iastore, 1) := by decide +kernel
theorem d_M_init_162 : decode c0_M_init 162 = .ok (.aload_n 0, 1) := by decide +kernel
theorem d_M_init_163 : decode c0_M_init 163 = .ok (.iconst 1, 1) := by decide +kernel
theorem d_M_init_164 : decode c0_M_init 164 = .ok (.putfield 66, 3) := by decide +kernel
theorem d_M_init_167 : decode c0_M_init 167 = .ok (.return_, 1) := by decide +kernel
theorem d_M_in_0 : decode c0_M_in 0 = .ok (.iload_n 0, 1) := by decide +kernel
theorem d_M_in_1 : decode c0_M_in 1 = .ok (.iload_n 1, 1) := by decide +kernel
theorem d_M_in_2 : decode c0_M_in 2 = .ok (.if_icmp .lt 12, 3) := by decide +kernel
theorem d_M_in_5 : decode c0_M_in 5 = .ok (.iload_n 0, 1) := by decide +kernel
theorem d_M_in_6 : decode c0_M_in 6 = .ok (.iload_n 2, 1) := by decide +kernel
theorem d_M_in_7 : decode c0_M_in 7 = .ok (.if_icmp .gt 7, 3) := by decide +kernel
theorem d_M_in_10 : decode c0_M_in 10 = .ok (.iconst 1, 1) := by decide +kernel
theorem d_M_in_11 : decode c0_M_in 11 = .ok (.goto 4, 3) := by decide +kernel
theorem d_M_in_14 : decode c0_M_in 14 = .ok (.iconst 0, 1) := by decide +kernel
theorem d_M_in_15 : decode c0_M_in 15 = .ok (.ireturn, 1) := by decide +kernel
theorem d_M_type_0 : decode c0_M_type 0 = .ok (.iload_n 2, 1) := by decide +kernel
theorem d_M_type_1 : decode c0_M_type 1 = .ok (.iconst 1, 1) := by decide +kernel
theorem d_M_type_2 : decode c0_M_type 2 = .ok (.iconst 4, 1) := by decide +kernel
theorem d_M_type_3 : decode c0_M_type 3 = .ok (.invokestatic 70, 3) := by decide +kernel
theorem d_M_type_6 : decode c0_M_type 6 = .ok (.ifCond .eq 18, 3) := by decide +kernel
theorem d_M_type_9 : decode c0_M_type 9 = .ok (.aload_n 0, 1) := by decide +kernel
theorem d_M_type_10 : decode c0_M_type 10 = .ok (.getfield 74, 3) := by decide +kernel
theorem d_M_type_13 : decode c0_M_type 13 = .ok (.iload_n 2, 1) := by decide +kernel
theorem d_M_type_14 : decode c0_M_type 14 = .ok (.iadd, 1) := by decide +kernel
theorem d_M_type_15 : decode c0_M_type 15 = .ok (.bipush 120, 2) := by decide +kernel
theorem d_M_type_17 : decode c0_M_type 17 = .ok (.if_icmp .gt 7, 3) := by decide +kernel
theorem d_M_type_20 : decode c0_M_type 20 = .ok (.iconst 1, 1) := by decide +kernel
theorem d_M_type_21 : decode c0_M_type 21 = .ok (.goto 4, 3) := by decide +kernel
theorem d_M_type_24 : decode c0_M_type 24 = .ok (.iconst 0, 1) := by decide +kernel
theorem d_M_type_25 : decode c0_M_type 25 = .ok (.istore_n 3, 1) := by decide +kernel
theorem d_M_type_26 : decode c0_M_type 26 = .ok (.iconst 0, 1) := by decide +kernel
theorem d_M_type_27 : decode c0_M_type 27 = .ok (.istore 4, 2) := by decide +kernel
theorem d_M_type_29 : decode c0_M_type 29 = .ok (.iload 4, 2) := by decide +kernel
theorem d_M_type_31 : decode c0_M_type 31 = .ok (.iload_n 2, 1) := by decide +kernel
theorem d_M_type_32 : decode c0_M_type 32 = .ok (.if_icmp .ge 32, 3) := by decide +kernel
theorem d_M_type_35 : decode c0_M_type 35 = .ok (.iload_n 3, 1) := by decide +kernel
theorem d_M_type_36 : decode c0_M_type 36 = .ok (.ifCond .eq 28, 3) := by decide +kernel
theorem d_M_type_39 : decode c0_M_type 39 = .ok (.iload_n 1, 1) := by decide +kernel
theorem d_M_type_40 : decode c0_M_type 40 = .ok (.bipush 8, 2) := by decide +kernel
theorem d_M_type_42 : decode c0_M_type 42 = .ok (.iload 4, 2) := by decide +kernel
theorem d_M_type_44 : decode c0_M_type 44 = .ok (.imul, 1) := by decide +kernel
theorem d_M_type_45 : decode c0_M_type 45 = .ok (.ishr, 1) := by decide +kernel
theorem d_M_type_46 : decode c0_M_type 46 = .ok (.sipush 255, 3) := by decide +kernel
theorem d_M_type_49 : decode c0_M_type 49 = .ok (.iand, 1) := by decide +kernel
theorem d_M_type_50 : decode c0_M_type 50 = .ok (.bipush 32, 2) := by decide +kernel
theorem d_M_type_52 : decode c0_M_type 52 = .ok (.bipush 126, 2) := by decide +kernel
theorem d_M_type_54 : decode c0_M_type 54 = .ok (.invokestatic 70, 3) := by decide +kernel
theorem d_M_type_57 : decode c0_M_type 57 = .ok (.istore_n 3, 1) := by decide +kernel
theorem d_M_type_58 : decode c0_M_type 58 = .ok (.iinc 4 1, 3) := by decide +kernel
theorem d_M_type_61 : decode c0_M_type 61 = .ok (.goto (-32), 3) := by decide +kernel
theorem d_M_type_64 : decode c0_M_type 64 = .ok (.iload_n 2, 1) := by decide +kernel
theorem d_M_type_65 : decode c0_M_type 65 = .ok (.iconst 1, 1) := by decide +kernel
theorem d_M_type_66 : decode c0_M_type 66 = .ok (.isub, 1) := by decide +kernel
theorem d_M_type_67 : decode c0_M_type 67 = .ok (.istore 4, 2) := by decide +kernel
theorem d_M_type_69 : decode c0_M_type 69 = .ok (.iload 4, 2) := by decide +kernel
theorem d_M_type_71 : decode c0_M_type 71 = .ok (.ifCond .lt 43, 3) := by decide +kernel
theorem d_M_type_74 : decode c0_M_type 74 = .ok (.iload_n 3, 1) := by decide +kernel
theorem d_M_type_75 : decode c0_M_type 75 = .ok (.ifCond .eq 39, 3) := by decide +kernel
theorem d_M_type_78 : decode c0_M_type 78 = .ok (.aload_n 0, 1) := by decide +kernel
theorem d_M_type_79 : decode c0_M_type 79 = .ok (.getfield 7, 3) := by decide +kernel
theorem d_M_type_82 : decode c0_M_type 82 = .ok (.aload_n 0, 1) := by decide +kernel
theorem d_M_type_83 : decode c0_M_type 83 = .ok (.getfield 74, 3) := by decide +kernel
theorem d_M_type_86 : decode c0_M_type 86 = .ok (.iload_n 1, 1) := by decide +kernel
theorem d_M_type_87 : decode c0_M_type 87 = .ok (.bipush 8, 2) := by decide +kernel
theorem d_M_type_89 : decode c0_M_type 89 = .ok (.iload 4, 2) := by decide +kernel
theorem d_M_type_91 : decode c0_M_type 91 = .ok (.imul, 1) := by decide +kernel
theorem d_M_type_92 : decode c0_M_type 92 = .ok (.ishr, 1) := by decide +kernel
theorem d_M_type_93 : decode c0_M_type 93 = .ok (.sipush 255, 3) := by decide +kernel
theorem d_M_type_96 : decode c0_M_type 96 = .ok (.iand, 1) := by decide +kernel
theorem d_M_type_97 : decode c0_M_type 97 = .ok (.iastore, 1) := by decide +kernel
theorem d_M_type_98 : decode c0_M_type 98 = .ok (.aload_n 0, 1) := by decide +kernel
theorem d_M_type_99 : decode c0_M_type 99 = .ok (.aload_n 0, 1) := by decide +kernel
theorem d_M_type_100 : decode c0_M_type 100 = .ok (.getfield 74, 3) := by decide +kernel
theorem d_M_type_103 : decode c0_M_type 103 = .ok (.iconst 1, 1) := by decide +kernel
theorem d_M_type_104 : decode c0_M_type 104 = .ok (.iadd, 1) := by decide +kernel
theorem d_M_type_105 : decode c0_M_type 105 = .ok (.putfield 74, 3) := by decide +kernel
theorem d_M_type_108 : decode c0_M_type 108 = .ok (.iinc 4 (-1), 3) := by decide +kernel
theorem d_M_type_111 : decode c0_M_type 111 = .ok (.goto (-42), 3) := by decide +kernel
theorem d_M_type_114 : decode c0_M_type 114 = .ok (.iload_n 3, 1) := by decide +kernel
theorem d_M_type_115 : decode c0_M_type 115 = .ok (.ireturn, 1) := by decide +kernel
theorem d_M_look_0 : decode c0_M_look 0 = .ok (.aload_n 0, 1) := by decide +kernel
theorem d_M_look_1 : decode c0_M_look 1 = .ok (.getfield 77, 3) := by decide +kernel
theorem d_M_look_4 : decode c0_M_look 4 = .ok (.aload_n 0, 1) := by decide +kernel
theorem d_M_look_5 : decode c0_M_look 5 = .ok (.getfield 80, 3) := by decide +kernel
theorem d_M_look_8 : decode c0_M_look 8 = .ok (.if_icmp .ge 30, 3) := by decide +kernel
theorem d_M_look_11 : decode c0_M_look 11 = .ok (.aload_n 0, 1) := by decide +kernel
theorem d_M_look_12 : decode c0_M_look 12 = .ok (.getfield 7, 3) := by decide +kernel
theorem d_M_look_15 : decode c0_M_look 15 = .ok (.aload_n 0, 1) := by decide +kernel
theorem d_M_look_16 : decode c0_M_look 16 = .ok (.getfield 77, 3) := by decide +kernel
theorem d_M_look_19 : decode c0_M_look 19 = .ok (.iaload, 1) := by decide +kernel
theorem d_M_look_20 : decode c0_M_look 20 = .ok (.bipush 32, 2) := by decide +kernel
theorem d_M_look_22 : decode c0_M_look 22 = .ok (.if_icmp .ne 16, 3) := by decide +kernel
theorem d_M_look_25 : decode c0_M_look 25 = .ok (.aload_n 0, 1) := by decide +kernel
theorem d_M_look_26 : decode c0_M_look 26 = .ok (.aload_n 0, 1) := by decide +kernel
theorem d_M_look_27 : decode c0_M_look 27 = .ok (.getfield 77, 3) := by decide +kernel
theorem d_M_look_30 : decode c0_M_look 30 = .ok (.iconst 1, 1) := by decide +kernel
theorem d_M_look_31 : decode c0_M_look 31 = .ok (.iadd, 1) := by decide +kernel
theorem d_M_look_32 : decode c0_M_look 32 = .ok (.putfield 77, 3) := by decide +kernel
theorem d_M_look_35 : decode c0_M_look 35 = .ok (.goto (-35), 3) := by decide +kernel
theorem d_M_look_38 : decode c0_M_look 38 = .ok (.aload_n 0, 1) := by decide +kernel
theorem d_M_look_39 : decode c0_M_look 39 = .ok (.getfield 77, 3) := by decide +kernel
theorem d_M_look_42 : decode c0_M_look 42 = .ok (.aload_n 0, 1) := by decide +kernel
theorem d_M_look_43 : decode c0_M_look 43 = .ok (.getfield 80, 3) := by decide +kernel
theorem d_M_look_46 : decode c0_M_look 46 = .ok (.if_icmp .ge 15, 3) := by decide +kernel
theorem d_M_look_49 : decode c0_M_look 49 = .ok (.aload_n 0, 1) := by decide +kernel
theorem d_M_look_50 : decode c0_M_look 50 = .ok (.getfield 7, 3) := by decide +kernel
theorem d_M_look_53 : decode c0_M_look 53 = .ok (.aload_n 0, 1) := by decide +kernel
theorem d_M_look_54 : decode c0_M_look 54 = .ok (.getfield 77, 3) := by decide +kernel
theorem d_M_look_57 : decode c0_M_look 57 = .ok (.iaload, 1) := by decide +kernel
theorem d_M_look_58 : decode c0_M_look 58 = .ok (.goto 4, 3) := by decide +kernel
theorem d_M_look_61 : decode c0_M_look 61 = .ok (.iconst (-1), 1) := by decide +kernel
theorem d_M_look_62 : decode c0_M_look 62 = .ok (.ireturn, 1) := by decide +kernel
theorem d_M_fail_0 : decode c0_M_fail 0 = .ok (.aload_n 0, 1) := by decide +kernel
theorem d_M_fail_1 : decode c0_M_fail 1 = .ok (.invokevirtual 83, 3) := by decide +kernel
theorem d_M_fail_4 : decode c0_M_fail 4 = .ok (.pop, 1) := by decide +kernel
theorem d_M_fail_5 : decode c0_M_fail 5 = .ok (.aload_n 0, 1) := by decide +kernel
theorem d_M_fail_6 : decode c0_M_fail 6 = .ok (.aload_n 0, 1) := by decide +kernel
theorem d_M_fail_7 : decode c0_M_fail 7 = .ok (.getfield 87, 3) := by decide +kernel
theorem d_M_fail_10 : decode c0_M_fail 10 = .ok (.ifCond .ge 10, 3) := by decide +kernel
theorem d_M_fail_13 : decode c0_M_fail 13 = .ok (.aload_n 0, 1) := by decide +kernel
theorem d_M_fail_14 : decode c0_M_fail 14 = .ok (.getfield 77, 3) := by decide +kernel
theorem d_M_fail_17 : decode c0_M_fail 17 = .ok (.goto 7, 3) := by decide +kernel
theorem d_M_fail_20 : decode c0_M_fail 20 = .ok (.aload_n 0, 1) := by decide +kernel
theorem d_M_fail_21 : decode c0_M_fail 21 = .ok (.getfield 87, 3) := by decide +kernel
theorem d_M_fail_24 : decode c0_M_fail 24 = .ok (.putfield 87, 3) := by decide +kernel
theorem d_M_fail_27 : decode c0_M_fail 27 = .ok (.return_, 1) := by decide +kernel
theorem d_M_addVariable_0 : decode c0_M_addVariable 0 = .ok (.aload_n 0, 1) := by decide +kernel
theorem d_M_addVariable_1 : decode c0_M_addVariable 1 = .ok (.invokevirtual 83, 3) := by decide +kernel
theorem d_M_addVariable_4 : decode c0_M_addVariable 4 = .ok (.bipush 120, 2) := by decide +kernel
theorem d_M_addVariable_6 : decode c0_M_addVariable 6 = .ok (.isub, 1) := by decide +kernel
theorem d_M_addVariable_7 : decode c0_M_addVariable 7 = .ok (.istore_n 3, 1) := by decide +kernel
theorem d_M_addVariable_8 : decode c0_M_addVariable 8 = .ok (.iload_n 3, 1) := by decide +kernel
theorem d_M_addVariable_9 : decode c0_M_addVariable 9 = .ok (.ifCond .le 16, 3) := by decide +kernel
theorem d_M_addVariable_12 : decode c0_M_addVariable 12 = .ok (.aload_n 0, 1) := by decide +kernel
theorem d_M_addVariable_13 : decode c0_M_addVariable 13 = .ok (.getfield 37, 3) := by decide +kernel
theorem d_M_addVariable_16 : decode c0_M_addVariable 16 = .ok (.iload_n 3, 1) := by decide +kernel
theorem d_M_addVariable_17 : decode c0_M_addVariable 17 = .ok (.iaload, 1) := by decide +kernel
theorem d_M_addVariable_18 : decode c0_M_addVariable 18 = .ok (.ifCond .ne 7, 3) := by decide +kernel
theorem d_M_addVariable_21 : decode c0_M_addVariable 21 = .ok (.aload_n 0, 1) := by decide +kernel
theorem d_M_addVariable_22 : decode c0_M_addVariable 22 = .ok (.invokevirtual 90, 3) := by decide +kernel
theorem d_M_addVariable_25 : decode c0_M_addVariable 25 = .ok (.aload_n 0, 1) := by decide +kernel
theorem d_M_addVariable_26 : decode c0_M_addVariable 26 = .ok (.aload_n 0, 1) := by decide +kernel
theorem d_M_addVariable_27 : decode c0_M_addVariable 27 = .ok (.getfield 93, 3) := by decide +kernel
theorem d_M_addVariable_30 : decode c0_M_addVariable 30 = .ok (.ifCond .ne 12, 3) := by decide +kernel
theorem d_M_addVariable_33 : decode c0_M_addVariable 33 = .ok (.aload_n 0, 1) := by decide +kernel
theorem d_M_addVariable_34 : decode c0_M_addVariable 34 = .ok (.getfield 37, 3) := by decide +kernel
theorem d_M_addVariable_37 : decode c0_M_addVariable 37 = .ok (.iload_n 3, 1) := by decide +kernel
theorem d_M_addVariable_38 : decode c0_M_addVariable 38 = .ok (.iaload, 1) := by decide +kernel
theorem d_M_addVariable_39 : decode c0_M_addVariable 39 = .ok (.ifCond .ne 7, 3) := by decide +kernel
theorem d_M_addVariable_42 : decode c0_M_addVariable 42 = .ok (.iconst 1, 1) := by decide +kernel
theorem d_M_addVariable_43 : decode c0_M_addVariable 43 = .ok (.goto 4, 3) := by decide +kernel
theorem d_M_addVariable_46 : decode c0_M_addVariable 46 = .ok (.iconst 0, 1) := by decide +kernel
theorem d_M_addVariable_47 : decode c0_M_addVariable 47 = .ok (.putfield 93, 3) := by decide +kernel
theorem d_M_addVariable_50 : decode c0_M_addVariable 50 = .ok (.aload_n 0, 1) := by decide +kernel
theorem d_M_addVariable_51 : decode c0_M_addVariable 51 = .ok (.getfield 34, 3) := by decide +kernel
theorem d_M_addVariable_54 : decode c0_M_addVariable 54 = .ok (.iconst 4, 1) := by decide +kernel
theorem d_M_addVariable_55 : decode c0_M_addVariable 55 = .ok (.iload_n 1, 1) := by decide +kernel
theorem d_M_addVariable_56 : decode c0_M_addVariable 56 = .ok (.imul, 1) := by decide +kernel
theorem d_M_addVariable_57 : decode c0_M_addVariable 57 = .ok (.iload_n 3, 1) := by decide +kernel
theorem d_M_addVariable_58 : decode c0_M_addVariable 58 = .ok (.iadd, 1) := by decide +kernel
theorem d_M_addVariable_59 : decode c0_M_addVariable 59 = .ok (.aload_n 0, 1) := by decide +kernel
theorem d_M_addVariable_60 : decode c0_M_addVariable 60 = .ok (.getfield 34, 3) := by decide +kernel
theorem d_M_addVariable_63 : decode c0_M_addVariable 63 = .ok (.iconst 4, 1) := by decide +kernel
theorem d_M_addVariable_64 : decode c0_M_addVariable 64 = .ok (.iload_n 1, 1) := by decide +kernel
theorem d_M_addVariable_65 : decode c0_M_addVariable 65 = .ok (.imul, 1) := by decide +kernel
theorem d_M_addVariable_66 : decode c0_M_addVariable 66 = .ok (.iload_n 3, 1) := by decide +kernel
theorem d_M_addVariable_67 : decode c0_M_addVariable 67 = .ok (.iadd, 1) := by decide +kernel
theorem d_M_addVariable_68 : decode c0_M_addVariable 68 = .ok (.iaload, 1) := by decide +kernel
theorem d_M_addVariable_69 : decode c0_M_addVariable 69 = .ok (.iload_n 2, 1) := by decide +kernel
theorem d_M_addVariable_70 : decode c0_M_addVariable 70 = .ok (.iadd, 1) := by decide +kernel
theorem d_M_addVariable_71 : decode c0_M_addVariable 71 = .ok (.iastore, 1) := by decide +kernel
theorem d_M_addVariable_72 : decode c0_M_addVariable 72 = .ok (.aload_n 0, 1) := by decide +kernel
theorem d_M_addVariable_73 : decode c0_M_addVariable 73 = .ok (.aload_n 0, 1) := by decide +kernel
theorem d_M_addVariable_74 : decode c0_M_addVariable 74 = .ok (.getfield 77, 3) := by decide +kernel
theorem d_M_addVariable_77 : decode c0_M_addVariable 77 = .ok (.iconst 1, 1) := by decide +kernel
theorem d_M_addVariable_78 : decode c0_M_addVariable 78 = .ok (.iadd, 1) := by decide +kernel
theorem d_M_addVariable_79 : decode c0_M_addVariable 79 = .ok (.putfield 77, 3) := by decide +kernel
theorem d_M_addVariable_82 : decode c0_M_addVariable 82 = .ok (.return_, 1) := by decide +kernel
theorem d_M_readPart_0 : decode c0_M_readPart 0 = .ok (.aload_n 0, 1) := by decide +kernel
theorem d_M_readPart_1 : decode c0_M_readPart 1 = .ok (.invokevirtual 83, 3) := by decide +kernel
theorem d_M_readPart_4 : decode c0_M_readPart 4 = .ok (.istore_n 3, 1) := by decide +kernel
theorem d_M_readPart_5 : decode c0_M_readPart 5 = .ok (.iload_n 3, 1) := by decide +kernel
theorem d_M_readPart_6 : decode c0_M_readPart 6 = .ok (.bipush 120, 2) := by decide +kernel
theorem d_M_readPart_8 : decode c0_M_readPart 8 = .ok (.bipush 122, 2) := by decide +kernel
theorem d_M_readPart_10 : decode c0_M_readPart 10 = .ok (.invokestatic 70, 3) := by decide +kernel
theorem d_M_readPart_13 : decode c0_M_readPart 13 = .ok (.ifCond .eq 12, 3) := by decide +kernel
theorem d_M_readPart_16 : decode c0_M_readPart 16 = .ok (.aload_n 0, 1) := by decide +kernel
theorem d_M_readPart_17 : decode c0_M_readPart 17 = .ok (.iload_n 1, 1) := by decide +kernel
theorem d_M_readPart_18 : decode c0_M_readPart 18 = .ok (.iload_n 2, 1) := by decide +kernel
theorem d_M_readPart_19 : decode c0_M_readPart 19 = .ok (.invokevirtual 96, 3) := by decide +kernel
theorem d_M_readPart_22 : decode c0_M_readPart 22 = .ok (.goto 160, 3) := by decide +kernel
theorem d_M_readPart_25 : decode c0_M_readPart 25 = .ok (.iload_n 3, 1) := by decide +kernel
theorem d_M_readPart_26 : decode c0_M_readPart 26 = .ok (.bipush 48, 2) := by decide +kernel
theorem d_M_readPart_28 : decode c0_M_readPart 28 = .ok (.bipush 57, 2) := by decide +kernel
theorem d_M_readPart_30 : decode c0_M_readPart 30 = .ok (.invokestatic 70, 3) := by decide +kernel
theorem d_M_readPart_33 : decode c0_M_readPart 33 = .ok (.ifCond .eq 145, 3) := by decide +kernel
theorem d_M_readPart_36 : decode c0_M_readPart 36 = .ok (.aload_n 0, 1) := by decide +kernel
theorem d_M_readPart_37 : decode c0_M_readPart 37 = .ok (.aload_n 0, 1) := by decide +kernel
theorem d_M_readPart_38 : decode c0_M_readPart 38 = .ok (.getfield 77, 3) := by decide +kernel
theorem d_M_readPart_41 : decode c0_M_readPart 41 = .ok (.iconst 1, 1) := by decide +kernel
theorem d_M_readPart_42 : decode c0_M_readPart 42 = .ok (.iadd, 1) := by decide +kernel
theorem d_M_readPart_43 : decode c0_M_readPart 43 = .ok (.putfield 77, 3) := by decide +kernel
theorem d_M_readPart_46 : decode c0_M_readPart 46 = .ok (.aload_n 0, 1) := by decide +kernel
theorem d_M_readPart_47 : decode c0_M_readPart 47 = .ok (.invokevirtual 83, 3) := by decide +kernel
theorem d_M_readPart_50 : decode c0_M_readPart 50 = .ok (.istore 4, 2) := by decide +kernel
theorem d_M_readPart_52 : decode c0_M_readPart 52 = .ok (.iload 4, 2) := by decide +kernel
theorem d_M_readPart_54 : decode c0_M_readPart 54 = .ok (.bipush 48, 2) := by decide +kernel
theorem d_M_readPart_56 : decode c0_M_readPart 56 = .ok (.bipush 57, 2) := by decide +kernel
theorem d_M_readPart_58 : decode c0_M_readPart 58 = .ok (.invokestatic 70, 3) := by decide +kernel
theorem d_M_readPart_61 : decode c0_M_readPart 61 = .ok (.istore 5, 2) := by decide +kernel
theorem d_M_readPart_63 : decode c0_M_readPart 63 = .ok (.aload_n 0, 1) := by decide +kernel
theorem d_M_readPart_64 : decode c0_M_readPart 64 = .ok (.iload 5, 2) := by decide +kernel
theorem d_M_readPart_66 : decode c0_M_readPart 66 = .ok (.ifCond .eq 12, 3) := by decide +kernel
theorem d_M_readPart_69 : decode c0_M_readPart 69 = .ok (.aload_n 0, 1) := by decide +kernel
theorem d_M_readPart_70 : decode c0_M_readPart 70 = .ok (.getfield 77, 3) := by decide +kernel
theorem d_M_readPart_73 : decode c0_M_readPart 73 = .ok (.iconst 1, 1) := by decide +kernel
theorem d_M_readPart_74 : decode c0_M_readPart 74 = .ok (.iadd, 1) := by decide +kernel
theorem d_M_readPart_75 : decode c0_M_readPart 75 = .ok (.goto 7, 3) := by decide +kernel
theorem d_M_readPart_78 : decode c0_M_readPart 78 = .ok (.aload_n 0, 1) := by decide +kernel
theorem d_M_readPart_79 : decode c0_M_readPart 79 = .ok (.getfield 77, 3) := by decide +kernel
theorem d_M_readPart_82 : decode c0_M_readPart 82 = .ok (.putfield 77, 3) := by decide +kernel
theorem d_M_readPart_85 : decode c0_M_readPart 85 = .ok (.iload 5, 2) := by decide +kernel
theorem d_M_readPart_87 : decode c0_M_readPart 87 = .ok (.ifCond .ne 40, 3) := by decide +kernel
theorem d_M_readPart_90 : decode c0_M_readPart 90 = .ok (.iload_n 3, 1) := by decide +kernel
theorem d_M_readPart_91 : decode c0_M_readPart 91 = .ok (.bipush 49, 2) := by decide +kernel
theorem d_M_readPart_93 : decode c0_M_readPart 93 = .ok (.bipush 50, 2) := by decide +kernel
theorem d_M_readPart_95 : decode c0_M_readPart 95 = .ok (.invokestatic 70, 3) := by decide +kernel
theorem d_M_readPart_98 : decode c0_M_readPart 98 = .ok (.ifCond .eq 29, 3) := by decide +kernel
theorem d_M_readPart_101 : decode c0_M_readPart 101 = .ok (.iload 4, 2) := by decide +kernel
theorem d_M_readPart_103 : decode c0_M_readPart 103 = .ok (.bipush 120, 2) := by decide +kernel
theorem d_M_readPart_105 : decode c0_M_readPart 105 = .ok (.bipush 122, 2) := by decide +kernel
theorem d_M_readPart_107 : decode c0_M_readPart 107 = .ok (.invokestatic 70, 3) := by decide +kernel
theorem d_M_readPart_110 : decode c0_M_readPart 110 = .ok (.ifCond .eq 17, 3) := by decide +kernel
theorem d_M_readPart_113 : decode c0_M_readPart 113 = .ok (.aload_n 0, 1) := by decide +kernel
theorem d_M_readPart_114 : decode c0_M_readPart 114 = .ok (.iload_n 1, 1) := by decide +kernel
theorem d_M_readPart_115 : decode c0_M_readPart 115 = .ok (.iload_n 2, 1) := by decide +kernel
theorem d_M_readPart_116 : decode c0_M_readPart 116 = .ok (.iload_n 3, 1) := by decide +kernel
theorem d_M_readPart_117 : decode c0_M_readPart 117 = .ok (.bipush 48, 2) := by decide +kernel
theorem d_M_readPart_119 : decode c0_M_readPart 119 = .ok (.isub, 1) := by decide +kernel
theorem d_M_readPart_120 : decode c0_M_readPart 120 = .ok (.imul, 1) := by decide +kernel
theorem d_M_readPart_121 : decode c0_M_readPart 121 = .ok (.invokevirtual 96, 3) := by decide +kernel
theorem d_M_readPart_124 : decode c0_M_readPart 124 = .ok (.goto 51, 3) := by decide +kernel
theorem d_M_readPart_127 : decode c0_M_readPart 127 = .ok (.aload_n 0, 1) := by decide +kernel
theorem d_M_readPart_128 : decode c0_M_readPart 128 = .ok (.getfield 34, 3) := by decide +kernel
theorem d_M_readPart_131 : decode c0_M_readPart 131 = .ok (.iconst 4, 1) := by decide +kernel
theorem d_M_readPart_132 : decode c0_M_readPart 132 = .ok (.iload_n 1, 1) := by decide +kernel
theorem d_M_readPart_133 : decode c0_M_readPart 133 = .ok (.imul, 1) := by decide +kernel
theorem d_M_readPart_134 : decode c0_M_readPart 134 = .ok (.iconst 3, 1) := by decide +kernel
theorem d_M_readPart_135 : decode c0_M_readPart 135 = .ok (.iadd, 1) := by decide +kernel
theorem d_M_readPart_136 : decode c0_M_readPart 136 = .ok (.aload_n 0, 1) := by decide +kernel
theorem d_M_readPart_137 : decode c0_M_readPart 137 = .ok (.getfield 34, 3) := by decide +kernel
theorem d_M_readPart_140 : decode c0_M_readPart 140 = .ok (.iconst 4, 1) := by decide +kernel
theorem d_M_readPart_141 : decode c0_M_readPart 141 = .ok (.iload_n 1, 1) := by decide +kernel
theorem d_M_readPart_142 : decode c0_M_readPart 142 = .ok (.imul, 1) := by decide +kernel
theorem d_M_readPart_143 : decode c0_M_readPart 143 = .ok (.iconst 3, 1) := by decide +kernel
theorem d_M_readPart_144 : decode c0_M_readPart 144 = .ok (.iadd, 1) := by decide +kernel
theorem d_M_readPart_145 : decode c0_M_readPart 145 = .ok (.iaload, 1) := by decide +kernel
theorem d_M_readPart_146 : decode c0_M_readPart 146 = .ok (.iload_n 2, 1) := by decide +kernel
theorem d_M_readPart_147 : decode c0_M_readPart 147 = .ok (.iload 5, 2) := by decide +kernel
theorem d_M_readPart_149 : decode c0_M_readPart 149 = .ok (.ifCond .eq 19, 3) := by decide +kernel
theorem d_M_readPart_152 : decode c0_M_readPart 152 = .ok (.bipush 10, 2) := by decide +kernel
theorem d_M_readPart_154 : decode c0_M_readPart 154 = .ok (.iload_n 3, 1) := by decide +kernel
theorem d_M_readPart_155 : decode c0_M_readPart 155 = .ok (.bipush 48, 2) := by decide +kernel
theorem d_M_readPart_157 : decode c0_M_readPart 157 = .ok (.isub, 1) := by decide +kernel
theorem d_M_readPart_158 : decode c0_M_readPart 158 = .ok (.imul, 1) := by decide +kernel
theorem d_M_readPart_159 : decode c0_M_readPart 159 = .ok (.iload 4, 2) := by decide +kernel
theorem d_M_readPart_161 : decode c0_M_readPart 161 = .ok (.iadd, 1) := by decide +kernel
theorem d_M_readPart_162 : decode c0_M_readPart 162 = .ok (.bipush 48, 2) := by decide +kernel
theorem d_M_readPart_164 : decode c0_M_readPart 164 = .ok (.isub, 1) := by decide +kernel
theorem d_M_readPart_165 : decode c0_M_readPart 165 = .ok (.goto 7, 3) := by decide +kernel
theorem d_M_readPart_168 : decode c0_M_readPart 168 = .ok (.iload_n 3, 1) := by decide +kernel
theorem d_M_readPart_169 : decode c0_M_readPart 169 = .ok (.bipush 48, 2) := by decide +kernel
theorem d_M_readPart_171 : decode c0_M_readPart 171 = .ok (.isub, 1) := by decide +kernel
theorem d_M_readPart_172 : decode c0_M_readPart 172 = .ok (.imul, 1) := by decide +kernel
theorem d_M_readPart_173 : decode c0_M_readPart 173 = .ok (.iadd, 1) := by decide +kernel
theorem d_M_readPart_174 : decode c0_M_readPart 174 = .ok (.iastore, 1) := by decide +kernel
theorem d_M_readPart_175 : decode c0_M_readPart 175 = .ok (.goto 7, 3) := by decide +kernel
theorem d_M_readPart_178 : decode c0_M_readPart 178 = .ok (.aload_n 0, 1) := by decide +kernel
theorem d_M_readPart_179 : decode c0_M_readPart 179 = .ok (.invokevirtual 90, 3) := by decide +kernel
theorem d_M_readPart_182 : decode c0_M_readPart 182 = .ok (.return_, 1) := by decide +kernel
theorem d_M_readSum_0 : decode c0_M_readSum 0 = .ok (.aload_n 0, 1) := by decide +kernel
theorem d_M_readSum_1 : decode c0_M_readSum 1 = .ok (.invokevirtual 83, 3) := by decide +kernel
theorem d_M_readSum_4 : decode c0_M_readSum 4 = .ok (.bipush 45, 2) := by decide +kernel
theorem d_M_readSum_6 : decode c0_M_readSum 6 = .ok (.if_icmp .ne 7, 3) := by decide +kernel
theorem d_M_readSum_9 : decode c0_M_readSum 9 = .ok (.iconst 1, 1) := by decide +kernel
theorem d_M_readSum_10 : decode c0_M_readSum 10 = .ok (.goto 4, 3) := by decide +kernel
theorem d_M_readSum_13 : decode c0_M_readSum 13 = .ok (.iconst 0, 1) := by decide +kernel
theorem d_M_readSum_14 : decode c0_M_readSum 14 = .ok (.istore_n 3, 1) := by decide +kernel
theorem d_M_readSum_15 : decode c0_M_readSum 15 = .ok (.aload_n 0, 1) := by decide +kernel
theorem d_M_readSum_16 : decode c0_M_readSum 16 = .ok (.iload_n 3, 1) := by decide +kernel
theorem d_M_readSum_17 : decode c0_M_readSum 17 = .ok (.ifCond .eq 12, 3) := by decide +kernel
theorem d_M_readSum_20 : decode c0_M_readSum 20 = .ok (.aload_n 0, 1) := by decide +kernel
theorem d_M_readSum_21 : decode c0_M_readSum 21 = .ok (.getfield 77, 3) := by decide +kernel
theorem d_M_readSum_24 : decode c0_M_readSum 24 = .ok (.iconst 1, 1) := by decide +kernel
theorem d_M_readSum_25 : decode c0_M_readSum 25 = .ok (.iadd, 1) := by decide +kernel
theorem d_M_readSum_26 : decode c0_M_readSum 26 = .ok (.goto 7, 3) := by decide +kernel
theorem d_M_readSum_29 : decode c0_M_readSum 29 = .ok (.aload_n 0, 1) := by decide +kernel
theorem d_M_readSum_30 : decode c0_M_readSum 30 = .ok (.getfield 77, 3) := by decide +kernel
theorem d_M_readSum_33 : decode c0_M_readSum 33 = .ok (.putfield 77, 3) := by decide +kernel
theorem d_M_readSum_36 : decode c0_M_readSum 36 = .ok (.iconst 1, 1) := by decide +kernel
theorem d_M_readSum_37 : decode c0_M_readSum 37 = .ok (.istore 4, 2) := by decide +kernel
theorem d_M_readSum_39 : decode c0_M_readSum 39 = .ok (.iload 4, 2) := by decide +kernel
theorem d_M_readSum_41 : decode c0_M_readSum 41 = .ok (.ifCond .eq 90, 3) := by decide +kernel
theorem d_M_readSum_44 : decode c0_M_readSum 44 = .ok (.aload_n 0, 1) := by decide +kernel
theorem d_M_readSum_45 : decode c0_M_readSum 45 = .ok (.getfield 87, 3) := by decide +kernel
theorem d_M_readSum_48 : decode c0_M_readSum 48 = .ok (.ifCond .ge 83, 3) := by decide +kernel
theorem d_M_readSum_51 : decode c0_M_readSum 51 = .ok (.aload_n 0, 1) := by decide +kernel
theorem d_M_readSum_52 : decode c0_M_readSum 52 = .ok (.iload_n 1, 1) := by decide +kernel
theorem d_M_readSum_53 : decode c0_M_readSum 53 = .ok (.iload_n 3, 1) := by decide +kernel
theorem d_M_readSum_54 : decode c0_M_readSum 54 = .ok (.ifCond .eq 8, 3) := by decide +kernel
theorem d_M_readSum_57 : decode c0_M_readSum 57 = .ok (.iload_n 2, 1) := by decide +kernel
theorem d_M_readSum_58 : decode c0_M_readSum 58 = .ok (.ineg, 1) := by decide +kernel
theorem d_M_readSum_59 : decode c0_M_readSum 59 = .ok (.goto 4, 3) := by decide +kernel
theorem d_M_readSum_62 : decode c0_M_readSum 62 = .ok (.iload_n 2, 1) := by decide +kernel
theorem d_M_readSum_63 : decode c0_M_readSum 63 = .ok (.invokevirtual 100, 3) := by decide +kernel
theorem d_M_readSum_66 : decode c0_M_readSum 66 = .ok (.aload_n 0, 1) := by decide +kernel
theorem d_M_readSum_67 : decode c0_M_readSum 67 = .ok (.invokevirtual 83, 3) := by decide +kernel
theorem d_M_readSum_70 : decode c0_M_readSum 70 = .ok (.istore 5, 2) := by decide +kernel
theorem d_M_readSum_72 : decode c0_M_readSum 72 = .ok (.iload 5, 2) := by decide +kernel
theorem d_M_readSum_74 : decode c0_M_readSum 74 = .ok (.bipush 43, 2) := by decide +kernel
theorem d_M_readSum_76 : decode c0_M_readSum 76 = .ok (.if_icmp .eq 10, 3) := by decide +kernel
theorem d_M_readSum_79 : decode c0_M_readSum 79 = .ok (.iload 5, 2) := by decide +kernel
theorem d_M_readSum_81 : decode c0_M_readSum 81 = .ok (.bipush 45, 2) := by decide +kernel
theorem d_M_readSum_83 : decode c0_M_readSum 83 = .ok (.if_icmp .ne 7, 3) := by decide +kernel
theorem d_M_readSum_86 : decode c0_M_readSum 86 = .ok (.iconst 1, 1) := by decide +kernel
theorem d_M_readSum_87 : decode c0_M_readSum 87 = .ok (.goto 4, 3) := by decide +kernel
theorem d_M_readSum_90 : decode c0_M_readSum 90 = .ok (.iconst 0, 1) := by decide +kernel
theorem d_M_readSum_91 : decode c0_M_readSum 91 = .ok (.istore 4, 2) := by decide +kernel
theorem d_M_readSum_93 : decode c0_M_readSum 93 = .ok (.iload 5, 2) := by decide +kernel
theorem d_M_readSum_95 : decode c0_M_readSum 95 = .ok (.bipush 45, 2) := by decide +kernel
theorem d_M_readSum_97 : decode c0_M_readSum 97 = .ok (.if_icmp .ne 7, 3) := by decide +kernel
theorem d_M_readSum_100 : decode c0_M_readSum 100 = .ok (.iconst 1, 1) := by decide +kernel
theorem d_M_readSum_101 : decode c0_M_readSum 101 = .ok (.goto 4, 3) := by decide +kernel
theorem d_M_readSum_104 : decode c0_M_readSum 104 = .ok (.iconst 0, 1) := by decide +kernel
theorem d_M_readSum_105 : decode c0_M_readSum 105 = .ok (.istore_n 3, 1) := by decide +kernel
theorem d_M_readSum_106 : decode c0_M_readSum 106 = .ok (.aload_n 0, 1) := by decide +kernel
theorem d_M_readSum_107 : decode c0_M_readSum 107 = .ok (.iload 4, 2) := by decide +kernel
theorem d_M_readSum_109 : decode c0_M_readSum 109 = .ok (.ifCond .eq 12, 3) := by decide +kernel
theorem d_M_readSum_112 : decode c0_M_readSum 112 = .ok (.aload_n 0, 1) := by decide +kernel
theorem d_M_readSum_113 : decode c0_M_readSum 113 = .ok (.getfield 77, 3) := by decide +kernel
theorem d_M_readSum_116 : decode c0_M_readSum 116 = .ok (.iconst 1, 1) := by decide +kernel
theorem d_M_readSum_117 : decode c0_M_readSum 117 = .ok (.iadd, 1) := by decide +kernel
theorem d_M_readSum_118 : decode c0_M_readSum 118 = .ok (.goto 7, 3) := by decide +kernel
theorem d_M_readSum_121 : decode c0_M_readSum 121 = .ok (.aload_n 0, 1) := by decide +kernel
theorem d_M_readSum_122 : decode c0_M_readSum 122 = .ok (.getfield 77, 3) := by decide +kernel
theorem d_M_readSum_125 : decode c0_M_readSum 125 = .ok (.putfield 77, 3) := by decide +kernel
theorem d_M_readSum_128 : decode c0_M_readSum 128 = .ok (.goto (-89), 3) := by decide +kernel
theorem d_M_readSum_131 : decode c0_M_readSum 131 = .ok (.return_, 1) := by decide +kernel
theorem d_M_isDivisor_0 : decode c0_M_isDivisor 0 = .ok (.aload_n 0, 1) := by decide +kernel
theorem d_M_isDivisor_1 : decode c0_M_isDivisor 1 = .ok (.invokevirtual 83, 3) := by decide +kernel
theorem d_M_isDivisor_4 : decode c0_M_isDivisor 4 = .ok (.istore_n 1, 1) := by decide +kernel
theorem d_M_isDivisor_5 : decode c0_M_isDivisor 5 = .ok (.aload_n 0, 1) := by decide +kernel
theorem d_M_isDivisor_6 : decode c0_M_isDivisor 6 = .ok (.getfield 77, 3) := by decide +kernel
theorem d_M_isDivisor_9 : decode c0_M_isDivisor 9 = .ok (.iconst 1, 1) := by decide +kernel
theorem d_M_isDivisor_10 : decode c0_M_isDivisor 10 = .ok (.iadd, 1) := by decide +kernel
theorem d_M_isDivisor_11 : decode c0_M_isDivisor 11 = .ok (.istore_n 2, 1) := by decide +kernel
theorem d_M_isDivisor_12 : decode c0_M_isDivisor 12 = .ok (.iload_n 2, 1) := by decide +kernel
theorem d_M_isDivisor_13 : decode c0_M_isDivisor 13 = .ok (.aload_n 0, 1) := by decide +kernel
theorem d_M_isDivisor_14 : decode c0_M_isDivisor 14 = .ok (.getfield 80, 3) := by decide +kernel
theorem d_M_isDivisor_17 : decode c0_M_isDivisor 17 = .ok (.if_icmp .ge 21, 3) := by decide +kernel
theorem d_M_isDivisor_20 : decode c0_M_isDivisor 20 = .ok (.aload_n 0, 1) := by decide +kernel
theorem d_M_isDivisor_21 : decode c0_M_isDivisor 21 = .ok (.getfield 7, 3) := by decide +kernel
theorem d_M_isDivisor_24 : decode c0_M_isDivisor 24 = .ok (.iload_n 2, 1) := by decide +kernel
theorem d_M_isDivisor_25 : decode c0_M_isDivisor 25 = .ok (.iaload, 1) := by decide +kernel
theorem d_M_isDivisor_26 : decode c0_M_isDivisor 26 = .ok (.bipush 32, 2) := by decide +kernel
theorem d_M_isDivisor_28 : decode c0_M_isDivisor 28 = .ok (.if_icmp .ne 10, 3) := by decide +kernel
theorem d_M_isDivisor_31 : decode c0_M_isDivisor 31 = .ok (.iload_n 2, 1) := by decide +kernel
theorem d_M_isDivisor_32 : decode c0_M_isDivisor 32 = .ok (.iconst 1, 1) := by decide +kernel
theorem d_M_isDivisor_33 : decode c0_M_isDivisor 33 = .ok (.iadd, 1) := by decide +kernel
theorem d_M_isDivisor_34 : decode c0_M_isDivisor 34 = .ok (.istore_n 2, 1) := by decide +kernel
theorem d_M_isDivisor_35 : decode c0_M_isDivisor 35 = .ok (.goto (-23), 3) := by decide +kernel
theorem d_M_isDivisor_38 : decode c0_M_isDivisor 38 = .ok (.iload_n 1, 1) := by decide +kernel
theorem d_M_isDivisor_39 : decode c0_M_isDivisor 39 = .ok (.bipush 50, 2) := by decide +kernel
theorem d_M_isDivisor_41 : decode c0_M_isDivisor 41 = .ok (.bipush 51, 2) := by decide +kernel
theorem d_M_isDivisor_43 : decode c0_M_isDivisor 43 = .ok (.invokestatic 70, 3) := by decide +kernel
theorem d_M_isDivisor_46 : decode c0_M_isDivisor 46 = .ok (.ifCond .eq 26, 3) := by decide +kernel
theorem d_M_isDivisor_49 : decode c0_M_isDivisor 49 = .ok (.iload_n 2, 1) := by decide +kernel
theorem d_M_isDivisor_50 : decode c0_M_isDivisor 50 = .ok (.aload_n 0, 1) := by decide +kernel
theorem d_M_isDivisor_51 : decode c0_M_isDivisor 51 = .ok (.getfield 80, 3) := by decide +kernel
theorem d_M_isDivisor_54 : decode c0_M_isDivisor 54 = .ok (.if_icmp .ge 18, 3) := by decide +kernel
theorem d_M_isDivisor_57 : decode c0_M_isDivisor 57 = .ok (.aload_n 0, 1) := by decide +kernel
theorem d_M_isDivisor_58 : decode c0_M_isDivisor 58 = .ok (.getfield 7, 3) := by decide +kernel
theorem d_M_isDivisor_61 : decode c0_M_isDivisor 61 = .ok (.iload_n 2, 1) := by decide +kernel
theorem d_M_isDivisor_62 : decode c0_M_isDivisor 62 = .ok (.iaload, 1) := by decide +kernel
theorem d_M_isDivisor_63 : decode c0_M_isDivisor 63 = .ok (.bipush 58, 2) := by decide +kernel
theorem d_M_isDivisor_65 : decode c0_M_isDivisor 65 = .ok (.if_icmp .ne 7, 3) := by decide +kernel
theorem d_M_isDivisor_68 : decode c0_M_isDivisor 68 = .ok (.iconst 1, 1) := by decide +kernel
theorem d_M_isDivisor_69 : decode c0_M_isDivisor 69 = .ok (.goto 4, 3) := by decide +kernel
theorem d_M_isDivisor_72 : decode c0_M_isDivisor 72 = .ok (.iconst 0, 1) := by decide +kernel
theorem d_M_isDivisor_73 : decode c0_M_isDivisor 73 = .ok (.ireturn, 1) := by decide +kernel
theorem d_M_readBracket_0 : decode c0_M_readBracket 0 = .ok (.aload_n 0, 1) := by decide +kernel
theorem d_M_readBracket_1 : decode c0_M_readBracket 1 = .ok (.getfield 103, 3) := by decide +kernel
theorem d_M_readBracket_4 : decode c0_M_readBracket 4 = .ok (.bipush 8, 2) := by decide +kernel
theorem d_M_readBracket_6 : decode c0_M_readBracket 6 = .ok (.if_icmp .ne 7, 3) := by decide +kernel
theorem d_M_readBracket_9 : decode c0_M_readBracket 9 = .ok (.aload_n 0, 1) := by decide +kernel
theorem d_M_readBracket_10 : decode c0_M_readBracket 10 = .ok (.invokevirtual 90, 3) := by decide +kernel
theorem d_M_readBracket_13 : decode c0_M_readBracket 13 = .ok (.aload_n 0, 1) := by decide +kernel
theorem d_M_readBracket_14 : decode c0_M_readBracket 14 = .ok (.aload_n 0, 1) := by decide +kernel
theorem d_M_readBracket_15 : decode c0_M_readBracket 15 = .ok (.getfield 103, 3) := by decide +kernel
theorem d_M_readBracket_18 : decode c0_M_readBracket 18 = .ok (.iconst 1, 1) := by decide +kernel
theorem d_M_readBracket_19 : decode c0_M_readBracket 19 = .ok (.iadd, 1) := by decide +kernel
theorem d_M_readBracket_20 : decode c0_M_readBracket 20 = .ok (.putfield 103, 3) := by decide +kernel
theorem d_M_readBracket_23 : decode c0_M_readBracket 23 = .ok (.aload_n 0, 1) := by decide +kernel
theorem d_M_readBracket_24 : decode c0_M_readBracket 24 = .ok (.aload_n 0, 1) := by decide +kernel
theorem d_M_readBracket_25 : decode c0_M_readBracket 25 = .ok (.getfield 77, 3) := by decide +kernel
theorem d_M_readBracket_28 : decode c0_M_readBracket 28 = .ok (.iconst 1, 1) := by decide +kernel
theorem d_M_readBracket_29 : decode c0_M_readBracket 29 = .ok (.iadd, 1) := by decide +kernel
theorem d_M_readBracket_30 : decode c0_M_readBracket 30 = .ok (.putfield 77, 3) := by decide +kernel
theorem d_M_readBracket_33 : decode c0_M_readBracket 33 = .ok (.iconst 0, 1) := by decide +kernel
theorem d_M_readBracket_34 : decode c0_M_readBracket 34 = .ok (.istore_n 2, 1) := by decide +kernel
theorem d_M_readBracket_35 : decode c0_M_readBracket 35 = .ok (.iload_n 2, 1) := by decide +kernel
theorem d_M_readBracket_36 : decode c0_M_readBracket 36 = .ok (.iconst 4, 1) := by decide +kernel
theorem d_M_readBracket_37 : decode c0_M_readBracket 37 = .ok (.if_icmp .ge 20, 3) := by decide +kernel
theorem d_M_readBracket_40 : decode c0_M_readBracket 40 = .ok (.aload_n 0, 1) := by decide +kernel
