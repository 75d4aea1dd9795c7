theorem d_M_bracketHolds_3 : decode c0_M_bracketHolds 3 = .ok (.invokevirtual 133, 3) := by decide +kernel
theorem d_M_bracketHolds_6 : decode c0_M_bracketHolds 6 = .ok (.istore_n 2, 1) := by decide +kernel
theorem d_M_bracketHolds_7 : decode c0_M_bracketHolds 7 = .ok (.aload_n 0, 1) := by decide +kernel
theorem d_M_bracketHolds_8 : decode c0_M_bracketHolds 8 = .ok (.getfield 13, 3) := by decide +kernel
theorem d_M_bracketHolds_11 : decode c0_M_bracketHolds 11 = .ok (.iload_n 1, 1) := by decide +kernel
theorem d_M_bracketHolds_12 : decode c0_M_bracketHolds 12 = .ok (.iaload, 1) := by decide +kernel
theorem d_M_bracketHolds_13 : decode c0_M_bracketHolds 13 = .ok (.bipush 6, 2) := by decide +kernel
theorem d_M_bracketHolds_15 : decode c0_M_bracketHolds 15 = .ok (.if_icmp .ne 15, 3) := by decide +kernel
theorem d_M_bracketHolds_18 : decode c0_M_bracketHolds 18 = .ok (.iload_n 2, 1) := by decide +kernel
theorem d_M_bracketHolds_19 : decode c0_M_bracketHolds 19 = .ok (.ifCond .ge 7, 3) := by decide +kernel
theorem d_M_bracketHolds_22 : decode c0_M_bracketHolds 22 = .ok (.iconst 1, 1) := by decide +kernel
theorem d_M_bracketHolds_23 : decode c0_M_bracketHolds 23 = .ok (.goto 46, 3) := by decide +kernel
theorem d_M_bracketHolds_26 : decode c0_M_bracketHolds 26 = .ok (.iconst 0, 1) := by decide +kernel
theorem d_M_bracketHolds_27 : decode c0_M_bracketHolds 27 = .ok (.goto 42, 3) := by decide +kernel
theorem d_M_bracketHolds_30 : decode c0_M_bracketHolds 30 = .ok (.aload_n 0, 1) := by decide +kernel
theorem d_M_bracketHolds_31 : decode c0_M_bracketHolds 31 = .ok (.getfield 13, 3) := by decide +kernel
theorem d_M_bracketHolds_34 : decode c0_M_bracketHolds 34 = .ok (.iload_n 1, 1) := by decide +kernel
theorem d_M_bracketHolds_35 : decode c0_M_bracketHolds 35 = .ok (.iaload, 1) := by decide +kernel
theorem d_M_bracketHolds_36 : decode c0_M_bracketHolds 36 = .ok (.bipush 7, 2) := by decide +kernel
theorem d_M_bracketHolds_38 : decode c0_M_bracketHolds 38 = .ok (.if_icmp .ne 15, 3) := by decide +kernel
theorem d_M_bracketHolds_41 : decode c0_M_bracketHolds 41 = .ok (.iload_n 2, 1) := by decide +kernel
theorem d_M_bracketHolds_42 : decode c0_M_bracketHolds 42 = .ok (.ifCond .ne 7, 3) := by decide +kernel
theorem d_M_bracketHolds_45 : decode c0_M_bracketHolds 45 = .ok (.iconst 1, 1) := by decide +kernel
theorem d_M_bracketHolds_46 : decode c0_M_bracketHolds 46 = .ok (.goto 23, 3) := by decide +kernel
theorem d_M_bracketHolds_49 : decode c0_M_bracketHolds 49 = .ok (.iconst 0, 1) := by decide +kernel
theorem d_M_bracketHolds_50 : decode c0_M_bracketHolds 50 = .ok (.goto 19, 3) := by decide +kernel
theorem d_M_bracketHolds_53 : decode c0_M_bracketHolds 53 = .ok (.iload_n 2, 1) := by decide +kernel
theorem d_M_bracketHolds_54 : decode c0_M_bracketHolds 54 = .ok (.aload_n 0, 1) := by decide +kernel
theorem d_M_bracketHolds_55 : decode c0_M_bracketHolds 55 = .ok (.getfield 19, 3) := by decide +kernel
theorem d_M_bracketHolds_58 : decode c0_M_bracketHolds 58 = .ok (.iload_n 1, 1) := by decide +kernel
theorem d_M_bracketHolds_59 : decode c0_M_bracketHolds 59 = .ok (.iaload, 1) := by decide +kernel
theorem d_M_bracketHolds_60 : decode c0_M_bracketHolds 60 = .ok (.irem, 1) := by decide +kernel
theorem d_M_bracketHolds_61 : decode c0_M_bracketHolds 61 = .ok (.ifCond .ne 7, 3) := by decide +kernel
theorem d_M_bracketHolds_64 : decode c0_M_bracketHolds 64 = .ok (.iconst 1, 1) := by decide +kernel
theorem d_M_bracketHolds_65 : decode c0_M_bracketHolds 65 = .ok (.goto 4, 3) := by decide +kernel
theorem d_M_bracketHolds_68 : decode c0_M_bracketHolds 68 = .ok (.iconst 0, 1) := by decide +kernel
theorem d_M_bracketHolds_69 : decode c0_M_bracketHolds 69 = .ok (.ireturn, 1) := by decide +kernel
theorem d_M_hasQuantifier_0 : decode c0_M_hasQuantifier 0 = .ok (.iconst 0, 1) := by decide +kernel
theorem d_M_hasQuantifier_1 : decode c0_M_hasQuantifier 1 = .ok (.istore_n 2, 1) := by decide +kernel
theorem d_M_hasQuantifier_2 : decode c0_M_hasQuantifier 2 = .ok (.iload_n 1, 1) := by decide +kernel
theorem d_M_hasQuantifier_3 : decode c0_M_hasQuantifier 3 = .ok (.iconst 1, 1) := by decide +kernel
theorem d_M_hasQuantifier_4 : decode c0_M_hasQuantifier 4 = .ok (.iadd, 1) := by decide +kernel
theorem d_M_hasQuantifier_5 : decode c0_M_hasQuantifier 5 = .ok (.istore_n 3, 1) := by decide +kernel
theorem d_M_hasQuantifier_6 : decode c0_M_hasQuantifier 6 = .ok (.iload_n 3, 1) := by decide +kernel
theorem d_M_hasQuantifier_7 : decode c0_M_hasQuantifier 7 = .ok (.aload_n 0, 1) := by decide +kernel
theorem d_M_hasQuantifier_8 : decode c0_M_hasQuantifier 8 = .ok (.getfield 59, 3) := by decide +kernel
theorem d_M_hasQuantifier_11 : decode c0_M_hasQuantifier 11 = .ok (.if_icmp .ge 49, 3) := by decide +kernel
theorem d_M_hasQuantifier_14 : decode c0_M_hasQuantifier 14 = .ok (.iload_n 2, 1) := by decide +kernel
theorem d_M_hasQuantifier_15 : decode c0_M_hasQuantifier 15 = .ok (.ifCond .ne 33, 3) := by decide +kernel
theorem d_M_hasQuantifier_18 : decode c0_M_hasQuantifier 18 = .ok (.aload_n 0, 1) := by decide +kernel
theorem d_M_hasQuantifier_19 : decode c0_M_hasQuantifier 19 = .ok (.getfield 16, 3) := by decide +kernel
theorem d_M_hasQuantifier_22 : decode c0_M_hasQuantifier 22 = .ok (.iload_n 3, 1) := by decide +kernel
theorem d_M_hasQuantifier_23 : decode c0_M_hasQuantifier 23 = .ok (.iaload, 1) := by decide +kernel
theorem d_M_hasQuantifier_24 : decode c0_M_hasQuantifier 24 = .ok (.iload_n 1, 1) := by decide +kernel
theorem d_M_hasQuantifier_25 : decode c0_M_hasQuantifier 25 = .ok (.if_icmp .ne 27, 3) := by decide +kernel
theorem d_M_hasQuantifier_28 : decode c0_M_hasQuantifier 28 = .ok (.aload_n 0, 1) := by decide +kernel
theorem d_M_hasQuantifier_29 : decode c0_M_hasQuantifier 29 = .ok (.getfield 13, 3) := by decide +kernel
theorem d_M_hasQuantifier_32 : decode c0_M_hasQuantifier 32 = .ok (.iload_n 3, 1) := by decide +kernel
theorem d_M_hasQuantifier_33 : decode c0_M_hasQuantifier 33 = .ok (.iaload, 1) := by decide +kernel
theorem d_M_hasQuantifier_34 : decode c0_M_hasQuantifier 34 = .ok (.iconst 4, 1) := by decide +kernel
theorem d_M_hasQuantifier_35 : decode c0_M_hasQuantifier 35 = .ok (.if_icmp .eq 13, 3) := by decide +kernel
theorem d_M_hasQuantifier_38 : decode c0_M_hasQuantifier 38 = .ok (.aload_n 0, 1) := by decide +kernel
theorem d_M_hasQuantifier_39 : decode c0_M_hasQuantifier 39 = .ok (.getfield 13, 3) := by decide +kernel
theorem d_M_hasQuantifier_42 : decode c0_M_hasQuantifier 42 = .ok (.iload_n 3, 1) := by decide +kernel
theorem d_M_hasQuantifier_43 : decode c0_M_hasQuantifier 43 = .ok (.iaload, 1) := by decide +kernel
theorem d_M_hasQuantifier_44 : decode c0_M_hasQuantifier 44 = .ok (.iconst 5, 1) := by decide +kernel
theorem d_M_hasQuantifier_45 : decode c0_M_hasQuantifier 45 = .ok (.if_icmp .ne 7, 3) := by decide +kernel
theorem d_M_hasQuantifier_48 : decode c0_M_hasQuantifier 48 = .ok (.iconst 1, 1) := by decide +kernel
theorem d_M_hasQuantifier_49 : decode c0_M_hasQuantifier 49 = .ok (.goto 4, 3) := by decide +kernel
theorem d_M_hasQuantifier_52 : decode c0_M_hasQuantifier 52 = .ok (.iconst 0, 1) := by decide +kernel
theorem d_M_hasQuantifier_53 : decode c0_M_hasQuantifier 53 = .ok (.istore_n 2, 1) := by decide +kernel
theorem d_M_hasQuantifier_54 : decode c0_M_hasQuantifier 54 = .ok (.iinc 3 1, 3) := by decide +kernel
theorem d_M_hasQuantifier_57 : decode c0_M_hasQuantifier 57 = .ok (.goto (-51), 3) := by decide +kernel
theorem d_M_hasQuantifier_60 : decode c0_M_hasQuantifier 60 = .ok (.iload_n 2, 1) := by decide +kernel
theorem d_M_hasQuantifier_61 : decode c0_M_hasQuantifier 61 = .ok (.ireturn, 1) := by decide +kernel
theorem d_M_floor_0 : decode c0_M_floor 0 = .ok (.iload_n 0, 1) := by decide +kernel
theorem d_M_floor_1 : decode c0_M_floor 1 = .ok (.iload_n 1, 1) := by decide +kernel
theorem d_M_floor_2 : decode c0_M_floor 2 = .ok (.idiv, 1) := by decide +kernel
theorem d_M_floor_3 : decode c0_M_floor 3 = .ok (.istore_n 2, 1) := by decide +kernel
theorem d_M_floor_4 : decode c0_M_floor 4 = .ok (.iload_n 0, 1) := by decide +kernel
theorem d_M_floor_5 : decode c0_M_floor 5 = .ok (.iload_n 1, 1) := by decide +kernel
theorem d_M_floor_6 : decode c0_M_floor 6 = .ok (.irem, 1) := by decide +kernel
theorem d_M_floor_7 : decode c0_M_floor 7 = .ok (.ifCond .eq 30, 3) := by decide +kernel
theorem d_M_floor_10 : decode c0_M_floor 10 = .ok (.iload_n 0, 1) := by decide +kernel
theorem d_M_floor_11 : decode c0_M_floor 11 = .ok (.ifCond .ge 7, 3) := by decide +kernel
theorem d_M_floor_14 : decode c0_M_floor 14 = .ok (.iconst 1, 1) := by decide +kernel
theorem d_M_floor_15 : decode c0_M_floor 15 = .ok (.goto 4, 3) := by decide +kernel
theorem d_M_floor_18 : decode c0_M_floor 18 = .ok (.iconst 0, 1) := by decide +kernel
theorem d_M_floor_19 : decode c0_M_floor 19 = .ok (.iload_n 1, 1) := by decide +kernel
theorem d_M_floor_20 : decode c0_M_floor 20 = .ok (.ifCond .ge 7, 3) := by decide +kernel
theorem d_M_floor_23 : decode c0_M_floor 23 = .ok (.iconst 1, 1) := by decide +kernel
theorem d_M_floor_24 : decode c0_M_floor 24 = .ok (.goto 4, 3) := by decide +kernel
theorem d_M_floor_27 : decode c0_M_floor 27 = .ok (.iconst 0, 1) := by decide +kernel
theorem d_M_floor_28 : decode c0_M_floor 28 = .ok (.if_icmp .eq 9, 3) := by decide +kernel
theorem d_M_floor_31 : decode c0_M_floor 31 = .ok (.iload_n 2, 1) := by decide +kernel
theorem d_M_floor_32 : decode c0_M_floor 32 = .ok (.iconst 1, 1) := by decide +kernel
theorem d_M_floor_33 : decode c0_M_floor 33 = .ok (.isub, 1) := by decide +kernel
theorem d_M_floor_34 : decode c0_M_floor 34 = .ok (.goto 4, 3) := by decide +kernel
theorem d_M_floor_37 : decode c0_M_floor 37 = .ok (.iload_n 2, 1) := by decide +kernel
theorem d_M_floor_38 : decode c0_M_floor 38 = .ok (.ireturn, 1) := by decide +kernel
theorem d_M_joined_0 : decode c0_M_joined 0 = .ok (.iload_n 0, 1) := by decide +kernel
theorem d_M_joined_1 : decode c0_M_joined 1 = .ok (.ifCond .ne 19, 3) := by decide +kernel
theorem d_M_joined_4 : decode c0_M_joined 4 = .ok (.iload_n 1, 1) := by decide +kernel
theorem d_M_joined_5 : decode c0_M_joined 5 = .ok (.ifCond .eq 11, 3) := by decide +kernel
theorem d_M_joined_8 : decode c0_M_joined 8 = .ok (.iload_n 2, 1) := by decide +kernel
theorem d_M_joined_9 : decode c0_M_joined 9 = .ok (.ifCond .eq 7, 3) := by decide +kernel
theorem d_M_joined_12 : decode c0_M_joined 12 = .ok (.iconst 1, 1) := by decide +kernel
theorem d_M_joined_13 : decode c0_M_joined 13 = .ok (.goto 58, 3) := by decide +kernel
theorem d_M_joined_16 : decode c0_M_joined 16 = .ok (.iconst 0, 1) := by decide +kernel
theorem d_M_joined_17 : decode c0_M_joined 17 = .ok (.goto 54, 3) := by decide +kernel
theorem d_M_joined_20 : decode c0_M_joined 20 = .ok (.iload_n 0, 1) := by decide +kernel
theorem d_M_joined_21 : decode c0_M_joined 21 = .ok (.iconst 1, 1) := by decide +kernel
theorem d_M_joined_22 : decode c0_M_joined 22 = .ok (.if_icmp .ne 19, 3) := by decide +kernel
theorem d_M_joined_25 : decode c0_M_joined 25 = .ok (.iload_n 1, 1) := by decide +kernel
theorem d_M_joined_26 : decode c0_M_joined 26 = .ok (.ifCond .ne 7, 3) := by decide +kernel
theorem d_M_joined_29 : decode c0_M_joined 29 = .ok (.iload_n 2, 1) := by decide +kernel
theorem d_M_joined_30 : decode c0_M_joined 30 = .ok (.ifCond .eq 7, 3) := by decide +kernel
theorem d_M_joined_33 : decode c0_M_joined 33 = .ok (.iconst 1, 1) := by decide +kernel
theorem d_M_joined_34 : decode c0_M_joined 34 = .ok (.goto 37, 3) := by decide +kernel
theorem d_M_joined_37 : decode c0_M_joined 37 = .ok (.iconst 0, 1) := by decide +kernel
theorem d_M_joined_38 : decode c0_M_joined 38 = .ok (.goto 33, 3) := by decide +kernel
theorem d_M_joined_41 : decode c0_M_joined 41 = .ok (.iload_n 0, 1) := by decide +kernel
theorem d_M_joined_42 : decode c0_M_joined 42 = .ok (.iconst 2, 1) := by decide +kernel
theorem d_M_joined_43 : decode c0_M_joined 43 = .ok (.if_icmp .ne 19, 3) := by decide +kernel
theorem d_M_joined_46 : decode c0_M_joined 46 = .ok (.iload_n 1, 1) := by decide +kernel
theorem d_M_joined_47 : decode c0_M_joined 47 = .ok (.ifCond .eq 7, 3) := by decide +kernel
theorem d_M_joined_50 : decode c0_M_joined 50 = .ok (.iload_n 2, 1) := by decide +kernel
theorem d_M_joined_51 : decode c0_M_joined 51 = .ok (.ifCond .eq 7, 3) := by decide +kernel
theorem d_M_joined_54 : decode c0_M_joined 54 = .ok (.iconst 1, 1) := by decide +kernel
theorem d_M_joined_55 : decode c0_M_joined 55 = .ok (.goto 16, 3) := by decide +kernel
theorem d_M_joined_58 : decode c0_M_joined 58 = .ok (.iconst 0, 1) := by decide +kernel
theorem d_M_joined_59 : decode c0_M_joined 59 = .ok (.goto 12, 3) := by decide +kernel
theorem d_M_joined_62 : decode c0_M_joined 62 = .ok (.iload_n 1, 1) := by decide +kernel
theorem d_M_joined_63 : decode c0_M_joined 63 = .ok (.ifCond .ne 7, 3) := by decide +kernel
theorem d_M_joined_66 : decode c0_M_joined 66 = .ok (.iconst 1, 1) := by decide +kernel
theorem d_M_joined_67 : decode c0_M_joined 67 = .ok (.goto 4, 3) := by decide +kernel
theorem d_M_joined_70 : decode c0_M_joined 70 = .ok (.iconst 0, 1) := by decide +kernel
theorem d_M_joined_71 : decode c0_M_joined 71 = .ok (.ireturn, 1) := by decide +kernel
theorem d_M_lowHolds_0 : decode c0_M_lowHolds 0 = .ok (.iconst 0, 1) := by decide +kernel
theorem d_M_lowHolds_1 : decode c0_M_lowHolds 1 = .ok (.istore_n 2, 1) := by decide +kernel
theorem d_M_lowHolds_2 : decode c0_M_lowHolds 2 = .ok (.aload_n 0, 1) := by decide +kernel
theorem d_M_lowHolds_3 : decode c0_M_lowHolds 3 = .ok (.getfield 59, 3) := by decide +kernel
theorem d_M_lowHolds_6 : decode c0_M_lowHolds 6 = .ok (.iconst 1, 1) := by decide +kernel
theorem d_M_lowHolds_7 : decode c0_M_lowHolds 7 = .ok (.isub, 1) := by decide +kernel
theorem d_M_lowHolds_8 : decode c0_M_lowHolds 8 = .ok (.istore_n 3, 1) := by decide +kernel
theorem d_M_lowHolds_9 : decode c0_M_lowHolds 9 = .ok (.iload_n 3, 1) := by decide +kernel
theorem d_M_lowHolds_10 : decode c0_M_lowHolds 10 = .ok (.iload_n 1, 1) := by decide +kernel
theorem d_M_lowHolds_11 : decode c0_M_lowHolds 11 = .ok (.if_icmp .le 132, 3) := by decide +kernel
theorem d_M_lowHolds_14 : decode c0_M_lowHolds 14 = .ok (.aload_n 0, 1) := by decide +kernel
theorem d_M_lowHolds_15 : decode c0_M_lowHolds 15 = .ok (.getfield 16, 3) := by decide +kernel
theorem d_M_lowHolds_18 : decode c0_M_lowHolds 18 = .ok (.iload_n 3, 1) := by decide +kernel
theorem d_M_lowHolds_19 : decode c0_M_lowHolds 19 = .ok (.iaload, 1) := by decide +kernel
theorem d_M_lowHolds_20 : decode c0_M_lowHolds 20 = .ok (.iload_n 1, 1) := by decide +kernel
theorem d_M_lowHolds_21 : decode c0_M_lowHolds 21 = .ok (.if_icmp .ne 29, 3) := by decide +kernel
theorem d_M_lowHolds_24 : decode c0_M_lowHolds 24 = .ok (.aload_n 0, 1) := by decide +kernel
theorem d_M_lowHolds_25 : decode c0_M_lowHolds 25 = .ok (.iload_n 3, 1) := by decide +kernel
theorem d_M_lowHolds_26 : decode c0_M_lowHolds 26 = .ok (.invokevirtual 137, 3) := by decide +kernel
theorem d_M_lowHolds_29 : decode c0_M_lowHolds 29 = .ok (.ifCond .eq 21, 3) := by decide +kernel
theorem d_M_lowHolds_32 : decode c0_M_lowHolds 32 = .ok (.aload_n 0, 1) := by decide +kernel
theorem d_M_lowHolds_33 : decode c0_M_lowHolds 33 = .ok (.getfield 49, 3) := by decide +kernel
theorem d_M_lowHolds_36 : decode c0_M_lowHolds 36 = .ok (.iload_n 2, 1) := by decide +kernel
theorem d_M_lowHolds_37 : decode c0_M_lowHolds 37 = .ok (.aload_n 0, 1) := by decide +kernel
theorem d_M_lowHolds_38 : decode c0_M_lowHolds 38 = .ok (.iload_n 3, 1) := by decide +kernel
theorem d_M_lowHolds_39 : decode c0_M_lowHolds 39 = .ok (.invokevirtual 140, 3) := by decide +kernel
theorem d_M_lowHolds_42 : decode c0_M_lowHolds 42 = .ok (.bastore, 1) := by decide +kernel
theorem d_M_lowHolds_43 : decode c0_M_lowHolds 43 = .ok (.iload_n 2, 1) := by decide +kernel
theorem d_M_lowHolds_44 : decode c0_M_lowHolds 44 = .ok (.iconst 1, 1) := by decide +kernel
theorem d_M_lowHolds_45 : decode c0_M_lowHolds 45 = .ok (.iadd, 1) := by decide +kernel
theorem d_M_lowHolds_46 : decode c0_M_lowHolds 46 = .ok (.istore_n 2, 1) := by decide +kernel
theorem d_M_lowHolds_47 : decode c0_M_lowHolds 47 = .ok (.goto 90, 3) := by decide +kernel
theorem d_M_lowHolds_50 : decode c0_M_lowHolds 50 = .ok (.aload_n 0, 1) := by decide +kernel
theorem d_M_lowHolds_51 : decode c0_M_lowHolds 51 = .ok (.getfield 16, 3) := by decide +kernel
theorem d_M_lowHolds_54 : decode c0_M_lowHolds 54 = .ok (.iload_n 3, 1) := by decide +kernel
theorem d_M_lowHolds_55 : decode c0_M_lowHolds 55 = .ok (.iaload, 1) := by decide +kernel
theorem d_M_lowHolds_56 : decode c0_M_lowHolds 56 = .ok (.iload_n 1, 1) := by decide +kernel
theorem d_M_lowHolds_57 : decode c0_M_lowHolds 57 = .ok (.if_icmp .ne 80, 3) := by decide +kernel
theorem d_M_lowHolds_60 : decode c0_M_lowHolds 60 = .ok (.aload_n 0, 1) := by decide +kernel
theorem d_M_lowHolds_61 : decode c0_M_lowHolds 61 = .ok (.getfield 49, 3) := by decide +kernel
theorem d_M_lowHolds_64 : decode c0_M_lowHolds 64 = .ok (.iload_n 2, 1) := by decide +kernel
theorem d_M_lowHolds_65 : decode c0_M_lowHolds 65 = .ok (.iconst 1, 1) := by decide +kernel
theorem d_M_lowHolds_66 : decode c0_M_lowHolds 66 = .ok (.isub, 1) := by decide +kernel
theorem d_M_lowHolds_67 : decode c0_M_lowHolds 67 = .ok (.baload, 1) := by decide +kernel
theorem d_M_lowHolds_68 : decode c0_M_lowHolds 68 = .ok (.istore 4, 2) := by decide +kernel
theorem d_M_lowHolds_70 : decode c0_M_lowHolds 70 = .ok (.aload_n 0, 1) := by decide +kernel
theorem d_M_lowHolds_71 : decode c0_M_lowHolds 71 = .ok (.getfield 13, 3) := by decide +kernel
theorem d_M_lowHolds_74 : decode c0_M_lowHolds 74 = .ok (.iload_n 3, 1) := by decide +kernel
theorem d_M_lowHolds_75 : decode c0_M_lowHolds 75 = .ok (.iaload, 1) := by decide +kernel
theorem d_M_lowHolds_76 : decode c0_M_lowHolds 76 = .ok (.iconst 3, 1) := by decide +kernel
theorem d_M_lowHolds_77 : decode c0_M_lowHolds 77 = .ok (.if_icmp .ge 18, 3) := by decide +kernel
theorem d_M_lowHolds_80 : decode c0_M_lowHolds 80 = .ok (.aload_n 0, 1) := by decide +kernel
theorem d_M_lowHolds_81 : decode c0_M_lowHolds 81 = .ok (.getfield 49, 3) := by decide +kernel
theorem d_M_lowHolds_84 : decode c0_M_lowHolds 84 = .ok (.iload_n 2, 1) := by decide +kernel
theorem d_M_lowHolds_85 : decode c0_M_lowHolds 85 = .ok (.iconst 2, 1) := by decide +kernel
theorem d_M_lowHolds_86 : decode c0_M_lowHolds 86 = .ok (.isub, 1) := by decide +kernel
theorem d_M_lowHolds_87 : decode c0_M_lowHolds 87 = .ok (.baload, 1) := by decide +kernel
theorem d_M_lowHolds_88 : decode c0_M_lowHolds 88 = .ok (.ifCond .eq 7, 3) := by decide +kernel
theorem d_M_lowHolds_91 : decode c0_M_lowHolds 91 = .ok (.iconst 1, 1) := by decide +kernel
theorem d_M_lowHolds_92 : decode c0_M_lowHolds 92 = .ok (.goto 4, 3) := by decide +kernel
theorem d_M_lowHolds_95 : decode c0_M_lowHolds 95 = .ok (.iconst 0, 1) := by decide +kernel
theorem d_M_lowHolds_96 : decode c0_M_lowHolds 96 = .ok (.istore 5, 2) := by decide +kernel
theorem d_M_lowHolds_98 : decode c0_M_lowHolds 98 = .ok (.aload_n 0, 1) := by decide +kernel
theorem d_M_lowHolds_99 : decode c0_M_lowHolds 99 = .ok (.getfield 13, 3) := by decide +kernel
theorem d_M_lowHolds_102 : decode c0_M_lowHolds 102 = .ok (.iload_n 3, 1) := by decide +kernel
theorem d_M_lowHolds_103 : decode c0_M_lowHolds 103 = .ok (.iaload, 1) := by decide +kernel
theorem d_M_lowHolds_104 : decode c0_M_lowHolds 104 = .ok (.iconst 3, 1) := by decide +kernel
theorem d_M_lowHolds_105 : decode c0_M_lowHolds 105 = .ok (.if_icmp .ge 9, 3) := by decide +kernel
theorem d_M_lowHolds_108 : decode c0_M_lowHolds 108 = .ok (.iload_n 2, 1) := by decide +kernel
theorem d_M_lowHolds_109 : decode c0_M_lowHolds 109 = .ok (.iconst 1, 1) := by decide +kernel
theorem d_M_lowHolds_110 : decode c0_M_lowHolds 110 = .ok (.isub, 1) := by decide +kernel
theorem d_M_lowHolds_111 : decode c0_M_lowHolds 111 = .ok (.goto 4, 3) := by decide +kernel
theorem d_M_lowHolds_114 : decode c0_M_lowHolds 114 = .ok (.iload_n 2, 1) := by decide +kernel
theorem d_M_lowHolds_115 : decode c0_M_lowHolds 115 = .ok (.istore_n 2, 1) := by decide +kernel
theorem d_M_lowHolds_116 : decode c0_M_lowHolds 116 = .ok (.aload_n 0, 1) := by decide +kernel
theorem d_M_lowHolds_117 : decode c0_M_lowHolds 117 = .ok (.getfield 49, 3) := by decide +kernel
theorem d_M_lowHolds_120 : decode c0_M_lowHolds 120 = .ok (.iload_n 2, 1) := by decide +kernel
theorem d_M_lowHolds_121 : decode c0_M_lowHolds 121 = .ok (.iconst 1, 1) := by decide +kernel
theorem d_M_lowHolds_122 : decode c0_M_lowHolds 122 = .ok (.isub, 1) := by decide +kernel
theorem d_M_lowHolds_123 : decode c0_M_lowHolds 123 = .ok (.aload_n 0, 1) := by decide +kernel
theorem d_M_lowHolds_124 : decode c0_M_lowHolds 124 = .ok (.getfield 13, 3) := by decide +kernel
theorem d_M_lowHolds_127 : decode c0_M_lowHolds 127 = .ok (.iload_n 3, 1) := by decide +kernel
theorem d_M_lowHolds_128 : decode c0_M_lowHolds 128 = .ok (.iaload, 1) := by decide +kernel
theorem d_M_lowHolds_129 : decode c0_M_lowHolds 129 = .ok (.iload 4, 2) := by decide +kernel
theorem d_M_lowHolds_131 : decode c0_M_lowHolds 131 = .ok (.iload 5, 2) := by decide +kernel
theorem d_M_lowHolds_133 : decode c0_M_lowHolds 133 = .ok (.invokestatic 143, 3) := by decide +kernel
theorem d_M_lowHolds_136 : decode c0_M_lowHolds 136 = .ok (.bastore, 1) := by decide +kernel
theorem d_M_lowHolds_137 : decode c0_M_lowHolds 137 = .ok (.iinc 3 (-1), 3) := by decide +kernel
theorem d_M_lowHolds_140 : decode c0_M_lowHolds 140 = .ok (.goto (-131), 3) := by decide +kernel
theorem d_M_lowHolds_143 : decode c0_M_lowHolds 143 = .ok (.aload_n 0, 1) := by decide +kernel
theorem d_M_lowHolds_144 : decode c0_M_lowHolds 144 = .ok (.getfield 49, 3) := by decide +kernel
theorem d_M_lowHolds_147 : decode c0_M_lowHolds 147 = .ok (.iconst 0, 1) := by decide +kernel
theorem d_M_lowHolds_148 : decode c0_M_lowHolds 148 = .ok (.baload, 1) := by decide +kernel
theorem d_M_lowHolds_149 : decode c0_M_lowHolds 149 = .ok (.ireturn, 1) := by decide +kernel
theorem d_M_lowQuantifier_0 : decode c0_M_lowQuantifier 0 = .ok (.aload_n 0, 1) := by decide +kernel
theorem d_M_lowQuantifier_1 : decode c0_M_lowQuantifier 1 = .ok (.getfield 13, 3) := by decide +kernel
theorem d_M_lowQuantifier_4 : decode c0_M_lowQuantifier 4 = .ok (.iload_n 1, 1) := by decide +kernel
theorem d_M_lowQuantifier_5 : decode c0_M_lowQuantifier 5 = .ok (.iaload, 1) := by decide +kernel
theorem d_M_lowQuantifier_6 : decode c0_M_lowQuantifier 6 = .ok (.iconst 4, 1) := by decide +kernel
theorem d_M_lowQuantifier_7 : decode c0_M_lowQuantifier 7 = .ok (.if_icmp .ne 7, 3) := by decide +kernel
theorem d_M_lowQuantifier_10 : decode c0_M_lowQuantifier 10 = .ok (.iconst 1, 1) := by decide +kernel
theorem d_M_lowQuantifier_11 : decode c0_M_lowQuantifier 11 = .ok (.goto 4, 3) := by decide +kernel
theorem d_M_lowQuantifier_14 : decode c0_M_lowQuantifier 14 = .ok (.iconst 0, 1) := by decide +kernel
theorem d_M_lowQuantifier_15 : decode c0_M_lowQuantifier 15 = .ok (.istore_n 2, 1) := by decide +kernel
theorem d_M_lowQuantifier_16 : decode c0_M_lowQuantifier 16 = .ok (.aload_n 0, 1) := by decide +kernel
theorem d_M_lowQuantifier_17 : decode c0_M_lowQuantifier 17 = .ok (.getfield 19, 3) := by decide +kernel
theorem d_M_lowQuantifier_20 : decode c0_M_lowQuantifier 20 = .ok (.iload_n 1, 1) := by decide +kernel
theorem d_M_lowQuantifier_21 : decode c0_M_lowQuantifier 21 = .ok (.iaload, 1) := by decide +kernel
theorem d_M_lowQuantifier_22 : decode c0_M_lowQuantifier 22 = .ok (.istore_n 3, 1) := by decide +kernel
theorem d_M_lowQuantifier_23 : decode c0_M_lowQuantifier 23 = .ok (.aload_n 0, 1) := by decide +kernel
theorem d_M_lowQuantifier_24 : decode c0_M_lowQuantifier 24 = .ok (.getfield 46, 3) := by decide +kernel
theorem d_M_lowQuantifier_27 : decode c0_M_lowQuantifier 27 = .ok (.iload_n 3, 1) := by decide +kernel
theorem d_M_lowQuantifier_28 : decode c0_M_lowQuantifier 28 = .ok (.iaload, 1) := by decide +kernel
theorem d_M_lowQuantifier_29 : decode c0_M_lowQuantifier 29 = .ok (.istore 4, 2) := by decide +kernel
theorem d_M_lowQuantifier_31 : decode c0_M_lowQuantifier 31 = .ok (.iconst 0, 1) := by decide +kernel
theorem d_M_lowQuantifier_32 : decode c0_M_lowQuantifier 32 = .ok (.istore 5, 2) := by decide +kernel
theorem d_M_lowQuantifier_34 : decode c0_M_lowQuantifier 34 = .ok (.iload_n 1, 1) := by decide +kernel
theorem d_M_lowQuantifier_35 : decode c0_M_lowQuantifier 35 = .ok (.istore 6, 2) := by decide +kernel
theorem d_M_lowQuantifier_37 : decode c0_M_lowQuantifier 37 = .ok (.iload 6, 2) := by decide +kernel
theorem d_M_lowQuantifier_39 : decode c0_M_lowQuantifier 39 = .ok (.aload_n 0, 1) := by decide +kernel
theorem d_M_lowQuantifier_40 : decode c0_M_lowQuantifier 40 = .ok (.getfield 59, 3) := by decide +kernel
theorem d_M_lowQuantifier_43 : decode c0_M_lowQuantifier 43 = .ok (.if_icmp .ge 154, 3) := by decide +kernel
theorem d_M_lowQuantifier_46 : decode c0_M_lowQuantifier 46 = .ok (.iload 5, 2) := by decide +kernel
theorem d_M_lowQuantifier_48 : decode c0_M_lowQuantifier 48 = .ok (.ifCond .ne 149, 3) := by decide +kernel
theorem d_M_lowQuantifier_51 : decode c0_M_lowQuantifier 51 = .ok (.iload 6, 2) := by decide +kernel
theorem d_M_lowQuantifier_53 : decode c0_M_lowQuantifier 53 = .ok (.iload_n 1, 1) := by decide +kernel
theorem d_M_lowQuantifier_54 : decode c0_M_lowQuantifier 54 = .ok (.if_icmp .le 41, 3) := by decide +kernel
theorem d_M_lowQuantifier_57 : decode c0_M_lowQuantifier 57 = .ok (.aload_n 0, 1) := by decide +kernel
theorem d_M_lowQuantifier_58 : decode c0_M_lowQuantifier 58 = .ok (.getfield 16, 3) := by decide +kernel
theorem d_M_lowQuantifier_61 : decode c0_M_lowQuantifier 61 = .ok (.iload 6, 2) := by decide +kernel
theorem d_M_lowQuantifier_63 : decode c0_M_lowQuantifier 63 = .ok (.iaload, 1) := by decide +kernel
theorem d_M_lowQuantifier_64 : decode c0_M_lowQuantifier 64 = .ok (.iload_n 1, 1) := by decide +kernel
theorem d_M_lowQuantifier_65 : decode c0_M_lowQuantifier 65 = .ok (.if_icmp .ne 30, 3) := by decide +kernel
theorem d_M_lowQuantifier_68 : decode c0_M_lowQuantifier 68 = .ok (.aload_n 0, 1) := by decide +kernel
theorem d_M_lowQuantifier_69 : decode c0_M_lowQuantifier 69 = .ok (.iload 6, 2) := by decide +kernel
theorem d_M_lowQuantifier_71 : decode c0_M_lowQuantifier 71 = .ok (.invokevirtual 137, 3) := by decide +kernel
theorem d_M_lowQuantifier_74 : decode c0_M_lowQuantifier 74 = .ok (.ifCond .eq 21, 3) := by decide +kernel
theorem d_M_lowQuantifier_77 : decode c0_M_lowQuantifier 77 = .ok (.aload_n 0, 1) := by decide +kernel
theorem d_M_lowQuantifier_78 : decode c0_M_lowQuantifier 78 = .ok (.getfield 22, 3) := by decide +kernel
theorem d_M_lowQuantifier_81 : decode c0_M_lowQuantifier 81 = .ok (.iconst 4, 1) := by decide +kernel
theorem d_M_lowQuantifier_82 : decode c0_M_lowQuantifier 82 = .ok (.iload 6, 2) := by decide +kernel
theorem d_M_lowQuantifier_84 : decode c0_M_lowQuantifier 84 = .ok (.imul, 1) := by decide +kernel
theorem d_M_lowQuantifier_85 : decode c0_M_lowQuantifier 85 = .ok (.iload_n 3, 1) := by decide +kernel
theorem d_M_lowQuantifier_86 : decode c0_M_lowQuantifier 86 = .ok (.iadd, 1) := by decide +kernel
theorem d_M_lowQuantifier_87 : decode c0_M_lowQuantifier 87 = .ok (.iaload, 1) := by decide +kernel
theorem d_M_lowQuantifier_88 : decode c0_M_lowQuantifier 88 = .ok (.ifCond .eq 7, 3) := by decide +kernel
theorem d_M_lowQuantifier_91 : decode c0_M_lowQuantifier 91 = .ok (.iconst 1, 1) := by decide +kernel
theorem d_M_lowQuantifier_92 : decode c0_M_lowQuantifier 92 = .ok (.goto 4, 3) := by decide +kernel
theorem d_M_lowQuantifier_95 : decode c0_M_lowQuantifier 95 = .ok (.iconst 0, 1) := by decide +kernel
theorem d_M_lowQuantifier_96 : decode c0_M_lowQuantifier 96 = .ok (.istore 7, 2) := by decide +kernel
theorem d_M_lowQuantifier_98 : decode c0_M_lowQuantifier 98 = .ok (.iload 7, 2) := by decide +kernel
theorem d_M_lowQuantifier_100 : decode c0_M_lowQuantifier 100 = .ok (.ifCond .eq 28, 3) := by decide +kernel
theorem d_M_lowQuantifier_103 : decode c0_M_lowQuantifier 103 = .ok (.aload_n 0, 1) := by decide +kernel
theorem d_M_lowQuantifier_104 : decode c0_M_lowQuantifier 104 = .ok (.iload 6, 2) := by decide +kernel
theorem d_M_lowQuantifier_106 : decode c0_M_lowQuantifier 106 = .ok (.iload_n 3, 1) := by decide +kernel
theorem d_M_lowQuantifier_107 : decode c0_M_lowQuantifier 107 = .ok (.invokevirtual 133, 3) := by decide +kernel
theorem d_M_lowQuantifier_110 : decode c0_M_lowQuantifier 110 = .ok (.ineg, 1) := by decide +kernel
theorem d_M_lowQuantifier_111 : decode c0_M_lowQuantifier 111 = .ok (.aload_n 0, 1) := by decide +kernel
theorem d_M_lowQuantifier_112 : decode c0_M_lowQuantifier 112 = .ok (.getfield 22, 3) := by decide +kernel
theorem d_M_lowQuantifier_115 : decode c0_M_lowQuantifier 115 = .ok (.iconst 4, 1) := by decide +kernel
theorem d_M_lowQuantifier_116 : decode c0_M_lowQuantifier 116 = .ok (.iload 6, 2) := by decide +kernel
theorem d_M_lowQuantifier_118 : decode c0_M_lowQuantifier 118 = .ok (.imul, 1) := by decide +kernel
theorem d_M_lowQuantifier_119 : decode c0_M_lowQuantifier 119 = .ok (.iload_n 3, 1) := by decide +kernel
theorem d_M_lowQuantifier_120 : decode c0_M_lowQuantifier 120 = .ok (.iadd, 1) := by decide +kernel
theorem d_M_lowQuantifier_121 : decode c0_M_lowQuantifier 121 = .ok (.iaload, 1) := by decide +kernel
theorem d_M_lowQuantifier_122 : decode c0_M_lowQuantifier 122 = .ok (.invokestatic 147, 3) := by decide +kernel
theorem d_M_lowQuantifier_125 : decode c0_M_lowQuantifier 125 = .ok (.goto 4, 3) := by decide +kernel
theorem d_M_lowQuantifier_128 : decode c0_M_lowQuantifier 128 = .ok (.iconst 0, 1) := by decide +kernel
theorem d_M_lowQuantifier_129 : decode c0_M_lowQuantifier 129 = .ok (.istore 8, 2) := by decide +kernel
theorem d_M_lowQuantifier_131 : decode c0_M_lowQuantifier 131 = .ok (.bipush (-7), 2) := by decide +kernel
theorem d_M_lowQuantifier_133 : decode c0_M_lowQuantifier 133 = .ok (.istore 9, 2) := by decide +kernel
theorem d_M_lowQuantifier_135 : decode c0_M_lowQuantifier 135 = .ok (.iload 9, 2) := by decide +kernel
theorem d_M_lowQuantifier_137 : decode c0_M_lowQuantifier 137 = .ok (.bipush 7, 2) := by decide +kernel
theorem d_M_lowQuantifier_139 : decode c0_M_lowQuantifier 139 = .ok (.if_icmp .gt 52, 3) := by decide +kernel
theorem d_M_lowQuantifier_142 : decode c0_M_lowQuantifier 142 = .ok (.iload 5, 2) := by decide +kernel
theorem d_M_lowQuantifier_144 : decode c0_M_lowQuantifier 144 = .ok (.ifCond .ne 47, 3) := by decide +kernel
theorem d_M_lowQuantifier_147 : decode c0_M_lowQuantifier 147 = .ok (.iload 7, 2) := by decide +kernel
theorem d_M_lowQuantifier_149 : decode c0_M_lowQuantifier 149 = .ok (.ifCond .ne 9, 3) := by decide +kernel
theorem d_M_lowQuantifier_152 : decode c0_M_lowQuantifier 152 = .ok (.iload 6, 2) := by decide +kernel
theorem d_M_lowQuantifier_154 : decode c0_M_lowQuantifier 154 = .ok (.iload_n 1, 1) := by decide +kernel
theorem d_M_lowQuantifier_155 : decode c0_M_lowQuantifier 155 = .ok (.if_icmp .ne 36, 3) := by decide +kernel
theorem d_M_lowQuantifier_158 : decode c0_M_lowQuantifier 158 = .ok (.aload_n 0, 1) := by decide +kernel
theorem d_M_lowQuantifier_159 : decode c0_M_lowQuantifier 159 = .ok (.getfield 46, 3) := by decide +kernel
theorem d_M_lowQuantifier_162 : decode c0_M_lowQuantifier 162 = .ok (.iload_n 3, 1) := by decide +kernel
theorem d_M_lowQuantifier_163 : decode c0_M_lowQuantifier 163 = .ok (.iload 8, 2) := by decide +kernel
theorem d_M_lowQuantifier_165 : decode c0_M_lowQuantifier 165 = .ok (.iload 9, 2) := by decide +kernel
theorem d_M_lowQuantifier_167 : decode c0_M_lowQuantifier 167 = .ok (.iadd, 1) := by decide +kernel
theorem d_M_lowQuantifier_168 : decode c0_M_lowQuantifier 168 = .ok (.iastore, 1) := by decide +kernel
theorem d_M_lowQuantifier_169 : decode c0_M_lowQuantifier 169 = .ok (.aload_n 0, 1) := by decide +kernel
theorem d_M_lowQuantifier_170 : decode c0_M_lowQuantifier 170 = .ok (.iload_n 1, 1) := by decide +kernel
theorem d_M_lowQuantifier_171 : decode c0_M_lowQuantifier 171 = .ok (.invokevirtual 150, 3) := by decide +kernel
theorem d_M_lowQuantifier_174 : decode c0_M_lowQuantifier 174 = .ok (.iload_n 2, 1) := by decide +kernel
theorem d_M_lowQuantifier_175 : decode c0_M_lowQuantifier 175 = .ok (.if_icmp .ne 7, 3) := by decide +kernel
theorem d_M_lowQuantifier_178 : decode c0_M_lowQuantifier 178 = .ok (.iconst 1, 1) := by decide +kernel
theorem d_M_lowQuantifier_179 : decode c0_M_lowQuantifier 179 = .ok (.goto 4, 3) := by decide +kernel
theorem d_M_lowQuantifier_182 : decode c0_M_lowQuantifier 182 = .ok (.iconst 0, 1) := by decide +kernel
theorem d_M_lowQuantifier_183 : decode c0_M_lowQuantifier 183 = .ok (.istore 5, 2) := by decide +kernel
theorem d_M_lowQuantifier_185 : decode c0_M_lowQuantifier 185 = .ok (.iinc 9 1, 3) := by decide +kernel
theorem d_M_lowQuantifier_188 : decode c0_M_lowQuantifier 188 = .ok (.goto (-53), 3) := by decide +kernel
theorem d_M_lowQuantifier_191 : decode c0_M_lowQuantifier 191 = .ok (.iinc 6 1, 3) := by decide +kernel
theorem d_M_lowQuantifier_194 : decode c0_M_lowQuantifier 194 = .ok (.goto (-157), 3) := by decide +kernel
theorem d_M_lowQuantifier_197 : decode c0_M_lowQuantifier 197 = .ok (.aload_n 0, 1) := by decide +kernel
theorem d_M_lowQuantifier_198 : decode c0_M_lowQuantifier 198 = .ok (.getfield 46, 3) := by decide +kernel
theorem d_M_lowQuantifier_201 : decode c0_M_lowQuantifier 201 = .ok (.iload_n 3, 1) := by decide +kernel
theorem d_M_lowQuantifier_202 : decode c0_M_lowQuantifier 202 = .ok (.iload 4, 2) := by decide +kernel
theorem d_M_lowQuantifier_204 : decode c0_M_lowQuantifier 204 = .ok (.iastore, 1) := by decide +kernel
theorem d_M_lowQuantifier_205 : decode c0_M_lowQuantifier 205 = .ok (.iload 5, 2) := by decide +kernel
theorem d_M_lowQuantifier_207 : decode c0_M_lowQuantifier 207 = .ok (.iload_n 2, 1) := by decide +kernel
theorem d_M_lowQuantifier_208 : decode c0_M_lowQuantifier 208 = .ok (.if_icmp .ne 7, 3) := by decide +kernel
theorem d_M_lowQuantifier_211 : decode c0_M_lowQuantifier 211 = .ok (.iconst 1, 1) := by decide +kernel
theorem d_M_lowQuantifier_212 : decode c0_M_lowQuantifier 212 = .ok (.goto 4, 3) := by decide +kernel
theorem d_M_lowQuantifier_215 : decode c0_M_lowQuantifier 215 = .ok (.iconst 0, 1) := by decide +kernel
theorem d_M_lowQuantifier_216 : decode c0_M_lowQuantifier 216 = .ok (.ireturn, 1) := by decide +kernel
theorem d_M_middleHolds_0 : decode c0_M_middleHolds 0 = .ok (.iconst 0, 1) := by decide +kernel
theorem d_M_middleHolds_1 : decode c0_M_middleHolds 1 = .ok (.istore_n 2, 1) := by decide +kernel
theorem d_M_middleHolds_2 : decode c0_M_middleHolds 2 = .ok (.aload_n 0, 1) := by decide +kernel
theorem d_M_middleHolds_3 : decode c0_M_middleHolds 3 = .ok (.getfield 59, 3) := by decide +kernel
theorem d_M_middleHolds_6 : decode c0_M_middleHolds 6 = .ok (.iconst 1, 1) := by decide +kernel
theorem d_M_middleHolds_7 : decode c0_M_middleHolds 7 = .ok (.isub, 1) := by decide +kernel
theorem d_M_middleHolds_8 : decode c0_M_middleHolds 8 = .ok (.istore_n 3, 1) := by decide +kernel
theorem d_M_middleHolds_9 : decode c0_M_middleHolds 9 = .ok (.iload_n 3, 1) := by decide +kernel
theorem d_M_middleHolds_10 : decode c0_M_middleHolds 10 = .ok (.iload_n 1, 1) := by decide +kernel
theorem d_M_middleHolds_11 : decode c0_M_middleHolds 11 = .ok (.if_icmp .le 150, 3) := by decide +kernel
theorem d_M_middleHolds_14 : decode c0_M_middleHolds 14 = .ok (.aload_n 0, 1) := by decide +kernel
theorem d_M_middleHolds_15 : decode c0_M_middleHolds 15 = .ok (.getfield 16, 3) := by decide +kernel
theorem d_M_middleHolds_18 : decode c0_M_middleHolds 18 = .ok (.iload_n 3, 1) := by decide +kernel
theorem d_M_middleHolds_19 : decode c0_M_middleHolds 19 = .ok (.iaload, 1) := by decide +kernel
theorem d_M_middleHolds_20 : decode c0_M_middleHolds 20 = .ok (.iload_n 1, 1) := by decide +kernel
theorem d_M_middleHolds_21 : decode c0_M_middleHolds 21 = .ok (.if_icmp .ne 47, 3) := by decide +kernel
theorem d_M_middleHolds_24 : decode c0_M_middleHolds 24 = .ok (.aload_n 0, 1) := by decide +kernel
theorem d_M_middleHolds_25 : decode c0_M_middleHolds 25 = .ok (.getfield 13, 3) := by decide +kernel
theorem d_M_middleHolds_28 : decode c0_M_middleHolds 28 = .ok (.iload_n 3, 1) := by decide +kernel
theorem d_M_middleHolds_29 : decode c0_M_middleHolds 29 = .ok (.iaload, 1) := by decide +kernel
theorem d_M_middleHolds_30 : decode c0_M_middleHolds 30 = .ok (.iconst 4, 1) := by decide +kernel
theorem d_M_middleHolds_31 : decode c0_M_middleHolds 31 = .ok (.if_icmp .lt 37, 3) := by decide +kernel
theorem d_M_middleHolds_34 : decode c0_M_middleHolds 34 = .ok (.aload_n 0, 1) := by decide +kernel
theorem d_M_middleHolds_35 : decode c0_M_middleHolds 35 = .ok (.getfield 53, 3) := by decide +kernel
theorem d_M_middleHolds_38 : decode c0_M_middleHolds 38 = .ok (.iload_n 2, 1) := by decide +kernel
theorem d_M_middleHolds_39 : decode c0_M_middleHolds 39 = .ok (.aload_n 0, 1) := by decide +kernel
theorem d_M_middleHolds_40 : decode c0_M_middleHolds 40 = .ok (.iload_n 3, 1) := by decide +kernel
theorem d_M_middleHolds_41 : decode c0_M_middleHolds 41 = .ok (.invokevirtual 137, 3) := by decide +kernel
theorem d_M_middleHolds_44 : decode c0_M_middleHolds 44 = .ok (.ifCond .eq 11, 3) := by decide +kernel
theorem d_M_middleHolds_47 : decode c0_M_middleHolds 47 = .ok (.aload_n 0, 1) := by decide +kernel
theorem d_M_middleHolds_48 : decode c0_M_middleHolds 48 = .ok (.iload_n 3, 1) := by decide +kernel
theorem d_M_middleHolds_49 : decode c0_M_middleHolds 49 = .ok (.invokevirtual 140, 3) := by decide +kernel
theorem d_M_middleHolds_52 : decode c0_M_middleHolds 52 = .ok (.goto 8, 3) := by decide +kernel
theorem d_M_middleHolds_55 : decode c0_M_middleHolds 55 = .ok (.aload_n 0, 1) := by decide +kernel
theorem d_M_middleHolds_56 : decode c0_M_middleHolds 56 = .ok (.iload_n 3, 1) := by decide +kernel
theorem d_M_middleHolds_57 : decode c0_M_middleHolds 57 = .ok (.invokevirtual 153, 3) := by decide +kernel
theorem d_M_middleHolds_60 : decode c0_M_middleHolds 60 = .ok (.bastore, 1) := by decide +kernel
theorem d_M_middleHolds_61 : decode c0_M_middleHolds 61 = .ok (.iload_n 2, 1) := by decide +kernel
theorem d_M_middleHolds_62 : decode c0_M_middleHolds 62 = .ok (.iconst 1, 1) := by decide +kernel
theorem d_M_middleHolds_63 : decode c0_M_middleHolds 63 = .ok (.iadd, 1) := by decide +kernel
theorem d_M_middleHolds_64 : decode c0_M_middleHolds 64 = .ok (.istore_n 2, 1) := by decide +kernel
theorem d_M_middleHolds_65 : decode c0_M_middleHolds 65 = .ok (.goto 90, 3) := by decide +kernel
theorem d_M_middleHolds_68 : decode c0_M_middleHolds 68 = .ok (.aload_n 0, 1) := by decide +kernel
theorem d_M_middleHolds_69 : decode c0_M_middleHolds 69 = .ok (.getfield 16, 3) := by decide +kernel
theorem d_M_middleHolds_72 : decode c0_M_middleHolds 72 = .ok (.iload_n 3, 1) := by decide +kernel
theorem d_M_middleHolds_73 : decode c0_M_middleHolds 73 = .ok (.iaload, 1) := by decide +kernel
theorem d_M_middleHolds_74 : decode c0_M_middleHolds 74 = .ok (.iload_n 1, 1) := by decide +kernel
theorem d_M_middleHolds_75 : decode c0_M_middleHolds 75 = .ok (.if_icmp .ne 80, 3) := by decide +kernel
theorem d_M_middleHolds_78 : decode c0_M_middleHolds 78 = .ok (.aload_n 0, 1) := by decide +kernel
theorem d_M_middleHolds_79 : decode c0_M_middleHolds 79 = .ok (.getfield 53, 3) := by decide +kernel
theorem d_M_middleHolds_82 : decode c0_M_middleHolds 82 = .ok (.iload_n 2, 1) := by decide +kernel
theorem d_M_middleHolds_83 : decode c0_M_middleHolds 83 = .ok (.iconst 1, 1) := by decide +kernel
theorem d_M_middleHolds_84 : decode c0_M_middleHolds 84 = .ok (.isub, 1) := by decide +kernel
theorem d_M_middleHolds_85 : decode c0_M_middleHolds 85 = .ok (.baload, 1) := by decide +kernel
theorem d_M_middleHolds_86 : decode c0_M_middleHolds 86 = .ok (.istore 4, 2) := by decide +kernel
theorem d_M_middleHolds_88 : decode c0_M_middleHolds 88 = .ok (.aload_n 0, 1) := by decide +kernel
theorem d_M_middleHolds_89 : decode c0_M_middleHolds 89 = .ok (.getfield 13, 3) := by decide +kernel
theorem d_M_middleHolds_92 : decode c0_M_middleHolds 92 = .ok (.iload_n 3, 1) := by decide +kernel
theorem d_M_middleHolds_93 : decode c0_M_middleHolds 93 = .ok (.iaload, 1) := by decide +kernel
theorem d_M_middleHolds_94 : decode c0_M_middleHolds 94 = .ok (.iconst 3, 1) := by decide +kernel
theorem d_M_middleHolds_95 : decode c0_M_middleHolds 95 = .ok (.if_icmp .ge 18, 3) := by decide +kernel
theorem d_M_middleHolds_98 : decode c0_M_middleHolds 98 = .ok (.aload_n 0, 1) := by decide +kernel
theorem d_M_middleHolds_99 : decode c0_M_middleHolds 99 = .ok (.getfield 53, 3) := by decide +kernel
theorem d_M_middleHolds_102 : decode c0_M_middleHolds 102 = .ok (.iload_n 2, 1) := by decide +kernel
theorem d_M_middleHolds_103 : decode c0_M_middleHolds 103 = .ok (.iconst 2, 1) := by decide +kernel
theorem d_M_middleHolds_104 : decode c0_M_middleHolds 104 = .ok (.isub, 1) := by decide +kernel
theorem d_M_middleHolds_105 : decode c0_M_middleHolds 105 = .ok (.baload, 1) := by decide +kernel
theorem d_M_middleHolds_106 : decode c0_M_middleHolds 106 = .ok (.ifCond .eq 7, 3) := by decide +kernel
theorem d_M_middleHolds_109 : decode c0_M_middleHolds 109 = .ok (.iconst 1, 1) := by decide +kernel
theorem d_M_middleHolds_110 : decode c0_M_middleHolds 110 = .ok (.goto 4, 3) := by decide +kernel
theorem d_M_middleHolds_113 : decode c0_M_middleHolds 113 = .ok (.iconst 0, 1) := by decide +kernel
theorem d_M_middleHolds_114 : decode c0_M_middleHolds 114 = .ok (.istore 5, 2) := by decide +kernel
theorem d_M_middleHolds_116 : decode c0_M_middleHolds 116 = .ok (.aload_n 0, 1) := by decide +kernel
theorem d_M_middleHolds_117 : decode c0_M_middleHolds 117 = .ok (.getfield 13, 3) := by decide +kernel
theorem d_M_middleHolds_120 : decode c0_M_middleHolds 120 = .ok (.iload_n 3, 1) := by decide +kernel
theorem d_M_middleHolds_121 : decode c0_M_middleHolds 121 = .ok (.iaload, 1) := by decide +kernel
theorem d_M_middleHolds_122 : decode c0_M_middleHolds 122 = .ok (.iconst 3, 1) := by decide +kernel
theorem d_M_middleHolds_123 : decode c0_M_middleHolds 123 = .ok (.if_icmp .ge 9, 3) := by decide +kernel
theorem d_M_middleHolds_126 : decode c0_M_middleHolds 126 = .ok (.iload_n 2, 1) := by decide +kernel
theorem d_M_middleHolds_127 : decode c0_M_middleHolds 127 = .ok (.iconst 1, 1) := by decide +kernel
theorem d_M_middleHolds_128 : decode c0_M_middleHolds 128 = .ok (.isub, 1) := by decide +kernel
theorem d_M_middleHolds_129 : decode c0_M_middleHolds 129 = .ok (.goto 4, 3) := by decide +kernel
theorem d_M_middleHolds_132 : decode c0_M_middleHolds 132 = .ok (.iload_n 2, 1) := by decide +kernel
theorem d_M_middleHolds_133 : decode c0_M_middleHolds 133 = .ok (.istore_n 2, 1) := by decide +kernel
theorem d_M_middleHolds_134 : decode c0_M_middleHolds 134 = .ok (.aload_n 0, 1) := by decide +kernel
theorem d_M_middleHolds_135 : decode c0_M_middleHolds 135 = .ok (.getfield 53, 3) := by decide +kernel
theorem d_M_middleHolds_138 : decode c0_M_middleHolds 138 = .ok (.iload_n 2, 1) := by decide +kernel
theorem d_M_middleHolds_139 : decode c0_M_middleHolds 139 = .ok (.iconst 1, 1) := by decide +kernel
theorem d_M_middleHolds_140 : decode c0_M_middleHolds 140 = .ok (.isub, 1) := by decide +kernel
theorem d_M_middleHolds_141 : decode c0_M_middleHolds 141 = .ok (.aload_n 0, 1) := by decide +kernel
theorem d_M_middleHolds_142 : decode c0_M_middleHolds 142 = .ok (.getfield 13, 3) := by decide +kernel
theorem d_M_middleHolds_145 : decode c0_M_middleHolds 145 = .ok (.iload_n 3, 1) := by decide +kernel
theorem d_M_middleHolds_146 : decode c0_M_middleHolds 146 = .ok (.iaload, 1) := by decide +kernel
theorem d_M_middleHolds_147 : decode c0_M_middleHolds 147 = .ok (.iload 4, 2) := by decide +kernel
theorem d_M_middleHolds_149 : decode c0_M_middleHolds 149 = .ok (.iload 5, 2) := by decide +kernel
theorem d_M_middleHolds_151 : decode c0_M_middleHolds 151 = .ok (.invokestatic 143, 3) := by decide +kernel
theorem d_M_middleHolds_154 : decode c0_M_middleHolds 154 = .ok (.bastore, 1) := by decide +kernel
theorem d_M_middleHolds_155 : decode c0_M_middleHolds 155 = .ok (.iinc 3 (-1), 3) := by decide +kernel
theorem d_M_middleHolds_158 : decode c0_M_middleHolds 158 = .ok (.goto (-149), 3) := by decide +kernel
theorem d_M_middleHolds_161 : decode c0_M_middleHolds 161 = .ok (.aload_n 0, 1) := by decide +kernel
theorem d_M_middleHolds_162 : decode c0_M_middleHolds 162 = .ok (.getfield 53, 3) := by decide +kernel
theorem d_M_middleHolds_165 : decode c0_M_middleHolds 165 = .ok (.iconst 0, 1) := by decide +kernel
theorem d_M_middleHolds_166 : decode c0_M_middleHolds 166 = .ok (.baload, 1) := by decide +kernel
theorem d_M_middleHolds_167 : decode c0_M_middleHolds 167 = .ok (.ireturn, 1) := by decide +kernel
theorem d_M_middleQuantifier_0 : decode c0_M_middleQuantifier 0 = .ok (.aload_n 0, 1) := by decide +kernel
theorem d_M_middleQuantifier_1 : decode c0_M_middleQuantifier 1 = .ok (.getfield 13, 3) := by decide +kernel
theorem d_M_middleQuantifier_4 : decode c0_M_middleQuantifier 4 = .ok (.iload_n 1, 1) := by decide +kernel
theorem d_M_middleQuantifier_5 : decode c0_M_middleQuantifier 5 = .ok (.iaload, 1) := by decide +kernel
theorem d_M_middleQuantifier_6 : decode c0_M_middleQuantifier 6 = .ok (.iconst 4, 1) := by decide +kernel
theorem d_M_middleQuantifier_7 : decode c0_M_middleQuantifier 7 = .ok (.if_icmp .ne 7, 3) := by decide +kernel
theorem d_M_middleQuantifier_10 : decode c0_M_middleQuantifier 10 = .ok (.iconst 1, 1) := by decide +kernel
theorem d_M_middleQuantifier_11 : decode c0_M_middleQuantifier 11 = .ok (.goto 4, 3) := by decide +kernel
theorem d_M_middleQuantifier_14 : decode c0_M_middleQuantifier 14 = .ok (.iconst 0, 1) := by decide +kernel
theorem d_M_middleQuantifier_15 : decode c0_M_middleQuantifier 15 = .ok (.istore_n 2, 1) := by decide +kernel
theorem d_M_middleQuantifier_16 : decode c0_M_middleQuantifier 16 = .ok (.aload_n 0, 1) := by decide +kernel
theorem d_M_middleQuantifier_17 : decode c0_M_middleQuantifier 17 = .ok (.getfield 19, 3) := by decide +kernel
theorem d_M_middleQuantifier_20 : decode c0_M_middleQuantifier 20 = .ok (.iload_n 1, 1) := by decide +kernel
theorem d_M_middleQuantifier_21 : decode c0_M_middleQuantifier 21 = .ok (.iaload, 1) := by decide +kernel
theorem d_M_middleQuantifier_22 : decode c0_M_middleQuantifier 22 = .ok (.istore_n 3, 1) := by decide +kernel
theorem d_M_middleQuantifier_23 : decode c0_M_middleQuantifier 23 = .ok (.aload_n 0, 1) := by decide +kernel
theorem d_M_middleQuantifier_24 : decode c0_M_middleQuantifier 24 = .ok (.getfield 46, 3) := by decide +kernel
theorem d_M_middleQuantifier_27 : decode c0_M_middleQuantifier 27 = .ok (.iload_n 3, 1) := by decide +kernel
theorem d_M_middleQuantifier_28 : decode c0_M_middleQuantifier 28 = .ok (.iaload, 1) := by decide +kernel
theorem d_M_middleQuantifier_29 : decode c0_M_middleQuantifier 29 = .ok (.istore 4, 2) := by decide +kernel
theorem d_M_middleQuantifier_31 : decode c0_M_middleQuantifier 31 = .ok (.iconst 0, 1) := by decide +kernel
theorem d_M_middleQuantifier_32 : decode c0_M_middleQuantifier 32 = .ok (.istore 5, 2) := by decide +kernel
theorem d_M_middleQuantifier_34 : decode c0_M_middleQuantifier 34 = .ok (.sipush (-150), 3) := by decide +kernel
theorem d_M_middleQuantifier_37 : decode c0_M_middleQuantifier 37 = .ok (.istore 6, 2) := by decide +kernel
theorem d_M_middleQuantifier_39 : decode c0_M_middleQuantifier 39 = .ok (.iload 6, 2) := by decide +kernel
theorem d_M_middleQuantifier_41 : decode c0_M_middleQuantifier 41 = .ok (.sipush 150, 3) := by decide +kernel
theorem d_M_middleQuantifier_44 : decode c0_M_middleQuantifier 44 = .ok (.if_icmp .gt 38, 3) := by decide +kernel
theorem d_M_middleQuantifier_47 : decode c0_M_middleQuantifier 47 = .ok (.iload 5, 2) := by decide +kernel
theorem d_M_middleQuantifier_49 : decode c0_M_middleQuantifier 49 = .ok (.ifCond .ne 33, 3) := by decide +kernel
theorem d_M_middleQuantifier_52 : decode c0_M_middleQuantifier 52 = .ok (.aload_n 0, 1) := by decide +kernel
theorem d_M_middleQuantifier_53 : decode c0_M_middleQuantifier 53 = .ok (.getfield 46, 3) := by decide +kernel
theorem d_M_middleQuantifier_56 : decode c0_M_middleQuantifier 56 = .ok (.iload_n 3, 1) := by decide +kernel
theorem d_M_middleQuantifier_57 : decode c0_M_middleQuantifier 57 = .ok (.iload 6, 2) := by decide +kernel
theorem d_M_middleQuantifier_59 : decode c0_M_middleQuantifier 59 = .ok (.iastore, 1) := by decide +kernel
theorem d_M_middleQuantifier_60 : decode c0_M_middleQuantifier 60 = .ok (.aload_n 0, 1) := by decide +kernel
theorem d_M_middleQuantifier_61 : decode c0_M_middleQuantifier 61 = .ok (.iload_n 1, 1) := by decide +kernel
theorem d_M_middleQuantifier_62 : decode c0_M_middleQuantifier 62 = .ok (.invokevirtual 156, 3) := by decide +kernel
theorem d_M_middleQuantifier_65 : decode c0_M_middleQuantifier 65 = .ok (.iload_n 2, 1) := by decide +kernel
theorem d_M_middleQuantifier_66 : decode c0_M_middleQuantifier 66 = .ok (.if_icmp .ne 7, 3) := by decide +kernel
theorem d_M_middleQuantifier_69 : decode c0_M_middleQuantifier 69 = .ok (.iconst 1, 1) := by decide +kernel
theorem d_M_middleQuantifier_70 : decode c0_M_middleQuantifier 70 = .ok (.goto 4, 3) := by decide +kernel
theorem d_M_middleQuantifier_73 : decode c0_M_middleQuantifier 73 = .ok (.iconst 0, 1) := by decide +kernel
theorem d_M_middleQuantifier_74 : decode c0_M_middleQuantifier 74 = .ok (.istore 5, 2) := by decide +kernel
theorem d_M_middleQuantifier_76 : decode c0_M_middleQuantifier 76 = .ok (.iinc 6 1, 3) := by decide +kernel
theorem d_M_middleQuantifier_79 : decode c0_M_middleQuantifier 79 = .ok (.goto (-40), 3) := by decide +kernel
