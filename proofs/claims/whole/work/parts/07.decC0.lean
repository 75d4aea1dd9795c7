theorem d_C_clear_0 : decode c0_C_clear 0 = .ok (.aload_n 0, 1) := by decide +kernel
theorem d_C_clear_1 : decode c0_C_clear 1 = .ok (.iconst 0, 1) := by decide +kernel
theorem d_C_clear_2 : decode c0_C_clear 2 = .ok (.putfield 36, 3) := by decide +kernel
theorem d_C_clear_5 : decode c0_C_clear 5 = .ok (.return_, 1) := by decide +kernel
theorem d_C_isFull_0 : decode c0_C_isFull 0 = .ok (.aload_n 0, 1) := by decide +kernel
theorem d_C_isFull_1 : decode c0_C_isFull 1 = .ok (.getfield 36, 3) := by decide +kernel
theorem d_C_isFull_4 : decode c0_C_isFull 4 = .ok (.bipush 20, 2) := by decide +kernel
theorem d_C_isFull_6 : decode c0_C_isFull 6 = .ok (.if_icmp .lt 7, 3) := by decide +kernel
theorem d_C_isFull_9 : decode c0_C_isFull 9 = .ok (.iconst 1, 1) := by decide +kernel
theorem d_C_isFull_10 : decode c0_C_isFull 10 = .ok (.goto 4, 3) := by decide +kernel
theorem d_C_isFull_13 : decode c0_C_isFull 13 = .ok (.iconst 0, 1) := by decide +kernel
theorem d_C_isFull_14 : decode c0_C_isFull 14 = .ok (.ireturn, 1) := by decide +kernel
theorem d_C_add_0 : decode c0_C_add 0 = .ok (.aload_n 0, 1) := by decide +kernel
theorem d_C_add_1 : decode c0_C_add 1 = .ok (.getfield 36, 3) := by decide +kernel
theorem d_C_add_4 : decode c0_C_add 4 = .ok (.bipush 20, 2) := by decide +kernel
theorem d_C_add_6 : decode c0_C_add 6 = .ok (.if_icmp .lt 5, 3) := by decide +kernel
theorem d_C_add_9 : decode c0_C_add 9 = .ok (.iconst (-1), 1) := by decide +kernel
theorem d_C_add_10 : decode c0_C_add 10 = .ok (.ireturn, 1) := by decide +kernel
theorem d_C_add_11 : decode c0_C_add 11 = .ok (.aload_n 0, 1) := by decide +kernel
theorem d_C_add_12 : decode c0_C_add 12 = .ok (.getfield 36, 3) := by decide +kernel
theorem d_C_add_15 : decode c0_C_add 15 = .ok (.istore_n 2, 1) := by decide +kernel
theorem d_C_add_16 : decode c0_C_add 16 = .ok (.aload_n 0, 1) := by decide +kernel
theorem d_C_add_17 : decode c0_C_add 17 = .ok (.dup, 1) := by decide +kernel
theorem d_C_add_18 : decode c0_C_add 18 = .ok (.getfield 36, 3) := by decide +kernel
theorem d_C_add_21 : decode c0_C_add 21 = .ok (.iconst 1, 1) := by decide +kernel
theorem d_C_add_22 : decode c0_C_add 22 = .ok (.iadd, 1) := by decide +kernel
theorem d_C_add_23 : decode c0_C_add 23 = .ok (.putfield 36, 3) := by decide +kernel
theorem d_C_add_26 : decode c0_C_add 26 = .ok (.aload_n 0, 1) := by decide +kernel
theorem d_C_add_27 : decode c0_C_add 27 = .ok (.getfield 11, 3) := by decide +kernel
theorem d_C_add_30 : decode c0_C_add 30 = .ok (.iload_n 2, 1) := by decide +kernel
theorem d_C_add_31 : decode c0_C_add 31 = .ok (.iload_n 1, 1) := by decide +kernel
theorem d_C_add_32 : decode c0_C_add 32 = .ok (.iastore, 1) := by decide +kernel
theorem d_C_add_33 : decode c0_C_add 33 = .ok (.aload_n 0, 1) := by decide +kernel
theorem d_C_add_34 : decode c0_C_add 34 = .ok (.getfield 15, 3) := by decide +kernel
theorem d_C_add_37 : decode c0_C_add 37 = .ok (.iload_n 2, 1) := by decide +kernel
theorem d_C_add_38 : decode c0_C_add 38 = .ok (.bipush 20, 2) := by decide +kernel
theorem d_C_add_40 : decode c0_C_add 40 = .ok (.iastore, 1) := by decide +kernel
theorem d_C_add_41 : decode c0_C_add 41 = .ok (.aload_n 0, 1) := by decide +kernel
theorem d_C_add_42 : decode c0_C_add 42 = .ok (.getfield 18, 3) := by decide +kernel
theorem d_C_add_45 : decode c0_C_add 45 = .ok (.iload_n 2, 1) := by decide +kernel
theorem d_C_add_46 : decode c0_C_add 46 = .ok (.iconst 0, 1) := by decide +kernel
theorem d_C_add_47 : decode c0_C_add 47 = .ok (.iastore, 1) := by decide +kernel
theorem d_C_add_48 : decode c0_C_add 48 = .ok (.aload_n 0, 1) := by decide +kernel
theorem d_C_add_49 : decode c0_C_add 49 = .ok (.getfield 21, 3) := by decide +kernel
theorem d_C_add_52 : decode c0_C_add 52 = .ok (.iload_n 2, 1) := by decide +kernel
theorem d_C_add_53 : decode c0_C_add 53 = .ok (.iconst 0, 1) := by decide +kernel
theorem d_C_add_54 : decode c0_C_add 54 = .ok (.iastore, 1) := by decide +kernel
theorem d_C_add_55 : decode c0_C_add 55 = .ok (.aload_n 0, 1) := by decide +kernel
theorem d_C_add_56 : decode c0_C_add 56 = .ok (.getfield 24, 3) := by decide +kernel
theorem d_C_add_59 : decode c0_C_add 59 = .ok (.iload_n 2, 1) := by decide +kernel
theorem d_C_add_60 : decode c0_C_add 60 = .ok (.iconst 0, 1) := by decide +kernel
theorem d_C_add_61 : decode c0_C_add 61 = .ok (.iastore, 1) := by decide +kernel
theorem d_C_add_62 : decode c0_C_add 62 = .ok (.aload_n 0, 1) := by decide +kernel
theorem d_C_add_63 : decode c0_C_add 63 = .ok (.getfield 30, 3) := by decide +kernel
theorem d_C_add_66 : decode c0_C_add 66 = .ok (.iload_n 2, 1) := by decide +kernel
theorem d_C_add_67 : decode c0_C_add 67 = .ok (.iconst 0, 1) := by decide +kernel
theorem d_C_add_68 : decode c0_C_add 68 = .ok (.iastore, 1) := by decide +kernel
theorem d_C_add_69 : decode c0_C_add 69 = .ok (.iconst 0, 1) := by decide +kernel
theorem d_C_add_70 : decode c0_C_add 70 = .ok (.istore_n 3, 1) := by decide +kernel
theorem d_C_add_71 : decode c0_C_add 71 = .ok (.iload_n 3, 1) := by decide +kernel
theorem d_C_add_72 : decode c0_C_add 72 = .ok (.iconst 3, 1) := by decide +kernel
theorem d_C_add_73 : decode c0_C_add 73 = .ok (.if_icmp .ge 20, 3) := by decide +kernel
theorem d_C_add_76 : decode c0_C_add 76 = .ok (.aload_n 0, 1) := by decide +kernel
theorem d_C_add_77 : decode c0_C_add 77 = .ok (.getfield 27, 3) := by decide +kernel
theorem d_C_add_80 : decode c0_C_add 80 = .ok (.iload_n 2, 1) := by decide +kernel
theorem d_C_add_81 : decode c0_C_add 81 = .ok (.iconst 3, 1) := by decide +kernel
theorem d_C_add_82 : decode c0_C_add 82 = .ok (.imul, 1) := by decide +kernel
theorem d_C_add_83 : decode c0_C_add 83 = .ok (.iload_n 3, 1) := by decide +kernel
theorem d_C_add_84 : decode c0_C_add 84 = .ok (.iadd, 1) := by decide +kernel
theorem d_C_add_85 : decode c0_C_add 85 = .ok (.iconst 0, 1) := by decide +kernel
theorem d_C_add_86 : decode c0_C_add 86 = .ok (.iastore, 1) := by decide +kernel
theorem d_C_add_87 : decode c0_C_add 87 = .ok (.iinc 3 1, 3) := by decide +kernel
theorem d_C_add_90 : decode c0_C_add 90 = .ok (.goto (-19), 3) := by decide +kernel
theorem d_C_add_93 : decode c0_C_add 93 = .ok (.iload_n 2, 1) := by decide +kernel
theorem d_C_add_94 : decode c0_C_add 94 = .ok (.ireturn, 1) := by decide +kernel
theorem d_C_has_0 : decode c0_C_has 0 = .ok (.iload_n 1, 1) := by decide +kernel
theorem d_C_has_1 : decode c0_C_has 1 = .ok (.ifCond .lt 15, 3) := by decide +kernel
theorem d_C_has_4 : decode c0_C_has 4 = .ok (.iload_n 1, 1) := by decide +kernel
theorem d_C_has_5 : decode c0_C_has 5 = .ok (.aload_n 0, 1) := by decide +kernel
theorem d_C_has_6 : decode c0_C_has 6 = .ok (.getfield 36, 3) := by decide +kernel
theorem d_C_has_9 : decode c0_C_has 9 = .ok (.if_icmp .ge 7, 3) := by decide +kernel
theorem d_C_has_12 : decode c0_C_has 12 = .ok (.iconst 1, 1) := by decide +kernel
theorem d_C_has_13 : decode c0_C_has 13 = .ok (.goto 4, 3) := by decide +kernel
theorem d_C_has_16 : decode c0_C_has 16 = .ok (.iconst 0, 1) := by decide +kernel
theorem d_C_has_17 : decode c0_C_has 17 = .ok (.ireturn, 1) := by decide +kernel
theorem d_C_putDivisor_0 : decode c0_C_putDivisor 0 = .ok (.aload_n 0, 1) := by decide +kernel
theorem d_C_putDivisor_1 : decode c0_C_putDivisor 1 = .ok (.iload_n 1, 1) := by decide +kernel
theorem d_C_putDivisor_2 : decode c0_C_putDivisor 2 = .ok (.invokevirtual 40, 3) := by decide +kernel
theorem d_C_putDivisor_5 : decode c0_C_putDivisor 5 = .ok (.ifCond .eq 10, 3) := by decide +kernel
theorem d_C_putDivisor_8 : decode c0_C_putDivisor 8 = .ok (.aload_n 0, 1) := by decide +kernel
theorem d_C_putDivisor_9 : decode c0_C_putDivisor 9 = .ok (.getfield 21, 3) := by decide +kernel
theorem d_C_putDivisor_12 : decode c0_C_putDivisor 12 = .ok (.iload_n 1, 1) := by decide +kernel
theorem d_C_putDivisor_13 : decode c0_C_putDivisor 13 = .ok (.iload_n 2, 1) := by decide +kernel
theorem d_C_putDivisor_14 : decode c0_C_putDivisor 14 = .ok (.iastore, 1) := by decide +kernel
theorem d_C_putDivisor_15 : decode c0_C_putDivisor 15 = .ok (.return_, 1) := by decide +kernel
theorem d_C_addNumber_0 : decode c0_C_addNumber 0 = .ok (.aload_n 0, 1) := by decide +kernel
theorem d_C_addNumber_1 : decode c0_C_addNumber 1 = .ok (.iload_n 1, 1) := by decide +kernel
theorem d_C_addNumber_2 : decode c0_C_addNumber 2 = .ok (.invokevirtual 40, 3) := by decide +kernel
theorem d_C_addNumber_5 : decode c0_C_addNumber 5 = .ok (.ifCond .eq 13, 3) := by decide +kernel
theorem d_C_addNumber_8 : decode c0_C_addNumber 8 = .ok (.aload_n 0, 1) := by decide +kernel
theorem d_C_addNumber_9 : decode c0_C_addNumber 9 = .ok (.getfield 24, 3) := by decide +kernel
theorem d_C_addNumber_12 : decode c0_C_addNumber 12 = .ok (.iload_n 1, 1) := by decide +kernel
theorem d_C_addNumber_13 : decode c0_C_addNumber 13 = .ok (.dup2, 1) := by decide +kernel
theorem d_C_addNumber_14 : decode c0_C_addNumber 14 = .ok (.iaload, 1) := by decide +kernel
theorem d_C_addNumber_15 : decode c0_C_addNumber 15 = .ok (.iload_n 2, 1) := by decide +kernel
theorem d_C_addNumber_16 : decode c0_C_addNumber 16 = .ok (.iadd, 1) := by decide +kernel
theorem d_C_addNumber_17 : decode c0_C_addNumber 17 = .ok (.iastore, 1) := by decide +kernel
theorem d_C_addNumber_18 : decode c0_C_addNumber 18 = .ok (.return_, 1) := by decide +kernel
theorem d_C_addFactor_0 : decode c0_C_addFactor 0 = .ok (.aload_n 0, 1) := by decide +kernel
theorem d_C_addFactor_1 : decode c0_C_addFactor 1 = .ok (.iload_n 1, 1) := by decide +kernel
theorem d_C_addFactor_2 : decode c0_C_addFactor 2 = .ok (.invokevirtual 40, 3) := by decide +kernel
theorem d_C_addFactor_5 : decode c0_C_addFactor 5 = .ok (.ifCond .eq 38, 3) := by decide +kernel
theorem d_C_addFactor_8 : decode c0_C_addFactor 8 = .ok (.iload_n 2, 1) := by decide +kernel
theorem d_C_addFactor_9 : decode c0_C_addFactor 9 = .ok (.ifCond .lt 34, 3) := by decide +kernel
theorem d_C_addFactor_12 : decode c0_C_addFactor 12 = .ok (.iload_n 2, 1) := by decide +kernel
theorem d_C_addFactor_13 : decode c0_C_addFactor 13 = .ok (.iconst 3, 1) := by decide +kernel
theorem d_C_addFactor_14 : decode c0_C_addFactor 14 = .ok (.if_icmp .ge 29, 3) := by decide +kernel
theorem d_C_addFactor_17 : decode c0_C_addFactor 17 = .ok (.aload_n 0, 1) := by decide +kernel
theorem d_C_addFactor_18 : decode c0_C_addFactor 18 = .ok (.getfield 27, 3) := by decide +kernel
theorem d_C_addFactor_21 : decode c0_C_addFactor 21 = .ok (.iload_n 1, 1) := by decide +kernel
theorem d_C_addFactor_22 : decode c0_C_addFactor 22 = .ok (.iconst 3, 1) := by decide +kernel
theorem d_C_addFactor_23 : decode c0_C_addFactor 23 = .ok (.imul, 1) := by decide +kernel
theorem d_C_addFactor_24 : decode c0_C_addFactor 24 = .ok (.iload_n 2, 1) := by decide +kernel
theorem d_C_addFactor_25 : decode c0_C_addFactor 25 = .ok (.iadd, 1) := by decide +kernel
theorem d_C_addFactor_26 : decode c0_C_addFactor 26 = .ok (.dup2, 1) := by decide +kernel
theorem d_C_addFactor_27 : decode c0_C_addFactor 27 = .ok (.iaload, 1) := by decide +kernel
theorem d_C_addFactor_28 : decode c0_C_addFactor 28 = .ok (.iload_n 3, 1) := by decide +kernel
theorem d_C_addFactor_29 : decode c0_C_addFactor 29 = .ok (.iadd, 1) := by decide +kernel
theorem d_C_addFactor_30 : decode c0_C_addFactor 30 = .ok (.iastore, 1) := by decide +kernel
theorem d_C_addFactor_31 : decode c0_C_addFactor 31 = .ok (.aload_n 0, 1) := by decide +kernel
theorem d_C_addFactor_32 : decode c0_C_addFactor 32 = .ok (.getfield 30, 3) := by decide +kernel
theorem d_C_addFactor_35 : decode c0_C_addFactor 35 = .ok (.iload_n 1, 1) := by decide +kernel
theorem d_C_addFactor_36 : decode c0_C_addFactor 36 = .ok (.dup2, 1) := by decide +kernel
theorem d_C_addFactor_37 : decode c0_C_addFactor 37 = .ok (.iaload, 1) := by decide +kernel
theorem d_C_addFactor_38 : decode c0_C_addFactor 38 = .ok (.iconst 1, 1) := by decide +kernel
theorem d_C_addFactor_39 : decode c0_C_addFactor 39 = .ok (.iload_n 2, 1) := by decide +kernel
theorem d_C_addFactor_40 : decode c0_C_addFactor 40 = .ok (.ishl, 1) := by decide +kernel
theorem d_C_addFactor_41 : decode c0_C_addFactor 41 = .ok (.ior, 1) := by decide +kernel
theorem d_C_addFactor_42 : decode c0_C_addFactor 42 = .ok (.iastore, 1) := by decide +kernel
theorem d_C_addFactor_43 : decode c0_C_addFactor 43 = .ok (.return_, 1) := by decide +kernel
theorem d_C_putKind_0 : decode c0_C_putKind 0 = .ok (.aload_n 0, 1) := by decide +kernel
theorem d_C_putKind_1 : decode c0_C_putKind 1 = .ok (.iload_n 1, 1) := by decide +kernel
theorem d_C_putKind_2 : decode c0_C_putKind 2 = .ok (.invokevirtual 40, 3) := by decide +kernel
theorem d_C_putKind_5 : decode c0_C_putKind 5 = .ok (.ifCond .eq 10, 3) := by decide +kernel
theorem d_C_putKind_8 : decode c0_C_putKind 8 = .ok (.aload_n 0, 1) := by decide +kernel
theorem d_C_putKind_9 : decode c0_C_putKind 9 = .ok (.getfield 11, 3) := by decide +kernel
theorem d_C_putKind_12 : decode c0_C_putKind 12 = .ok (.iload_n 1, 1) := by decide +kernel
theorem d_C_putKind_13 : decode c0_C_putKind 13 = .ok (.iload_n 2, 1) := by decide +kernel
theorem d_C_putKind_14 : decode c0_C_putKind 14 = .ok (.iastore, 1) := by decide +kernel
theorem d_C_putKind_15 : decode c0_C_putKind 15 = .ok (.return_, 1) := by decide +kernel
theorem d_C_isWithin_0 : decode c0_C_isWithin 0 = .ok (.aload_n 0, 1) := by decide +kernel
theorem d_C_isWithin_1 : decode c0_C_isWithin 1 = .ok (.iload_n 1, 1) := by decide +kernel
theorem d_C_isWithin_2 : decode c0_C_isWithin 2 = .ok (.invokevirtual 40, 3) := by decide +kernel
theorem d_C_isWithin_5 : decode c0_C_isWithin 5 = .ok (.ifCond .ne 5, 3) := by decide +kernel
theorem d_C_isWithin_8 : decode c0_C_isWithin 8 = .ok (.iconst 0, 1) := by decide +kernel
theorem d_C_isWithin_9 : decode c0_C_isWithin 9 = .ok (.ireturn, 1) := by decide +kernel
theorem d_C_isWithin_10 : decode c0_C_isWithin 10 = .ok (.iconst 0, 1) := by decide +kernel
theorem d_C_isWithin_11 : decode c0_C_isWithin 11 = .ok (.istore 4, 2) := by decide +kernel
theorem d_C_isWithin_13 : decode c0_C_isWithin 13 = .ok (.iload 4, 2) := by decide +kernel
theorem d_C_isWithin_15 : decode c0_C_isWithin 15 = .ok (.iconst 3, 1) := by decide +kernel
theorem d_C_isWithin_16 : decode c0_C_isWithin 16 = .ok (.if_icmp .ge 29, 3) := by decide +kernel
theorem d_C_isWithin_19 : decode c0_C_isWithin 19 = .ok (.aload_n 0, 1) := by decide +kernel
theorem d_C_isWithin_20 : decode c0_C_isWithin 20 = .ok (.getfield 27, 3) := by decide +kernel
theorem d_C_isWithin_23 : decode c0_C_isWithin 23 = .ok (.iload_n 1, 1) := by decide +kernel
theorem d_C_isWithin_24 : decode c0_C_isWithin 24 = .ok (.iconst 3, 1) := by decide +kernel
theorem d_C_isWithin_25 : decode c0_C_isWithin 25 = .ok (.imul, 1) := by decide +kernel
theorem d_C_isWithin_26 : decode c0_C_isWithin 26 = .ok (.iload 4, 2) := by decide +kernel
theorem d_C_isWithin_28 : decode c0_C_isWithin 28 = .ok (.iadd, 1) := by decide +kernel
theorem d_C_isWithin_29 : decode c0_C_isWithin 29 = .ok (.iaload, 1) := by decide +kernel
theorem d_C_isWithin_30 : decode c0_C_isWithin 30 = .ok (.invokestatic 44, 3) := by decide +kernel
theorem d_C_isWithin_33 : decode c0_C_isWithin 33 = .ok (.iload_n 2, 1) := by decide +kernel
theorem d_C_isWithin_34 : decode c0_C_isWithin 34 = .ok (.if_icmp .le 5, 3) := by decide +kernel
theorem d_C_isWithin_37 : decode c0_C_isWithin 37 = .ok (.iconst 0, 1) := by decide +kernel
theorem d_C_isWithin_38 : decode c0_C_isWithin 38 = .ok (.ireturn, 1) := by decide +kernel
theorem d_C_isWithin_39 : decode c0_C_isWithin 39 = .ok (.iinc 4 1, 3) := by decide +kernel
theorem d_C_isWithin_42 : decode c0_C_isWithin 42 = .ok (.goto (-29), 3) := by decide +kernel
theorem d_C_isWithin_45 : decode c0_C_isWithin 45 = .ok (.aload_n 0, 1) := by decide +kernel
theorem d_C_isWithin_46 : decode c0_C_isWithin 46 = .ok (.getfield 24, 3) := by decide +kernel
theorem d_C_isWithin_49 : decode c0_C_isWithin 49 = .ok (.iload_n 1, 1) := by decide +kernel
theorem d_C_isWithin_50 : decode c0_C_isWithin 50 = .ok (.iaload, 1) := by decide +kernel
theorem d_C_isWithin_51 : decode c0_C_isWithin 51 = .ok (.invokestatic 44, 3) := by decide +kernel
theorem d_C_isWithin_54 : decode c0_C_isWithin 54 = .ok (.iload_n 3, 1) := by decide +kernel
theorem d_C_isWithin_55 : decode c0_C_isWithin 55 = .ok (.if_icmp .gt 7, 3) := by decide +kernel
theorem d_C_isWithin_58 : decode c0_C_isWithin 58 = .ok (.iconst 1, 1) := by decide +kernel
theorem d_C_isWithin_59 : decode c0_C_isWithin 59 = .ok (.goto 4, 3) := by decide +kernel
theorem d_C_isWithin_62 : decode c0_C_isWithin 62 = .ok (.iconst 0, 1) := by decide +kernel
theorem d_C_isWithin_63 : decode c0_C_isWithin 63 = .ok (.ireturn, 1) := by decide +kernel
theorem d_C_putSecond_0 : decode c0_C_putSecond 0 = .ok (.aload_n 0, 1) := by decide +kernel
theorem d_C_putSecond_1 : decode c0_C_putSecond 1 = .ok (.iload_n 1, 1) := by decide +kernel
theorem d_C_putSecond_2 : decode c0_C_putSecond 2 = .ok (.invokevirtual 40, 3) := by decide +kernel
theorem d_C_putSecond_5 : decode c0_C_putSecond 5 = .ok (.ifCond .eq 13, 3) := by decide +kernel
theorem d_C_putSecond_8 : decode c0_C_putSecond 8 = .ok (.aload_n 0, 1) := by decide +kernel
theorem d_C_putSecond_9 : decode c0_C_putSecond 9 = .ok (.getfield 15, 3) := by decide +kernel
theorem d_C_putSecond_12 : decode c0_C_putSecond 12 = .ok (.iload_n 1, 1) := by decide +kernel
theorem d_C_putSecond_13 : decode c0_C_putSecond 13 = .ok (.aload_n 0, 1) := by decide +kernel
theorem d_C_putSecond_14 : decode c0_C_putSecond 14 = .ok (.getfield 36, 3) := by decide +kernel
theorem d_C_putSecond_17 : decode c0_C_putSecond 17 = .ok (.iastore, 1) := by decide +kernel
theorem d_C_putSecond_18 : decode c0_C_putSecond 18 = .ok (.return_, 1) := by decide +kernel
theorem d_C_putVariable_0 : decode c0_C_putVariable 0 = .ok (.aload_n 0, 1) := by decide +kernel
theorem d_C_putVariable_1 : decode c0_C_putVariable 1 = .ok (.iload_n 1, 1) := by decide +kernel
theorem d_C_putVariable_2 : decode c0_C_putVariable 2 = .ok (.invokevirtual 40, 3) := by decide +kernel
theorem d_C_putVariable_5 : decode c0_C_putVariable 5 = .ok (.ifCond .eq 10, 3) := by decide +kernel
theorem d_C_putVariable_8 : decode c0_C_putVariable 8 = .ok (.aload_n 0, 1) := by decide +kernel
theorem d_C_putVariable_9 : decode c0_C_putVariable 9 = .ok (.getfield 18, 3) := by decide +kernel
theorem d_C_putVariable_12 : decode c0_C_putVariable 12 = .ok (.iload_n 1, 1) := by decide +kernel
theorem d_C_putVariable_13 : decode c0_C_putVariable 13 = .ok (.iload_n 2, 1) := by decide +kernel
theorem d_C_putVariable_14 : decode c0_C_putVariable 14 = .ok (.iastore, 1) := by decide +kernel
theorem d_C_putVariable_15 : decode c0_C_putVariable 15 = .ok (.return_, 1) := by decide +kernel
theorem d_C_openOf_0 : decode c0_C_openOf 0 = .ok (.aload_n 0, 1) := by decide +kernel
theorem d_C_openOf_1 : decode c0_C_openOf 1 = .ok (.iload_n 1, 1) := by decide +kernel
theorem d_C_openOf_2 : decode c0_C_openOf 2 = .ok (.invokevirtual 40, 3) := by decide +kernel
theorem d_C_openOf_5 : decode c0_C_openOf 5 = .ok (.ifCond .eq 12, 3) := by decide +kernel
theorem d_C_openOf_8 : decode c0_C_openOf 8 = .ok (.aload_n 0, 1) := by decide +kernel
theorem d_C_openOf_9 : decode c0_C_openOf 9 = .ok (.getfield 30, 3) := by decide +kernel
theorem d_C_openOf_12 : decode c0_C_openOf 12 = .ok (.iload_n 1, 1) := by decide +kernel
theorem d_C_openOf_13 : decode c0_C_openOf 13 = .ok (.iaload, 1) := by decide +kernel
theorem d_C_openOf_14 : decode c0_C_openOf 14 = .ok (.goto 4, 3) := by decide +kernel
theorem d_C_openOf_17 : decode c0_C_openOf 17 = .ok (.iconst 0, 1) := by decide +kernel
theorem d_C_openOf_18 : decode c0_C_openOf 18 = .ok (.ireturn, 1) := by decide +kernel
theorem d_C_findOpen_0 : decode c0_C_findOpen 0 = .ok (.aload_n 0, 1) := by decide +kernel
theorem d_C_findOpen_1 : decode c0_C_findOpen 1 = .ok (.getfield 36, 3) := by decide +kernel
theorem d_C_findOpen_4 : decode c0_C_findOpen 4 = .ok (.iconst 1, 1) := by decide +kernel
theorem d_C_findOpen_5 : decode c0_C_findOpen 5 = .ok (.isub, 1) := by decide +kernel
theorem d_C_findOpen_6 : decode c0_C_findOpen 6 = .ok (.istore_n 1, 1) := by decide +kernel
theorem d_C_findOpen_7 : decode c0_C_findOpen 7 = .ok (.iload_n 1, 1) := by decide +kernel
theorem d_C_findOpen_8 : decode c0_C_findOpen 8 = .ok (.ifCond .lt 144, 3) := by decide +kernel
theorem d_C_findOpen_11 : decode c0_C_findOpen 11 = .ok (.aload_n 0, 1) := by decide +kernel
theorem d_C_findOpen_12 : decode c0_C_findOpen 12 = .ok (.getfield 11, 3) := by decide +kernel
theorem d_C_findOpen_15 : decode c0_C_findOpen 15 = .ok (.iload_n 1, 1) := by decide +kernel
theorem d_C_findOpen_16 : decode c0_C_findOpen 16 = .ok (.iaload, 1) := by decide +kernel
theorem d_C_findOpen_17 : decode c0_C_findOpen 17 = .ok (.lookupswitch 129 #[(33, 59), (38, 75), (47, 75), (62, 75), (65, 102), (69, 102)], 59) := by decide +kernel
theorem d_C_findOpen_76 : decode c0_C_findOpen 76 = .ok (.aload_n 0, 1) := by decide +kernel
theorem d_C_findOpen_77 : decode c0_C_findOpen 77 = .ok (.getfield 30, 3) := by decide +kernel
theorem d_C_findOpen_80 : decode c0_C_findOpen 80 = .ok (.iload_n 1, 1) := by decide +kernel
theorem d_C_findOpen_81 : decode c0_C_findOpen 81 = .ok (.aload_n 0, 1) := by decide +kernel
theorem d_C_findOpen_82 : decode c0_C_findOpen 82 = .ok (.iload_n 1, 1) := by decide +kernel
theorem d_C_findOpen_83 : decode c0_C_findOpen 83 = .ok (.iconst 1, 1) := by decide +kernel
theorem d_C_findOpen_84 : decode c0_C_findOpen 84 = .ok (.iadd, 1) := by decide +kernel
theorem d_C_findOpen_85 : decode c0_C_findOpen 85 = .ok (.invokevirtual 50, 3) := by decide +kernel
theorem d_C_findOpen_88 : decode c0_C_findOpen 88 = .ok (.iastore, 1) := by decide +kernel
theorem d_C_findOpen_89 : decode c0_C_findOpen 89 = .ok (.goto 57, 3) := by decide +kernel
theorem d_C_findOpen_92 : decode c0_C_findOpen 92 = .ok (.aload_n 0, 1) := by decide +kernel
theorem d_C_findOpen_93 : decode c0_C_findOpen 93 = .ok (.getfield 30, 3) := by decide +kernel
theorem d_C_findOpen_96 : decode c0_C_findOpen 96 = .ok (.iload_n 1, 1) := by decide +kernel
theorem d_C_findOpen_97 : decode c0_C_findOpen 97 = .ok (.aload_n 0, 1) := by decide +kernel
theorem d_C_findOpen_98 : decode c0_C_findOpen 98 = .ok (.iload_n 1, 1) := by decide +kernel
theorem d_C_findOpen_99 : decode c0_C_findOpen 99 = .ok (.iconst 1, 1) := by decide +kernel
theorem d_C_findOpen_100 : decode c0_C_findOpen 100 = .ok (.iadd, 1) := by decide +kernel
theorem d_C_findOpen_101 : decode c0_C_findOpen 101 = .ok (.invokevirtual 50, 3) := by decide +kernel
theorem d_C_findOpen_104 : decode c0_C_findOpen 104 = .ok (.aload_n 0, 1) := by decide +kernel
theorem d_C_findOpen_105 : decode c0_C_findOpen 105 = .ok (.aload_n 0, 1) := by decide +kernel
theorem d_C_findOpen_106 : decode c0_C_findOpen 106 = .ok (.getfield 15, 3) := by decide +kernel
theorem d_C_findOpen_109 : decode c0_C_findOpen 109 = .ok (.iload_n 1, 1) := by decide +kernel
theorem d_C_findOpen_110 : decode c0_C_findOpen 110 = .ok (.iaload, 1) := by decide +kernel
theorem d_C_findOpen_111 : decode c0_C_findOpen 111 = .ok (.invokevirtual 50, 3) := by decide +kernel
theorem d_C_findOpen_114 : decode c0_C_findOpen 114 = .ok (.ior, 1) := by decide +kernel
theorem d_C_findOpen_115 : decode c0_C_findOpen 115 = .ok (.iastore, 1) := by decide +kernel
theorem d_C_findOpen_116 : decode c0_C_findOpen 116 = .ok (.goto 30, 3) := by decide +kernel
theorem d_C_findOpen_119 : decode c0_C_findOpen 119 = .ok (.aload_n 0, 1) := by decide +kernel
theorem d_C_findOpen_120 : decode c0_C_findOpen 120 = .ok (.getfield 30, 3) := by decide +kernel
theorem d_C_findOpen_123 : decode c0_C_findOpen 123 = .ok (.iload_n 1, 1) := by decide +kernel
theorem d_C_findOpen_124 : decode c0_C_findOpen 124 = .ok (.aload_n 0, 1) := by decide +kernel
theorem d_C_findOpen_125 : decode c0_C_findOpen 125 = .ok (.iload_n 1, 1) := by decide +kernel
theorem d_C_findOpen_126 : decode c0_C_findOpen 126 = .ok (.iconst 1, 1) := by decide +kernel
theorem d_C_findOpen_127 : decode c0_C_findOpen 127 = .ok (.iadd, 1) := by decide +kernel
theorem d_C_findOpen_128 : decode c0_C_findOpen 128 = .ok (.invokevirtual 50, 3) := by decide +kernel
theorem d_C_findOpen_131 : decode c0_C_findOpen 131 = .ok (.iconst 1, 1) := by decide +kernel
theorem d_C_findOpen_132 : decode c0_C_findOpen 132 = .ok (.aload_n 0, 1) := by decide +kernel
theorem d_C_findOpen_133 : decode c0_C_findOpen 133 = .ok (.getfield 18, 3) := by decide +kernel
theorem d_C_findOpen_136 : decode c0_C_findOpen 136 = .ok (.iload_n 1, 1) := by decide +kernel
theorem d_C_findOpen_137 : decode c0_C_findOpen 137 = .ok (.iaload, 1) := by decide +kernel
theorem d_C_findOpen_138 : decode c0_C_findOpen 138 = .ok (.ishl, 1) := by decide +kernel
theorem d_C_findOpen_139 : decode c0_C_findOpen 139 = .ok (.iconst (-1), 1) := by decide +kernel
theorem d_C_findOpen_140 : decode c0_C_findOpen 140 = .ok (.ixor, 1) := by decide +kernel
theorem d_C_findOpen_141 : decode c0_C_findOpen 141 = .ok (.iand, 1) := by decide +kernel
theorem d_C_findOpen_142 : decode c0_C_findOpen 142 = .ok (.iastore, 1) := by decide +kernel
theorem d_C_findOpen_143 : decode c0_C_findOpen 143 = .ok (.goto 3, 3) := by decide +kernel
theorem d_C_findOpen_146 : decode c0_C_findOpen 146 = .ok (.iinc 1 (-1), 3) := by decide +kernel
theorem d_C_findOpen_149 : decode c0_C_findOpen 149 = .ok (.goto (-142), 3) := by decide +kernel
theorem d_C_findOpen_152 : decode c0_C_findOpen 152 = .ok (.return_, 1) := by decide +kernel
theorem d_C_isOpen_0 : decode c0_C_isOpen 0 = .ok (.aload_n 0, 1) := by decide +kernel
theorem d_C_isOpen_1 : decode c0_C_isOpen 1 = .ok (.iload_n 1, 1) := by decide +kernel
theorem d_C_isOpen_2 : decode c0_C_isOpen 2 = .ok (.invokevirtual 40, 3) := by decide +kernel
theorem d_C_isOpen_5 : decode c0_C_isOpen 5 = .ok (.ifCond .eq 16, 3) := by decide +kernel
theorem d_C_isOpen_8 : decode c0_C_isOpen 8 = .ok (.aload_n 0, 1) := by decide +kernel
theorem d_C_isOpen_9 : decode c0_C_isOpen 9 = .ok (.getfield 30, 3) := by decide +kernel
theorem d_C_isOpen_12 : decode c0_C_isOpen 12 = .ok (.iload_n 1, 1) := by decide +kernel
theorem d_C_isOpen_13 : decode c0_C_isOpen 13 = .ok (.iaload, 1) := by decide +kernel
theorem d_C_isOpen_14 : decode c0_C_isOpen 14 = .ok (.ifCond .eq 7, 3) := by decide +kernel
theorem d_C_isOpen_17 : decode c0_C_isOpen 17 = .ok (.iconst 1, 1) := by decide +kernel
theorem d_C_isOpen_18 : decode c0_C_isOpen 18 = .ok (.goto 4, 3) := by decide +kernel
theorem d_C_isOpen_21 : decode c0_C_isOpen 21 = .ok (.iconst 0, 1) := by decide +kernel
theorem d_C_isOpen_22 : decode c0_C_isOpen 22 = .ok (.ireturn, 1) := by decide +kernel
theorem d_C_pairWord_0 : decode c0_C_pairWord 0 = .ok (.aload_n 0, 1) := by decide +kernel
theorem d_C_pairWord_1 : decode c0_C_pairWord 1 = .ok (.iload_n 1, 1) := by decide +kernel
theorem d_C_pairWord_2 : decode c0_C_pairWord 2 = .ok (.iconst 1, 1) := by decide +kernel
theorem d_C_pairWord_3 : decode c0_C_pairWord 3 = .ok (.iadd, 1) := by decide +kernel
theorem d_C_pairWord_4 : decode c0_C_pairWord 4 = .ok (.iload_n 2, 1) := by decide +kernel
theorem d_C_pairWord_5 : decode c0_C_pairWord 5 = .ok (.iload_n 3, 1) := by decide +kernel
theorem d_C_pairWord_6 : decode c0_C_pairWord 6 = .ok (.invokevirtual 53, 3) := by decide +kernel
theorem d_C_pairWord_9 : decode c0_C_pairWord 9 = .ok (.lstore 4, 2) := by decide +kernel
theorem d_C_pairWord_11 : decode c0_C_pairWord 11 = .ok (.aload_n 0, 1) := by decide +kernel
theorem d_C_pairWord_12 : decode c0_C_pairWord 12 = .ok (.getfield 11, 3) := by decide +kernel
theorem d_C_pairWord_15 : decode c0_C_pairWord 15 = .ok (.iload_n 1, 1) := by decide +kernel
theorem d_C_pairWord_16 : decode c0_C_pairWord 16 = .ok (.iaload, 1) := by decide +kernel
theorem d_C_pairWord_17 : decode c0_C_pairWord 17 = .ok (.bipush 47, 2) := by decide +kernel
theorem d_C_pairWord_19 : decode c0_C_pairWord 19 = .ok (.if_icmp .ne 33, 3) := by decide +kernel
theorem d_C_pairWord_22 : decode c0_C_pairWord 22 = .ok (.lload 4, 2) := by decide +kernel
theorem d_C_pairWord_24 : decode c0_C_pairWord 24 = .ok (.ldc2_w 57, 3) := by decide +kernel
theorem d_C_pairWord_27 : decode c0_C_pairWord 27 = .ok (.lcmp, 1) := by decide +kernel
theorem d_C_pairWord_28 : decode c0_C_pairWord 28 = .ok (.ifCond .ne 8, 3) := by decide +kernel
theorem d_C_pairWord_31 : decode c0_C_pairWord 31 = .ok (.lload 4, 2) := by decide +kernel
theorem d_C_pairWord_33 : decode c0_C_pairWord 33 = .ok (.goto 18, 3) := by decide +kernel
theorem d_C_pairWord_36 : decode c0_C_pairWord 36 = .ok (.lload 4, 2) := by decide +kernel
theorem d_C_pairWord_38 : decode c0_C_pairWord 38 = .ok (.aload_n 0, 1) := by decide +kernel
theorem d_C_pairWord_39 : decode c0_C_pairWord 39 = .ok (.aload_n 0, 1) := by decide +kernel
theorem d_C_pairWord_40 : decode c0_C_pairWord 40 = .ok (.getfield 15, 3) := by decide +kernel
theorem d_C_pairWord_43 : decode c0_C_pairWord 43 = .ok (.iload_n 1, 1) := by decide +kernel
theorem d_C_pairWord_44 : decode c0_C_pairWord 44 = .ok (.iaload, 1) := by decide +kernel
theorem d_C_pairWord_45 : decode c0_C_pairWord 45 = .ok (.iload_n 2, 1) := by decide +kernel
theorem d_C_pairWord_46 : decode c0_C_pairWord 46 = .ok (.iload_n 3, 1) := by decide +kernel
theorem d_C_pairWord_47 : decode c0_C_pairWord 47 = .ok (.invokevirtual 53, 3) := by decide +kernel
theorem d_C_pairWord_50 : decode c0_C_pairWord 50 = .ok (.lor, 1) := by decide +kernel
theorem d_C_pairWord_51 : decode c0_C_pairWord 51 = .ok (.lreturn, 1) := by decide +kernel
theorem d_C_pairWord_52 : decode c0_C_pairWord 52 = .ok (.aload_n 0, 1) := by decide +kernel
theorem d_C_pairWord_53 : decode c0_C_pairWord 53 = .ok (.getfield 11, 3) := by decide +kernel
theorem d_C_pairWord_56 : decode c0_C_pairWord 56 = .ok (.iload_n 1, 1) := by decide +kernel
theorem d_C_pairWord_57 : decode c0_C_pairWord 57 = .ok (.iaload, 1) := by decide +kernel
theorem d_C_pairWord_58 : decode c0_C_pairWord 58 = .ok (.bipush 62, 2) := by decide +kernel
theorem d_C_pairWord_60 : decode c0_C_pairWord 60 = .ok (.if_icmp .ne 36, 3) := by decide +kernel
theorem d_C_pairWord_63 : decode c0_C_pairWord 63 = .ok (.lload 4, 2) := by decide +kernel
theorem d_C_pairWord_65 : decode c0_C_pairWord 65 = .ok (.lconst 0, 1) := by decide +kernel
theorem d_C_pairWord_66 : decode c0_C_pairWord 66 = .ok (.lcmp, 1) := by decide +kernel
theorem d_C_pairWord_67 : decode c0_C_pairWord 67 = .ok (.ifCond .ne 9, 3) := by decide +kernel
theorem d_C_pairWord_70 : decode c0_C_pairWord 70 = .ok (.ldc2_w 57, 3) := by decide +kernel
theorem d_C_pairWord_73 : decode c0_C_pairWord 73 = .ok (.goto 22, 3) := by decide +kernel
theorem d_C_pairWord_76 : decode c0_C_pairWord 76 = .ok (.lload 4, 2) := by decide +kernel
theorem d_C_pairWord_78 : decode c0_C_pairWord 78 = .ok (.ldc2_w 57, 3) := by decide +kernel
theorem d_C_pairWord_81 : decode c0_C_pairWord 81 = .ok (.lxor, 1) := by decide +kernel
theorem d_C_pairWord_82 : decode c0_C_pairWord 82 = .ok (.aload_n 0, 1) := by decide +kernel
theorem d_C_pairWord_83 : decode c0_C_pairWord 83 = .ok (.aload_n 0, 1) := by decide +kernel
theorem d_C_pairWord_84 : decode c0_C_pairWord 84 = .ok (.getfield 15, 3) := by decide +kernel
theorem d_C_pairWord_87 : decode c0_C_pairWord 87 = .ok (.iload_n 1, 1) := by decide +kernel
theorem d_C_pairWord_88 : decode c0_C_pairWord 88 = .ok (.iaload, 1) := by decide +kernel
theorem d_C_pairWord_89 : decode c0_C_pairWord 89 = .ok (.iload_n 2, 1) := by decide +kernel
theorem d_C_pairWord_90 : decode c0_C_pairWord 90 = .ok (.iload_n 3, 1) := by decide +kernel
theorem d_C_pairWord_91 : decode c0_C_pairWord 91 = .ok (.invokevirtual 53, 3) := by decide +kernel
theorem d_C_pairWord_94 : decode c0_C_pairWord 94 = .ok (.lor, 1) := by decide +kernel
theorem d_C_pairWord_95 : decode c0_C_pairWord 95 = .ok (.lreturn, 1) := by decide +kernel
theorem d_C_pairWord_96 : decode c0_C_pairWord 96 = .ok (.lload 4, 2) := by decide +kernel
theorem d_C_pairWord_98 : decode c0_C_pairWord 98 = .ok (.lconst 0, 1) := by decide +kernel
theorem d_C_pairWord_99 : decode c0_C_pairWord 99 = .ok (.lcmp, 1) := by decide +kernel
theorem d_C_pairWord_100 : decode c0_C_pairWord 100 = .ok (.ifCond .ne 8, 3) := by decide +kernel
theorem d_C_pairWord_103 : decode c0_C_pairWord 103 = .ok (.lload 4, 2) := by decide +kernel
theorem d_C_pairWord_105 : decode c0_C_pairWord 105 = .ok (.goto 18, 3) := by decide +kernel
theorem d_C_pairWord_108 : decode c0_C_pairWord 108 = .ok (.lload 4, 2) := by decide +kernel
theorem d_C_pairWord_110 : decode c0_C_pairWord 110 = .ok (.aload_n 0, 1) := by decide +kernel
theorem d_C_pairWord_111 : decode c0_C_pairWord 111 = .ok (.aload_n 0, 1) := by decide +kernel
theorem d_C_pairWord_112 : decode c0_C_pairWord 112 = .ok (.getfield 15, 3) := by decide +kernel
theorem d_C_pairWord_115 : decode c0_C_pairWord 115 = .ok (.iload_n 1, 1) := by decide +kernel
theorem d_C_pairWord_116 : decode c0_C_pairWord 116 = .ok (.iaload, 1) := by decide +kernel
theorem d_C_pairWord_117 : decode c0_C_pairWord 117 = .ok (.iload_n 2, 1) := by decide +kernel
theorem d_C_pairWord_118 : decode c0_C_pairWord 118 = .ok (.iload_n 3, 1) := by decide +kernel
theorem d_C_pairWord_119 : decode c0_C_pairWord 119 = .ok (.invokevirtual 53, 3) := by decide +kernel
theorem d_C_pairWord_122 : decode c0_C_pairWord 122 = .ok (.land, 1) := by decide +kernel
theorem d_C_pairWord_123 : decode c0_C_pairWord 123 = .ok (.lreturn, 1) := by decide +kernel
theorem d_C_isSo_0 : decode c0_C_isSo 0 = .ok (.aload_n 0, 1) := by decide +kernel
theorem d_C_isSo_1 : decode c0_C_isSo 1 = .ok (.getfield 11, 3) := by decide +kernel
theorem d_C_isSo_4 : decode c0_C_isSo 4 = .ok (.iload_n 1, 1) := by decide +kernel
theorem d_C_isSo_5 : decode c0_C_isSo 5 = .ok (.iaload, 1) := by decide +kernel
theorem d_C_isSo_6 : decode c0_C_isSo 6 = .ok (.bipush 65, 2) := by decide +kernel
theorem d_C_isSo_8 : decode c0_C_isSo 8 = .ok (.if_icmp .ne 7, 3) := by decide +kernel
theorem d_C_isSo_11 : decode c0_C_isSo 11 = .ok (.iconst 1, 1) := by decide +kernel
theorem d_C_isSo_12 : decode c0_C_isSo 12 = .ok (.goto 4, 3) := by decide +kernel
theorem d_C_isSo_15 : decode c0_C_isSo 15 = .ok (.iconst 0, 1) := by decide +kernel
theorem d_C_isSo_16 : decode c0_C_isSo 16 = .ok (.istore 4, 2) := by decide +kernel
theorem d_C_isSo_18 : decode c0_C_isSo 18 = .ok (.iload 4, 2) := by decide +kernel
theorem d_C_isSo_20 : decode c0_C_isSo 20 = .ok (.ifCond .eq 9, 3) := by decide +kernel
theorem d_C_isSo_23 : decode c0_C_isSo 23 = .ok (.ldc2_w 57, 3) := by decide +kernel
theorem d_C_isSo_26 : decode c0_C_isSo 26 = .ok (.goto 4, 3) := by decide +kernel
theorem d_C_isSo_29 : decode c0_C_isSo 29 = .ok (.lconst 0, 1) := by decide +kernel
theorem d_C_isSo_30 : decode c0_C_isSo 30 = .ok (.lstore 5, 2) := by decide +kernel
theorem d_C_isSo_32 : decode c0_C_isSo 32 = .ok (.iconst 0, 1) := by decide +kernel
theorem d_C_isSo_33 : decode c0_C_isSo 33 = .ok (.istore 7, 2) := by decide +kernel
theorem d_C_isSo_35 : decode c0_C_isSo 35 = .ok (.iload 7, 2) := by decide +kernel
theorem d_C_isSo_37 : decode c0_C_isSo 37 = .ok (.iload_n 3, 1) := by decide +kernel
theorem d_C_isSo_38 : decode c0_C_isSo 38 = .ok (.if_icmp .ge 46, 3) := by decide +kernel
theorem d_C_isSo_41 : decode c0_C_isSo 41 = .ok (.aload_n 0, 1) := by decide +kernel
theorem d_C_isSo_42 : decode c0_C_isSo 42 = .ok (.iload_n 1, 1) := by decide +kernel
theorem d_C_isSo_43 : decode c0_C_isSo 43 = .ok (.iconst 1, 1) := by decide +kernel
theorem d_C_isSo_44 : decode c0_C_isSo 44 = .ok (.iadd, 1) := by decide +kernel
theorem d_C_isSo_45 : decode c0_C_isSo 45 = .ok (.aload_n 0, 1) := by decide +kernel
theorem d_C_isSo_46 : decode c0_C_isSo 46 = .ok (.getfield 18, 3) := by decide +kernel
theorem d_C_isSo_49 : decode c0_C_isSo 49 = .ok (.iload_n 1, 1) := by decide +kernel
theorem d_C_isSo_50 : decode c0_C_isSo 50 = .ok (.iaload, 1) := by decide +kernel
theorem d_C_isSo_51 : decode c0_C_isSo 51 = .ok (.iload_n 2, 1) := by decide +kernel
theorem d_C_isSo_52 : decode c0_C_isSo 52 = .ok (.iload 7, 2) := by decide +kernel
theorem d_C_isSo_54 : decode c0_C_isSo 54 = .ok (.bipush 64, 2) := by decide +kernel
theorem d_C_isSo_56 : decode c0_C_isSo 56 = .ok (.imul, 1) := by decide +kernel
theorem d_C_isSo_57 : decode c0_C_isSo 57 = .ok (.iadd, 1) := by decide +kernel
theorem d_C_isSo_58 : decode c0_C_isSo 58 = .ok (.invokevirtual 53, 3) := by decide +kernel
theorem d_C_isSo_61 : decode c0_C_isSo 61 = .ok (.lload 5, 2) := by decide +kernel
theorem d_C_isSo_63 : decode c0_C_isSo 63 = .ok (.lcmp, 1) := by decide +kernel
theorem d_C_isSo_64 : decode c0_C_isSo 64 = .ok (.ifCond .eq 14, 3) := by decide +kernel
theorem d_C_isSo_67 : decode c0_C_isSo 67 = .ok (.iload 4, 2) := by decide +kernel
theorem d_C_isSo_69 : decode c0_C_isSo 69 = .ok (.ifCond .ne 7, 3) := by decide +kernel
theorem d_C_isSo_72 : decode c0_C_isSo 72 = .ok (.iconst 1, 1) := by decide +kernel
theorem d_C_isSo_73 : decode c0_C_isSo 73 = .ok (.goto 4, 3) := by decide +kernel
theorem d_C_isSo_76 : decode c0_C_isSo 76 = .ok (.iconst 0, 1) := by decide +kernel
theorem d_C_isSo_77 : decode c0_C_isSo 77 = .ok (.ireturn, 1) := by decide +kernel
theorem d_C_isSo_78 : decode c0_C_isSo 78 = .ok (.iinc 7 1, 3) := by decide +kernel
theorem d_C_isSo_81 : decode c0_C_isSo 81 = .ok (.goto (-46), 3) := by decide +kernel
theorem d_C_isSo_84 : decode c0_C_isSo 84 = .ok (.iload 4, 2) := by decide +kernel
theorem d_C_isSo_86 : decode c0_C_isSo 86 = .ok (.ireturn, 1) := by decide +kernel
theorem d_C_quantifiedWord_0 : decode c0_C_quantifiedWord 0 = .ok (.aload_n 0, 1) := by decide +kernel
theorem d_C_quantifiedWord_1 : decode c0_C_quantifiedWord 1 = .ok (.iload_n 1, 1) := by decide +kernel
theorem d_C_quantifiedWord_2 : decode c0_C_quantifiedWord 2 = .ok (.invokevirtual 83, 3) := by decide +kernel
theorem d_C_quantifiedWord_5 : decode c0_C_quantifiedWord 5 = .ok (.ifCond .ne 22, 3) := by decide +kernel
theorem d_C_quantifiedWord_8 : decode c0_C_quantifiedWord 8 = .ok (.aload_n 0, 1) := by decide +kernel
theorem d_C_quantifiedWord_9 : decode c0_C_quantifiedWord 9 = .ok (.iload_n 1, 1) := by decide +kernel
theorem d_C_quantifiedWord_10 : decode c0_C_quantifiedWord 10 = .ok (.bipush (-96), 2) := by decide +kernel
theorem d_C_quantifiedWord_12 : decode c0_C_quantifiedWord 12 = .ok (.iconst 3, 1) := by decide +kernel
theorem d_C_quantifiedWord_13 : decode c0_C_quantifiedWord 13 = .ok (.invokevirtual 88, 3) := by decide +kernel
theorem d_C_quantifiedWord_16 : decode c0_C_quantifiedWord 16 = .ok (.ifCond .eq 9, 3) := by decide +kernel
theorem d_C_quantifiedWord_19 : decode c0_C_quantifiedWord 19 = .ok (.ldc2_w 57, 3) := by decide +kernel
theorem d_C_quantifiedWord_22 : decode c0_C_quantifiedWord 22 = .ok (.goto 4, 3) := by decide +kernel
theorem d_C_quantifiedWord_25 : decode c0_C_quantifiedWord 25 = .ok (.lconst 0, 1) := by decide +kernel
theorem d_C_quantifiedWord_26 : decode c0_C_quantifiedWord 26 = .ok (.lreturn, 1) := by decide +kernel
theorem d_C_quantifiedWord_27 : decode c0_C_quantifiedWord 27 = .ok (.iload_n 2, 1) := by decide +kernel
theorem d_C_quantifiedWord_28 : decode c0_C_quantifiedWord 28 = .ok (.ifCond .lt 8, 3) := by decide +kernel
theorem d_C_quantifiedWord_31 : decode c0_C_quantifiedWord 31 = .ok (.iload_n 2, 1) := by decide +kernel
theorem d_C_quantifiedWord_32 : decode c0_C_quantifiedWord 32 = .ok (.iconst 3, 1) := by decide +kernel
theorem d_C_quantifiedWord_33 : decode c0_C_quantifiedWord 33 = .ok (.if_icmp .lt 5, 3) := by decide +kernel
theorem d_C_quantifiedWord_36 : decode c0_C_quantifiedWord 36 = .ok (.lconst 0, 1) := by decide +kernel
theorem d_C_quantifiedWord_37 : decode c0_C_quantifiedWord 37 = .ok (.lreturn, 1) := by decide +kernel
theorem d_C_quantifiedWord_38 : decode c0_C_quantifiedWord 38 = .ok (.lconst 0, 1) := by decide +kernel
theorem d_C_quantifiedWord_39 : decode c0_C_quantifiedWord 39 = .ok (.lstore 4, 2) := by decide +kernel
theorem d_C_quantifiedWord_41 : decode c0_C_quantifiedWord 41 = .ok (.iconst 0, 1) := by decide +kernel
theorem d_C_quantifiedWord_42 : decode c0_C_quantifiedWord 42 = .ok (.istore 6, 2) := by decide +kernel
theorem d_C_quantifiedWord_44 : decode c0_C_quantifiedWord 44 = .ok (.iload 6, 2) := by decide +kernel
theorem d_C_quantifiedWord_46 : decode c0_C_quantifiedWord 46 = .ok (.bipush 64, 2) := by decide +kernel
theorem d_C_quantifiedWord_48 : decode c0_C_quantifiedWord 48 = .ok (.if_icmp .ge 41, 3) := by decide +kernel
theorem d_C_quantifiedWord_51 : decode c0_C_quantifiedWord 51 = .ok (.aload_n 0, 1) := by decide +kernel
theorem d_C_quantifiedWord_52 : decode c0_C_quantifiedWord 52 = .ok (.getfield 33, 3) := by decide +kernel
theorem d_C_quantifiedWord_55 : decode c0_C_quantifiedWord 55 = .ok (.iload_n 2, 1) := by decide +kernel
theorem d_C_quantifiedWord_56 : decode c0_C_quantifiedWord 56 = .ok (.iload_n 3, 1) := by decide +kernel
theorem d_C_quantifiedWord_57 : decode c0_C_quantifiedWord 57 = .ok (.iload 6, 2) := by decide +kernel
theorem d_C_quantifiedWord_59 : decode c0_C_quantifiedWord 59 = .ok (.iadd, 1) := by decide +kernel
theorem d_C_quantifiedWord_60 : decode c0_C_quantifiedWord 60 = .ok (.iastore, 1) := by decide +kernel
theorem d_C_quantifiedWord_61 : decode c0_C_quantifiedWord 61 = .ok (.aload_n 0, 1) := by decide +kernel
theorem d_C_quantifiedWord_62 : decode c0_C_quantifiedWord 62 = .ok (.iload_n 1, 1) := by decide +kernel
theorem d_C_quantifiedWord_63 : decode c0_C_quantifiedWord 63 = .ok (.sipush (-224), 3) := by decide +kernel
theorem d_C_quantifiedWord_66 : decode c0_C_quantifiedWord 66 = .ok (.bipush 7, 2) := by decide +kernel
theorem d_C_quantifiedWord_68 : decode c0_C_quantifiedWord 68 = .ok (.invokevirtual 88, 3) := by decide +kernel
theorem d_C_quantifiedWord_71 : decode c0_C_quantifiedWord 71 = .ok (.ifCond .eq 12, 3) := by decide +kernel
theorem d_C_quantifiedWord_74 : decode c0_C_quantifiedWord 74 = .ok (.lload 4, 2) := by decide +kernel
theorem d_C_quantifiedWord_76 : decode c0_C_quantifiedWord 76 = .ok (.lconst 1, 1) := by decide +kernel
theorem d_C_quantifiedWord_77 : decode c0_C_quantifiedWord 77 = .ok (.iload 6, 2) := by decide +kernel
theorem d_C_quantifiedWord_79 : decode c0_C_quantifiedWord 79 = .ok (.lshl, 1) := by decide +kernel
theorem d_C_quantifiedWord_80 : decode c0_C_quantifiedWord 80 = .ok (.lor, 1) := by decide +kernel
theorem d_C_quantifiedWord_81 : decode c0_C_quantifiedWord 81 = .ok (.lstore 4, 2) := by decide +kernel
theorem d_C_quantifiedWord_83 : decode c0_C_quantifiedWord 83 = .ok (.iinc 6 1, 3) := by decide +kernel
theorem d_C_quantifiedWord_86 : decode c0_C_quantifiedWord 86 = .ok (.goto (-42), 3) := by decide +kernel
theorem d_C_quantifiedWord_89 : decode c0_C_quantifiedWord 89 = .ok (.lload 4, 2) := by decide +kernel
theorem d_C_quantifiedWord_91 : decode c0_C_quantifiedWord 91 = .ok (.lreturn, 1) := by decide +kernel
theorem d_C_factorOf_0 : decode c0_C_factorOf 0 = .ok (.iload_n 1, 1) := by decide +kernel
theorem d_C_factorOf_1 : decode c0_C_factorOf 1 = .ok (.iconst 3, 1) := by decide +kernel
theorem d_C_factorOf_2 : decode c0_C_factorOf 2 = .ok (.imul, 1) := by decide +kernel
theorem d_C_factorOf_3 : decode c0_C_factorOf 3 = .ok (.iload_n 2, 1) := by decide +kernel
theorem d_C_factorOf_4 : decode c0_C_factorOf 4 = .ok (.iadd, 1) := by decide +kernel
theorem d_C_factorOf_5 : decode c0_C_factorOf 5 = .ok (.istore_n 3, 1) := by decide +kernel
theorem d_C_factorOf_6 : decode c0_C_factorOf 6 = .ok (.iload_n 3, 1) := by decide +kernel
theorem d_C_factorOf_7 : decode c0_C_factorOf 7 = .ok (.ifCond .lt 21, 3) := by decide +kernel
theorem d_C_factorOf_10 : decode c0_C_factorOf 10 = .ok (.iload_n 3, 1) := by decide +kernel
theorem d_C_factorOf_11 : decode c0_C_factorOf 11 = .ok (.aload_n 0, 1) := by decide +kernel
theorem d_C_factorOf_12 : decode c0_C_factorOf 12 = .ok (.getfield 27, 3) := by decide +kernel
theorem d_C_factorOf_15 : decode c0_C_factorOf 15 = .ok (.arraylength, 1) := by decide +kernel
theorem d_C_factorOf_16 : decode c0_C_factorOf 16 = .ok (.if_icmp .ge 12, 3) := by decide +kernel
theorem d_C_factorOf_19 : decode c0_C_factorOf 19 = .ok (.aload_n 0, 1) := by decide +kernel
theorem d_C_factorOf_20 : decode c0_C_factorOf 20 = .ok (.getfield 27, 3) := by decide +kernel
theorem d_C_factorOf_23 : decode c0_C_factorOf 23 = .ok (.iload_n 3, 1) := by decide +kernel
theorem d_C_factorOf_24 : decode c0_C_factorOf 24 = .ok (.iaload, 1) := by decide +kernel
theorem d_C_factorOf_25 : decode c0_C_factorOf 25 = .ok (.goto 4, 3) := by decide +kernel
theorem d_C_factorOf_28 : decode c0_C_factorOf 28 = .ok (.iconst 0, 1) := by decide +kernel
theorem d_C_factorOf_29 : decode c0_C_factorOf 29 = .ok (.ireturn, 1) := by decide +kernel
theorem d_C_sumAt_0 : decode c0_C_sumAt 0 = .ok (.aload_n 0, 1) := by decide +kernel
theorem d_C_sumAt_1 : decode c0_C_sumAt 1 = .ok (.getfield 24, 3) := by decide +kernel
theorem d_C_sumAt_4 : decode c0_C_sumAt 4 = .ok (.iload_n 1, 1) := by decide +kernel
theorem d_C_sumAt_5 : decode c0_C_sumAt 5 = .ok (.iaload, 1) := by decide +kernel
theorem d_C_sumAt_6 : decode c0_C_sumAt 6 = .ok (.istore 4, 2) := by decide +kernel
theorem d_C_sumAt_8 : decode c0_C_sumAt 8 = .ok (.iconst 0, 1) := by decide +kernel
theorem d_C_sumAt_9 : decode c0_C_sumAt 9 = .ok (.istore 5, 2) := by decide +kernel
theorem d_C_sumAt_11 : decode c0_C_sumAt 11 = .ok (.iload 5, 2) := by decide +kernel
theorem d_C_sumAt_13 : decode c0_C_sumAt 13 = .ok (.iconst 3, 1) := by decide +kernel
theorem d_C_sumAt_14 : decode c0_C_sumAt 14 = .ok (.if_icmp .ge 47, 3) := by decide +kernel
theorem d_C_sumAt_17 : decode c0_C_sumAt 17 = .ok (.iload 5, 2) := by decide +kernel
theorem d_C_sumAt_19 : decode c0_C_sumAt 19 = .ok (.iload_n 2, 1) := by decide +kernel
theorem d_C_sumAt_20 : decode c0_C_sumAt 20 = .ok (.if_icmp .ne 7, 3) := by decide +kernel
theorem d_C_sumAt_23 : decode c0_C_sumAt 23 = .ok (.iload_n 3, 1) := by decide +kernel
theorem d_C_sumAt_24 : decode c0_C_sumAt 24 = .ok (.goto 10, 3) := by decide +kernel
