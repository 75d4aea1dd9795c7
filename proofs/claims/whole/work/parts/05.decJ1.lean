theorem d_L_count_16 : decode c0_L_count 16 = .ok (.iconst 1, 1) := by decide +kernel
theorem d_L_count_17 : decode c0_L_count 17 = .ok (.isub, 1) := by decide +kernel
theorem d_L_count_18 : decode c0_L_count 18 = .ok (.if_icmp .lt 11, 3) := by decide +kernel
theorem d_L_count_21 : decode c0_L_count 21 = .ok (.iload_n 2, 1) := by decide +kernel
theorem d_L_count_22 : decode c0_L_count 22 = .ok (.iload_n 1, 1) := by decide +kernel
theorem d_L_count_23 : decode c0_L_count 23 = .ok (.bipush 100, 2) := by decide +kernel
theorem d_L_count_25 : decode c0_L_count 25 = .ok (.iadd, 1) := by decide +kernel
theorem d_L_count_26 : decode c0_L_count 26 = .ok (.if_icmp .lt 5, 3) := by decide +kernel
theorem d_L_count_29 : decode c0_L_count 29 = .ok (.iconst (-1), 1) := by decide +kernel
theorem d_L_count_30 : decode c0_L_count 30 = .ok (.ireturn, 1) := by decide +kernel
theorem d_L_count_31 : decode c0_L_count 31 = .ok (.iconst 0, 1) := by decide +kernel
theorem d_L_count_32 : decode c0_L_count 32 = .ok (.istore_n 3, 1) := by decide +kernel
theorem d_L_count_33 : decode c0_L_count 33 = .ok (.iload_n 1, 1) := by decide +kernel
theorem d_L_count_34 : decode c0_L_count 34 = .ok (.istore 4, 2) := by decide +kernel
theorem d_L_count_36 : decode c0_L_count 36 = .ok (.iload 4, 2) := by decide +kernel
theorem d_L_count_38 : decode c0_L_count 38 = .ok (.iload_n 2, 1) := by decide +kernel
theorem d_L_count_39 : decode c0_L_count 39 = .ok (.if_icmp .gt 24, 3) := by decide +kernel
theorem d_L_count_42 : decode c0_L_count 42 = .ok (.aload_n 0, 1) := by decide +kernel
theorem d_L_count_43 : decode c0_L_count 43 = .ok (.getfield 35, 3) := by decide +kernel
theorem d_L_count_46 : decode c0_L_count 46 = .ok (.iload 4, 2) := by decide +kernel
theorem d_L_count_48 : decode c0_L_count 48 = .ok (.invokevirtual 82, 3) := by decide +kernel
theorem d_L_count_51 : decode c0_L_count 51 = .ok (.ifCond .eq 6, 3) := by decide +kernel
theorem d_L_count_54 : decode c0_L_count 54 = .ok (.iinc 3 1, 3) := by decide +kernel
theorem d_L_count_57 : decode c0_L_count 57 = .ok (.iinc 4 1, 3) := by decide +kernel
theorem d_L_count_60 : decode c0_L_count 60 = .ok (.goto (-24), 3) := by decide +kernel
theorem d_L_count_63 : decode c0_L_count 63 = .ok (.iload_n 3, 1) := by decide +kernel
theorem d_L_count_64 : decode c0_L_count 64 = .ok (.ireturn, 1) := by decide +kernel
theorem d_W_repeatsAfter_0 : decode c0_W_repeatsAfter 0 = .ok (.bipush 95, 2) := by decide +kernel
theorem d_W_repeatsAfter_2 : decode c0_W_repeatsAfter 2 = .ok (.istore_n 2, 1) := by decide +kernel
theorem d_W_repeatsAfter_3 : decode c0_W_repeatsAfter 3 = .ok (.iload_n 2, 1) := by decide +kernel
theorem d_W_repeatsAfter_4 : decode c0_W_repeatsAfter 4 = .ok (.bipush 107, 2) := by decide +kernel
theorem d_W_repeatsAfter_6 : decode c0_W_repeatsAfter 6 = .ok (.if_icmp .ge 26, 3) := by decide +kernel
theorem d_W_repeatsAfter_9 : decode c0_W_repeatsAfter 9 = .ok (.aload_n 0, 1) := by decide +kernel
theorem d_W_repeatsAfter_10 : decode c0_W_repeatsAfter 10 = .ok (.iload_n 2, 1) := by decide +kernel
theorem d_W_repeatsAfter_11 : decode c0_W_repeatsAfter 11 = .ok (.invokevirtual 33, 3) := by decide +kernel
theorem d_W_repeatsAfter_14 : decode c0_W_repeatsAfter 14 = .ok (.aload_n 0, 1) := by decide +kernel
theorem d_W_repeatsAfter_15 : decode c0_W_repeatsAfter 15 = .ok (.iload_n 2, 1) := by decide +kernel
theorem d_W_repeatsAfter_16 : decode c0_W_repeatsAfter 16 = .ok (.iload_n 1, 1) := by decide +kernel
theorem d_W_repeatsAfter_17 : decode c0_W_repeatsAfter 17 = .ok (.iadd, 1) := by decide +kernel
theorem d_W_repeatsAfter_18 : decode c0_W_repeatsAfter 18 = .ok (.invokevirtual 33, 3) := by decide +kernel
theorem d_W_repeatsAfter_21 : decode c0_W_repeatsAfter 21 = .ok (.if_icmp .eq 5, 3) := by decide +kernel
theorem d_W_repeatsAfter_24 : decode c0_W_repeatsAfter 24 = .ok (.iconst 0, 1) := by decide +kernel
theorem d_W_repeatsAfter_25 : decode c0_W_repeatsAfter 25 = .ok (.ireturn, 1) := by decide +kernel
theorem d_W_repeatsAfter_26 : decode c0_W_repeatsAfter 26 = .ok (.iinc 2 1, 3) := by decide +kernel
theorem d_W_repeatsAfter_29 : decode c0_W_repeatsAfter 29 = .ok (.goto (-26), 3) := by decide +kernel
theorem d_W_repeatsAfter_32 : decode c0_W_repeatsAfter 32 = .ok (.iconst 1, 1) := by decide +kernel
theorem d_W_repeatsAfter_33 : decode c0_W_repeatsAfter 33 = .ok (.ireturn, 1) := by decide +kernel
theorem d_L_period_0 : decode c0_L_period 0 = .ok (.iconst 1, 1) := by decide +kernel
theorem d_L_period_1 : decode c0_L_period 1 = .ok (.istore_n 1, 1) := by decide +kernel
theorem d_L_period_2 : decode c0_L_period 2 = .ok (.iload_n 1, 1) := by decide +kernel
theorem d_L_period_3 : decode c0_L_period 3 = .ok (.bipush 12, 2) := by decide +kernel
theorem d_L_period_5 : decode c0_L_period 5 = .ok (.if_icmp .ge 22, 3) := by decide +kernel
theorem d_L_period_8 : decode c0_L_period 8 = .ok (.aload_n 0, 1) := by decide +kernel
theorem d_L_period_9 : decode c0_L_period 9 = .ok (.getfield 35, 3) := by decide +kernel
theorem d_L_period_12 : decode c0_L_period 12 = .ok (.iload_n 1, 1) := by decide +kernel
theorem d_L_period_13 : decode c0_L_period 13 = .ok (.invokevirtual 101, 3) := by decide +kernel
theorem d_L_period_16 : decode c0_L_period 16 = .ok (.ifCond .eq 5, 3) := by decide +kernel
theorem d_L_period_19 : decode c0_L_period 19 = .ok (.iload_n 1, 1) := by decide +kernel
theorem d_L_period_20 : decode c0_L_period 20 = .ok (.ireturn, 1) := by decide +kernel
theorem d_L_period_21 : decode c0_L_period 21 = .ok (.iinc 1 1, 3) := by decide +kernel
theorem d_L_period_24 : decode c0_L_period 24 = .ok (.goto (-22), 3) := by decide +kernel
theorem d_L_period_27 : decode c0_L_period 27 = .ok (.bipush 12, 2) := by decide +kernel
theorem d_L_period_29 : decode c0_L_period 29 = .ok (.ireturn, 1) := by decide +kernel
