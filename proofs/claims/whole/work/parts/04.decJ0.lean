theorem d_L_init_0 : decode c0_L_init 0 = .ok (.aload_n 0, 1) := by decide +kernel
theorem d_L_init_1 : decode c0_L_init 1 = .ok (.invokespecial 1, 3) := by decide +kernel
theorem d_L_init_4 : decode c0_L_init 4 = .ok (.aload_n 0, 1) := by decide +kernel
theorem d_L_init_5 : decode c0_L_init 5 = .ok (.new 7, 3) := by decide +kernel
theorem d_L_init_8 : decode c0_L_init 8 = .ok (.dup, 1) := by decide +kernel
theorem d_L_init_9 : decode c0_L_init 9 = .ok (.invokespecial 9, 3) := by decide +kernel
theorem d_L_init_12 : decode c0_L_init 12 = .ok (.putfield 10, 3) := by decide +kernel
theorem d_L_init_15 : decode c0_L_init 15 = .ok (.aload_n 0, 1) := by decide +kernel
theorem d_L_init_16 : decode c0_L_init 16 = .ok (.new 16, 3) := by decide +kernel
theorem d_L_init_19 : decode c0_L_init 19 = .ok (.dup, 1) := by decide +kernel
theorem d_L_init_20 : decode c0_L_init 20 = .ok (.invokespecial 18, 3) := by decide +kernel
theorem d_L_init_23 : decode c0_L_init 23 = .ok (.putfield 19, 3) := by decide +kernel
theorem d_L_init_26 : decode c0_L_init 26 = .ok (.aload_n 0, 1) := by decide +kernel
theorem d_L_init_27 : decode c0_L_init 27 = .ok (.new 23, 3) := by decide +kernel
theorem d_L_init_30 : decode c0_L_init 30 = .ok (.dup, 1) := by decide +kernel
theorem d_L_init_31 : decode c0_L_init 31 = .ok (.aload_n 0, 1) := by decide +kernel
theorem d_L_init_32 : decode c0_L_init 32 = .ok (.getfield 10, 3) := by decide +kernel
theorem d_L_init_35 : decode c0_L_init 35 = .ok (.aload_n 0, 1) := by decide +kernel
theorem d_L_init_36 : decode c0_L_init 36 = .ok (.getfield 19, 3) := by decide +kernel
theorem d_L_init_39 : decode c0_L_init 39 = .ok (.invokespecial 25, 3) := by decide +kernel
theorem d_L_init_42 : decode c0_L_init 42 = .ok (.putfield 28, 3) := by decide +kernel
theorem d_L_init_45 : decode c0_L_init 45 = .ok (.aload_n 0, 1) := by decide +kernel
theorem d_L_init_46 : decode c0_L_init 46 = .ok (.new 32, 3) := by decide +kernel
theorem d_L_init_49 : decode c0_L_init 49 = .ok (.dup, 1) := by decide +kernel
theorem d_L_init_50 : decode c0_L_init 50 = .ok (.invokespecial 34, 3) := by decide +kernel
theorem d_L_init_53 : decode c0_L_init 53 = .ok (.putfield 35, 3) := by decide +kernel
theorem d_L_init_56 : decode c0_L_init 56 = .ok (.aload_n 0, 1) := by decide +kernel
theorem d_L_init_57 : decode c0_L_init 57 = .ok (.iconst 0, 1) := by decide +kernel
theorem d_L_init_58 : decode c0_L_init 58 = .ok (.putfield 39, 3) := by decide +kernel
theorem d_L_init_61 : decode c0_L_init 61 = .ok (.return_, 1) := by decide +kernel
theorem d_T_hasRoomFor_0 : decode c0_T_hasRoomFor 0 = .ok (.aload_n 0, 1) := by decide +kernel
theorem d_T_hasRoomFor_1 : decode c0_T_hasRoomFor 1 = .ok (.getfield 20, 3) := by decide +kernel
theorem d_T_hasRoomFor_4 : decode c0_T_hasRoomFor 4 = .ok (.iload_n 1, 1) := by decide +kernel
theorem d_T_hasRoomFor_5 : decode c0_T_hasRoomFor 5 = .ok (.iadd, 1) := by decide +kernel
theorem d_T_hasRoomFor_6 : decode c0_T_hasRoomFor 6 = .ok (.bipush 120, 2) := by decide +kernel
theorem d_T_hasRoomFor_8 : decode c0_T_hasRoomFor 8 = .ok (.if_icmp .gt 7, 3) := by decide +kernel
theorem d_T_hasRoomFor_11 : decode c0_T_hasRoomFor 11 = .ok (.iconst 1, 1) := by decide +kernel
theorem d_T_hasRoomFor_12 : decode c0_T_hasRoomFor 12 = .ok (.goto 4, 3) := by decide +kernel
theorem d_T_hasRoomFor_15 : decode c0_T_hasRoomFor 15 = .ok (.iconst 0, 1) := by decide +kernel
theorem d_T_hasRoomFor_16 : decode c0_T_hasRoomFor 16 = .ok (.ireturn, 1) := by decide +kernel
theorem d_L_byteOf_0 : decode c0_L_byteOf 0 = .ok (.iload_n 0, 1) := by decide +kernel
theorem d_L_byteOf_1 : decode c0_L_byteOf 1 = .ok (.bipush 8, 2) := by decide +kernel
theorem d_L_byteOf_3 : decode c0_L_byteOf 3 = .ok (.iload_n 1, 1) := by decide +kernel
theorem d_L_byteOf_4 : decode c0_L_byteOf 4 = .ok (.imul, 1) := by decide +kernel
theorem d_L_byteOf_5 : decode c0_L_byteOf 5 = .ok (.iushr, 1) := by decide +kernel
theorem d_L_byteOf_6 : decode c0_L_byteOf 6 = .ok (.sipush 255, 3) := by decide +kernel
theorem d_L_byteOf_9 : decode c0_L_byteOf 9 = .ok (.iand, 1) := by decide +kernel
theorem d_L_byteOf_10 : decode c0_L_byteOf 10 = .ok (.ireturn, 1) := by decide +kernel
theorem d_T_allows_0 : decode c0_T_allows 0 = .ok (.iload_n 0, 1) := by decide +kernel
theorem d_T_allows_1 : decode c0_T_allows 1 = .ok (.bipush 32, 2) := by decide +kernel
theorem d_T_allows_3 : decode c0_T_allows 3 = .ok (.if_icmp .lt 13, 3) := by decide +kernel
theorem d_T_allows_6 : decode c0_T_allows 6 = .ok (.iload_n 0, 1) := by decide +kernel
theorem d_T_allows_7 : decode c0_T_allows 7 = .ok (.bipush 126, 2) := by decide +kernel
theorem d_T_allows_9 : decode c0_T_allows 9 = .ok (.if_icmp .gt 7, 3) := by decide +kernel
theorem d_T_allows_12 : decode c0_T_allows 12 = .ok (.iconst 1, 1) := by decide +kernel
theorem d_T_allows_13 : decode c0_T_allows 13 = .ok (.goto 4, 3) := by decide +kernel
theorem d_T_allows_16 : decode c0_T_allows 16 = .ok (.iconst 0, 1) := by decide +kernel
theorem d_T_allows_17 : decode c0_T_allows 17 = .ok (.ireturn, 1) := by decide +kernel
theorem d_T_append_0 : decode c0_T_append 0 = .ok (.aload_n 0, 1) := by decide +kernel
theorem d_T_append_1 : decode c0_T_append 1 = .ok (.getfield 20, 3) := by decide +kernel
theorem d_T_append_4 : decode c0_T_append 4 = .ok (.bipush 120, 2) := by decide +kernel
theorem d_T_append_6 : decode c0_T_append 6 = .ok (.if_icmp .lt 4, 3) := by decide +kernel
theorem d_T_append_9 : decode c0_T_append 9 = .ok (.return_, 1) := by decide +kernel
theorem d_T_append_10 : decode c0_T_append 10 = .ok (.iload_n 1, 1) := by decide +kernel
theorem d_T_append_11 : decode c0_T_append 11 = .ok (.bipush 32, 2) := by decide +kernel
theorem d_T_append_13 : decode c0_T_append 13 = .ok (.if_icmp .eq 36, 3) := by decide +kernel
theorem d_T_append_16 : decode c0_T_append 16 = .ok (.aload_n 0, 1) := by decide +kernel
theorem d_T_append_17 : decode c0_T_append 17 = .ok (.getfield 9, 3) := by decide +kernel
theorem d_T_append_20 : decode c0_T_append 20 = .ok (.aload_n 0, 1) := by decide +kernel
theorem d_T_append_21 : decode c0_T_append 21 = .ok (.getfield 16, 3) := by decide +kernel
theorem d_T_append_24 : decode c0_T_append 24 = .ok (.iload_n 1, 1) := by decide +kernel
theorem d_T_append_25 : decode c0_T_append 25 = .ok (.iastore, 1) := by decide +kernel
theorem d_T_append_26 : decode c0_T_append 26 = .ok (.aload_n 0, 1) := by decide +kernel
theorem d_T_append_27 : decode c0_T_append 27 = .ok (.getfield 13, 3) := by decide +kernel
theorem d_T_append_30 : decode c0_T_append 30 = .ok (.aload_n 0, 1) := by decide +kernel
theorem d_T_append_31 : decode c0_T_append 31 = .ok (.getfield 16, 3) := by decide +kernel
theorem d_T_append_34 : decode c0_T_append 34 = .ok (.aload_n 0, 1) := by decide +kernel
theorem d_T_append_35 : decode c0_T_append 35 = .ok (.getfield 20, 3) := by decide +kernel
theorem d_T_append_38 : decode c0_T_append 38 = .ok (.iastore, 1) := by decide +kernel
theorem d_T_append_39 : decode c0_T_append 39 = .ok (.aload_n 0, 1) := by decide +kernel
theorem d_T_append_40 : decode c0_T_append 40 = .ok (.dup, 1) := by decide +kernel
theorem d_T_append_41 : decode c0_T_append 41 = .ok (.getfield 16, 3) := by decide +kernel
theorem d_T_append_44 : decode c0_T_append 44 = .ok (.iconst 1, 1) := by decide +kernel
theorem d_T_append_45 : decode c0_T_append 45 = .ok (.iadd, 1) := by decide +kernel
theorem d_T_append_46 : decode c0_T_append 46 = .ok (.putfield 16, 3) := by decide +kernel
theorem d_T_append_49 : decode c0_T_append 49 = .ok (.aload_n 0, 1) := by decide +kernel
theorem d_T_append_50 : decode c0_T_append 50 = .ok (.dup, 1) := by decide +kernel
theorem d_T_append_51 : decode c0_T_append 51 = .ok (.getfield 20, 3) := by decide +kernel
theorem d_T_append_54 : decode c0_T_append 54 = .ok (.iconst 1, 1) := by decide +kernel
theorem d_T_append_55 : decode c0_T_append 55 = .ok (.iadd, 1) := by decide +kernel
theorem d_T_append_56 : decode c0_T_append 56 = .ok (.putfield 20, 3) := by decide +kernel
theorem d_T_append_59 : decode c0_T_append 59 = .ok (.return_, 1) := by decide +kernel
theorem d_L_type_0 : decode c0_L_type 0 = .ok (.iload_n 2, 1) := by decide +kernel
theorem d_L_type_1 : decode c0_L_type 1 = .ok (.iconst 1, 1) := by decide +kernel
theorem d_L_type_2 : decode c0_L_type 2 = .ok (.if_icmp .lt 19, 3) := by decide +kernel
theorem d_L_type_5 : decode c0_L_type 5 = .ok (.iload_n 2, 1) := by decide +kernel
theorem d_L_type_6 : decode c0_L_type 6 = .ok (.iconst 4, 1) := by decide +kernel
theorem d_L_type_7 : decode c0_L_type 7 = .ok (.if_icmp .gt 14, 3) := by decide +kernel
theorem d_L_type_10 : decode c0_L_type 10 = .ok (.aload_n 0, 1) := by decide +kernel
theorem d_L_type_11 : decode c0_L_type 11 = .ok (.getfield 10, 3) := by decide +kernel
theorem d_L_type_14 : decode c0_L_type 14 = .ok (.iload_n 2, 1) := by decide +kernel
theorem d_L_type_15 : decode c0_L_type 15 = .ok (.invokevirtual 43, 3) := by decide +kernel
theorem d_L_type_18 : decode c0_L_type 18 = .ok (.ifCond .ne 5, 3) := by decide +kernel
theorem d_L_type_21 : decode c0_L_type 21 = .ok (.iconst 0, 1) := by decide +kernel
theorem d_L_type_22 : decode c0_L_type 22 = .ok (.ireturn, 1) := by decide +kernel
theorem d_L_type_23 : decode c0_L_type 23 = .ok (.iconst 0, 1) := by decide +kernel
theorem d_L_type_24 : decode c0_L_type 24 = .ok (.istore_n 3, 1) := by decide +kernel
theorem d_L_type_25 : decode c0_L_type 25 = .ok (.iload_n 3, 1) := by decide +kernel
theorem d_L_type_26 : decode c0_L_type 26 = .ok (.iload_n 2, 1) := by decide +kernel
theorem d_L_type_27 : decode c0_L_type 27 = .ok (.if_icmp .ge 22, 3) := by decide +kernel
theorem d_L_type_30 : decode c0_L_type 30 = .ok (.iload_n 1, 1) := by decide +kernel
theorem d_L_type_31 : decode c0_L_type 31 = .ok (.iload_n 3, 1) := by decide +kernel
theorem d_L_type_32 : decode c0_L_type 32 = .ok (.invokestatic 47, 3) := by decide +kernel
theorem d_L_type_35 : decode c0_L_type 35 = .ok (.invokestatic 51, 3) := by decide +kernel
theorem d_L_type_38 : decode c0_L_type 38 = .ok (.ifCond .ne 5, 3) := by decide +kernel
theorem d_L_type_41 : decode c0_L_type 41 = .ok (.iconst 0, 1) := by decide +kernel
theorem d_L_type_42 : decode c0_L_type 42 = .ok (.ireturn, 1) := by decide +kernel
theorem d_L_type_43 : decode c0_L_type 43 = .ok (.iinc 3 1, 3) := by decide +kernel
theorem d_L_type_46 : decode c0_L_type 46 = .ok (.goto (-21), 3) := by decide +kernel
theorem d_L_type_49 : decode c0_L_type 49 = .ok (.iload_n 2, 1) := by decide +kernel
theorem d_L_type_50 : decode c0_L_type 50 = .ok (.iconst 1, 1) := by decide +kernel
theorem d_L_type_51 : decode c0_L_type 51 = .ok (.isub, 1) := by decide +kernel
theorem d_L_type_52 : decode c0_L_type 52 = .ok (.istore_n 3, 1) := by decide +kernel
theorem d_L_type_53 : decode c0_L_type 53 = .ok (.iload_n 3, 1) := by decide +kernel
theorem d_L_type_54 : decode c0_L_type 54 = .ok (.ifCond .lt 21, 3) := by decide +kernel
theorem d_L_type_57 : decode c0_L_type 57 = .ok (.aload_n 0, 1) := by decide +kernel
theorem d_L_type_58 : decode c0_L_type 58 = .ok (.getfield 10, 3) := by decide +kernel
theorem d_L_type_61 : decode c0_L_type 61 = .ok (.iload_n 1, 1) := by decide +kernel
theorem d_L_type_62 : decode c0_L_type 62 = .ok (.iload_n 3, 1) := by decide +kernel
theorem d_L_type_63 : decode c0_L_type 63 = .ok (.invokestatic 47, 3) := by decide +kernel
theorem d_L_type_66 : decode c0_L_type 66 = .ok (.invokevirtual 54, 3) := by decide +kernel
theorem d_L_type_69 : decode c0_L_type 69 = .ok (.iinc 3 (-1), 3) := by decide +kernel
theorem d_L_type_72 : decode c0_L_type 72 = .ok (.goto (-19), 3) := by decide +kernel
theorem d_L_type_75 : decode c0_L_type 75 = .ok (.iconst 1, 1) := by decide +kernel
theorem d_L_type_76 : decode c0_L_type 76 = .ok (.ireturn, 1) := by decide +kernel
theorem d_T_markAt_0 : decode c0_T_markAt 0 = .ok (.iload_n 1, 1) := by decide +kernel
theorem d_T_markAt_1 : decode c0_T_markAt 1 = .ok (.ifCond .lt 20, 3) := by decide +kernel
theorem d_T_markAt_4 : decode c0_T_markAt 4 = .ok (.iload_n 1, 1) := by decide +kernel
theorem d_T_markAt_5 : decode c0_T_markAt 5 = .ok (.aload_n 0, 1) := by decide +kernel
theorem d_T_markAt_6 : decode c0_T_markAt 6 = .ok (.getfield 16, 3) := by decide +kernel
theorem d_T_markAt_9 : decode c0_T_markAt 9 = .ok (.if_icmp .ge 12, 3) := by decide +kernel
theorem d_T_markAt_12 : decode c0_T_markAt 12 = .ok (.aload_n 0, 1) := by decide +kernel
theorem d_T_markAt_13 : decode c0_T_markAt 13 = .ok (.getfield 9, 3) := by decide +kernel
theorem d_T_markAt_16 : decode c0_T_markAt 16 = .ok (.iload_n 1, 1) := by decide +kernel
theorem d_T_markAt_17 : decode c0_T_markAt 17 = .ok (.iaload, 1) := by decide +kernel
theorem d_T_markAt_18 : decode c0_T_markAt 18 = .ok (.goto 4, 3) := by decide +kernel
theorem d_T_markAt_21 : decode c0_T_markAt 21 = .ok (.iconst 0, 1) := by decide +kernel
theorem d_T_markAt_22 : decode c0_T_markAt 22 = .ok (.ireturn, 1) := by decide +kernel
theorem d_J_abs_0 : decode c0_J_abs 0 = .ok (.iload_n 0, 1) := by decide +kernel
theorem d_J_abs_1 : decode c0_J_abs 1 = .ok (.ifCond .ge 8, 3) := by decide +kernel
theorem d_J_abs_4 : decode c0_J_abs 4 = .ok (.iload_n 0, 1) := by decide +kernel
theorem d_J_abs_5 : decode c0_J_abs 5 = .ok (.ineg, 1) := by decide +kernel
theorem d_J_abs_6 : decode c0_J_abs 6 = .ok (.goto 4, 3) := by decide +kernel
theorem d_J_abs_9 : decode c0_J_abs 9 = .ok (.iload_n 0, 1) := by decide +kernel
theorem d_J_abs_10 : decode c0_J_abs 10 = .ok (.ireturn, 1) := by decide +kernel
theorem d_T_placeOf_0 : decode c0_T_placeOf 0 = .ok (.iload_n 1, 1) := by decide +kernel
theorem d_T_placeOf_1 : decode c0_T_placeOf 1 = .ok (.ifCond .lt 20, 3) := by decide +kernel
theorem d_T_placeOf_4 : decode c0_T_placeOf 4 = .ok (.iload_n 1, 1) := by decide +kernel
theorem d_T_placeOf_5 : decode c0_T_placeOf 5 = .ok (.aload_n 0, 1) := by decide +kernel
theorem d_T_placeOf_6 : decode c0_T_placeOf 6 = .ok (.getfield 16, 3) := by decide +kernel
theorem d_T_placeOf_9 : decode c0_T_placeOf 9 = .ok (.if_icmp .ge 12, 3) := by decide +kernel
theorem d_T_placeOf_12 : decode c0_T_placeOf 12 = .ok (.aload_n 0, 1) := by decide +kernel
theorem d_T_placeOf_13 : decode c0_T_placeOf 13 = .ok (.getfield 13, 3) := by decide +kernel
theorem d_T_placeOf_16 : decode c0_T_placeOf 16 = .ok (.iload_n 1, 1) := by decide +kernel
theorem d_T_placeOf_17 : decode c0_T_placeOf 17 = .ok (.iaload, 1) := by decide +kernel
theorem d_T_placeOf_18 : decode c0_T_placeOf 18 = .ok (.goto 7, 3) := by decide +kernel
theorem d_T_placeOf_21 : decode c0_T_placeOf 21 = .ok (.aload_n 0, 1) := by decide +kernel
theorem d_T_placeOf_22 : decode c0_T_placeOf 22 = .ok (.getfield 20, 3) := by decide +kernel
theorem d_T_placeOf_25 : decode c0_T_placeOf 25 = .ok (.ireturn, 1) := by decide +kernel
theorem d_T_clear_0 : decode c0_T_clear 0 = .ok (.aload_n 0, 1) := by decide +kernel
theorem d_T_clear_1 : decode c0_T_clear 1 = .ok (.iconst 0, 1) := by decide +kernel
theorem d_T_clear_2 : decode c0_T_clear 2 = .ok (.putfield 16, 3) := by decide +kernel
theorem d_T_clear_5 : decode c0_T_clear 5 = .ok (.aload_n 0, 1) := by decide +kernel
theorem d_T_clear_6 : decode c0_T_clear 6 = .ok (.iconst 0, 1) := by decide +kernel
theorem d_T_clear_7 : decode c0_T_clear 7 = .ok (.putfield 20, 3) := by decide +kernel
theorem d_T_clear_10 : decode c0_T_clear 10 = .ok (.return_, 1) := by decide +kernel
theorem d_J_floorDiv_0 : decode c0_J_floorDiv 0 = .ok (.iload_n 0, 1) := by decide +kernel
theorem d_J_floorDiv_1 : decode c0_J_floorDiv 1 = .ok (.iload_n 1, 1) := by decide +kernel
theorem d_J_floorDiv_2 : decode c0_J_floorDiv 2 = .ok (.idiv, 1) := by decide +kernel
theorem d_J_floorDiv_3 : decode c0_J_floorDiv 3 = .ok (.istore_n 2, 1) := by decide +kernel
theorem d_J_floorDiv_4 : decode c0_J_floorDiv 4 = .ok (.iload_n 0, 1) := by decide +kernel
theorem d_J_floorDiv_5 : decode c0_J_floorDiv 5 = .ok (.iload_n 1, 1) := by decide +kernel
theorem d_J_floorDiv_6 : decode c0_J_floorDiv 6 = .ok (.ixor, 1) := by decide +kernel
theorem d_J_floorDiv_7 : decode c0_J_floorDiv 7 = .ok (.ifCond .ge 14, 3) := by decide +kernel
theorem d_J_floorDiv_10 : decode c0_J_floorDiv 10 = .ok (.iload_n 2, 1) := by decide +kernel
theorem d_J_floorDiv_11 : decode c0_J_floorDiv 11 = .ok (.iload_n 1, 1) := by decide +kernel
theorem d_J_floorDiv_12 : decode c0_J_floorDiv 12 = .ok (.imul, 1) := by decide +kernel
theorem d_J_floorDiv_13 : decode c0_J_floorDiv 13 = .ok (.iload_n 0, 1) := by decide +kernel
theorem d_J_floorDiv_14 : decode c0_J_floorDiv 14 = .ok (.if_icmp .eq 7, 3) := by decide +kernel
theorem d_J_floorDiv_17 : decode c0_J_floorDiv 17 = .ok (.iload_n 2, 1) := by decide +kernel
theorem d_J_floorDiv_18 : decode c0_J_floorDiv 18 = .ok (.iconst 1, 1) := by decide +kernel
theorem d_J_floorDiv_19 : decode c0_J_floorDiv 19 = .ok (.isub, 1) := by decide +kernel
theorem d_J_floorDiv_20 : decode c0_J_floorDiv 20 = .ok (.ireturn, 1) := by decide +kernel
theorem d_J_floorDiv_21 : decode c0_J_floorDiv 21 = .ok (.iload_n 2, 1) := by decide +kernel
theorem d_J_floorDiv_22 : decode c0_J_floorDiv 22 = .ok (.ireturn, 1) := by decide +kernel
theorem d_W_fill_0 : decode c0_W_fill 0 = .ok (.iconst 0, 1) := by decide +kernel
theorem d_W_fill_1 : decode c0_W_fill 1 = .ok (.istore_n 3, 1) := by decide +kernel
theorem d_W_fill_2 : decode c0_W_fill 2 = .ok (.iload_n 3, 1) := by decide +kernel
theorem d_W_fill_3 : decode c0_W_fill 3 = .ok (.iconst 3, 1) := by decide +kernel
theorem d_W_fill_4 : decode c0_W_fill 4 = .ok (.if_icmp .ge 57, 3) := by decide +kernel
theorem d_W_fill_7 : decode c0_W_fill 7 = .ok (.iload_n 3, 1) := by decide +kernel
theorem d_W_fill_8 : decode c0_W_fill 8 = .ok (.ifCond .le 11, 3) := by decide +kernel
theorem d_W_fill_11 : decode c0_W_fill 11 = .ok (.iload_n 2, 1) := by decide +kernel
theorem d_W_fill_12 : decode c0_W_fill 12 = .ok (.ifCond .ne 7, 3) := by decide +kernel
theorem d_W_fill_15 : decode c0_W_fill 15 = .ok (.iconst 1, 1) := by decide +kernel
theorem d_W_fill_16 : decode c0_W_fill 16 = .ok (.goto 4, 3) := by decide +kernel
theorem d_W_fill_19 : decode c0_W_fill 19 = .ok (.iconst 0, 1) := by decide +kernel
theorem d_W_fill_20 : decode c0_W_fill 20 = .ok (.istore 4, 2) := by decide +kernel
theorem d_W_fill_22 : decode c0_W_fill 22 = .ok (.aload_n 0, 1) := by decide +kernel
theorem d_W_fill_23 : decode c0_W_fill 23 = .ok (.getfield 11, 3) := by decide +kernel
theorem d_W_fill_26 : decode c0_W_fill 26 = .ok (.iload_n 3, 1) := by decide +kernel
theorem d_W_fill_27 : decode c0_W_fill 27 = .ok (.iload 4, 2) := by decide +kernel
theorem d_W_fill_29 : decode c0_W_fill 29 = .ok (.ifCond .eq 12, 3) := by decide +kernel
theorem d_W_fill_32 : decode c0_W_fill 32 = .ok (.aload_n 0, 1) := by decide +kernel
theorem d_W_fill_33 : decode c0_W_fill 33 = .ok (.getfield 11, 3) := by decide +kernel
theorem d_W_fill_36 : decode c0_W_fill 36 = .ok (.iconst 0, 1) := by decide +kernel
theorem d_W_fill_37 : decode c0_W_fill 37 = .ok (.laload, 1) := by decide +kernel
theorem d_W_fill_38 : decode c0_W_fill 38 = .ok (.goto 16, 3) := by decide +kernel
theorem d_W_fill_41 : decode c0_W_fill 41 = .ok (.aload_n 1, 1) := by decide +kernel
theorem d_W_fill_42 : decode c0_W_fill 42 = .ok (.iconst 0, 1) := by decide +kernel
theorem d_W_fill_43 : decode c0_W_fill 43 = .ok (.iconst 0, 1) := by decide +kernel
theorem d_W_fill_44 : decode c0_W_fill 44 = .ok (.bipush (-96), 2) := by decide +kernel
theorem d_W_fill_46 : decode c0_W_fill 46 = .ok (.iload_n 3, 1) := by decide +kernel
theorem d_W_fill_47 : decode c0_W_fill 47 = .ok (.bipush 64, 2) := by decide +kernel
theorem d_W_fill_49 : decode c0_W_fill 49 = .ok (.imul, 1) := by decide +kernel
theorem d_W_fill_50 : decode c0_W_fill 50 = .ok (.iadd, 1) := by decide +kernel
theorem d_W_fill_51 : decode c0_W_fill 51 = .ok (.invokevirtual 19, 3) := by decide +kernel
theorem d_W_fill_54 : decode c0_W_fill 54 = .ok (.lastore, 1) := by decide +kernel
theorem d_W_fill_55 : decode c0_W_fill 55 = .ok (.iinc 3 1, 3) := by decide +kernel
theorem d_W_fill_58 : decode c0_W_fill 58 = .ok (.goto (-56), 3) := by decide +kernel
theorem d_W_fill_61 : decode c0_W_fill 61 = .ok (.return_, 1) := by decide +kernel
theorem d_L_take_0 : decode c0_L_take 0 = .ok (.aload_n 0, 1) := by decide +kernel
theorem d_L_take_1 : decode c0_L_take 1 = .ok (.getfield 28, 3) := by decide +kernel
theorem d_L_take_4 : decode c0_L_take 4 = .ok (.invokevirtual 58, 3) := by decide +kernel
theorem d_L_take_7 : decode c0_L_take 7 = .ok (.istore_n 1, 1) := by decide +kernel
theorem d_L_take_8 : decode c0_L_take 8 = .ok (.iload_n 1, 1) := by decide +kernel
theorem d_L_take_9 : decode c0_L_take 9 = .ok (.ifCond .eq 13, 3) := by decide +kernel
theorem d_L_take_12 : decode c0_L_take 12 = .ok (.aload_n 0, 1) := by decide +kernel
theorem d_L_take_13 : decode c0_L_take 13 = .ok (.getfield 28, 3) := by decide +kernel
theorem d_L_take_16 : decode c0_L_take 16 = .ok (.invokevirtual 62, 3) := by decide +kernel
theorem d_L_take_19 : decode c0_L_take 19 = .ok (.goto 12, 3) := by decide +kernel
theorem d_L_take_22 : decode c0_L_take 22 = .ok (.iconst (-1), 1) := by decide +kernel
theorem d_L_take_23 : decode c0_L_take 23 = .ok (.aload_n 0, 1) := by decide +kernel
theorem d_L_take_24 : decode c0_L_take 24 = .ok (.getfield 28, 3) := by decide +kernel
theorem d_L_take_27 : decode c0_L_take 27 = .ok (.invokevirtual 66, 3) := by decide +kernel
theorem d_L_take_30 : decode c0_L_take 30 = .ok (.isub, 1) := by decide +kernel
theorem d_L_take_31 : decode c0_L_take 31 = .ok (.istore_n 2, 1) := by decide +kernel
theorem d_L_take_32 : decode c0_L_take 32 = .ok (.aload_n 0, 1) := by decide +kernel
theorem d_L_take_33 : decode c0_L_take 33 = .ok (.getfield 10, 3) := by decide +kernel
theorem d_L_take_36 : decode c0_L_take 36 = .ok (.invokevirtual 69, 3) := by decide +kernel
theorem d_L_take_39 : decode c0_L_take 39 = .ok (.iload_n 1, 1) := by decide +kernel
theorem d_L_take_40 : decode c0_L_take 40 = .ok (.ifCond .eq 30, 3) := by decide +kernel
theorem d_L_take_43 : decode c0_L_take 43 = .ok (.aload_n 0, 1) := by decide +kernel
theorem d_L_take_44 : decode c0_L_take 44 = .ok (.aload_n 0, 1) := by decide +kernel
theorem d_L_take_45 : decode c0_L_take 45 = .ok (.getfield 19, 3) := by decide +kernel
theorem d_L_take_48 : decode c0_L_take 48 = .ok (.iconst 0, 1) := by decide +kernel
theorem d_L_take_49 : decode c0_L_take 49 = .ok (.invokevirtual 72, 3) := by decide +kernel
theorem d_L_take_52 : decode c0_L_take 52 = .ok (.putfield 39, 3) := by decide +kernel
theorem d_L_take_55 : decode c0_L_take 55 = .ok (.aload_n 0, 1) := by decide +kernel
theorem d_L_take_56 : decode c0_L_take 56 = .ok (.getfield 35, 3) := by decide +kernel
theorem d_L_take_59 : decode c0_L_take 59 = .ok (.aload_n 0, 1) := by decide +kernel
theorem d_L_take_60 : decode c0_L_take 60 = .ok (.getfield 19, 3) := by decide +kernel
theorem d_L_take_63 : decode c0_L_take 63 = .ok (.aload_n 0, 1) := by decide +kernel
theorem d_L_take_64 : decode c0_L_take 64 = .ok (.getfield 39, 3) := by decide +kernel
theorem d_L_take_67 : decode c0_L_take 67 = .ok (.invokevirtual 75, 3) := by decide +kernel
theorem d_L_take_70 : decode c0_L_take 70 = .ok (.iload_n 2, 1) := by decide +kernel
theorem d_L_take_71 : decode c0_L_take 71 = .ok (.ireturn, 1) := by decide +kernel
theorem d_L_free_0 : decode c0_L_free 0 = .ok (.aload_n 0, 1) := by decide +kernel
theorem d_L_free_1 : decode c0_L_free 1 = .ok (.getfield 39, 3) := by decide +kernel
theorem d_L_free_4 : decode c0_L_free 4 = .ok (.ireturn, 1) := by decide +kernel
theorem d_L_isNear_0 : decode c0_L_isNear 0 = .ok (.iload_n 0, 1) := by decide +kernel
theorem d_L_isNear_1 : decode c0_L_isNear 1 = .ok (.sipush (-1000), 3) := by decide +kernel
theorem d_L_isNear_4 : decode c0_L_isNear 4 = .ok (.if_icmp .lt 14, 3) := by decide +kernel
theorem d_L_isNear_7 : decode c0_L_isNear 7 = .ok (.iload_n 0, 1) := by decide +kernel
theorem d_L_isNear_8 : decode c0_L_isNear 8 = .ok (.sipush 1000, 3) := by decide +kernel
theorem d_L_isNear_11 : decode c0_L_isNear 11 = .ok (.if_icmp .gt 7, 3) := by decide +kernel
theorem d_L_isNear_14 : decode c0_L_isNear 14 = .ok (.iconst 1, 1) := by decide +kernel
theorem d_L_isNear_15 : decode c0_L_isNear 15 = .ok (.goto 4, 3) := by decide +kernel
theorem d_L_isNear_18 : decode c0_L_isNear 18 = .ok (.iconst 0, 1) := by decide +kernel
theorem d_L_isNear_19 : decode c0_L_isNear 19 = .ok (.ireturn, 1) := by decide +kernel
theorem d_J_floorMod_0 : decode c0_J_floorMod 0 = .ok (.iload_n 0, 1) := by decide +kernel
theorem d_J_floorMod_1 : decode c0_J_floorMod 1 = .ok (.iload_n 1, 1) := by decide +kernel
theorem d_J_floorMod_2 : decode c0_J_floorMod 2 = .ok (.irem, 1) := by decide +kernel
theorem d_J_floorMod_3 : decode c0_J_floorMod 3 = .ok (.istore_n 2, 1) := by decide +kernel
theorem d_J_floorMod_4 : decode c0_J_floorMod 4 = .ok (.iload_n 0, 1) := by decide +kernel
theorem d_J_floorMod_5 : decode c0_J_floorMod 5 = .ok (.iload_n 1, 1) := by decide +kernel
theorem d_J_floorMod_6 : decode c0_J_floorMod 6 = .ok (.ixor, 1) := by decide +kernel
theorem d_J_floorMod_7 : decode c0_J_floorMod 7 = .ok (.ifCond .ge 11, 3) := by decide +kernel
theorem d_J_floorMod_10 : decode c0_J_floorMod 10 = .ok (.iload_n 2, 1) := by decide +kernel
theorem d_J_floorMod_11 : decode c0_J_floorMod 11 = .ok (.ifCond .eq 7, 3) := by decide +kernel
theorem d_J_floorMod_14 : decode c0_J_floorMod 14 = .ok (.iload_n 2, 1) := by decide +kernel
theorem d_J_floorMod_15 : decode c0_J_floorMod 15 = .ok (.iload_n 1, 1) := by decide +kernel
theorem d_J_floorMod_16 : decode c0_J_floorMod 16 = .ok (.iadd, 1) := by decide +kernel
theorem d_J_floorMod_17 : decode c0_J_floorMod 17 = .ok (.ireturn, 1) := by decide +kernel
theorem d_J_floorMod_18 : decode c0_J_floorMod 18 = .ok (.iload_n 2, 1) := by decide +kernel
theorem d_J_floorMod_19 : decode c0_J_floorMod 19 = .ok (.ireturn, 1) := by decide +kernel
theorem d_W_alike_0 : decode c0_W_alike 0 = .ok (.iload_n 0, 1) := by decide +kernel
theorem d_W_alike_1 : decode c0_W_alike 1 = .ok (.bipush 95, 2) := by decide +kernel
theorem d_W_alike_3 : decode c0_W_alike 3 = .ok (.if_icmp .le 16, 3) := by decide +kernel
theorem d_W_alike_6 : decode c0_W_alike 6 = .ok (.bipush 95, 2) := by decide +kernel
theorem d_W_alike_8 : decode c0_W_alike 8 = .ok (.bipush 95, 2) := by decide +kernel
theorem d_W_alike_10 : decode c0_W_alike 10 = .ok (.iload_n 0, 1) := by decide +kernel
theorem d_W_alike_11 : decode c0_W_alike 11 = .ok (.isub, 1) := by decide +kernel
theorem d_W_alike_12 : decode c0_W_alike 12 = .ok (.bipush 12, 2) := by decide +kernel
theorem d_W_alike_14 : decode c0_W_alike 14 = .ok (.invokestatic 27, 3) := by decide +kernel
theorem d_W_alike_17 : decode c0_W_alike 17 = .ok (.isub, 1) := by decide +kernel
theorem d_W_alike_18 : decode c0_W_alike 18 = .ok (.ireturn, 1) := by decide +kernel
theorem d_W_alike_19 : decode c0_W_alike 19 = .ok (.iload_n 0, 1) := by decide +kernel
theorem d_W_alike_20 : decode c0_W_alike 20 = .ok (.bipush (-96), 2) := by decide +kernel
theorem d_W_alike_22 : decode c0_W_alike 22 = .ok (.if_icmp .ge 16, 3) := by decide +kernel
theorem d_W_alike_25 : decode c0_W_alike 25 = .ok (.bipush (-96), 2) := by decide +kernel
theorem d_W_alike_27 : decode c0_W_alike 27 = .ok (.iload_n 0, 1) := by decide +kernel
theorem d_W_alike_28 : decode c0_W_alike 28 = .ok (.bipush (-96), 2) := by decide +kernel
theorem d_W_alike_30 : decode c0_W_alike 30 = .ok (.isub, 1) := by decide +kernel
theorem d_W_alike_31 : decode c0_W_alike 31 = .ok (.bipush 12, 2) := by decide +kernel
theorem d_W_alike_33 : decode c0_W_alike 33 = .ok (.invokestatic 27, 3) := by decide +kernel
theorem d_W_alike_36 : decode c0_W_alike 36 = .ok (.iadd, 1) := by decide +kernel
theorem d_W_alike_37 : decode c0_W_alike 37 = .ok (.ireturn, 1) := by decide +kernel
theorem d_W_alike_38 : decode c0_W_alike 38 = .ok (.iload_n 0, 1) := by decide +kernel
theorem d_W_alike_39 : decode c0_W_alike 39 = .ok (.ireturn, 1) := by decide +kernel
theorem d_W_has_0 : decode c0_W_has 0 = .ok (.iload_n 1, 1) := by decide +kernel
theorem d_W_has_1 : decode c0_W_has 1 = .ok (.invokestatic 23, 3) := by decide +kernel
theorem d_W_has_4 : decode c0_W_has 4 = .ok (.bipush (-96), 2) := by decide +kernel
theorem d_W_has_6 : decode c0_W_has 6 = .ok (.isub, 1) := by decide +kernel
theorem d_W_has_7 : decode c0_W_has 7 = .ok (.istore_n 2, 1) := by decide +kernel
theorem d_W_has_8 : decode c0_W_has 8 = .ok (.aload_n 0, 1) := by decide +kernel
theorem d_W_has_9 : decode c0_W_has 9 = .ok (.getfield 11, 3) := by decide +kernel
theorem d_W_has_12 : decode c0_W_has 12 = .ok (.iload_n 2, 1) := by decide +kernel
theorem d_W_has_13 : decode c0_W_has 13 = .ok (.bipush 64, 2) := by decide +kernel
theorem d_W_has_15 : decode c0_W_has 15 = .ok (.idiv, 1) := by decide +kernel
theorem d_W_has_16 : decode c0_W_has 16 = .ok (.laload, 1) := by decide +kernel
theorem d_W_has_17 : decode c0_W_has 17 = .ok (.iload_n 2, 1) := by decide +kernel
theorem d_W_has_18 : decode c0_W_has 18 = .ok (.bipush 64, 2) := by decide +kernel
theorem d_W_has_20 : decode c0_W_has 20 = .ok (.irem, 1) := by decide +kernel
theorem d_W_has_21 : decode c0_W_has 21 = .ok (.lushr, 1) := by decide +kernel
theorem d_W_has_22 : decode c0_W_has 22 = .ok (.lconst 1, 1) := by decide +kernel
theorem d_W_has_23 : decode c0_W_has 23 = .ok (.land, 1) := by decide +kernel
theorem d_W_has_24 : decode c0_W_has 24 = .ok (.lconst 0, 1) := by decide +kernel
theorem d_W_has_25 : decode c0_W_has 25 = .ok (.lcmp, 1) := by decide +kernel
theorem d_W_has_26 : decode c0_W_has 26 = .ok (.ifCond .eq 7, 3) := by decide +kernel
theorem d_W_has_29 : decode c0_W_has 29 = .ok (.iconst 1, 1) := by decide +kernel
theorem d_W_has_30 : decode c0_W_has 30 = .ok (.goto 4, 3) := by decide +kernel
theorem d_W_has_33 : decode c0_W_has 33 = .ok (.iconst 0, 1) := by decide +kernel
theorem d_W_has_34 : decode c0_W_has 34 = .ok (.ireturn, 1) := by decide +kernel
theorem d_L_holds_0 : decode c0_L_holds 0 = .ok (.iload_n 1, 1) := by decide +kernel
theorem d_L_holds_1 : decode c0_L_holds 1 = .ok (.invokestatic 79, 3) := by decide +kernel
theorem d_L_holds_4 : decode c0_L_holds 4 = .ok (.ifCond .eq 18, 3) := by decide +kernel
theorem d_L_holds_7 : decode c0_L_holds 7 = .ok (.aload_n 0, 1) := by decide +kernel
theorem d_L_holds_8 : decode c0_L_holds 8 = .ok (.getfield 35, 3) := by decide +kernel
theorem d_L_holds_11 : decode c0_L_holds 11 = .ok (.iload_n 1, 1) := by decide +kernel
theorem d_L_holds_12 : decode c0_L_holds 12 = .ok (.invokevirtual 82, 3) := by decide +kernel
theorem d_L_holds_15 : decode c0_L_holds 15 = .ok (.ifCond .eq 7, 3) := by decide +kernel
theorem d_L_holds_18 : decode c0_L_holds 18 = .ok (.iconst 1, 1) := by decide +kernel
theorem d_L_holds_19 : decode c0_L_holds 19 = .ok (.goto 4, 3) := by decide +kernel
theorem d_L_holds_22 : decode c0_L_holds 22 = .ok (.iconst 0, 1) := by decide +kernel
theorem d_L_holds_23 : decode c0_L_holds 23 = .ok (.ireturn, 1) := by decide +kernel
theorem d_W_hasOne_0 : decode c0_W_hasOne 0 = .ok (.iconst 0, 1) := by decide +kernel
theorem d_W_hasOne_1 : decode c0_W_hasOne 1 = .ok (.istore_n 1, 1) := by decide +kernel
theorem d_W_hasOne_2 : decode c0_W_hasOne 2 = .ok (.iload_n 1, 1) := by decide +kernel
theorem d_W_hasOne_3 : decode c0_W_hasOne 3 = .ok (.iconst 3, 1) := by decide +kernel
theorem d_W_hasOne_4 : decode c0_W_hasOne 4 = .ok (.if_icmp .ge 22, 3) := by decide +kernel
theorem d_W_hasOne_7 : decode c0_W_hasOne 7 = .ok (.aload_n 0, 1) := by decide +kernel
theorem d_W_hasOne_8 : decode c0_W_hasOne 8 = .ok (.getfield 11, 3) := by decide +kernel
theorem d_W_hasOne_11 : decode c0_W_hasOne 11 = .ok (.iload_n 1, 1) := by decide +kernel
theorem d_W_hasOne_12 : decode c0_W_hasOne 12 = .ok (.laload, 1) := by decide +kernel
theorem d_W_hasOne_13 : decode c0_W_hasOne 13 = .ok (.lconst 0, 1) := by decide +kernel
theorem d_W_hasOne_14 : decode c0_W_hasOne 14 = .ok (.lcmp, 1) := by decide +kernel
theorem d_W_hasOne_15 : decode c0_W_hasOne 15 = .ok (.ifCond .eq 5, 3) := by decide +kernel
theorem d_W_hasOne_18 : decode c0_W_hasOne 18 = .ok (.iconst 1, 1) := by decide +kernel
theorem d_W_hasOne_19 : decode c0_W_hasOne 19 = .ok (.ireturn, 1) := by decide +kernel
theorem d_W_hasOne_20 : decode c0_W_hasOne 20 = .ok (.iinc 1 1, 3) := by decide +kernel
theorem d_W_hasOne_23 : decode c0_W_hasOne 23 = .ok (.goto (-21), 3) := by decide +kernel
theorem d_W_hasOne_26 : decode c0_W_hasOne 26 = .ok (.iconst 0, 1) := by decide +kernel
theorem d_W_hasOne_27 : decode c0_W_hasOne 27 = .ok (.ireturn, 1) := by decide +kernel
theorem d_L_some_0 : decode c0_L_some 0 = .ok (.aload_n 0, 1) := by decide +kernel
theorem d_L_some_1 : decode c0_L_some 1 = .ok (.getfield 35, 3) := by decide +kernel
theorem d_L_some_4 : decode c0_L_some 4 = .ok (.invokevirtual 85, 3) := by decide +kernel
theorem d_L_some_7 : decode c0_L_some 7 = .ok (.ireturn, 1) := by decide +kernel
theorem d_W_hasEach_0 : decode c0_W_hasEach 0 = .ok (.iconst 0, 1) := by decide +kernel
theorem d_W_hasEach_1 : decode c0_W_hasEach 1 = .ok (.istore_n 1, 1) := by decide +kernel
theorem d_W_hasEach_2 : decode c0_W_hasEach 2 = .ok (.iload_n 1, 1) := by decide +kernel
theorem d_W_hasEach_3 : decode c0_W_hasEach 3 = .ok (.iconst 3, 1) := by decide +kernel
theorem d_W_hasEach_4 : decode c0_W_hasEach 4 = .ok (.if_icmp .ge 24, 3) := by decide +kernel
theorem d_W_hasEach_7 : decode c0_W_hasEach 7 = .ok (.aload_n 0, 1) := by decide +kernel
theorem d_W_hasEach_8 : decode c0_W_hasEach 8 = .ok (.getfield 11, 3) := by decide +kernel
theorem d_W_hasEach_11 : decode c0_W_hasEach 11 = .ok (.iload_n 1, 1) := by decide +kernel
theorem d_W_hasEach_12 : decode c0_W_hasEach 12 = .ok (.laload, 1) := by decide +kernel
theorem d_W_hasEach_13 : decode c0_W_hasEach 13 = .ok (.ldc2_w 15, 3) := by decide +kernel
theorem d_W_hasEach_16 : decode c0_W_hasEach 16 = .ok (.lcmp, 1) := by decide +kernel
theorem d_W_hasEach_17 : decode c0_W_hasEach 17 = .ok (.ifCond .eq 5, 3) := by decide +kernel
theorem d_W_hasEach_20 : decode c0_W_hasEach 20 = .ok (.iconst 0, 1) := by decide +kernel
theorem d_W_hasEach_21 : decode c0_W_hasEach 21 = .ok (.ireturn, 1) := by decide +kernel
theorem d_W_hasEach_22 : decode c0_W_hasEach 22 = .ok (.iinc 1 1, 3) := by decide +kernel
theorem d_W_hasEach_25 : decode c0_W_hasEach 25 = .ok (.goto (-23), 3) := by decide +kernel
theorem d_W_hasEach_28 : decode c0_W_hasEach 28 = .ok (.iconst 1, 1) := by decide +kernel
theorem d_W_hasEach_29 : decode c0_W_hasEach 29 = .ok (.ireturn, 1) := by decide +kernel
theorem d_L_all_0 : decode c0_L_all 0 = .ok (.aload_n 0, 1) := by decide +kernel
theorem d_L_all_1 : decode c0_L_all 1 = .ok (.getfield 35, 3) := by decide +kernel
theorem d_L_all_4 : decode c0_L_all 4 = .ok (.invokevirtual 88, 3) := by decide +kernel
theorem d_L_all_7 : decode c0_L_all 7 = .ok (.ireturn, 1) := by decide +kernel
theorem d_J_max_0 : decode c0_J_max 0 = .ok (.iload_n 0, 1) := by decide +kernel
theorem d_J_max_1 : decode c0_J_max 1 = .ok (.iload_n 1, 1) := by decide +kernel
theorem d_J_max_2 : decode c0_J_max 2 = .ok (.if_icmp .lt 7, 3) := by decide +kernel
theorem d_J_max_5 : decode c0_J_max 5 = .ok (.iload_n 0, 1) := by decide +kernel
theorem d_J_max_6 : decode c0_J_max 6 = .ok (.goto 4, 3) := by decide +kernel
theorem d_J_max_9 : decode c0_J_max 9 = .ok (.iload_n 1, 1) := by decide +kernel
theorem d_J_max_10 : decode c0_J_max 10 = .ok (.ireturn, 1) := by decide +kernel
theorem d_L_next_0 : decode c0_L_next 0 = .ok (.iload_n 1, 1) := by decide +kernel
theorem d_L_next_1 : decode c0_L_next 1 = .ok (.invokestatic 79, 3) := by decide +kernel
theorem d_L_next_4 : decode c0_L_next 4 = .ok (.ifCond .ne 6, 3) := by decide +kernel
theorem d_L_next_7 : decode c0_L_next 7 = .ok (.ldc 91, 2) := by decide +kernel
theorem d_L_next_9 : decode c0_L_next 9 = .ok (.ireturn, 1) := by decide +kernel
theorem d_L_next_10 : decode c0_L_next 10 = .ok (.iload_n 1, 1) := by decide +kernel
theorem d_L_next_11 : decode c0_L_next 11 = .ok (.bipush 95, 2) := by decide +kernel
theorem d_L_next_13 : decode c0_L_next 13 = .ok (.invokestatic 92, 3) := by decide +kernel
theorem d_L_next_16 : decode c0_L_next 16 = .ok (.bipush 12, 2) := by decide +kernel
theorem d_L_next_18 : decode c0_L_next 18 = .ok (.iadd, 1) := by decide +kernel
theorem d_L_next_19 : decode c0_L_next 19 = .ok (.istore_n 2, 1) := by decide +kernel
theorem d_L_next_20 : decode c0_L_next 20 = .ok (.iload_n 1, 1) := by decide +kernel
theorem d_L_next_21 : decode c0_L_next 21 = .ok (.istore_n 3, 1) := by decide +kernel
theorem d_L_next_22 : decode c0_L_next 22 = .ok (.iload_n 3, 1) := by decide +kernel
theorem d_L_next_23 : decode c0_L_next 23 = .ok (.iload_n 2, 1) := by decide +kernel
theorem d_L_next_24 : decode c0_L_next 24 = .ok (.if_icmp .gt 22, 3) := by decide +kernel
theorem d_L_next_27 : decode c0_L_next 27 = .ok (.aload_n 0, 1) := by decide +kernel
theorem d_L_next_28 : decode c0_L_next 28 = .ok (.getfield 35, 3) := by decide +kernel
theorem d_L_next_31 : decode c0_L_next 31 = .ok (.iload_n 3, 1) := by decide +kernel
theorem d_L_next_32 : decode c0_L_next 32 = .ok (.invokevirtual 82, 3) := by decide +kernel
theorem d_L_next_35 : decode c0_L_next 35 = .ok (.ifCond .eq 5, 3) := by decide +kernel
theorem d_L_next_38 : decode c0_L_next 38 = .ok (.iload_n 3, 1) := by decide +kernel
theorem d_L_next_39 : decode c0_L_next 39 = .ok (.ireturn, 1) := by decide +kernel
theorem d_L_next_40 : decode c0_L_next 40 = .ok (.iinc 3 1, 3) := by decide +kernel
theorem d_L_next_43 : decode c0_L_next 43 = .ok (.goto (-21), 3) := by decide +kernel
theorem d_L_next_46 : decode c0_L_next 46 = .ok (.ldc 91, 2) := by decide +kernel
theorem d_L_next_48 : decode c0_L_next 48 = .ok (.ireturn, 1) := by decide +kernel
theorem d_J_min_0 : decode c0_J_min 0 = .ok (.iload_n 0, 1) := by decide +kernel
theorem d_J_min_1 : decode c0_J_min 1 = .ok (.iload_n 1, 1) := by decide +kernel
theorem d_J_min_2 : decode c0_J_min 2 = .ok (.if_icmp .gt 7, 3) := by decide +kernel
theorem d_J_min_5 : decode c0_J_min 5 = .ok (.iload_n 0, 1) := by decide +kernel
theorem d_J_min_6 : decode c0_J_min 6 = .ok (.goto 4, 3) := by decide +kernel
theorem d_J_min_9 : decode c0_J_min 9 = .ok (.iload_n 1, 1) := by decide +kernel
theorem d_J_min_10 : decode c0_J_min 10 = .ok (.ireturn, 1) := by decide +kernel
theorem d_L_last_0 : decode c0_L_last 0 = .ok (.iload_n 1, 1) := by decide +kernel
theorem d_L_last_1 : decode c0_L_last 1 = .ok (.invokestatic 79, 3) := by decide +kernel
theorem d_L_last_4 : decode c0_L_last 4 = .ok (.ifCond .ne 6, 3) := by decide +kernel
theorem d_L_last_7 : decode c0_L_last 7 = .ok (.ldc 97, 2) := by decide +kernel
theorem d_L_last_9 : decode c0_L_last 9 = .ok (.ireturn, 1) := by decide +kernel
theorem d_L_last_10 : decode c0_L_last 10 = .ok (.iload_n 1, 1) := by decide +kernel
theorem d_L_last_11 : decode c0_L_last 11 = .ok (.bipush (-96), 2) := by decide +kernel
theorem d_L_last_13 : decode c0_L_last 13 = .ok (.invokestatic 98, 3) := by decide +kernel
theorem d_L_last_16 : decode c0_L_last 16 = .ok (.bipush 12, 2) := by decide +kernel
theorem d_L_last_18 : decode c0_L_last 18 = .ok (.isub, 1) := by decide +kernel
theorem d_L_last_19 : decode c0_L_last 19 = .ok (.istore_n 2, 1) := by decide +kernel
theorem d_L_last_20 : decode c0_L_last 20 = .ok (.iload_n 1, 1) := by decide +kernel
theorem d_L_last_21 : decode c0_L_last 21 = .ok (.istore_n 3, 1) := by decide +kernel
theorem d_L_last_22 : decode c0_L_last 22 = .ok (.iload_n 3, 1) := by decide +kernel
theorem d_L_last_23 : decode c0_L_last 23 = .ok (.iload_n 2, 1) := by decide +kernel
theorem d_L_last_24 : decode c0_L_last 24 = .ok (.if_icmp .lt 22, 3) := by decide +kernel
theorem d_L_last_27 : decode c0_L_last 27 = .ok (.aload_n 0, 1) := by decide +kernel
theorem d_L_last_28 : decode c0_L_last 28 = .ok (.getfield 35, 3) := by decide +kernel
theorem d_L_last_31 : decode c0_L_last 31 = .ok (.iload_n 3, 1) := by decide +kernel
theorem d_L_last_32 : decode c0_L_last 32 = .ok (.invokevirtual 82, 3) := by decide +kernel
theorem d_L_last_35 : decode c0_L_last 35 = .ok (.ifCond .eq 5, 3) := by decide +kernel
theorem d_L_last_38 : decode c0_L_last 38 = .ok (.iload_n 3, 1) := by decide +kernel
theorem d_L_last_39 : decode c0_L_last 39 = .ok (.ireturn, 1) := by decide +kernel
theorem d_L_last_40 : decode c0_L_last 40 = .ok (.iinc 3 (-1), 3) := by decide +kernel
theorem d_L_last_43 : decode c0_L_last 43 = .ok (.goto (-21), 3) := by decide +kernel
theorem d_L_last_46 : decode c0_L_last 46 = .ok (.ldc 97, 2) := by decide +kernel
theorem d_L_last_48 : decode c0_L_last 48 = .ok (.ireturn, 1) := by decide +kernel
theorem d_L_again_0 : decode c0_L_again 0 = .ok (.iconst 0, 1) := by decide +kernel
theorem d_L_again_1 : decode c0_L_again 1 = .ok (.istore_n 2, 1) := by decide +kernel
theorem d_L_again_2 : decode c0_L_again 2 = .ok (.iload_n 2, 1) := by decide +kernel
theorem d_L_again_3 : decode c0_L_again 3 = .ok (.bipush 12, 2) := by decide +kernel
theorem d_L_again_5 : decode c0_L_again 5 = .ok (.if_icmp .ge 36, 3) := by decide +kernel
theorem d_L_again_8 : decode c0_L_again 8 = .ok (.aload_n 0, 1) := by decide +kernel
theorem d_L_again_9 : decode c0_L_again 9 = .ok (.getfield 35, 3) := by decide +kernel
theorem d_L_again_12 : decode c0_L_again 12 = .ok (.iload_n 1, 1) := by decide +kernel
theorem d_L_again_13 : decode c0_L_again 13 = .ok (.ifCond .eq 10, 3) := by decide +kernel
theorem d_L_again_16 : decode c0_L_again 16 = .ok (.bipush 95, 2) := by decide +kernel
theorem d_L_again_18 : decode c0_L_again 18 = .ok (.iload_n 2, 1) := by decide +kernel
theorem d_L_again_19 : decode c0_L_again 19 = .ok (.isub, 1) := by decide +kernel
theorem d_L_again_20 : decode c0_L_again 20 = .ok (.goto 7, 3) := by decide +kernel
theorem d_L_again_23 : decode c0_L_again 23 = .ok (.bipush (-96), 2) := by decide +kernel
theorem d_L_again_25 : decode c0_L_again 25 = .ok (.iload_n 2, 1) := by decide +kernel
theorem d_L_again_26 : decode c0_L_again 26 = .ok (.iadd, 1) := by decide +kernel
theorem d_L_again_27 : decode c0_L_again 27 = .ok (.invokevirtual 82, 3) := by decide +kernel
theorem d_L_again_30 : decode c0_L_again 30 = .ok (.ifCond .eq 5, 3) := by decide +kernel
theorem d_L_again_33 : decode c0_L_again 33 = .ok (.iconst 1, 1) := by decide +kernel
theorem d_L_again_34 : decode c0_L_again 34 = .ok (.ireturn, 1) := by decide +kernel
theorem d_L_again_35 : decode c0_L_again 35 = .ok (.iinc 2 1, 3) := by decide +kernel
theorem d_L_again_38 : decode c0_L_again 38 = .ok (.goto (-36), 3) := by decide +kernel
theorem d_L_again_41 : decode c0_L_again 41 = .ok (.iconst 0, 1) := by decide +kernel
theorem d_L_again_42 : decode c0_L_again 42 = .ok (.ireturn, 1) := by decide +kernel
theorem d_L_count_0 : decode c0_L_count 0 = .ok (.iload_n 1, 1) := by decide +kernel
theorem d_L_count_1 : decode c0_L_count 1 = .ok (.invokestatic 79, 3) := by decide +kernel
theorem d_L_count_4 : decode c0_L_count 4 = .ok (.ifCond .eq 25, 3) := by decide +kernel
theorem d_L_count_7 : decode c0_L_count 7 = .ok (.iload_n 2, 1) := by decide +kernel
theorem d_L_count_8 : decode c0_L_count 8 = .ok (.invokestatic 79, 3) := by decide +kernel
theorem d_L_count_11 : decode c0_L_count 11 = .ok (.ifCond .eq 18, 3) := by decide +kernel
theorem d_L_count_14 : decode c0_L_count 14 = .ok (.iload_n 2, 1) := by decide +kernel
theorem d_L_count_15 : decode c0_L_count 15 = .ok (.iload_n 1, 1) := by decide +kernel
