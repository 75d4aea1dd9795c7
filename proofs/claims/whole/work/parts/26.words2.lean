theorem wd_13 : Cond.methodLink "LineClaims" 1 ⟨"java/lang/Object", "<init>", "()V"⟩ ∈ gW := List.mem_filter.mpr ⟨(List.mem_append_right _ (List.mem_of_getElem? (i := 13) (by decide +kernel))), by decide +kernel⟩
theorem wd_14 : Cond.instanceMethod ⟨"java/lang/Object", "<init>", "()V"⟩ ∈ gW := List.mem_filter.mpr ⟨(List.mem_append_right _ (List.mem_of_getElem? (i := 14) (by decide +kernel))), by decide +kernel⟩
theorem wd_15 : Cond.code ⟨"java/lang/Object", "<init>", "()V"⟩ object_method_1_code 1 none ∈ gW := List.mem_filter.mpr ⟨(List.mem_append_right _ (List.mem_of_getElem? (i := 15) (by decide +kernel))), by decide +kernel⟩
theorem wd_16 : Cond.classLink "LineClaims" 7 "LineClaims$Text" ∈ gW := List.mem_filter.mpr ⟨(List.mem_append_right _ (List.mem_of_getElem? (i := 16) (by decide +kernel))), by decide +kernel⟩
theorem wd_17 : Cond.instantiable "LineClaims$Text" 4 ∈ gW := List.mem_filter.mpr ⟨(List.mem_append_right _ (List.mem_of_getElem? (i := 17) (by decide +kernel))), by decide +kernel⟩
theorem wd_19 : Cond.instanceMethod ⟨"LineClaims$Text", "<init>", "()V"⟩ ∈ gW := List.mem_filter.mpr ⟨(List.mem_append_right _ (List.mem_of_getElem? (i := 19) (by decide +kernel))), by decide +kernel⟩
theorem wd_20 : Cond.code ⟨"LineClaims$Text", "<init>", "()V"⟩ prog_5_method_1_code 1 none ∈ gW := List.mem_filter.mpr ⟨(List.mem_append_right _ (List.mem_of_getElem? (i := 20) (by decide +kernel))), by decide +kernel⟩
theorem wd_21 : Cond.methodLink "LineClaims$Text" 1 ⟨"java/lang/Object", "<init>", "()V"⟩ ∈ gW := List.mem_filter.mpr ⟨(List.mem_append_right _ (List.mem_of_getElem? (i := 21) (by decide +kernel))), by decide +kernel⟩
theorem wd_35 : Cond.arrayClass .int ∈ gW := List.mem_filter.mpr ⟨(List.mem_append_right _ (List.mem_of_getElem? (i := 35) (by decide +kernel))), by decide +kernel⟩
theorem wd_36 : Cond.classLink "LineClaims" 16 "LineClaims$Claims" ∈ gW := List.mem_filter.mpr ⟨(List.mem_append_right _ (List.mem_of_getElem? (i := 36) (by decide +kernel))), by decide +kernel⟩
theorem wd_37 : Cond.instantiable "LineClaims$Claims" 9 ∈ gW := List.mem_filter.mpr ⟨(List.mem_append_right _ (List.mem_of_getElem? (i := 37) (by decide +kernel))), by decide +kernel⟩
theorem wd_39 : Cond.instanceMethod ⟨"LineClaims$Claims", "<init>", "()V"⟩ ∈ gW := List.mem_filter.mpr ⟨(List.mem_append_right _ (List.mem_of_getElem? (i := 39) (by decide +kernel))), by decide +kernel⟩
theorem wd_40 : Cond.code ⟨"LineClaims$Claims", "<init>", "()V"⟩ prog_2_method_1_code 1 none ∈ gW := List.mem_filter.mpr ⟨(List.mem_append_right _ (List.mem_of_getElem? (i := 40) (by decide +kernel))), by decide +kernel⟩
theorem wd_41 : Cond.methodLink "LineClaims$Claims" 3 ⟨"java/lang/Object", "<init>", "()V"⟩ ∈ gW := List.mem_filter.mpr ⟨(List.mem_append_right _ (List.mem_of_getElem? (i := 41) (by decide +kernel))), by decide +kernel⟩
theorem wd_70 : Cond.classLink "LineClaims" 23 "LineClaims$Reader" ∈ gW := List.mem_filter.mpr ⟨(List.mem_append_right _ (List.mem_of_getElem? (i := 70) (by decide +kernel))), by decide +kernel⟩
theorem wd_71 : Cond.instantiable "LineClaims$Reader" 5 ∈ gW := List.mem_filter.mpr ⟨(List.mem_append_right _ (List.mem_of_getElem? (i := 71) (by decide +kernel))), by decide +kernel⟩
theorem wd_72 : Cond.methodLink "LineClaims" 25 ⟨"LineClaims$Reader", "<init>", "(LLineClaims$Text;LLineClaims$Claims;)V"⟩ ∈ gW := List.mem_filter.mpr ⟨(List.mem_append_right _ (List.mem_of_getElem? (i := 72) (by decide +kernel))), by decide +kernel⟩
theorem wd_73 : Cond.instanceMethod ⟨"LineClaims$Reader", "<init>", "(LLineClaims$Text;LLineClaims$Claims;)V"⟩ ∈ gW := List.mem_filter.mpr ⟨(List.mem_append_right _ (List.mem_of_getElem? (i := 73) (by decide +kernel))), by decide +kernel⟩
theorem wd_74 : Cond.code ⟨"LineClaims$Reader", "<init>", "(LLineClaims$Text;LLineClaims$Claims;)V"⟩ prog_3_method_1_code 3 none ∈ gW := List.mem_filter.mpr ⟨(List.mem_append_right _ (List.mem_of_getElem? (i := 74) (by decide +kernel))), by decide +kernel⟩
theorem wd_75 : Cond.methodLink "LineClaims$Reader" 1 ⟨"java/lang/Object", "<init>", "()V"⟩ ∈ gW := List.mem_filter.mpr ⟨(List.mem_append_right _ (List.mem_of_getElem? (i := 75) (by decide +kernel))), by decide +kernel⟩
theorem wd_92 : Cond.classLink "LineClaims" 32 "LineClaims$Row" ∈ gW := List.mem_filter.mpr ⟨(List.mem_append_right _ (List.mem_of_getElem? (i := 92) (by decide +kernel))), by decide +kernel⟩
theorem wd_93 : Cond.instantiable "LineClaims$Row" 1 ∈ gW := List.mem_filter.mpr ⟨(List.mem_append_right _ (List.mem_of_getElem? (i := 93) (by decide +kernel))), by decide +kernel⟩
theorem wd_94 : Cond.methodLink "LineClaims" 34 ⟨"LineClaims$Row", "<init>", "()V"⟩ ∈ gW := List.mem_filter.mpr ⟨(List.mem_append_right _ (List.mem_of_getElem? (i := 94) (by decide +kernel))), by decide +kernel⟩
theorem wd_95 : Cond.instanceMethod ⟨"LineClaims$Row", "<init>", "()V"⟩ ∈ gW := List.mem_filter.mpr ⟨(List.mem_append_right _ (List.mem_of_getElem? (i := 95) (by decide +kernel))), by decide +kernel⟩
theorem wd_96 : Cond.code ⟨"LineClaims$Row", "<init>", "()V"⟩ prog_4_method_1_code 2 none ∈ gW := List.mem_filter.mpr ⟨(List.mem_append_right _ (List.mem_of_getElem? (i := 96) (by decide +kernel))), by decide +kernel⟩
theorem wd_97 : Cond.methodLink "LineClaims$Row" 5 ⟨"java/lang/Object", "<init>", "()V"⟩ ∈ gW := List.mem_filter.mpr ⟨(List.mem_append_right _ (List.mem_of_getElem? (i := 97) (by decide +kernel))), by decide +kernel⟩
theorem wd_103 : Cond.arrayClass .long ∈ gW := List.mem_filter.mpr ⟨(List.mem_append_right _ (List.mem_of_getElem? (i := 103) (by decide +kernel))), by decide +kernel⟩
theorem wd_391 : Cond.methodLink "LineClaimsModel" 1 ⟨"java/lang/Object", "<init>", "()V"⟩ ∈ gW := List.mem_filter.mpr ⟨(List.mem_append_right _ (List.mem_of_getElem? (i := 391) (by decide +kernel))), by decide +kernel⟩
theorem wd_477 : Cond.arrayClass .boolean ∈ gW := List.mem_filter.mpr ⟨(List.mem_append_right _ (List.mem_of_getElem? (i := 477) (by decide +kernel))), by decide +kernel⟩
abbrev c0_C_init : ByteArray := prog_2_method_1_code
def y_C_init : MethodName := ⟨R_C, "<init>", "()V"⟩
def w_C_init : List Cond := .code y_C_init c0_C_init 1 none :: gW
theorem d_C_init_0 : decode c0_C_init 0 = .ok (.aload_n 0, 1) := by decide +kernel
theorem d_C_init_1 : decode c0_C_init 1 = .ok (.invokespecial 3, 3) := by decide +kernel
theorem d_C_init_4 : decode c0_C_init 4 = .ok (.aload_n 0, 1) := by decide +kernel
theorem d_C_init_5 : decode c0_C_init 5 = .ok (.bipush 20, 2) := by decide +kernel
theorem d_C_init_7 : decode c0_C_init 7 = .ok (.newarray .int, 2) := by decide +kernel
theorem d_C_init_9 : decode c0_C_init 9 = .ok (.putfield 11, 3) := by decide +kernel
theorem d_C_init_12 : decode c0_C_init 12 = .ok (.aload_n 0, 1) := by decide +kernel
theorem d_C_init_13 : decode c0_C_init 13 = .ok (.bipush 20, 2) := by decide +kernel
theorem d_C_init_15 : decode c0_C_init 15 = .ok (.newarray .int, 2) := by decide +kernel
theorem d_C_init_17 : decode c0_C_init 17 = .ok (.putfield 15, 3) := by decide +kernel
theorem d_C_init_20 : decode c0_C_init 20 = .ok (.aload_n 0, 1) := by decide +kernel
theorem d_C_init_21 : decode c0_C_init 21 = .ok (.bipush 20, 2) := by decide +kernel
theorem d_C_init_23 : decode c0_C_init 23 = .ok (.newarray .int, 2) := by decide +kernel
theorem d_C_init_25 : decode c0_C_init 25 = .ok (.putfield 18, 3) := by decide +kernel
theorem d_C_init_28 : decode c0_C_init 28 = .ok (.aload_n 0, 1) := by decide +kernel
theorem d_C_init_29 : decode c0_C_init 29 = .ok (.bipush 20, 2) := by decide +kernel
theorem d_C_init_31 : decode c0_C_init 31 = .ok (.newarray .int, 2) := by decide +kernel
theorem d_C_init_33 : decode c0_C_init 33 = .ok (.putfield 21, 3) := by decide +kernel
theorem d_C_init_36 : decode c0_C_init 36 = .ok (.aload_n 0, 1) := by decide +kernel
theorem d_C_init_37 : decode c0_C_init 37 = .ok (.bipush 20, 2) := by decide +kernel
theorem d_C_init_39 : decode c0_C_init 39 = .ok (.newarray .int, 2) := by decide +kernel
theorem d_C_init_41 : decode c0_C_init 41 = .ok (.putfield 24, 3) := by decide +kernel
theorem d_C_init_44 : decode c0_C_init 44 = .ok (.aload_n 0, 1) := by decide +kernel
theorem d_C_init_45 : decode c0_C_init 45 = .ok (.bipush 60, 2) := by decide +kernel
theorem d_C_init_47 : decode c0_C_init 47 = .ok (.newarray .int, 2) := by decide +kernel
theorem d_C_init_49 : decode c0_C_init 49 = .ok (.putfield 27, 3) := by decide +kernel
theorem d_C_init_52 : decode c0_C_init 52 = .ok (.aload_n 0, 1) := by decide +kernel
theorem d_C_init_53 : decode c0_C_init 53 = .ok (.bipush 20, 2) := by decide +kernel
theorem d_C_init_55 : decode c0_C_init 55 = .ok (.newarray .int, 2) := by decide +kernel
theorem d_C_init_57 : decode c0_C_init 57 = .ok (.putfield 30, 3) := by decide +kernel
theorem d_C_init_60 : decode c0_C_init 60 = .ok (.aload_n 0, 1) := by decide +kernel
theorem d_C_init_61 : decode c0_C_init 61 = .ok (.iconst 3, 1) := by decide +kernel
theorem d_C_init_62 : decode c0_C_init 62 = .ok (.newarray .int, 2) := by decide +kernel
theorem d_C_init_64 : decode c0_C_init 64 = .ok (.putfield 33, 3) := by decide +kernel
theorem d_C_init_67 : decode c0_C_init 67 = .ok (.aload_n 0, 1) := by decide +kernel
theorem d_C_init_68 : decode c0_C_init 68 = .ok (.iconst 0, 1) := by decide +kernel
theorem d_C_init_69 : decode c0_C_init 69 = .ok (.putfield 36, 3) := by decide +kernel
theorem d_C_init_72 : decode c0_C_init 72 = .ok (.return_, 1) := by decide +kernel
abbrev c0_R_init : ByteArray := prog_3_method_1_code
def y_R_init : MethodName := ⟨R_R, "<init>", "(LLineClaims$Text;LLineClaims$Claims;)V"⟩
def w_R_init : List Cond := .code y_R_init c0_R_init 3 none :: gW
theorem d_R_init_0 : decode c0_R_init 0 = .ok (.aload_n 0, 1) := by decide +kernel
theorem d_R_init_1 : decode c0_R_init 1 = .ok (.invokespecial 1, 3) := by decide +kernel
theorem d_R_init_4 : decode c0_R_init 4 = .ok (.aload_n 0, 1) := by decide +kernel
theorem d_R_init_5 : decode c0_R_init 5 = .ok (.iconst 0, 1) := by decide +kernel
theorem d_R_init_6 : decode c0_R_init 6 = .ok (.putfield 7, 3) := by decide +kernel
theorem d_R_init_9 : decode c0_R_init 9 = .ok (.aload_n 0, 1) := by decide +kernel
theorem d_R_init_10 : decode c0_R_init 10 = .ok (.iconst 0, 1) := by decide +kernel
theorem d_R_init_11 : decode c0_R_init 11 = .ok (.putfield 13, 3) := by decide +kernel
theorem d_R_init_14 : decode c0_R_init 14 = .ok (.aload_n 0, 1) := by decide +kernel
theorem d_R_init_15 : decode c0_R_init 15 = .ok (.iconst 0, 1) := by decide +kernel
theorem d_R_init_16 : decode c0_R_init 16 = .ok (.putfield 16, 3) := by decide +kernel
theorem d_R_init_19 : decode c0_R_init 19 = .ok (.aload_n 0, 1) := by decide +kernel
theorem d_R_init_20 : decode c0_R_init 20 = .ok (.aload_n 1, 1) := by decide +kernel
theorem d_R_init_21 : decode c0_R_init 21 = .ok (.putfield 20, 3) := by decide +kernel
theorem d_R_init_24 : decode c0_R_init 24 = .ok (.aload_n 0, 1) := by decide +kernel
theorem d_R_init_25 : decode c0_R_init 25 = .ok (.aload_n 2, 1) := by decide +kernel
theorem d_R_init_26 : decode c0_R_init 26 = .ok (.putfield 24, 3) := by decide +kernel
theorem d_R_init_29 : decode c0_R_init 29 = .ok (.return_, 1) := by decide +kernel
abbrev c0_W_init : ByteArray := prog_4_method_1_code
def y_W_init : MethodName := ⟨R_W, "<init>", "()V"⟩
def w_W_init : List Cond := .code y_W_init c0_W_init 2 none :: gW
theorem d_W_init_0 : decode c0_W_init 0 = .ok (.aload_n 0, 1) := by decide +kernel
theorem d_W_init_1 : decode c0_W_init 1 = .ok (.invokespecial 5, 3) := by decide +kernel
theorem d_W_init_4 : decode c0_W_init 4 = .ok (.aload_n 0, 1) := by decide +kernel
theorem d_W_init_5 : decode c0_W_init 5 = .ok (.iconst 3, 1) := by decide +kernel
theorem d_W_init_6 : decode c0_W_init 6 = .ok (.newarray .long, 2) := by decide +kernel
theorem d_W_init_8 : decode c0_W_init 8 = .ok (.putfield 11, 3) := by decide +kernel
theorem d_W_init_11 : decode c0_W_init 11 = .ok (.iconst 0, 1) := by decide +kernel
theorem d_W_init_12 : decode c0_W_init 12 = .ok (.istore_n 1, 1) := by decide +kernel
theorem d_W_init_13 : decode c0_W_init 13 = .ok (.iload_n 1, 1) := by decide +kernel
theorem d_W_init_14 : decode c0_W_init 14 = .ok (.iconst 3, 1) := by decide +kernel
theorem d_W_init_15 : decode c0_W_init 15 = .ok (.if_icmp .ge 18, 3) := by decide +kernel
theorem d_W_init_18 : decode c0_W_init 18 = .ok (.aload_n 0, 1) := by decide +kernel
theorem d_W_init_19 : decode c0_W_init 19 = .ok (.getfield 11, 3) := by decide +kernel
theorem d_W_init_22 : decode c0_W_init 22 = .ok (.iload_n 1, 1) := by decide +kernel
theorem d_W_init_23 : decode c0_W_init 23 = .ok (.ldc2_w 15, 3) := by decide +kernel
theorem d_W_init_26 : decode c0_W_init 26 = .ok (.lastore, 1) := by decide +kernel
theorem d_W_init_27 : decode c0_W_init 27 = .ok (.iinc 1 1, 3) := by decide +kernel
theorem d_W_init_30 : decode c0_W_init 30 = .ok (.goto (-17), 3) := by decide +kernel
theorem d_W_init_33 : decode c0_W_init 33 = .ok (.return_, 1) := by decide +kernel
abbrev c0_T_init : ByteArray := prog_5_method_1_code
def y_T_init : MethodName := ⟨R_T, "<init>", "()V"⟩
def w_T_init : List Cond := .code y_T_init c0_T_init 1 none :: gW
theorem d_T_init_0 : decode c0_T_init 0 = .ok (.aload_n 0, 1) := by decide +kernel
theorem d_T_init_1 : decode c0_T_init 1 = .ok (.invokespecial 1, 3) := by decide +kernel
theorem d_T_init_4 : decode c0_T_init 4 = .ok (.aload_n 0, 1) := by decide +kernel
theorem d_T_init_5 : decode c0_T_init 5 = .ok (.bipush 120, 2) := by decide +kernel
theorem d_T_init_7 : decode c0_T_init 7 = .ok (.newarray .int, 2) := by decide +kernel
theorem d_T_init_9 : decode c0_T_init 9 = .ok (.putfield 9, 3) := by decide +kernel
theorem d_T_init_12 : decode c0_T_init 12 = .ok (.aload_n 0, 1) := by decide +kernel
theorem d_T_init_13 : decode c0_T_init 13 = .ok (.bipush 120, 2) := by decide +kernel
theorem d_T_init_15 : decode c0_T_init 15 = .ok (.newarray .int, 2) := by decide +kernel
theorem d_T_init_17 : decode c0_T_init 17 = .ok (.putfield 13, 3) := by decide +kernel
theorem d_T_init_20 : decode c0_T_init 20 = .ok (.aload_n 0, 1) := by decide +kernel
theorem d_T_init_21 : decode c0_T_init 21 = .ok (.iconst 0, 1) := by decide +kernel
theorem d_T_init_22 : decode c0_T_init 22 = .ok (.putfield 16, 3) := by decide +kernel
theorem d_T_init_25 : decode c0_T_init 25 = .ok (.aload_n 0, 1) := by decide +kernel
theorem d_T_init_26 : decode c0_T_init 26 = .ok (.iconst 0, 1) := by decide +kernel
theorem d_T_init_27 : decode c0_T_init 27 = .ok (.putfield 20, 3) := by decide +kernel
theorem d_T_init_30 : decode c0_T_init 30 = .ok (.return_, 1) := by decide +kernel
