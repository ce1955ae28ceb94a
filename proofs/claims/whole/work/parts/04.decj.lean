/-! printed: methods and their instructions -/
abbrev b_A_add_O : ByteArray := prog_23_method_25_code
def y_A_add_O : MethodName := ⟨"java/util/ArrayList", "add", "(Ljava/lang/Object;)Z"⟩
theorem d_A_add_O_0 : decode b_A_add_O 0 = .ok (.aload_n 0, 1) := by decide +kernel
theorem d_A_add_O_1 : decode b_A_add_O 1 = .ok (.dup, 1) := by decide +kernel
theorem d_A_add_O_2 : decode b_A_add_O 2 = .ok (.getfield 63, 3) := by decide +kernel
theorem d_A_add_O_5 : decode b_A_add_O 5 = .ok (.iconst 1, 1) := by decide +kernel
theorem d_A_add_O_6 : decode b_A_add_O 6 = .ok (.iadd, 1) := by decide +kernel
theorem d_A_add_O_7 : decode b_A_add_O 7 = .ok (.putfield 63, 3) := by decide +kernel
theorem d_A_add_O_10 : decode b_A_add_O 10 = .ok (.aload_n 0, 1) := by decide +kernel
theorem d_A_add_O_11 : decode b_A_add_O 11 = .ok (.aload_n 1, 1) := by decide +kernel
theorem d_A_add_O_12 : decode b_A_add_O 12 = .ok (.aload_n 0, 1) := by decide +kernel
theorem d_A_add_O_13 : decode b_A_add_O 13 = .ok (.getfield 9, 3) := by decide +kernel
theorem d_A_add_O_16 : decode b_A_add_O 16 = .ok (.aload_n 0, 1) := by decide +kernel
theorem d_A_add_O_17 : decode b_A_add_O 17 = .ok (.getfield 48, 3) := by decide +kernel
theorem d_A_add_O_20 : decode b_A_add_O 20 = .ok (.invokevirtual 131, 3) := by decide +kernel
theorem d_A_add_O_23 : decode b_A_add_O 23 = .ok (.iconst 1, 1) := by decide +kernel
theorem d_A_add_O_24 : decode b_A_add_O 24 = .ok (.ireturn, 1) := by decide +kernel
abbrev b_A_add_OaOI : ByteArray := prog_23_method_24_code
def y_A_add_OaOI : MethodName := ⟨"java/util/ArrayList", "add", "(Ljava/lang/Object;[Ljava/lang/Object;I)V"⟩
theorem d_A_add_OaOI_0 : decode b_A_add_OaOI 0 = .ok (.iload_n 3, 1) := by decide +kernel
theorem d_A_add_OaOI_1 : decode b_A_add_OaOI 1 = .ok (.aload_n 2, 1) := by decide +kernel
theorem d_A_add_OaOI_2 : decode b_A_add_OaOI 2 = .ok (.arraylength, 1) := by decide +kernel
theorem d_A_add_OaOI_3 : decode b_A_add_OaOI 3 = .ok (.if_icmp .ne 8, 3) := by decide +kernel
theorem d_A_add_OaOI_6 : decode b_A_add_OaOI 6 = .ok (.aload_n 0, 1) := by decide +kernel
theorem d_A_add_OaOI_7 : decode b_A_add_OaOI 7 = .ok (.invokevirtual 129, 3) := by decide +kernel
theorem d_A_add_OaOI_10 : decode b_A_add_OaOI 10 = .ok (.astore_n 2, 1) := by decide +kernel
theorem d_A_add_OaOI_11 : decode b_A_add_OaOI 11 = .ok (.aload_n 2, 1) := by decide +kernel
theorem d_A_add_OaOI_12 : decode b_A_add_OaOI 12 = .ok (.iload_n 3, 1) := by decide +kernel
theorem d_A_add_OaOI_13 : decode b_A_add_OaOI 13 = .ok (.aload_n 1, 1) := by decide +kernel
theorem d_A_add_OaOI_14 : decode b_A_add_OaOI 14 = .ok (.aastore, 1) := by decide +kernel
theorem d_A_add_OaOI_15 : decode b_A_add_OaOI 15 = .ok (.aload_n 0, 1) := by decide +kernel
theorem d_A_add_OaOI_16 : decode b_A_add_OaOI 16 = .ok (.iload_n 3, 1) := by decide +kernel
theorem d_A_add_OaOI_17 : decode b_A_add_OaOI 17 = .ok (.iconst 1, 1) := by decide +kernel
theorem d_A_add_OaOI_18 : decode b_A_add_OaOI 18 = .ok (.iadd, 1) := by decide +kernel
theorem d_A_add_OaOI_19 : decode b_A_add_OaOI 19 = .ok (.putfield 48, 3) := by decide +kernel
theorem d_A_add_OaOI_22 : decode b_A_add_OaOI 22 = .ok (.return_, 1) := by decide +kernel
abbrev b_A_elementData : ByteArray := prog_23_method_18_code
def y_A_elementData : MethodName := ⟨"java/util/ArrayList", "elementData", "(I)Ljava/lang/Object;"⟩
theorem d_A_elementData_0 : decode b_A_elementData 0 = .ok (.aload_n 0, 1) := by decide +kernel
theorem d_A_elementData_1 : decode b_A_elementData 1 = .ok (.getfield 9, 3) := by decide +kernel
theorem d_A_elementData_4 : decode b_A_elementData 4 = .ok (.iload_n 1, 1) := by decide +kernel
theorem d_A_elementData_5 : decode b_A_elementData 5 = .ok (.aaload, 1) := by decide +kernel
theorem d_A_elementData_6 : decode b_A_elementData 6 = .ok (.areturn, 1) := by decide +kernel
abbrev b_A_get : ByteArray := prog_23_method_20_code
def y_A_get : MethodName := ⟨"java/util/ArrayList", "get", "(I)Ljava/lang/Object;"⟩
theorem d_A_get_0 : decode b_A_get 0 = .ok (.iload_n 1, 1) := by decide +kernel
theorem d_A_get_1 : decode b_A_get 1 = .ok (.aload_n 0, 1) := by decide +kernel
theorem d_A_get_2 : decode b_A_get 2 = .ok (.getfield 48, 3) := by decide +kernel
theorem d_A_get_5 : decode b_A_get 5 = .ok (.invokestatic 118, 3) := by decide +kernel
theorem d_A_get_8 : decode b_A_get 8 = .ok (.pop, 1) := by decide +kernel
theorem d_A_get_9 : decode b_A_get 9 = .ok (.aload_n 0, 1) := by decide +kernel
theorem d_A_get_10 : decode b_A_get 10 = .ok (.iload_n 1, 1) := by decide +kernel
theorem d_A_get_11 : decode b_A_get 11 = .ok (.invokevirtual 123, 3) := by decide +kernel
theorem d_A_get_14 : decode b_A_get 14 = .ok (.areturn, 1) := by decide +kernel
abbrev b_A_grow_0 : ByteArray := prog_23_method_7_code
def y_A_grow_0 : MethodName := ⟨"java/util/ArrayList", "grow", "()[Ljava/lang/Object;"⟩
theorem d_A_grow_0_0 : decode b_A_grow_0 0 = .ok (.aload_n 0, 1) := by decide +kernel
theorem d_A_grow_0_1 : decode b_A_grow_0 1 = .ok (.aload_n 0, 1) := by decide +kernel
theorem d_A_grow_0_2 : decode b_A_grow_0 2 = .ok (.getfield 48, 3) := by decide +kernel
theorem d_A_grow_0_5 : decode b_A_grow_0 5 = .ok (.iconst 1, 1) := by decide +kernel
theorem d_A_grow_0_6 : decode b_A_grow_0 6 = .ok (.iadd, 1) := by decide +kernel
theorem d_A_grow_0_7 : decode b_A_grow_0 7 = .ok (.invokevirtual 69, 3) := by decide +kernel
theorem d_A_grow_0_10 : decode b_A_grow_0 10 = .ok (.areturn, 1) := by decide +kernel
abbrev b_A_grow_I : ByteArray := prog_23_method_6_code
def y_A_grow_I : MethodName := ⟨"java/util/ArrayList", "grow", "(I)[Ljava/lang/Object;"⟩
theorem d_A_grow_I_0 : decode b_A_grow_I 0 = .ok (.aload_n 0, 1) := by decide +kernel
theorem d_A_grow_I_1 : decode b_A_grow_I 1 = .ok (.getfield 9, 3) := by decide +kernel
theorem d_A_grow_I_4 : decode b_A_grow_I 4 = .ok (.arraylength, 1) := by decide +kernel
theorem d_A_grow_I_5 : decode b_A_grow_I 5 = .ok (.istore_n 2, 1) := by decide +kernel
theorem d_A_grow_I_6 : decode b_A_grow_I 6 = .ok (.iload_n 2, 1) := by decide +kernel
theorem d_A_grow_I_7 : decode b_A_grow_I 7 = .ok (.ifCond .gt 13, 3) := by decide +kernel
theorem d_A_grow_I_10 : decode b_A_grow_I 10 = .ok (.aload_n 0, 1) := by decide +kernel
theorem d_A_grow_I_11 : decode b_A_grow_I 11 = .ok (.getfield 9, 3) := by decide +kernel
theorem d_A_grow_I_14 : decode b_A_grow_I 14 = .ok (.getstatic 39, 3) := by decide +kernel
theorem d_A_grow_I_17 : decode b_A_grow_I 17 = .ok (.if_acmp .eq 28, 3) := by decide +kernel
theorem d_A_grow_I_20 : decode b_A_grow_I 20 = .ok (.iload_n 2, 1) := by decide +kernel
theorem d_A_grow_I_21 : decode b_A_grow_I 21 = .ok (.iload_n 1, 1) := by decide +kernel
theorem d_A_grow_I_22 : decode b_A_grow_I 22 = .ok (.iload_n 2, 1) := by decide +kernel
theorem d_A_grow_I_23 : decode b_A_grow_I 23 = .ok (.isub, 1) := by decide +kernel
theorem d_A_grow_I_24 : decode b_A_grow_I 24 = .ok (.iload_n 2, 1) := by decide +kernel
theorem d_A_grow_I_25 : decode b_A_grow_I 25 = .ok (.iconst 1, 1) := by decide +kernel
theorem d_A_grow_I_26 : decode b_A_grow_I 26 = .ok (.ishr, 1) := by decide +kernel
theorem d_A_grow_I_27 : decode b_A_grow_I 27 = .ok (.invokestatic 73, 3) := by decide +kernel
theorem d_A_grow_I_30 : decode b_A_grow_I 30 = .ok (.istore_n 3, 1) := by decide +kernel
theorem d_A_grow_I_31 : decode b_A_grow_I 31 = .ok (.aload_n 0, 1) := by decide +kernel
theorem d_A_grow_I_32 : decode b_A_grow_I 32 = .ok (.aload_n 0, 1) := by decide +kernel
theorem d_A_grow_I_33 : decode b_A_grow_I 33 = .ok (.getfield 9, 3) := by decide +kernel
theorem d_A_grow_I_36 : decode b_A_grow_I 36 = .ok (.iload_n 3, 1) := by decide +kernel
theorem d_A_grow_I_37 : decode b_A_grow_I 37 = .ok (.invokestatic 66, 3) := by decide +kernel
theorem d_A_grow_I_40 : decode b_A_grow_I 40 = .ok (.dup_x1, 1) := by decide +kernel
theorem d_A_grow_I_41 : decode b_A_grow_I 41 = .ok (.putfield 9, 3) := by decide +kernel
theorem d_A_grow_I_44 : decode b_A_grow_I 44 = .ok (.areturn, 1) := by decide +kernel
theorem d_A_grow_I_45 : decode b_A_grow_I 45 = .ok (.aload_n 0, 1) := by decide +kernel
theorem d_A_grow_I_46 : decode b_A_grow_I 46 = .ok (.bipush 10, 2) := by decide +kernel
theorem d_A_grow_I_48 : decode b_A_grow_I 48 = .ok (.iload_n 1, 1) := by decide +kernel
theorem d_A_grow_I_49 : decode b_A_grow_I 49 = .ok (.invokestatic 79, 3) := by decide +kernel
theorem d_A_grow_I_52 : decode b_A_grow_I 52 = .ok (.anewarray 7, 3) := by decide +kernel
theorem d_A_grow_I_55 : decode b_A_grow_I 55 = .ok (.dup_x1, 1) := by decide +kernel
theorem d_A_grow_I_56 : decode b_A_grow_I 56 = .ok (.putfield 9, 3) := by decide +kernel
theorem d_A_grow_I_59 : decode b_A_grow_I 59 = .ok (.areturn, 1) := by decide +kernel
abbrev b_A_init : ByteArray := prog_23_method_2_code
def y_A_init : MethodName := ⟨"java/util/ArrayList", "<init>", "()V"⟩
theorem d_A_init_0 : decode b_A_init 0 = .ok (.aload_n 0, 1) := by decide +kernel
theorem d_A_init_1 : decode b_A_init 1 = .ok (.invokespecial 1, 3) := by decide +kernel
theorem d_A_init_4 : decode b_A_init 4 = .ok (.aload_n 0, 1) := by decide +kernel
theorem d_A_init_5 : decode b_A_init 5 = .ok (.getstatic 39, 3) := by decide +kernel
theorem d_A_init_8 : decode b_A_init 8 = .ok (.putfield 9, 3) := by decide +kernel
theorem d_A_init_11 : decode b_A_init 11 = .ok (.return_, 1) := by decide +kernel
abbrev b_A_size : ByteArray := prog_23_method_8_code
def y_A_size : MethodName := ⟨"java/util/ArrayList", "size", "()I"⟩
theorem d_A_size_0 : decode b_A_size 0 = .ok (.aload_n 0, 1) := by decide +kernel
theorem d_A_size_1 : decode b_A_size 1 = .ok (.getfield 48, 3) := by decide +kernel
theorem d_A_size_4 : decode b_A_size 4 = .ok (.ireturn, 1) := by decide +kernel
abbrev b_Ac_init : ByteArray := prog_21_method_1_code
def y_Ac_init : MethodName := ⟨"java/util/AbstractCollection", "<init>", "()V"⟩
theorem d_Ac_init_0 : decode b_Ac_init 0 = .ok (.aload_n 0, 1) := by decide +kernel
theorem d_Ac_init_1 : decode b_Ac_init 1 = .ok (.invokespecial 1, 3) := by decide +kernel
theorem d_Ac_init_4 : decode b_Ac_init 4 = .ok (.return_, 1) := by decide +kernel
abbrev b_Al_init : ByteArray := prog_22_method_1_code
def y_Al_init : MethodName := ⟨"java/util/AbstractList", "<init>", "()V"⟩
theorem d_Al_init_0 : decode b_Al_init 0 = .ok (.aload_n 0, 1) := by decide +kernel
theorem d_Al_init_1 : decode b_Al_init 1 = .ok (.invokespecial 1, 3) := by decide +kernel
theorem d_Al_init_4 : decode b_Al_init 4 = .ok (.aload_n 0, 1) := by decide +kernel
theorem d_Al_init_5 : decode b_Al_init 5 = .ok (.iconst 0, 1) := by decide +kernel
theorem d_Al_init_6 : decode b_Al_init 6 = .ok (.putfield 7, 3) := by decide +kernel
theorem d_Al_init_9 : decode b_Al_init 9 = .ok (.return_, 1) := by decide +kernel
abbrev b_Ar_copyOf_aOI : ByteArray := prog_24_method_119_code
def y_Ar_copyOf_aOI : MethodName := ⟨"java/util/Arrays", "copyOf", "([Ljava/lang/Object;I)[Ljava/lang/Object;"⟩
theorem d_Ar_copyOf_aOI_0 : decode b_Ar_copyOf_aOI 0 = .ok (.aload_n 0, 1) := by decide +kernel
theorem d_Ar_copyOf_aOI_1 : decode b_Ar_copyOf_aOI 1 = .ok (.iload_n 1, 1) := by decide +kernel
theorem d_Ar_copyOf_aOI_2 : decode b_Ar_copyOf_aOI 2 = .ok (.aload_n 0, 1) := by decide +kernel
theorem d_Ar_copyOf_aOI_3 : decode b_Ar_copyOf_aOI 3 = .ok (.invokevirtual 86, 3) := by decide +kernel
theorem d_Ar_copyOf_aOI_6 : decode b_Ar_copyOf_aOI 6 = .ok (.invokestatic 300, 3) := by decide +kernel
theorem d_Ar_copyOf_aOI_9 : decode b_Ar_copyOf_aOI 9 = .ok (.areturn, 1) := by decide +kernel
abbrev b_Ar_copyOf_aOIC : ByteArray := prog_24_method_120_code
def y_Ar_copyOf_aOIC : MethodName := ⟨"java/util/Arrays", "copyOf", "([Ljava/lang/Object;ILjava/lang/Class;)[Ljava/lang/Object;"⟩
theorem d_Ar_copyOf_aOIC_0 : decode b_Ar_copyOf_aOIC 0 = .ok (.aload_n 2, 1) := by decide +kernel
theorem d_Ar_copyOf_aOIC_1 : decode b_Ar_copyOf_aOIC 1 = .ok (.ldc 110, 2) := by decide +kernel
theorem d_Ar_copyOf_aOIC_3 : decode b_Ar_copyOf_aOIC 3 = .ok (.if_acmp .ne 10, 3) := by decide +kernel
theorem d_Ar_copyOf_aOIC_6 : decode b_Ar_copyOf_aOIC 6 = .ok (.iload_n 1, 1) := by decide +kernel
theorem d_Ar_copyOf_aOIC_7 : decode b_Ar_copyOf_aOIC 7 = .ok (.anewarray 2, 3) := by decide +kernel
theorem d_Ar_copyOf_aOIC_10 : decode b_Ar_copyOf_aOIC 10 = .ok (.goto 14, 3) := by decide +kernel
theorem d_Ar_copyOf_aOIC_13 : decode b_Ar_copyOf_aOIC 13 = .ok (.aload_n 2, 1) := by decide +kernel
theorem d_Ar_copyOf_aOIC_14 : decode b_Ar_copyOf_aOIC 14 = .ok (.invokevirtual 90, 3) := by decide +kernel
theorem d_Ar_copyOf_aOIC_17 : decode b_Ar_copyOf_aOIC 17 = .ok (.iload_n 1, 1) := by decide +kernel
theorem d_Ar_copyOf_aOIC_18 : decode b_Ar_copyOf_aOIC 18 = .ok (.invokestatic 95, 3) := by decide +kernel
theorem d_Ar_copyOf_aOIC_21 : decode b_Ar_copyOf_aOIC 21 = .ok (.checkcast 110, 3) := by decide +kernel
theorem d_Ar_copyOf_aOIC_24 : decode b_Ar_copyOf_aOIC 24 = .ok (.astore_n 3, 1) := by decide +kernel
theorem d_Ar_copyOf_aOIC_25 : decode b_Ar_copyOf_aOIC 25 = .ok (.aload_n 0, 1) := by decide +kernel
theorem d_Ar_copyOf_aOIC_26 : decode b_Ar_copyOf_aOIC 26 = .ok (.iconst 0, 1) := by decide +kernel
theorem d_Ar_copyOf_aOIC_27 : decode b_Ar_copyOf_aOIC 27 = .ok (.aload_n 3, 1) := by decide +kernel
theorem d_Ar_copyOf_aOIC_28 : decode b_Ar_copyOf_aOIC 28 = .ok (.iconst 0, 1) := by decide +kernel
theorem d_Ar_copyOf_aOIC_29 : decode b_Ar_copyOf_aOIC 29 = .ok (.aload_n 0, 1) := by decide +kernel
theorem d_Ar_copyOf_aOIC_30 : decode b_Ar_copyOf_aOIC 30 = .ok (.arraylength, 1) := by decide +kernel
theorem d_Ar_copyOf_aOIC_31 : decode b_Ar_copyOf_aOIC 31 = .ok (.iload_n 1, 1) := by decide +kernel
theorem d_Ar_copyOf_aOIC_32 : decode b_Ar_copyOf_aOIC 32 = .ok (.invokestatic 304, 3) := by decide +kernel
theorem d_Ar_copyOf_aOIC_35 : decode b_Ar_copyOf_aOIC 35 = .ok (.invokestatic 150, 3) := by decide +kernel
theorem d_Ar_copyOf_aOIC_38 : decode b_Ar_copyOf_aOIC 38 = .ok (.aload_n 3, 1) := by decide +kernel
theorem d_Ar_copyOf_aOIC_39 : decode b_Ar_copyOf_aOIC 39 = .ok (.areturn, 1) := by decide +kernel
abbrev b_As_hugeLength : ByteArray := prog_30_method_28_code
def y_As_hugeLength : MethodName := ⟨"jdk/internal/util/ArraysSupport", "hugeLength", "(II)I"⟩
theorem d_As_hugeLength_0 : decode b_As_hugeLength 0 = .ok (.iload_n 0, 1) := by decide +kernel
theorem d_As_hugeLength_1 : decode b_As_hugeLength 1 = .ok (.iload_n 1, 1) := by decide +kernel
theorem d_As_hugeLength_2 : decode b_As_hugeLength 2 = .ok (.iadd, 1) := by decide +kernel
theorem d_As_hugeLength_3 : decode b_As_hugeLength 3 = .ok (.istore_n 2, 1) := by decide +kernel
theorem d_As_hugeLength_4 : decode b_As_hugeLength 4 = .ok (.iload_n 2, 1) := by decide +kernel
theorem d_As_hugeLength_5 : decode b_As_hugeLength 5 = .ok (.ifCond .ge 44, 3) := by decide +kernel
theorem d_As_hugeLength_8 : decode b_As_hugeLength 8 = .ok (.new 204, 3) := by decide +kernel
theorem d_As_hugeLength_11 : decode b_As_hugeLength 11 = .ok (.dup, 1) := by decide +kernel
theorem d_As_hugeLength_12 : decode b_As_hugeLength 12 = .ok (.new 89, 3) := by decide +kernel
theorem d_As_hugeLength_15 : decode b_As_hugeLength 15 = .ok (.dup, 1) := by decide +kernel
theorem d_As_hugeLength_16 : decode b_As_hugeLength 16 = .ok (.invokespecial 91, 3) := by decide +kernel
theorem d_As_hugeLength_19 : decode b_As_hugeLength 19 = .ok (.ldc 206, 2) := by decide +kernel
theorem d_As_hugeLength_21 : decode b_As_hugeLength 21 = .ok (.invokevirtual 94, 3) := by decide +kernel
theorem d_As_hugeLength_24 : decode b_As_hugeLength 24 = .ok (.iload_n 0, 1) := by decide +kernel
theorem d_As_hugeLength_25 : decode b_As_hugeLength 25 = .ok (.invokevirtual 98, 3) := by decide +kernel
theorem d_As_hugeLength_28 : decode b_As_hugeLength 28 = .ok (.ldc 208, 2) := by decide +kernel
theorem d_As_hugeLength_30 : decode b_As_hugeLength 30 = .ok (.invokevirtual 94, 3) := by decide +kernel
theorem d_As_hugeLength_33 : decode b_As_hugeLength 33 = .ok (.iload_n 1, 1) := by decide +kernel
theorem d_As_hugeLength_34 : decode b_As_hugeLength 34 = .ok (.invokevirtual 98, 3) := by decide +kernel
theorem d_As_hugeLength_37 : decode b_As_hugeLength 37 = .ok (.ldc 210, 2) := by decide +kernel
theorem d_As_hugeLength_39 : decode b_As_hugeLength 39 = .ok (.invokevirtual 94, 3) := by decide +kernel
theorem d_As_hugeLength_42 : decode b_As_hugeLength 42 = .ok (.invokevirtual 101, 3) := by decide +kernel
theorem d_As_hugeLength_45 : decode b_As_hugeLength 45 = .ok (.invokespecial 212, 3) := by decide +kernel
theorem d_As_hugeLength_48 : decode b_As_hugeLength 48 = .ok (.athrow, 1) := by decide +kernel
theorem d_As_hugeLength_49 : decode b_As_hugeLength 49 = .ok (.iload_n 2, 1) := by decide +kernel
theorem d_As_hugeLength_50 : decode b_As_hugeLength 50 = .ok (.ldc 200, 2) := by decide +kernel
theorem d_As_hugeLength_52 : decode b_As_hugeLength 52 = .ok (.if_icmp .gt 6, 3) := by decide +kernel
theorem d_As_hugeLength_55 : decode b_As_hugeLength 55 = .ok (.ldc 200, 2) := by decide +kernel
theorem d_As_hugeLength_57 : decode b_As_hugeLength 57 = .ok (.ireturn, 1) := by decide +kernel
theorem d_As_hugeLength_58 : decode b_As_hugeLength 58 = .ok (.iload_n 2, 1) := by decide +kernel
theorem d_As_hugeLength_59 : decode b_As_hugeLength 59 = .ok (.ireturn, 1) := by decide +kernel
abbrev b_As_newLength : ByteArray := prog_30_method_27_code
def y_As_newLength : MethodName := ⟨"jdk/internal/util/ArraysSupport", "newLength", "(III)I"⟩
theorem d_As_newLength_0 : decode b_As_newLength 0 = .ok (.iload_n 0, 1) := by decide +kernel
theorem d_As_newLength_1 : decode b_As_newLength 1 = .ok (.iload_n 1, 1) := by decide +kernel
theorem d_As_newLength_2 : decode b_As_newLength 2 = .ok (.iload_n 2, 1) := by decide +kernel
theorem d_As_newLength_3 : decode b_As_newLength 3 = .ok (.invokestatic 194, 3) := by decide +kernel
theorem d_As_newLength_6 : decode b_As_newLength 6 = .ok (.iadd, 1) := by decide +kernel
theorem d_As_newLength_7 : decode b_As_newLength 7 = .ok (.istore_n 3, 1) := by decide +kernel
theorem d_As_newLength_8 : decode b_As_newLength 8 = .ok (.iconst 0, 1) := by decide +kernel
theorem d_As_newLength_9 : decode b_As_newLength 9 = .ok (.iload_n 3, 1) := by decide +kernel
theorem d_As_newLength_10 : decode b_As_newLength 10 = .ok (.if_icmp .ge 11, 3) := by decide +kernel
theorem d_As_newLength_13 : decode b_As_newLength 13 = .ok (.iload_n 3, 1) := by decide +kernel
theorem d_As_newLength_14 : decode b_As_newLength 14 = .ok (.ldc 200, 2) := by decide +kernel
theorem d_As_newLength_16 : decode b_As_newLength 16 = .ok (.if_icmp .gt 5, 3) := by decide +kernel
theorem d_As_newLength_19 : decode b_As_newLength 19 = .ok (.iload_n 3, 1) := by decide +kernel
theorem d_As_newLength_20 : decode b_As_newLength 20 = .ok (.ireturn, 1) := by decide +kernel
theorem d_As_newLength_21 : decode b_As_newLength 21 = .ok (.iload_n 0, 1) := by decide +kernel
theorem d_As_newLength_22 : decode b_As_newLength 22 = .ok (.iload_n 1, 1) := by decide +kernel
theorem d_As_newLength_23 : decode b_As_newLength 23 = .ok (.invokestatic 201, 3) := by decide +kernel
theorem d_As_newLength_26 : decode b_As_newLength 26 = .ok (.ireturn, 1) := by decide +kernel
abbrev b_Ma_abs : ByteArray := prog_15_method_61_code
def y_Ma_abs : MethodName := ⟨"java/lang/Math", "abs", "(J)J"⟩
theorem d_Ma_abs_0 : decode b_Ma_abs 0 = .ok (.lload_n 0, 1) := by decide +kernel
theorem d_Ma_abs_1 : decode b_Ma_abs 1 = .ok (.lconst 0, 1) := by decide +kernel
theorem d_Ma_abs_2 : decode b_Ma_abs 2 = .ok (.lcmp, 1) := by decide +kernel
theorem d_Ma_abs_3 : decode b_Ma_abs 3 = .ok (.ifCond .ge 8, 3) := by decide +kernel
theorem d_Ma_abs_6 : decode b_Ma_abs 6 = .ok (.lload_n 0, 1) := by decide +kernel
theorem d_Ma_abs_7 : decode b_Ma_abs 7 = .ok (.lneg, 1) := by decide +kernel
theorem d_Ma_abs_8 : decode b_Ma_abs 8 = .ok (.goto 4, 3) := by decide +kernel
theorem d_Ma_abs_11 : decode b_Ma_abs 11 = .ok (.lload_n 0, 1) := by decide +kernel
theorem d_Ma_abs_12 : decode b_Ma_abs 12 = .ok (.lreturn, 1) := by decide +kernel
abbrev b_Ma_max_II : ByteArray := prog_15_method_65_code
def y_Ma_max_II : MethodName := ⟨"java/lang/Math", "max", "(II)I"⟩
theorem d_Ma_max_II_0 : decode b_Ma_max_II 0 = .ok (.iload_n 0, 1) := by decide +kernel
theorem d_Ma_max_II_1 : decode b_Ma_max_II 1 = .ok (.iload_n 1, 1) := by decide +kernel
theorem d_Ma_max_II_2 : decode b_Ma_max_II 2 = .ok (.if_icmp .lt 7, 3) := by decide +kernel
theorem d_Ma_max_II_5 : decode b_Ma_max_II 5 = .ok (.iload_n 0, 1) := by decide +kernel
theorem d_Ma_max_II_6 : decode b_Ma_max_II 6 = .ok (.goto 4, 3) := by decide +kernel
theorem d_Ma_max_II_9 : decode b_Ma_max_II 9 = .ok (.iload_n 1, 1) := by decide +kernel
theorem d_Ma_max_II_10 : decode b_Ma_max_II 10 = .ok (.ireturn, 1) := by decide +kernel
abbrev b_Ma_max_JJ : ByteArray := prog_15_method_66_code
def y_Ma_max_JJ : MethodName := ⟨"java/lang/Math", "max", "(JJ)J"⟩
theorem d_Ma_max_JJ_0 : decode b_Ma_max_JJ 0 = .ok (.lload_n 0, 1) := by decide +kernel
theorem d_Ma_max_JJ_1 : decode b_Ma_max_JJ 1 = .ok (.lload_n 2, 1) := by decide +kernel
theorem d_Ma_max_JJ_2 : decode b_Ma_max_JJ 2 = .ok (.lcmp, 1) := by decide +kernel
theorem d_Ma_max_JJ_3 : decode b_Ma_max_JJ 3 = .ok (.ifCond .lt 7, 3) := by decide +kernel
theorem d_Ma_max_JJ_6 : decode b_Ma_max_JJ 6 = .ok (.lload_n 0, 1) := by decide +kernel
theorem d_Ma_max_JJ_7 : decode b_Ma_max_JJ 7 = .ok (.goto 4, 3) := by decide +kernel
theorem d_Ma_max_JJ_10 : decode b_Ma_max_JJ 10 = .ok (.lload_n 2, 1) := by decide +kernel
theorem d_Ma_max_JJ_11 : decode b_Ma_max_JJ 11 = .ok (.lreturn, 1) := by decide +kernel
abbrev b_Ma_min_II : ByteArray := prog_15_method_69_code
def y_Ma_min_II : MethodName := ⟨"java/lang/Math", "min", "(II)I"⟩
theorem d_Ma_min_II_0 : decode b_Ma_min_II 0 = .ok (.iload_n 0, 1) := by decide +kernel
theorem d_Ma_min_II_1 : decode b_Ma_min_II 1 = .ok (.iload_n 1, 1) := by decide +kernel
theorem d_Ma_min_II_2 : decode b_Ma_min_II 2 = .ok (.if_icmp .gt 7, 3) := by decide +kernel
theorem d_Ma_min_II_5 : decode b_Ma_min_II 5 = .ok (.iload_n 0, 1) := by decide +kernel
theorem d_Ma_min_II_6 : decode b_Ma_min_II 6 = .ok (.goto 4, 3) := by decide +kernel
theorem d_Ma_min_II_9 : decode b_Ma_min_II 9 = .ok (.iload_n 1, 1) := by decide +kernel
theorem d_Ma_min_II_10 : decode b_Ma_min_II 10 = .ok (.ireturn, 1) := by decide +kernel
abbrev b_Ma_min_JJ : ByteArray := prog_15_method_70_code
def y_Ma_min_JJ : MethodName := ⟨"java/lang/Math", "min", "(JJ)J"⟩
theorem d_Ma_min_JJ_0 : decode b_Ma_min_JJ 0 = .ok (.lload_n 0, 1) := by decide +kernel
theorem d_Ma_min_JJ_1 : decode b_Ma_min_JJ 1 = .ok (.lload_n 2, 1) := by decide +kernel
theorem d_Ma_min_JJ_2 : decode b_Ma_min_JJ 2 = .ok (.lcmp, 1) := by decide +kernel
theorem d_Ma_min_JJ_3 : decode b_Ma_min_JJ 3 = .ok (.ifCond .gt 7, 3) := by decide +kernel
theorem d_Ma_min_JJ_6 : decode b_Ma_min_JJ 6 = .ok (.lload_n 0, 1) := by decide +kernel
theorem d_Ma_min_JJ_7 : decode b_Ma_min_JJ 7 = .ok (.goto 4, 3) := by decide +kernel
theorem d_Ma_min_JJ_10 : decode b_Ma_min_JJ 10 = .ok (.lload_n 2, 1) := by decide +kernel
theorem d_Ma_min_JJ_11 : decode b_Ma_min_JJ 11 = .ok (.lreturn, 1) := by decide +kernel
abbrev b_O_init : ByteArray := object_method_1_code
def y_O_init : MethodName := ⟨"java/lang/Object", "<init>", "()V"⟩
theorem d_O_init_0 : decode b_O_init 0 = .ok (.return_, 1) := by decide +kernel
abbrev b_Ob_checkIndex : ByteArray := prog_27_method_17_code
def y_Ob_checkIndex : MethodName := ⟨"java/util/Objects", "checkIndex", "(II)I"⟩
theorem d_Ob_checkIndex_0 : decode b_Ob_checkIndex 0 = .ok (.iload_n 0, 1) := by decide +kernel
theorem d_Ob_checkIndex_1 : decode b_Ob_checkIndex 1 = .ok (.iload_n 1, 1) := by decide +kernel
theorem d_Ob_checkIndex_2 : decode b_Ob_checkIndex 2 = .ok (.aconst_null, 1) := by decide +kernel
theorem d_Ob_checkIndex_3 : decode b_Ob_checkIndex 3 = .ok (.invokestatic 105, 3) := by decide +kernel
theorem d_Ob_checkIndex_6 : decode b_Ob_checkIndex 6 = .ok (.ireturn, 1) := by decide +kernel
abbrev b_Pr_checkIndex : ByteArray := prog_31_method_11_code
def y_Pr_checkIndex : MethodName := ⟨"jdk/internal/util/Preconditions", "checkIndex", "(IILjava/util/function/BiFunction;)I"⟩
theorem d_Pr_checkIndex_0 : decode b_Pr_checkIndex 0 = .ok (.iload_n 0, 1) := by decide +kernel
theorem d_Pr_checkIndex_1 : decode b_Pr_checkIndex 1 = .ok (.ifCond .lt 8, 3) := by decide +kernel
theorem d_Pr_checkIndex_4 : decode b_Pr_checkIndex 4 = .ok (.iload_n 0, 1) := by decide +kernel
theorem d_Pr_checkIndex_5 : decode b_Pr_checkIndex 5 = .ok (.iload_n 1, 1) := by decide +kernel
theorem d_Pr_checkIndex_6 : decode b_Pr_checkIndex 6 = .ok (.if_icmp .lt 10, 3) := by decide +kernel
theorem d_Pr_checkIndex_9 : decode b_Pr_checkIndex 9 = .ok (.aload_n 2, 1) := by decide +kernel
theorem d_Pr_checkIndex_10 : decode b_Pr_checkIndex 10 = .ok (.iload_n 0, 1) := by decide +kernel
theorem d_Pr_checkIndex_11 : decode b_Pr_checkIndex 11 = .ok (.iload_n 1, 1) := by decide +kernel
theorem d_Pr_checkIndex_12 : decode b_Pr_checkIndex 12 = .ok (.invokestatic 95, 3) := by decide +kernel
theorem d_Pr_checkIndex_15 : decode b_Pr_checkIndex 15 = .ok (.athrow, 1) := by decide +kernel
theorem d_Pr_checkIndex_16 : decode b_Pr_checkIndex 16 = .ok (.iload_n 0, 1) := by decide +kernel
theorem d_Pr_checkIndex_17 : decode b_Pr_checkIndex 17 = .ok (.ireturn, 1) := by decide +kernel
