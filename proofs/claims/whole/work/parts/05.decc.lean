/-! printed: methods and their instructions -/
abbrev b_B_init : ByteArray := prog_2_method_1_code
def y_B_init : MethodName := ⟨"BoxDesk$Box", "<init>", "(LBoxDesk$ItemList;LBoxDesk$Measure;I)V"⟩
theorem d_B_init_0 : decode b_B_init 0 = .ok (.aload_n 0, 1) := by decide +kernel
theorem d_B_init_1 : decode b_B_init 1 = .ok (.invokespecial 1, 3) := by decide +kernel
theorem d_B_init_4 : decode b_B_init 4 = .ok (.aload_n 0, 1) := by decide +kernel
theorem d_B_init_5 : decode b_B_init 5 = .ok (.aload_n 1, 1) := by decide +kernel
theorem d_B_init_6 : decode b_B_init 6 = .ok (.putfield 7, 3) := by decide +kernel
theorem d_B_init_9 : decode b_B_init 9 = .ok (.aload_n 0, 1) := by decide +kernel
theorem d_B_init_10 : decode b_B_init 10 = .ok (.aload_n 1, 1) := by decide +kernel
theorem d_B_init_11 : decode b_B_init 11 = .ok (.aload_n 2, 1) := by decide +kernel
theorem d_B_init_12 : decode b_B_init 12 = .ok (.iload_n 3, 1) := by decide +kernel
theorem d_B_init_13 : decode b_B_init 13 = .ok (.i2l, 1) := by decide +kernel
theorem d_B_init_14 : decode b_B_init 14 = .ok (.aload_n 2, 1) := by decide +kernel
theorem d_B_init_15 : decode b_B_init 15 = .ok (.getfield 13, 3) := by decide +kernel
theorem d_B_init_18 : decode b_B_init 18 = .ok (.lsub, 1) := by decide +kernel
theorem d_B_init_19 : decode b_B_init 19 = .ok (.invokestatic 19, 3) := by decide +kernel
theorem d_B_init_22 : decode b_B_init 22 = .ok (.putfield 25, 3) := by decide +kernel
theorem d_B_init_25 : decode b_B_init 25 = .ok (.aload_n 0, 1) := by decide +kernel
theorem d_B_init_26 : decode b_B_init 26 = .ok (.aload_n 2, 1) := by decide +kernel
theorem d_B_init_27 : decode b_B_init 27 = .ok (.getfield 29, 3) := by decide +kernel
theorem d_B_init_30 : decode b_B_init 30 = .ok (.putfield 33, 3) := by decide +kernel
theorem d_B_init_33 : decode b_B_init 33 = .ok (.aload_n 0, 1) := by decide +kernel
theorem d_B_init_34 : decode b_B_init 34 = .ok (.aload_n 2, 1) := by decide +kernel
theorem d_B_init_35 : decode b_B_init 35 = .ok (.getfield 34, 3) := by decide +kernel
theorem d_B_init_38 : decode b_B_init 38 = .ok (.iconst 1, 1) := by decide +kernel
theorem d_B_init_39 : decode b_B_init 39 = .ok (.iadd, 1) := by decide +kernel
theorem d_B_init_40 : decode b_B_init 40 = .ok (.putfield 37, 3) := by decide +kernel
theorem d_B_init_43 : decode b_B_init 43 = .ok (.aload_n 0, 1) := by decide +kernel
theorem d_B_init_44 : decode b_B_init 44 = .ok (.aload_n 1, 1) := by decide +kernel
theorem d_B_init_45 : decode b_B_init 45 = .ok (.getfield 40, 3) := by decide +kernel
theorem d_B_init_48 : decode b_B_init 48 = .ok (.ifCond .eq 11, 3) := by decide +kernel
theorem d_B_init_51 : decode b_B_init 51 = .ok (.aload_n 2, 1) := by decide +kernel
theorem d_B_init_52 : decode b_B_init 52 = .ok (.getfield 46, 3) := by decide +kernel
theorem d_B_init_55 : decode b_B_init 55 = .ok (.l2i, 1) := by decide +kernel
theorem d_B_init_56 : decode b_B_init 56 = .ok (.goto 4, 3) := by decide +kernel
theorem d_B_init_59 : decode b_B_init 59 = .ok (.iload_n 3, 1) := by decide +kernel
theorem d_B_init_60 : decode b_B_init 60 = .ok (.putfield 49, 3) := by decide +kernel
theorem d_B_init_63 : decode b_B_init 63 = .ok (.aload_n 0, 1) := by decide +kernel
theorem d_B_init_64 : decode b_B_init 64 = .ok (.aload_n 1, 1) := by decide +kernel
theorem d_B_init_65 : decode b_B_init 65 = .ok (.getfield 40, 3) := by decide +kernel
theorem d_B_init_68 : decode b_B_init 68 = .ok (.ifCond .eq 7, 3) := by decide +kernel
theorem d_B_init_71 : decode b_B_init 71 = .ok (.iload_n 3, 1) := by decide +kernel
theorem d_B_init_72 : decode b_B_init 72 = .ok (.goto 8, 3) := by decide +kernel
theorem d_B_init_75 : decode b_B_init 75 = .ok (.aload_n 2, 1) := by decide +kernel
theorem d_B_init_76 : decode b_B_init 76 = .ok (.getfield 52, 3) := by decide +kernel
theorem d_B_init_79 : decode b_B_init 79 = .ok (.l2i, 1) := by decide +kernel
theorem d_B_init_80 : decode b_B_init 80 = .ok (.putfield 55, 3) := by decide +kernel
theorem d_B_init_83 : decode b_B_init 83 = .ok (.aload_n 0, 1) := by decide +kernel
theorem d_B_init_84 : decode b_B_init 84 = .ok (.aload_n 2, 1) := by decide +kernel
theorem d_B_init_85 : decode b_B_init 85 = .ok (.getfield 57, 3) := by decide +kernel
theorem d_B_init_88 : decode b_B_init 88 = .ok (.l2i, 1) := by decide +kernel
theorem d_B_init_89 : decode b_B_init 89 = .ok (.putfield 60, 3) := by decide +kernel
theorem d_B_init_92 : decode b_B_init 92 = .ok (.return_, 1) := by decide +kernel
abbrev b_B_tell : ByteArray := prog_2_method_2_code
def y_B_tell : MethodName := ⟨"BoxDesk$Box", "tell", "(I)I"⟩
theorem d_B_tell_0 : decode b_B_tell 0 = .ok (.iload_n 1, 1) := by decide +kernel
theorem d_B_tell_1 : decode b_B_tell 1 = .ok (.tableswitch 77 0 4 #[35, 51, 56, 61, 66], 35) := by decide +kernel
theorem d_B_tell_36 : decode b_B_tell 36 = .ok (.aload_n 0, 1) := by decide +kernel
theorem d_B_tell_37 : decode b_B_tell 37 = .ok (.getfield 7, 3) := by decide +kernel
theorem d_B_tell_40 : decode b_B_tell 40 = .ok (.getfield 40, 3) := by decide +kernel
theorem d_B_tell_43 : decode b_B_tell 43 = .ok (.ifCond .eq 7, 3) := by decide +kernel
theorem d_B_tell_46 : decode b_B_tell 46 = .ok (.iconst 2, 1) := by decide +kernel
theorem d_B_tell_47 : decode b_B_tell 47 = .ok (.goto 4, 3) := by decide +kernel
theorem d_B_tell_50 : decode b_B_tell 50 = .ok (.iconst 1, 1) := by decide +kernel
theorem d_B_tell_51 : decode b_B_tell 51 = .ok (.ireturn, 1) := by decide +kernel
theorem d_B_tell_52 : decode b_B_tell 52 = .ok (.aload_n 0, 1) := by decide +kernel
theorem d_B_tell_53 : decode b_B_tell 53 = .ok (.getfield 49, 3) := by decide +kernel
theorem d_B_tell_56 : decode b_B_tell 56 = .ok (.ireturn, 1) := by decide +kernel
theorem d_B_tell_57 : decode b_B_tell 57 = .ok (.aload_n 0, 1) := by decide +kernel
theorem d_B_tell_58 : decode b_B_tell 58 = .ok (.getfield 55, 3) := by decide +kernel
theorem d_B_tell_61 : decode b_B_tell 61 = .ok (.ireturn, 1) := by decide +kernel
theorem d_B_tell_62 : decode b_B_tell 62 = .ok (.aload_n 0, 1) := by decide +kernel
theorem d_B_tell_63 : decode b_B_tell 63 = .ok (.getfield 60, 3) := by decide +kernel
theorem d_B_tell_66 : decode b_B_tell 66 = .ok (.ireturn, 1) := by decide +kernel
theorem d_B_tell_67 : decode b_B_tell 67 = .ok (.aload_n 0, 1) := by decide +kernel
theorem d_B_tell_68 : decode b_B_tell 68 = .ok (.getfield 7, 3) := by decide +kernel
theorem d_B_tell_71 : decode b_B_tell 71 = .ok (.getfield 62, 3) := by decide +kernel
theorem d_B_tell_74 : decode b_B_tell 74 = .ok (.invokevirtual 66, 3) := by decide +kernel
theorem d_B_tell_77 : decode b_B_tell 77 = .ok (.ireturn, 1) := by decide +kernel
theorem d_B_tell_78 : decode b_B_tell 78 = .ok (.aload_n 0, 1) := by decide +kernel
theorem d_B_tell_79 : decode b_B_tell 79 = .ok (.getfield 33, 3) := by decide +kernel
theorem d_B_tell_82 : decode b_B_tell 82 = .ok (.ireturn, 1) := by decide +kernel
abbrev b_D_about : ByteArray := prog_1_method_12_code
def y_D_about : MethodName := ⟨"BoxDesk", "about", "(II)I"⟩
theorem d_D_about_0 : decode b_D_about 0 = .ok (.iload_n 1, 1) := by decide +kernel
theorem d_D_about_1 : decode b_D_about 1 = .ok (.invokestatic 71, 3) := by decide +kernel
theorem d_D_about_4 : decode b_D_about 4 = .ok (.ifCond .eq 12, 3) := by decide +kernel
theorem d_D_about_7 : decode b_D_about 7 = .ok (.iload_n 2, 1) := by decide +kernel
theorem d_D_about_8 : decode b_D_about 8 = .ok (.ifCond .lt 8, 3) := by decide +kernel
theorem d_D_about_11 : decode b_D_about 11 = .ok (.iload_n 2, 1) := by decide +kernel
theorem d_D_about_12 : decode b_D_about 12 = .ok (.iconst 5, 1) := by decide +kernel
theorem d_D_about_13 : decode b_D_about 13 = .ok (.if_icmp .le 13, 3) := by decide +kernel
theorem d_D_about_16 : decode b_D_about 16 = .ok (.new 152, 3) := by decide +kernel
theorem d_D_about_19 : decode b_D_about 19 = .ok (.dup, 1) := by decide +kernel
theorem d_D_about_20 : decode b_D_about 20 = .ok (.ldc 154, 2) := by decide +kernel
theorem d_D_about_22 : decode b_D_about 22 = .ok (.invokespecial 156, 3) := by decide +kernel
theorem d_D_about_25 : decode b_D_about 25 = .ok (.athrow, 1) := by decide +kernel
theorem d_D_about_26 : decode b_D_about 26 = .ok (.aload_n 0, 1) := by decide +kernel
theorem d_D_about_27 : decode b_D_about 27 = .ok (.getfield 17, 3) := by decide +kernel
theorem d_D_about_30 : decode b_D_about 30 = .ok (.iload_n 1, 1) := by decide +kernel
theorem d_D_about_31 : decode b_D_about 31 = .ok (.aaload, 1) := by decide +kernel
theorem d_D_about_32 : decode b_D_about 32 = .ok (.astore_n 3, 1) := by decide +kernel
theorem d_D_about_33 : decode b_D_about 33 = .ok (.aload_n 3, 1) := by decide +kernel
theorem d_D_about_34 : decode b_D_about 34 = .ok (.ifnonnull 7, 3) := by decide +kernel
theorem d_D_about_37 : decode b_D_about 37 = .ok (.iconst 0, 1) := by decide +kernel
theorem d_D_about_38 : decode b_D_about 38 = .ok (.goto 8, 3) := by decide +kernel
theorem d_D_about_41 : decode b_D_about 41 = .ok (.aload_n 3, 1) := by decide +kernel
theorem d_D_about_42 : decode b_D_about 42 = .ok (.iload_n 2, 1) := by decide +kernel
theorem d_D_about_43 : decode b_D_about 43 = .ok (.invokevirtual 157, 3) := by decide +kernel
theorem d_D_about_46 : decode b_D_about 46 = .ok (.ireturn, 1) := by decide +kernel
abbrev b_D_areSizes : ByteArray := prog_1_method_21_code
def y_D_areSizes : MethodName := ⟨"BoxDesk", "areSizes", "(III)Z"⟩
theorem d_D_areSizes_0 : decode b_D_areSizes 0 = .ok (.iload_n 0, 1) := by decide +kernel
theorem d_D_areSizes_1 : decode b_D_areSizes 1 = .ok (.i2l, 1) := by decide +kernel
theorem d_D_areSizes_2 : decode b_D_areSizes 2 = .ok (.invokestatic 56, 3) := by decide +kernel
theorem d_D_areSizes_5 : decode b_D_areSizes 5 = .ok (.ifCond .eq 23, 3) := by decide +kernel
theorem d_D_areSizes_8 : decode b_D_areSizes 8 = .ok (.iload_n 1, 1) := by decide +kernel
theorem d_D_areSizes_9 : decode b_D_areSizes 9 = .ok (.i2l, 1) := by decide +kernel
theorem d_D_areSizes_10 : decode b_D_areSizes 10 = .ok (.invokestatic 56, 3) := by decide +kernel
theorem d_D_areSizes_13 : decode b_D_areSizes 13 = .ok (.ifCond .eq 15, 3) := by decide +kernel
theorem d_D_areSizes_16 : decode b_D_areSizes 16 = .ok (.iload_n 2, 1) := by decide +kernel
theorem d_D_areSizes_17 : decode b_D_areSizes 17 = .ok (.i2l, 1) := by decide +kernel
theorem d_D_areSizes_18 : decode b_D_areSizes 18 = .ok (.invokestatic 56, 3) := by decide +kernel
theorem d_D_areSizes_21 : decode b_D_areSizes 21 = .ok (.ifCond .eq 7, 3) := by decide +kernel
theorem d_D_areSizes_24 : decode b_D_areSizes 24 = .ok (.iconst 1, 1) := by decide +kernel
theorem d_D_areSizes_25 : decode b_D_areSizes 25 = .ok (.goto 4, 3) := by decide +kernel
theorem d_D_areSizes_28 : decode b_D_areSizes 28 = .ok (.iconst 0, 1) := by decide +kernel
theorem d_D_areSizes_29 : decode b_D_areSizes 29 = .ok (.ireturn, 1) := by decide +kernel
abbrev b_D_asSetWidth : ByteArray := prog_1_method_25_code
def y_D_asSetWidth : MethodName := ⟨"BoxDesk", "asSetWidth", "(J)I"⟩
theorem d_D_asSetWidth_0 : decode b_D_asSetWidth 0 = .ok (.ldc2_w 223, 3) := by decide +kernel
theorem d_D_asSetWidth_3 : decode b_D_asSetWidth 3 = .ok (.ldc2_w 225, 3) := by decide +kernel
theorem d_D_asSetWidth_6 : decode b_D_asSetWidth 6 = .ok (.lload_n 0, 1) := by decide +kernel
theorem d_D_asSetWidth_7 : decode b_D_asSetWidth 7 = .ok (.invokestatic 227, 3) := by decide +kernel
theorem d_D_asSetWidth_10 : decode b_D_asSetWidth 10 = .ok (.invokestatic 203, 3) := by decide +kernel
theorem d_D_asSetWidth_13 : decode b_D_asSetWidth 13 = .ok (.l2i, 1) := by decide +kernel
theorem d_D_asSetWidth_14 : decode b_D_asSetWidth 14 = .ok (.ireturn, 1) := by decide +kernel
abbrev b_D_boxIn : ByteArray := prog_1_method_16_code
def y_D_boxIn : MethodName := ⟨"BoxDesk", "boxIn", "(I)LBoxDesk$Box;"⟩
theorem d_D_boxIn_0 : decode b_D_boxIn 0 = .ok (.iload_n 1, 1) := by decide +kernel
theorem d_D_boxIn_1 : decode b_D_boxIn 1 = .ok (.invokestatic 71, 3) := by decide +kernel
theorem d_D_boxIn_4 : decode b_D_boxIn 4 = .ok (.ifCond .eq 12, 3) := by decide +kernel
theorem d_D_boxIn_7 : decode b_D_boxIn 7 = .ok (.aload_n 0, 1) := by decide +kernel
theorem d_D_boxIn_8 : decode b_D_boxIn 8 = .ok (.getfield 17, 3) := by decide +kernel
theorem d_D_boxIn_11 : decode b_D_boxIn 11 = .ok (.iload_n 1, 1) := by decide +kernel
theorem d_D_boxIn_12 : decode b_D_boxIn 12 = .ok (.aaload, 1) := by decide +kernel
theorem d_D_boxIn_13 : decode b_D_boxIn 13 = .ok (.goto 4, 3) := by decide +kernel
theorem d_D_boxIn_16 : decode b_D_boxIn 16 = .ok (.aconst_null, 1) := by decide +kernel
theorem d_D_boxIn_17 : decode b_D_boxIn 17 = .ok (.areturn, 1) := by decide +kernel
abbrev b_D_character : ByteArray := prog_1_method_3_code
def y_D_character : MethodName := ⟨"BoxDesk", "character", "(III)Z"⟩
theorem d_D_character_0 : decode b_D_character 0 = .ok (.aload_n 0, 1) := by decide +kernel
theorem d_D_character_1 : decode b_D_character 1 = .ok (.invokevirtual 28, 3) := by decide +kernel
theorem d_D_character_4 : decode b_D_character 4 = .ok (.astore 4, 2) := by decide +kernel
theorem d_D_character_6 : decode b_D_character 6 = .ok (.aload 4, 2) := by decide +kernel
theorem d_D_character_8 : decode b_D_character 8 = .ok (.ifnull 20, 3) := by decide +kernel
theorem d_D_character_11 : decode b_D_character 11 = .ok (.aload 4, 2) := by decide +kernel
theorem d_D_character_13 : decode b_D_character 13 = .ok (.getfield 32, 3) := by decide +kernel
theorem d_D_character_16 : decode b_D_character 16 = .ok (.ifCond .ne 12, 3) := by decide +kernel
theorem d_D_character_19 : decode b_D_character 19 = .ok (.iload_n 1, 1) := by decide +kernel
theorem d_D_character_20 : decode b_D_character 20 = .ok (.iload_n 2, 1) := by decide +kernel
theorem d_D_character_21 : decode b_D_character 21 = .ok (.iload_n 3, 1) := by decide +kernel
theorem d_D_character_22 : decode b_D_character 22 = .ok (.invokestatic 36, 3) := by decide +kernel
theorem d_D_character_25 : decode b_D_character 25 = .ok (.ifCond .ne 5, 3) := by decide +kernel
theorem d_D_character_28 : decode b_D_character 28 = .ok (.iconst 0, 1) := by decide +kernel
theorem d_D_character_29 : decode b_D_character 29 = .ok (.ireturn, 1) := by decide +kernel
theorem d_D_character_30 : decode b_D_character 30 = .ok (.aload_n 0, 1) := by decide +kernel
theorem d_D_character_31 : decode b_D_character 31 = .ok (.aload 4, 2) := by decide +kernel
theorem d_D_character_33 : decode b_D_character 33 = .ok (.new 40, 3) := by decide +kernel
theorem d_D_character_36 : decode b_D_character 36 = .ok (.dup, 1) := by decide +kernel
theorem d_D_character_37 : decode b_D_character 37 = .ok (.iconst 1, 1) := by decide +kernel
theorem d_D_character_38 : decode b_D_character 38 = .ok (.iload_n 1, 1) := by decide +kernel
theorem d_D_character_39 : decode b_D_character 39 = .ok (.iload_n 2, 1) := by decide +kernel
theorem d_D_character_40 : decode b_D_character 40 = .ok (.iload_n 3, 1) := by decide +kernel
theorem d_D_character_41 : decode b_D_character 41 = .ok (.invokespecial 42, 3) := by decide +kernel
theorem d_D_character_44 : decode b_D_character 44 = .ok (.invokevirtual 45, 3) := by decide +kernel
theorem d_D_character_47 : decode b_D_character 47 = .ok (.ireturn, 1) := by decide +kernel
abbrev b_D_close : ByteArray := prog_1_method_8_code
def y_D_close : MethodName := ⟨"BoxDesk", "close", "(IIII)I"⟩
theorem d_D_close_0 : decode b_D_close 0 = .ok (.aload_n 0, 1) := by decide +kernel
theorem d_D_close_1 : decode b_D_close 1 = .ok (.invokevirtual 28, 3) := by decide +kernel
theorem d_D_close_4 : decode b_D_close 4 = .ok (.astore 5, 2) := by decide +kernel
theorem d_D_close_6 : decode b_D_close 6 = .ok (.aload 5, 2) := by decide +kernel
theorem d_D_close_8 : decode b_D_close 8 = .ok (.ifnonnull 13, 3) := by decide +kernel
theorem d_D_close_11 : decode b_D_close 11 = .ok (.new 64, 3) := by decide +kernel
theorem d_D_close_14 : decode b_D_close 14 = .ok (.dup, 1) := by decide +kernel
theorem d_D_close_15 : decode b_D_close 15 = .ok (.ldc 66, 2) := by decide +kernel
theorem d_D_close_17 : decode b_D_close 17 = .ok (.invokespecial 68, 3) := by decide +kernel
theorem d_D_close_20 : decode b_D_close 20 = .ok (.athrow, 1) := by decide +kernel
theorem d_D_close_21 : decode b_D_close 21 = .ok (.iload_n 1, 1) := by decide +kernel
theorem d_D_close_22 : decode b_D_close 22 = .ok (.ifCond .lt 32, 3) := by decide +kernel
theorem d_D_close_25 : decode b_D_close 25 = .ok (.iload_n 1, 1) := by decide +kernel
theorem d_D_close_26 : decode b_D_close 26 = .ok (.iconst 2, 1) := by decide +kernel
theorem d_D_close_27 : decode b_D_close 27 = .ok (.if_icmp .gt 27, 3) := by decide +kernel
theorem d_D_close_30 : decode b_D_close 30 = .ok (.iload_n 2, 1) := by decide +kernel
theorem d_D_close_31 : decode b_D_close 31 = .ok (.i2l, 1) := by decide +kernel
theorem d_D_close_32 : decode b_D_close 32 = .ok (.invokestatic 56, 3) := by decide +kernel
theorem d_D_close_35 : decode b_D_close 35 = .ok (.ifCond .eq 19, 3) := by decide +kernel
theorem d_D_close_38 : decode b_D_close 38 = .ok (.iload_n 3, 1) := by decide +kernel
theorem d_D_close_39 : decode b_D_close 39 = .ok (.i2l, 1) := by decide +kernel
theorem d_D_close_40 : decode b_D_close 40 = .ok (.invokestatic 56, 3) := by decide +kernel
theorem d_D_close_43 : decode b_D_close 43 = .ok (.ifCond .eq 11, 3) := by decide +kernel
theorem d_D_close_46 : decode b_D_close 46 = .ok (.iload 4, 2) := by decide +kernel
theorem d_D_close_48 : decode b_D_close 48 = .ok (.invokestatic 71, 3) := by decide +kernel
theorem d_D_close_51 : decode b_D_close 51 = .ok (.ifCond .ne 13, 3) := by decide +kernel
theorem d_D_close_54 : decode b_D_close 54 = .ok (.new 75, 3) := by decide +kernel
theorem d_D_close_57 : decode b_D_close 57 = .ok (.dup, 1) := by decide +kernel
theorem d_D_close_58 : decode b_D_close 58 = .ok (.ldc 77, 2) := by decide +kernel
theorem d_D_close_60 : decode b_D_close 60 = .ok (.invokespecial 79, 3) := by decide +kernel
theorem d_D_close_63 : decode b_D_close 63 = .ok (.athrow, 1) := by decide +kernel
theorem d_D_close_64 : decode b_D_close 64 = .ok (.aload 5, 2) := by decide +kernel
theorem d_D_close_66 : decode b_D_close 66 = .ok (.iload_n 3, 1) := by decide +kernel
theorem d_D_close_67 : decode b_D_close 67 = .ok (.invokestatic 80, 3) := by decide +kernel
theorem d_D_close_70 : decode b_D_close 70 = .ok (.astore 6, 2) := by decide +kernel
theorem d_D_close_72 : decode b_D_close 72 = .ok (.iload_n 1, 1) := by decide +kernel
theorem d_D_close_73 : decode b_D_close 73 = .ok (.iload_n 2, 1) := by decide +kernel
theorem d_D_close_74 : decode b_D_close 74 = .ok (.aload 6, 2) := by decide +kernel
theorem d_D_close_76 : decode b_D_close 76 = .ok (.getfield 84, 3) := by decide +kernel
theorem d_D_close_79 : decode b_D_close 79 = .ok (.invokestatic 90, 3) := by decide +kernel
theorem d_D_close_82 : decode b_D_close 82 = .ok (.lstore 7, 2) := by decide +kernel
theorem d_D_close_84 : decode b_D_close 84 = .ok (.aload_n 0, 1) := by decide +kernel
theorem d_D_close_85 : decode b_D_close 85 = .ok (.getfield 94, 3) := by decide +kernel
theorem d_D_close_88 : decode b_D_close 88 = .ok (.sipush 4000, 3) := by decide +kernel
theorem d_D_close_91 : decode b_D_close 91 = .ok (.if_icmp .ge 19, 3) := by decide +kernel
theorem d_D_close_94 : decode b_D_close 94 = .ok (.aload 6, 2) := by decide +kernel
theorem d_D_close_96 : decode b_D_close 96 = .ok (.invokevirtual 97, 3) := by decide +kernel
theorem d_D_close_99 : decode b_D_close 99 = .ok (.ifCond .eq 11, 3) := by decide +kernel
theorem d_D_close_102 : decode b_D_close 102 = .ok (.lload 7, 2) := by decide +kernel
theorem d_D_close_104 : decode b_D_close 104 = .ok (.invokestatic 56, 3) := by decide +kernel
theorem d_D_close_107 : decode b_D_close 107 = .ok (.ifCond .ne 13, 3) := by decide +kernel
theorem d_D_close_110 : decode b_D_close 110 = .ok (.new 101, 3) := by decide +kernel
theorem d_D_close_113 : decode b_D_close 113 = .ok (.dup, 1) := by decide +kernel
theorem d_D_close_114 : decode b_D_close 114 = .ok (.ldc 103, 2) := by decide +kernel
theorem d_D_close_116 : decode b_D_close 116 = .ok (.invokespecial 105, 3) := by decide +kernel
theorem d_D_close_119 : decode b_D_close 119 = .ok (.athrow, 1) := by decide +kernel
theorem d_D_close_120 : decode b_D_close 120 = .ok (.new 15, 3) := by decide +kernel
theorem d_D_close_123 : decode b_D_close 123 = .ok (.dup, 1) := by decide +kernel
theorem d_D_close_124 : decode b_D_close 124 = .ok (.aload 5, 2) := by decide +kernel
theorem d_D_close_126 : decode b_D_close 126 = .ok (.aload 6, 2) := by decide +kernel
theorem d_D_close_128 : decode b_D_close 128 = .ok (.lload 7, 2) := by decide +kernel
theorem d_D_close_130 : decode b_D_close 130 = .ok (.l2i, 1) := by decide +kernel
theorem d_D_close_131 : decode b_D_close 131 = .ok (.invokespecial 106, 3) := by decide +kernel
theorem d_D_close_134 : decode b_D_close 134 = .ok (.astore 9, 2) := by decide +kernel
theorem d_D_close_136 : decode b_D_close 136 = .ok (.aload_n 0, 1) := by decide +kernel
theorem d_D_close_137 : decode b_D_close 137 = .ok (.dup, 1) := by decide +kernel
theorem d_D_close_138 : decode b_D_close 138 = .ok (.getfield 21, 3) := by decide +kernel
theorem d_D_close_141 : decode b_D_close 141 = .ok (.iconst 1, 1) := by decide +kernel
theorem d_D_close_142 : decode b_D_close 142 = .ok (.isub, 1) := by decide +kernel
theorem d_D_close_143 : decode b_D_close 143 = .ok (.putfield 21, 3) := by decide +kernel
theorem d_D_close_146 : decode b_D_close 146 = .ok (.aload_n 0, 1) := by decide +kernel
theorem d_D_close_147 : decode b_D_close 147 = .ok (.getfield 11, 3) := by decide +kernel
theorem d_D_close_150 : decode b_D_close 150 = .ok (.aload_n 0, 1) := by decide +kernel
theorem d_D_close_151 : decode b_D_close 151 = .ok (.getfield 21, 3) := by decide +kernel
theorem d_D_close_154 : decode b_D_close 154 = .ok (.aconst_null, 1) := by decide +kernel
theorem d_D_close_155 : decode b_D_close 155 = .ok (.aastore, 1) := by decide +kernel
theorem d_D_close_156 : decode b_D_close 156 = .ok (.aload_n 0, 1) := by decide +kernel
theorem d_D_close_157 : decode b_D_close 157 = .ok (.dup, 1) := by decide +kernel
theorem d_D_close_158 : decode b_D_close 158 = .ok (.getfield 94, 3) := by decide +kernel
theorem d_D_close_161 : decode b_D_close 161 = .ok (.iconst 1, 1) := by decide +kernel
theorem d_D_close_162 : decode b_D_close 162 = .ok (.aload_n 0, 1) := by decide +kernel
theorem d_D_close_163 : decode b_D_close 163 = .ok (.getfield 17, 3) := by decide +kernel
theorem d_D_close_166 : decode b_D_close 166 = .ok (.iload 4, 2) := by decide +kernel
theorem d_D_close_168 : decode b_D_close 168 = .ok (.aaload, 1) := by decide +kernel
theorem d_D_close_169 : decode b_D_close 169 = .ok (.invokestatic 109, 3) := by decide +kernel
theorem d_D_close_172 : decode b_D_close 172 = .ok (.isub, 1) := by decide +kernel
theorem d_D_close_173 : decode b_D_close 173 = .ok (.iadd, 1) := by decide +kernel
theorem d_D_close_174 : decode b_D_close 174 = .ok (.putfield 94, 3) := by decide +kernel
theorem d_D_close_177 : decode b_D_close 177 = .ok (.aload_n 0, 1) := by decide +kernel
theorem d_D_close_178 : decode b_D_close 178 = .ok (.getfield 17, 3) := by decide +kernel
theorem d_D_close_181 : decode b_D_close 181 = .ok (.iload 4, 2) := by decide +kernel
theorem d_D_close_183 : decode b_D_close 183 = .ok (.aload 9, 2) := by decide +kernel
theorem d_D_close_185 : decode b_D_close 185 = .ok (.aastore, 1) := by decide +kernel
theorem d_D_close_186 : decode b_D_close 186 = .ok (.lload 7, 2) := by decide +kernel
theorem d_D_close_188 : decode b_D_close 188 = .ok (.l2i, 1) := by decide +kernel
theorem d_D_close_189 : decode b_D_close 189 = .ok (.ireturn, 1) := by decide +kernel
abbrev b_D_count : ByteArray := prog_1_method_14_code
def y_D_count : MethodName := ⟨"BoxDesk", "count", "(I)I"⟩
theorem d_D_count_0 : decode b_D_count 0 = .ok (.iload_n 1, 1) := by decide +kernel
theorem d_D_count_1 : decode b_D_count 1 = .ok (.lookupswitch 37 #[(0, 27), (1, 32)], 27) := by decide +kernel
theorem d_D_count_28 : decode b_D_count 28 = .ok (.aload_n 0, 1) := by decide +kernel
theorem d_D_count_29 : decode b_D_count 29 = .ok (.getfield 21, 3) := by decide +kernel
theorem d_D_count_32 : decode b_D_count 32 = .ok (.ireturn, 1) := by decide +kernel
theorem d_D_count_33 : decode b_D_count 33 = .ok (.aload_n 0, 1) := by decide +kernel
theorem d_D_count_34 : decode b_D_count 34 = .ok (.getfield 94, 3) := by decide +kernel
theorem d_D_count_37 : decode b_D_count 37 = .ok (.ireturn, 1) := by decide +kernel
theorem d_D_count_38 : decode b_D_count 38 = .ok (.iconst (-1), 1) := by decide +kernel
theorem d_D_count_39 : decode b_D_count 39 = .ok (.ireturn, 1) := by decide +kernel
abbrev b_D_glue : ByteArray := prog_1_method_5_code
def y_D_glue : MethodName := ⟨"BoxDesk", "glue", "(IIII)Z"⟩
theorem d_D_glue_0 : decode b_D_glue 0 = .ok (.aload_n 0, 1) := by decide +kernel
theorem d_D_glue_1 : decode b_D_glue 1 = .ok (.invokevirtual 28, 3) := by decide +kernel
theorem d_D_glue_4 : decode b_D_glue 4 = .ok (.astore 5, 2) := by decide +kernel
theorem d_D_glue_6 : decode b_D_glue 6 = .ok (.aload 5, 2) := by decide +kernel
theorem d_D_glue_8 : decode b_D_glue 8 = .ok (.ifnull 13, 3) := by decide +kernel
theorem d_D_glue_11 : decode b_D_glue 11 = .ok (.iload_n 1, 1) := by decide +kernel
theorem d_D_glue_12 : decode b_D_glue 12 = .ok (.iload_n 2, 1) := by decide +kernel
theorem d_D_glue_13 : decode b_D_glue 13 = .ok (.iload 4, 2) := by decide +kernel
theorem d_D_glue_15 : decode b_D_glue 15 = .ok (.invokestatic 36, 3) := by decide +kernel
theorem d_D_glue_18 : decode b_D_glue 18 = .ok (.ifCond .ne 5, 3) := by decide +kernel
theorem d_D_glue_21 : decode b_D_glue 21 = .ok (.iconst 0, 1) := by decide +kernel
theorem d_D_glue_22 : decode b_D_glue 22 = .ok (.ireturn, 1) := by decide +kernel
theorem d_D_glue_23 : decode b_D_glue 23 = .ok (.iload_n 2, 1) := by decide +kernel
theorem d_D_glue_24 : decode b_D_glue 24 = .ok (.ifCond .lt 17, 3) := by decide +kernel
theorem d_D_glue_27 : decode b_D_glue 27 = .ok (.iload 4, 2) := by decide +kernel
theorem d_D_glue_29 : decode b_D_glue 29 = .ok (.ifCond .lt 12, 3) := by decide +kernel
theorem d_D_glue_32 : decode b_D_glue 32 = .ok (.iload_n 3, 1) := by decide +kernel
theorem d_D_glue_33 : decode b_D_glue 33 = .ok (.ifCond .lt 8, 3) := by decide +kernel
theorem d_D_glue_36 : decode b_D_glue 36 = .ok (.iload_n 3, 1) := by decide +kernel
theorem d_D_glue_37 : decode b_D_glue 37 = .ok (.iconst 4, 1) := by decide +kernel
theorem d_D_glue_38 : decode b_D_glue 38 = .ok (.if_icmp .lt 5, 3) := by decide +kernel
theorem d_D_glue_41 : decode b_D_glue 41 = .ok (.iconst 0, 1) := by decide +kernel
theorem d_D_glue_42 : decode b_D_glue 42 = .ok (.ireturn, 1) := by decide +kernel
theorem d_D_glue_43 : decode b_D_glue 43 = .ok (.aload_n 0, 1) := by decide +kernel
theorem d_D_glue_44 : decode b_D_glue 44 = .ok (.aload 5, 2) := by decide +kernel
theorem d_D_glue_46 : decode b_D_glue 46 = .ok (.iload_n 1, 1) := by decide +kernel
theorem d_D_glue_47 : decode b_D_glue 47 = .ok (.iload_n 2, 1) := by decide +kernel
theorem d_D_glue_48 : decode b_D_glue 48 = .ok (.iload_n 3, 1) := by decide +kernel
theorem d_D_glue_49 : decode b_D_glue 49 = .ok (.iload 4, 2) := by decide +kernel
theorem d_D_glue_51 : decode b_D_glue 51 = .ok (.invokestatic 53, 3) := by decide +kernel
theorem d_D_glue_54 : decode b_D_glue 54 = .ok (.invokevirtual 45, 3) := by decide +kernel
theorem d_D_glue_57 : decode b_D_glue 57 = .ok (.ireturn, 1) := by decide +kernel
abbrev b_D_init : ByteArray := prog_1_method_1_code
def y_D_init : MethodName := ⟨"BoxDesk", "<init>", "()V"⟩
theorem d_D_init_0 : decode b_D_init 0 = .ok (.aload_n 0, 1) := by decide +kernel
theorem d_D_init_1 : decode b_D_init 1 = .ok (.invokespecial 1, 3) := by decide +kernel
theorem d_D_init_4 : decode b_D_init 4 = .ok (.aload_n 0, 1) := by decide +kernel
theorem d_D_init_5 : decode b_D_init 5 = .ok (.bipush 100, 2) := by decide +kernel
theorem d_D_init_7 : decode b_D_init 7 = .ok (.anewarray 9, 3) := by decide +kernel
theorem d_D_init_10 : decode b_D_init 10 = .ok (.putfield 11, 3) := by decide +kernel
theorem d_D_init_13 : decode b_D_init 13 = .ok (.aload_n 0, 1) := by decide +kernel
theorem d_D_init_14 : decode b_D_init 14 = .ok (.bipush 16, 2) := by decide +kernel
theorem d_D_init_16 : decode b_D_init 16 = .ok (.anewarray 15, 3) := by decide +kernel
theorem d_D_init_19 : decode b_D_init 19 = .ok (.putfield 17, 3) := by decide +kernel
theorem d_D_init_22 : decode b_D_init 22 = .ok (.return_, 1) := by decide +kernel
abbrev b_D_innermost : ByteArray := prog_1_method_15_code
def y_D_innermost : MethodName := ⟨"BoxDesk", "innermost", "()LBoxDesk$ItemList;"⟩
theorem d_D_innermost_0 : decode b_D_innermost 0 = .ok (.aload_n 0, 1) := by decide +kernel
theorem d_D_innermost_1 : decode b_D_innermost 1 = .ok (.getfield 21, 3) := by decide +kernel
theorem d_D_innermost_4 : decode b_D_innermost 4 = .ok (.ifCond .le 17, 3) := by decide +kernel
theorem d_D_innermost_7 : decode b_D_innermost 7 = .ok (.aload_n 0, 1) := by decide +kernel
theorem d_D_innermost_8 : decode b_D_innermost 8 = .ok (.getfield 11, 3) := by decide +kernel
theorem d_D_innermost_11 : decode b_D_innermost 11 = .ok (.aload_n 0, 1) := by decide +kernel
theorem d_D_innermost_12 : decode b_D_innermost 12 = .ok (.getfield 21, 3) := by decide +kernel
theorem d_D_innermost_15 : decode b_D_innermost 15 = .ok (.iconst 1, 1) := by decide +kernel
theorem d_D_innermost_16 : decode b_D_innermost 16 = .ok (.isub, 1) := by decide +kernel
theorem d_D_innermost_17 : decode b_D_innermost 17 = .ok (.aaload, 1) := by decide +kernel
theorem d_D_innermost_18 : decode b_D_innermost 18 = .ok (.goto 4, 3) := by decide +kernel
theorem d_D_innermost_21 : decode b_D_innermost 21 = .ok (.aconst_null, 1) := by decide +kernel
theorem d_D_innermost_22 : decode b_D_innermost 22 = .ok (.areturn, 1) := by decide +kernel
abbrev b_D_isRegister : ByteArray := prog_1_method_19_code
def y_D_isRegister : MethodName := ⟨"BoxDesk", "isRegister", "(I)Z"⟩
theorem d_D_isRegister_0 : decode b_D_isRegister 0 = .ok (.iload_n 0, 1) := by decide +kernel
theorem d_D_isRegister_1 : decode b_D_isRegister 1 = .ok (.ifCond .lt 13, 3) := by decide +kernel
theorem d_D_isRegister_4 : decode b_D_isRegister 4 = .ok (.iload_n 0, 1) := by decide +kernel
theorem d_D_isRegister_5 : decode b_D_isRegister 5 = .ok (.bipush 16, 2) := by decide +kernel
theorem d_D_isRegister_7 : decode b_D_isRegister 7 = .ok (.if_icmp .ge 7, 3) := by decide +kernel
theorem d_D_isRegister_10 : decode b_D_isRegister 10 = .ok (.iconst 1, 1) := by decide +kernel
theorem d_D_isRegister_11 : decode b_D_isRegister 11 = .ok (.goto 4, 3) := by decide +kernel
theorem d_D_isRegister_14 : decode b_D_isRegister 14 = .ok (.iconst 0, 1) := by decide +kernel
theorem d_D_isRegister_15 : decode b_D_isRegister 15 = .ok (.ireturn, 1) := by decide +kernel
abbrev b_D_isSize : ByteArray := prog_1_method_20_code
def y_D_isSize : MethodName := ⟨"BoxDesk", "isSize", "(J)Z"⟩
theorem d_D_isSize_0 : decode b_D_isSize 0 = .ok (.lload_n 0, 1) := by decide +kernel
theorem d_D_isSize_1 : decode b_D_isSize 1 = .ok (.ldc2_w 174, 3) := by decide +kernel
theorem d_D_isSize_4 : decode b_D_isSize 4 = .ok (.lcmp, 1) := by decide +kernel
theorem d_D_isSize_5 : decode b_D_isSize 5 = .ok (.ifCond .lt 15, 3) := by decide +kernel
theorem d_D_isSize_8 : decode b_D_isSize 8 = .ok (.lload_n 0, 1) := by decide +kernel
theorem d_D_isSize_9 : decode b_D_isSize 9 = .ok (.ldc2_w 176, 3) := by decide +kernel
theorem d_D_isSize_12 : decode b_D_isSize 12 = .ok (.lcmp, 1) := by decide +kernel
theorem d_D_isSize_13 : decode b_D_isSize 13 = .ok (.ifCond .gt 7, 3) := by decide +kernel
theorem d_D_isSize_16 : decode b_D_isSize 16 = .ok (.iconst 1, 1) := by decide +kernel
theorem d_D_isSize_17 : decode b_D_isSize 17 = .ok (.goto 4, 3) := by decide +kernel
theorem d_D_isSize_20 : decode b_D_isSize 20 = .ok (.iconst 0, 1) := by decide +kernel
theorem d_D_isSize_21 : decode b_D_isSize 21 = .ok (.ireturn, 1) := by decide +kernel
abbrev b_D_item : ByteArray := prog_1_method_13_code
def y_D_item : MethodName := ⟨"BoxDesk", "item", "(III)I"⟩
theorem d_D_item_0 : decode b_D_item 0 = .ok (.aload_n 0, 1) := by decide +kernel
theorem d_D_item_1 : decode b_D_item 1 = .ok (.iload_n 1, 1) := by decide +kernel
theorem d_D_item_2 : decode b_D_item 2 = .ok (.invokevirtual 113, 3) := by decide +kernel
theorem d_D_item_5 : decode b_D_item 5 = .ok (.astore 4, 2) := by decide +kernel
theorem d_D_item_7 : decode b_D_item 7 = .ok (.aload 4, 2) := by decide +kernel
theorem d_D_item_9 : decode b_D_item 9 = .ok (.ifnull 31, 3) := by decide +kernel
theorem d_D_item_12 : decode b_D_item 12 = .ok (.iload_n 2, 1) := by decide +kernel
theorem d_D_item_13 : decode b_D_item 13 = .ok (.ifCond .lt 27, 3) := by decide +kernel
theorem d_D_item_16 : decode b_D_item 16 = .ok (.iload_n 2, 1) := by decide +kernel
theorem d_D_item_17 : decode b_D_item 17 = .ok (.aload 4, 2) := by decide +kernel
theorem d_D_item_19 : decode b_D_item 19 = .ok (.getfield 131, 3) := by decide +kernel
theorem d_D_item_22 : decode b_D_item 22 = .ok (.getfield 117, 3) := by decide +kernel
theorem d_D_item_25 : decode b_D_item 25 = .ok (.invokevirtual 135, 3) := by decide +kernel
theorem d_D_item_28 : decode b_D_item 28 = .ok (.if_icmp .ge 12, 3) := by decide +kernel
theorem d_D_item_31 : decode b_D_item 31 = .ok (.iload_n 3, 1) := by decide +kernel
theorem d_D_item_32 : decode b_D_item 32 = .ok (.ifCond .lt 8, 3) := by decide +kernel
theorem d_D_item_35 : decode b_D_item 35 = .ok (.iload_n 3, 1) := by decide +kernel
theorem d_D_item_36 : decode b_D_item 36 = .ok (.iconst 5, 1) := by decide +kernel
theorem d_D_item_37 : decode b_D_item 37 = .ok (.if_icmp .le 13, 3) := by decide +kernel
theorem d_D_item_40 : decode b_D_item 40 = .ok (.new 152, 3) := by decide +kernel
theorem d_D_item_43 : decode b_D_item 43 = .ok (.dup, 1) := by decide +kernel
theorem d_D_item_44 : decode b_D_item 44 = .ok (.ldc 161, 2) := by decide +kernel
theorem d_D_item_46 : decode b_D_item 46 = .ok (.invokespecial 156, 3) := by decide +kernel
theorem d_D_item_49 : decode b_D_item 49 = .ok (.athrow, 1) := by decide +kernel
theorem d_D_item_50 : decode b_D_item 50 = .ok (.aload 4, 2) := by decide +kernel
theorem d_D_item_52 : decode b_D_item 52 = .ok (.getfield 131, 3) := by decide +kernel
theorem d_D_item_55 : decode b_D_item 55 = .ok (.getfield 117, 3) := by decide +kernel
theorem d_D_item_58 : decode b_D_item 58 = .ok (.iload_n 2, 1) := by decide +kernel
theorem d_D_item_59 : decode b_D_item 59 = .ok (.invokevirtual 139, 3) := by decide +kernel
theorem d_D_item_62 : decode b_D_item 62 = .ok (.checkcast 40, 3) := by decide +kernel
theorem d_D_item_65 : decode b_D_item 65 = .ok (.astore 5, 2) := by decide +kernel
theorem d_D_item_67 : decode b_D_item 67 = .ok (.aload 5, 2) := by decide +kernel
theorem d_D_item_69 : decode b_D_item 69 = .ok (.getfield 163, 3) := by decide +kernel
theorem d_D_item_72 : decode b_D_item 72 = .ok (.iconst 5, 1) := by decide +kernel
theorem d_D_item_73 : decode b_D_item 73 = .ok (.if_icmp .ne 22, 3) := by decide +kernel
theorem d_D_item_76 : decode b_D_item 76 = .ok (.iload_n 3, 1) := by decide +kernel
theorem d_D_item_77 : decode b_D_item 77 = .ok (.iconst 1, 1) := by decide +kernel
theorem d_D_item_78 : decode b_D_item 78 = .ok (.if_icmp .ne 17, 3) := by decide +kernel
theorem d_D_item_81 : decode b_D_item 81 = .ok (.iload_n 2, 1) := by decide +kernel
theorem d_D_item_82 : decode b_D_item 82 = .ok (.aload 4, 2) := by decide +kernel
theorem d_D_item_84 : decode b_D_item 84 = .ok (.getfield 166, 3) := by decide +kernel
theorem d_D_item_87 : decode b_D_item 87 = .ok (.arraylength, 1) := by decide +kernel
theorem d_D_item_88 : decode b_D_item 88 = .ok (.if_icmp .ge 7, 3) := by decide +kernel
theorem d_D_item_91 : decode b_D_item 91 = .ok (.iconst 1, 1) := by decide +kernel
theorem d_D_item_92 : decode b_D_item 92 = .ok (.goto 4, 3) := by decide +kernel
theorem d_D_item_95 : decode b_D_item 95 = .ok (.iconst 0, 1) := by decide +kernel
theorem d_D_item_96 : decode b_D_item 96 = .ok (.istore 6, 2) := by decide +kernel
theorem d_D_item_98 : decode b_D_item 98 = .ok (.iload 6, 2) := by decide +kernel
theorem d_D_item_100 : decode b_D_item 100 = .ok (.ifCond .eq 13, 3) := by decide +kernel
theorem d_D_item_103 : decode b_D_item 103 = .ok (.aload 4, 2) := by decide +kernel
theorem d_D_item_105 : decode b_D_item 105 = .ok (.getfield 166, 3) := by decide +kernel
theorem d_D_item_108 : decode b_D_item 108 = .ok (.iload_n 2, 1) := by decide +kernel
theorem d_D_item_109 : decode b_D_item 109 = .ok (.iaload, 1) := by decide +kernel
theorem d_D_item_110 : decode b_D_item 110 = .ok (.goto 9, 3) := by decide +kernel
theorem d_D_item_113 : decode b_D_item 113 = .ok (.aload 5, 2) := by decide +kernel
theorem d_D_item_115 : decode b_D_item 115 = .ok (.iload_n 3, 1) := by decide +kernel
theorem d_D_item_116 : decode b_D_item 116 = .ok (.invokevirtual 170, 3) := by decide +kernel
theorem d_D_item_119 : decode b_D_item 119 = .ok (.ireturn, 1) := by decide +kernel
abbrev b_D_itemsOf : ByteArray := prog_1_method_18_code
def y_D_itemsOf : MethodName := ⟨"BoxDesk", "itemsOf", "(LBoxDesk$Box;)I"⟩
theorem d_D_itemsOf_0 : decode b_D_itemsOf 0 = .ok (.aload_n 0, 1) := by decide +kernel
theorem d_D_itemsOf_1 : decode b_D_itemsOf 1 = .ok (.ifnonnull 7, 3) := by decide +kernel
theorem d_D_itemsOf_4 : decode b_D_itemsOf 4 = .ok (.iconst 0, 1) := by decide +kernel
theorem d_D_itemsOf_5 : decode b_D_itemsOf 5 = .ok (.goto 9, 3) := by decide +kernel
theorem d_D_itemsOf_8 : decode b_D_itemsOf 8 = .ok (.iconst 1, 1) := by decide +kernel
theorem d_D_itemsOf_9 : decode b_D_itemsOf 9 = .ok (.aload_n 0, 1) := by decide +kernel
theorem d_D_itemsOf_10 : decode b_D_itemsOf 10 = .ok (.getfield 171, 3) := by decide +kernel
theorem d_D_itemsOf_13 : decode b_D_itemsOf 13 = .ok (.iadd, 1) := by decide +kernel
theorem d_D_itemsOf_14 : decode b_D_itemsOf 14 = .ok (.ireturn, 1) := by decide +kernel
abbrev b_D_join : ByteArray := prog_1_method_17_code
def y_D_join : MethodName := ⟨"BoxDesk", "join", "(LBoxDesk$ItemList;LBoxDesk$Item;)Z"⟩
theorem d_D_join_0 : decode b_D_join 0 = .ok (.aload_n 0, 1) := by decide +kernel
theorem d_D_join_1 : decode b_D_join 1 = .ok (.getfield 94, 3) := by decide +kernel
theorem d_D_join_4 : decode b_D_join 4 = .ok (.sipush 4000, 3) := by decide +kernel
theorem d_D_join_7 : decode b_D_join 7 = .ok (.if_icmp .lt 5, 3) := by decide +kernel
theorem d_D_join_10 : decode b_D_join 10 = .ok (.iconst 0, 1) := by decide +kernel
theorem d_D_join_11 : decode b_D_join 11 = .ok (.ireturn, 1) := by decide +kernel
theorem d_D_join_12 : decode b_D_join 12 = .ok (.aload_n 1, 1) := by decide +kernel
theorem d_D_join_13 : decode b_D_join 13 = .ok (.getfield 117, 3) := by decide +kernel
theorem d_D_join_16 : decode b_D_join 16 = .ok (.aload_n 2, 1) := by decide +kernel
theorem d_D_join_17 : decode b_D_join 17 = .ok (.invokevirtual 125, 3) := by decide +kernel
theorem d_D_join_20 : decode b_D_join 20 = .ok (.pop, 1) := by decide +kernel
theorem d_D_join_21 : decode b_D_join 21 = .ok (.aload_n 0, 1) := by decide +kernel
theorem d_D_join_22 : decode b_D_join 22 = .ok (.dup, 1) := by decide +kernel
theorem d_D_join_23 : decode b_D_join 23 = .ok (.getfield 94, 3) := by decide +kernel
theorem d_D_join_26 : decode b_D_join 26 = .ok (.iconst 1, 1) := by decide +kernel
theorem d_D_join_27 : decode b_D_join 27 = .ok (.iadd, 1) := by decide +kernel
theorem d_D_join_28 : decode b_D_join 28 = .ok (.putfield 94, 3) := by decide +kernel
theorem d_D_join_31 : decode b_D_join 31 = .ok (.iconst 1, 1) := by decide +kernel
theorem d_D_join_32 : decode b_D_join 32 = .ok (.ireturn, 1) := by decide +kernel
abbrev b_D_kern : ByteArray := prog_1_method_6_code
def y_D_kern : MethodName := ⟨"BoxDesk", "kern", "(I)Z"⟩
theorem d_D_kern_0 : decode b_D_kern 0 = .ok (.aload_n 0, 1) := by decide +kernel
theorem d_D_kern_1 : decode b_D_kern 1 = .ok (.invokevirtual 28, 3) := by decide +kernel
theorem d_D_kern_4 : decode b_D_kern 4 = .ok (.astore_n 2, 1) := by decide +kernel
theorem d_D_kern_5 : decode b_D_kern 5 = .ok (.aload_n 2, 1) := by decide +kernel
theorem d_D_kern_6 : decode b_D_kern 6 = .ok (.ifnull 11, 3) := by decide +kernel
theorem d_D_kern_9 : decode b_D_kern 9 = .ok (.iload_n 1, 1) := by decide +kernel
theorem d_D_kern_10 : decode b_D_kern 10 = .ok (.i2l, 1) := by decide +kernel
theorem d_D_kern_11 : decode b_D_kern 11 = .ok (.invokestatic 56, 3) := by decide +kernel
theorem d_D_kern_14 : decode b_D_kern 14 = .ok (.ifCond .ne 5, 3) := by decide +kernel
theorem d_D_kern_17 : decode b_D_kern 17 = .ok (.iconst 0, 1) := by decide +kernel
theorem d_D_kern_18 : decode b_D_kern 18 = .ok (.ireturn, 1) := by decide +kernel
theorem d_D_kern_19 : decode b_D_kern 19 = .ok (.aload_n 0, 1) := by decide +kernel
theorem d_D_kern_20 : decode b_D_kern 20 = .ok (.aload_n 2, 1) := by decide +kernel
theorem d_D_kern_21 : decode b_D_kern 21 = .ok (.new 40, 3) := by decide +kernel
theorem d_D_kern_24 : decode b_D_kern 24 = .ok (.dup, 1) := by decide +kernel
theorem d_D_kern_25 : decode b_D_kern 25 = .ok (.bipush 6, 2) := by decide +kernel
theorem d_D_kern_27 : decode b_D_kern 27 = .ok (.iload_n 1, 1) := by decide +kernel
theorem d_D_kern_28 : decode b_D_kern 28 = .ok (.iconst 0, 1) := by decide +kernel
theorem d_D_kern_29 : decode b_D_kern 29 = .ok (.iconst 0, 1) := by decide +kernel
theorem d_D_kern_30 : decode b_D_kern 30 = .ok (.invokespecial 42, 3) := by decide +kernel
theorem d_D_kern_33 : decode b_D_kern 33 = .ok (.invokevirtual 45, 3) := by decide +kernel
theorem d_D_kern_36 : decode b_D_kern 36 = .ok (.ireturn, 1) := by decide +kernel
abbrev b_D_measured : ByteArray := prog_1_method_23_code
def y_D_measured : MethodName := ⟨"BoxDesk", "measured", "(LBoxDesk$ItemList;I)LBoxDesk$Measure;"⟩
theorem d_D_measured_0 : decode b_D_measured 0 = .ok (.new 85, 3) := by decide +kernel
theorem d_D_measured_3 : decode b_D_measured 3 = .ok (.dup, 1) := by decide +kernel
theorem d_D_measured_4 : decode b_D_measured 4 = .ok (.invokespecial 178, 3) := by decide +kernel
theorem d_D_measured_7 : decode b_D_measured 7 = .ok (.astore_n 2, 1) := by decide +kernel
theorem d_D_measured_8 : decode b_D_measured 8 = .ok (.iconst 0, 1) := by decide +kernel
theorem d_D_measured_9 : decode b_D_measured 9 = .ok (.istore_n 3, 1) := by decide +kernel
theorem d_D_measured_10 : decode b_D_measured 10 = .ok (.iload_n 3, 1) := by decide +kernel
theorem d_D_measured_11 : decode b_D_measured 11 = .ok (.aload_n 0, 1) := by decide +kernel
theorem d_D_measured_12 : decode b_D_measured 12 = .ok (.getfield 117, 3) := by decide +kernel
theorem d_D_measured_15 : decode b_D_measured 15 = .ok (.invokevirtual 135, 3) := by decide +kernel
theorem d_D_measured_18 : decode b_D_measured 18 = .ok (.if_icmp .ge 50, 3) := by decide +kernel
theorem d_D_measured_21 : decode b_D_measured 21 = .ok (.aload_n 0, 1) := by decide +kernel
theorem d_D_measured_22 : decode b_D_measured 22 = .ok (.getfield 117, 3) := by decide +kernel
theorem d_D_measured_25 : decode b_D_measured 25 = .ok (.iload_n 3, 1) := by decide +kernel
theorem d_D_measured_26 : decode b_D_measured 26 = .ok (.invokevirtual 139, 3) := by decide +kernel
theorem d_D_measured_29 : decode b_D_measured 29 = .ok (.checkcast 40, 3) := by decide +kernel
theorem d_D_measured_32 : decode b_D_measured 32 = .ok (.astore 4, 2) := by decide +kernel
theorem d_D_measured_34 : decode b_D_measured 34 = .ok (.aload_n 2, 1) := by decide +kernel
theorem d_D_measured_35 : decode b_D_measured 35 = .ok (.aload 4, 2) := by decide +kernel
theorem d_D_measured_37 : decode b_D_measured 37 = .ok (.invokevirtual 179, 3) := by decide +kernel
theorem d_D_measured_40 : decode b_D_measured 40 = .ok (.aload_n 0, 1) := by decide +kernel
theorem d_D_measured_41 : decode b_D_measured 41 = .ok (.getfield 32, 3) := by decide +kernel
theorem d_D_measured_44 : decode b_D_measured 44 = .ok (.ifCond .eq 12, 3) := by decide +kernel
theorem d_D_measured_47 : decode b_D_measured 47 = .ok (.aload_n 2, 1) := by decide +kernel
theorem d_D_measured_48 : decode b_D_measured 48 = .ok (.aload 4, 2) := by decide +kernel
theorem d_D_measured_50 : decode b_D_measured 50 = .ok (.invokevirtual 183, 3) := by decide +kernel
theorem d_D_measured_53 : decode b_D_measured 53 = .ok (.goto 9, 3) := by decide +kernel
theorem d_D_measured_56 : decode b_D_measured 56 = .ok (.aload_n 2, 1) := by decide +kernel
theorem d_D_measured_57 : decode b_D_measured 57 = .ok (.aload 4, 2) := by decide +kernel
theorem d_D_measured_59 : decode b_D_measured 59 = .ok (.invokevirtual 186, 3) := by decide +kernel
theorem d_D_measured_62 : decode b_D_measured 62 = .ok (.iinc 3 1, 3) := by decide +kernel
theorem d_D_measured_65 : decode b_D_measured 65 = .ok (.goto (-55), 3) := by decide +kernel
theorem d_D_measured_68 : decode b_D_measured 68 = .ok (.aload_n 0, 1) := by decide +kernel
theorem d_D_measured_69 : decode b_D_measured 69 = .ok (.getfield 32, 3) := by decide +kernel
theorem d_D_measured_72 : decode b_D_measured 72 = .ok (.ifCond .eq 8, 3) := by decide +kernel
theorem d_D_measured_75 : decode b_D_measured 75 = .ok (.aload_n 2, 1) := by decide +kernel
theorem d_D_measured_76 : decode b_D_measured 76 = .ok (.iload_n 1, 1) := by decide +kernel
theorem d_D_measured_77 : decode b_D_measured 77 = .ok (.invokevirtual 189, 3) := by decide +kernel
theorem d_D_measured_80 : decode b_D_measured 80 = .ok (.aload_n 2, 1) := by decide +kernel
theorem d_D_measured_81 : decode b_D_measured 81 = .ok (.areturn, 1) := by decide +kernel
abbrev b_D_near : ByteArray := prog_1_method_26_code
def y_D_near : MethodName := ⟨"BoxDesk", "near", "(JJ)J"⟩
theorem d_D_near_0 : decode b_D_near 0 = .ok (.lload_n 2, 1) := by decide +kernel
theorem d_D_near_1 : decode b_D_near 1 = .ok (.lconst 0, 1) := by decide +kernel
theorem d_D_near_2 : decode b_D_near 2 = .ok (.lcmp, 1) := by decide +kernel
theorem d_D_near_3 : decode b_D_near 3 = .ok (.ifCond .gt 5, 3) := by decide +kernel
theorem d_D_near_6 : decode b_D_near 6 = .ok (.lconst 0, 1) := by decide +kernel
theorem d_D_near_7 : decode b_D_near 7 = .ok (.lreturn, 1) := by decide +kernel
theorem d_D_near_8 : decode b_D_near 8 = .ok (.ldc2_w 230, 3) := by decide +kernel
theorem d_D_near_11 : decode b_D_near 11 = .ok (.lload_n 0, 1) := by decide +kernel
theorem d_D_near_12 : decode b_D_near 12 = .ok (.invokestatic 232, 3) := by decide +kernel
theorem d_D_near_15 : decode b_D_near 15 = .ok (.lmul, 1) := by decide +kernel
theorem d_D_near_16 : decode b_D_near 16 = .ok (.lload_n 2, 1) := by decide +kernel
theorem d_D_near_17 : decode b_D_near 17 = .ok (.ladd, 1) := by decide +kernel
theorem d_D_near_18 : decode b_D_near 18 = .ok (.ldc2_w 230, 3) := by decide +kernel
theorem d_D_near_21 : decode b_D_near 21 = .ok (.lload_n 2, 1) := by decide +kernel
theorem d_D_near_22 : decode b_D_near 22 = .ok (.lmul, 1) := by decide +kernel
theorem d_D_near_23 : decode b_D_near 23 = .ok (.ldiv, 1) := by decide +kernel
theorem d_D_near_24 : decode b_D_near 24 = .ok (.lstore 4, 2) := by decide +kernel
theorem d_D_near_26 : decode b_D_near 26 = .ok (.lload_n 0, 1) := by decide +kernel
theorem d_D_near_27 : decode b_D_near 27 = .ok (.lconst 0, 1) := by decide +kernel
theorem d_D_near_28 : decode b_D_near 28 = .ok (.lcmp, 1) := by decide +kernel
theorem d_D_near_29 : decode b_D_near 29 = .ok (.ifCond .ge 9, 3) := by decide +kernel
theorem d_D_near_32 : decode b_D_near 32 = .ok (.lload 4, 2) := by decide +kernel
theorem d_D_near_34 : decode b_D_near 34 = .ok (.lneg, 1) := by decide +kernel
theorem d_D_near_35 : decode b_D_near 35 = .ok (.goto 5, 3) := by decide +kernel
theorem d_D_near_38 : decode b_D_near 38 = .ok (.lload 4, 2) := by decide +kernel
theorem d_D_near_40 : decode b_D_near 40 = .ok (.lreturn, 1) := by decide +kernel
abbrev b_D_open : ByteArray := prog_1_method_2_code
def y_D_open : MethodName := ⟨"BoxDesk", "open", "(Z)Z"⟩
theorem d_D_open_0 : decode b_D_open 0 = .ok (.aload_n 0, 1) := by decide +kernel
theorem d_D_open_1 : decode b_D_open 1 = .ok (.getfield 21, 3) := by decide +kernel
theorem d_D_open_4 : decode b_D_open 4 = .ok (.bipush 100, 2) := by decide +kernel
theorem d_D_open_6 : decode b_D_open 6 = .ok (.if_icmp .lt 5, 3) := by decide +kernel
theorem d_D_open_9 : decode b_D_open 9 = .ok (.iconst 0, 1) := by decide +kernel
theorem d_D_open_10 : decode b_D_open 10 = .ok (.ireturn, 1) := by decide +kernel
theorem d_D_open_11 : decode b_D_open 11 = .ok (.aload_n 0, 1) := by decide +kernel
theorem d_D_open_12 : decode b_D_open 12 = .ok (.getfield 11, 3) := by decide +kernel
theorem d_D_open_15 : decode b_D_open 15 = .ok (.aload_n 0, 1) := by decide +kernel
theorem d_D_open_16 : decode b_D_open 16 = .ok (.getfield 21, 3) := by decide +kernel
theorem d_D_open_19 : decode b_D_open 19 = .ok (.new 9, 3) := by decide +kernel
theorem d_D_open_22 : decode b_D_open 22 = .ok (.dup, 1) := by decide +kernel
theorem d_D_open_23 : decode b_D_open 23 = .ok (.iload_n 1, 1) := by decide +kernel
theorem d_D_open_24 : decode b_D_open 24 = .ok (.invokespecial 25, 3) := by decide +kernel
theorem d_D_open_27 : decode b_D_open 27 = .ok (.aastore, 1) := by decide +kernel
theorem d_D_open_28 : decode b_D_open 28 = .ok (.aload_n 0, 1) := by decide +kernel
theorem d_D_open_29 : decode b_D_open 29 = .ok (.dup, 1) := by decide +kernel
theorem d_D_open_30 : decode b_D_open 30 = .ok (.getfield 21, 3) := by decide +kernel
theorem d_D_open_33 : decode b_D_open 33 = .ok (.iconst 1, 1) := by decide +kernel
theorem d_D_open_34 : decode b_D_open 34 = .ok (.iadd, 1) := by decide +kernel
theorem d_D_open_35 : decode b_D_open 35 = .ok (.putfield 21, 3) := by decide +kernel
theorem d_D_open_38 : decode b_D_open 38 = .ok (.iconst 1, 1) := by decide +kernel
theorem d_D_open_39 : decode b_D_open 39 = .ok (.ireturn, 1) := by decide +kernel
abbrev b_D_penalty : ByteArray := prog_1_method_7_code
def y_D_penalty : MethodName := ⟨"BoxDesk", "penalty", "(I)Z"⟩
theorem d_D_penalty_0 : decode b_D_penalty 0 = .ok (.aload_n 0, 1) := by decide +kernel
theorem d_D_penalty_1 : decode b_D_penalty 1 = .ok (.invokevirtual 28, 3) := by decide +kernel
theorem d_D_penalty_4 : decode b_D_penalty 4 = .ok (.astore_n 2, 1) := by decide +kernel
theorem d_D_penalty_5 : decode b_D_penalty 5 = .ok (.aload_n 2, 1) := by decide +kernel
theorem d_D_penalty_6 : decode b_D_penalty 6 = .ok (.ifnonnull 5, 3) := by decide +kernel
theorem d_D_penalty_9 : decode b_D_penalty 9 = .ok (.iconst 0, 1) := by decide +kernel
theorem d_D_penalty_10 : decode b_D_penalty 10 = .ok (.ireturn, 1) := by decide +kernel
theorem d_D_penalty_11 : decode b_D_penalty 11 = .ok (.aload_n 0, 1) := by decide +kernel
theorem d_D_penalty_12 : decode b_D_penalty 12 = .ok (.aload_n 2, 1) := by decide +kernel
theorem d_D_penalty_13 : decode b_D_penalty 13 = .ok (.iload_n 1, 1) := by decide +kernel
theorem d_D_penalty_14 : decode b_D_penalty 14 = .ok (.invokestatic 60, 3) := by decide +kernel
theorem d_D_penalty_17 : decode b_D_penalty 17 = .ok (.invokevirtual 45, 3) := by decide +kernel
theorem d_D_penalty_20 : decode b_D_penalty 20 = .ok (.ireturn, 1) := by decide +kernel
abbrev b_D_put : ByteArray := prog_1_method_9_code
def y_D_put : MethodName := ⟨"BoxDesk", "put", "(IIZ)Z"⟩
theorem d_D_put_0 : decode b_D_put 0 = .ok (.aload_n 0, 1) := by decide +kernel
theorem d_D_put_1 : decode b_D_put 1 = .ok (.invokevirtual 28, 3) := by decide +kernel
theorem d_D_put_4 : decode b_D_put 4 = .ok (.astore 4, 2) := by decide +kernel
theorem d_D_put_6 : decode b_D_put 6 = .ok (.aload_n 0, 1) := by decide +kernel
theorem d_D_put_7 : decode b_D_put 7 = .ok (.iload_n 1, 1) := by decide +kernel
theorem d_D_put_8 : decode b_D_put 8 = .ok (.invokevirtual 113, 3) := by decide +kernel
theorem d_D_put_11 : decode b_D_put 11 = .ok (.astore 5, 2) := by decide +kernel
theorem d_D_put_13 : decode b_D_put 13 = .ok (.aload 4, 2) := by decide +kernel
theorem d_D_put_15 : decode b_D_put 15 = .ok (.ifnull 16, 3) := by decide +kernel
theorem d_D_put_18 : decode b_D_put 18 = .ok (.aload 5, 2) := by decide +kernel
theorem d_D_put_20 : decode b_D_put 20 = .ok (.ifnull 11, 3) := by decide +kernel
theorem d_D_put_23 : decode b_D_put 23 = .ok (.iload_n 2, 1) := by decide +kernel
theorem d_D_put_24 : decode b_D_put 24 = .ok (.i2l, 1) := by decide +kernel
theorem d_D_put_25 : decode b_D_put 25 = .ok (.invokestatic 56, 3) := by decide +kernel
theorem d_D_put_28 : decode b_D_put 28 = .ok (.ifCond .ne 5, 3) := by decide +kernel
theorem d_D_put_31 : decode b_D_put 31 = .ok (.iconst 0, 1) := by decide +kernel
theorem d_D_put_32 : decode b_D_put 32 = .ok (.ireturn, 1) := by decide +kernel
theorem d_D_put_33 : decode b_D_put 33 = .ok (.iload_n 3, 1) := by decide +kernel
theorem d_D_put_34 : decode b_D_put 34 = .ok (.ifCond .eq 11, 3) := by decide +kernel
theorem d_D_put_37 : decode b_D_put 37 = .ok (.aload 5, 2) := by decide +kernel
theorem d_D_put_39 : decode b_D_put 39 = .ok (.invokestatic 109, 3) := by decide +kernel
theorem d_D_put_42 : decode b_D_put 42 = .ok (.goto 4, 3) := by decide +kernel
theorem d_D_put_45 : decode b_D_put 45 = .ok (.iconst 0, 1) := by decide +kernel
theorem d_D_put_46 : decode b_D_put 46 = .ok (.istore 6, 2) := by decide +kernel
theorem d_D_put_48 : decode b_D_put 48 = .ok (.aload_n 0, 1) := by decide +kernel
theorem d_D_put_49 : decode b_D_put 49 = .ok (.getfield 94, 3) := by decide +kernel
theorem d_D_put_52 : decode b_D_put 52 = .ok (.iload 6, 2) := by decide +kernel
theorem d_D_put_54 : decode b_D_put 54 = .ok (.iadd, 1) := by decide +kernel
theorem d_D_put_55 : decode b_D_put 55 = .ok (.sipush 4000, 3) := by decide +kernel
theorem d_D_put_58 : decode b_D_put 58 = .ok (.if_icmp .le 5, 3) := by decide +kernel
theorem d_D_put_61 : decode b_D_put 61 = .ok (.iconst 0, 1) := by decide +kernel
theorem d_D_put_62 : decode b_D_put 62 = .ok (.ireturn, 1) := by decide +kernel
theorem d_D_put_63 : decode b_D_put 63 = .ok (.aload 4, 2) := by decide +kernel
theorem d_D_put_65 : decode b_D_put 65 = .ok (.getfield 117, 3) := by decide +kernel
theorem d_D_put_68 : decode b_D_put 68 = .ok (.aload 5, 2) := by decide +kernel
theorem d_D_put_70 : decode b_D_put 70 = .ok (.iload_n 2, 1) := by decide +kernel
theorem d_D_put_71 : decode b_D_put 71 = .ok (.invokestatic 121, 3) := by decide +kernel
theorem d_D_put_74 : decode b_D_put 74 = .ok (.invokevirtual 125, 3) := by decide +kernel
theorem d_D_put_77 : decode b_D_put 77 = .ok (.pop, 1) := by decide +kernel
theorem d_D_put_78 : decode b_D_put 78 = .ok (.aload_n 0, 1) := by decide +kernel
theorem d_D_put_79 : decode b_D_put 79 = .ok (.dup, 1) := by decide +kernel
theorem d_D_put_80 : decode b_D_put 80 = .ok (.getfield 94, 3) := by decide +kernel
theorem d_D_put_83 : decode b_D_put 83 = .ok (.iload 6, 2) := by decide +kernel
theorem d_D_put_85 : decode b_D_put 85 = .ok (.iadd, 1) := by decide +kernel
theorem d_D_put_86 : decode b_D_put 86 = .ok (.putfield 94, 3) := by decide +kernel
theorem d_D_put_89 : decode b_D_put 89 = .ok (.iload_n 3, 1) := by decide +kernel
theorem d_D_put_90 : decode b_D_put 90 = .ok (.ifCond .ne 10, 3) := by decide +kernel
theorem d_D_put_93 : decode b_D_put 93 = .ok (.aload_n 0, 1) := by decide +kernel
theorem d_D_put_94 : decode b_D_put 94 = .ok (.getfield 17, 3) := by decide +kernel
theorem d_D_put_97 : decode b_D_put 97 = .ok (.iload_n 1, 1) := by decide +kernel
theorem d_D_put_98 : decode b_D_put 98 = .ok (.aconst_null, 1) := by decide +kernel
theorem d_D_put_99 : decode b_D_put 99 = .ok (.aastore, 1) := by decide +kernel
theorem d_D_put_100 : decode b_D_put 100 = .ok (.iconst 1, 1) := by decide +kernel
theorem d_D_put_101 : decode b_D_put 101 = .ok (.ireturn, 1) := by decide +kernel
abbrev b_D_rule : ByteArray := prog_1_method_4_code
def y_D_rule : MethodName := ⟨"BoxDesk", "rule", "(IIII)Z"⟩
theorem d_D_rule_0 : decode b_D_rule 0 = .ok (.aload_n 0, 1) := by decide +kernel
theorem d_D_rule_1 : decode b_D_rule 1 = .ok (.invokevirtual 28, 3) := by decide +kernel
theorem d_D_rule_4 : decode b_D_rule 4 = .ok (.astore 5, 2) := by decide +kernel
theorem d_D_rule_6 : decode b_D_rule 6 = .ok (.aload 5, 2) := by decide +kernel
theorem d_D_rule_8 : decode b_D_rule 8 = .ok (.ifnull 12, 3) := by decide +kernel
theorem d_D_rule_11 : decode b_D_rule 11 = .ok (.iload_n 1, 1) := by decide +kernel
theorem d_D_rule_12 : decode b_D_rule 12 = .ok (.iload_n 2, 1) := by decide +kernel
theorem d_D_rule_13 : decode b_D_rule 13 = .ok (.iload_n 3, 1) := by decide +kernel
theorem d_D_rule_14 : decode b_D_rule 14 = .ok (.invokestatic 36, 3) := by decide +kernel
theorem d_D_rule_17 : decode b_D_rule 17 = .ok (.ifCond .ne 5, 3) := by decide +kernel
theorem d_D_rule_20 : decode b_D_rule 20 = .ok (.iconst 0, 1) := by decide +kernel
theorem d_D_rule_21 : decode b_D_rule 21 = .ok (.ireturn, 1) := by decide +kernel
theorem d_D_rule_22 : decode b_D_rule 22 = .ok (.aload 5, 2) := by decide +kernel
theorem d_D_rule_24 : decode b_D_rule 24 = .ok (.getfield 32, 3) := by decide +kernel
theorem d_D_rule_27 : decode b_D_rule 27 = .ok (.ifCond .eq 7, 3) := by decide +kernel
theorem d_D_rule_30 : decode b_D_rule 30 = .ok (.iconst 1, 1) := by decide +kernel
theorem d_D_rule_31 : decode b_D_rule 31 = .ok (.goto 5, 3) := by decide +kernel
theorem d_D_rule_34 : decode b_D_rule 34 = .ok (.bipush 6, 2) := by decide +kernel
theorem d_D_rule_36 : decode b_D_rule 36 = .ok (.istore 6, 2) := by decide +kernel
theorem d_D_rule_38 : decode b_D_rule 38 = .ok (.iload 4, 2) := by decide +kernel
theorem d_D_rule_40 : decode b_D_rule 40 = .ok (.iload 6, 2) := by decide +kernel
theorem d_D_rule_42 : decode b_D_rule 42 = .ok (.iconst (-1), 1) := by decide +kernel
theorem d_D_rule_43 : decode b_D_rule 43 = .ok (.ixor, 1) := by decide +kernel
theorem d_D_rule_44 : decode b_D_rule 44 = .ok (.iand, 1) := by decide +kernel
theorem d_D_rule_45 : decode b_D_rule 45 = .ok (.ifCond .eq 5, 3) := by decide +kernel
theorem d_D_rule_48 : decode b_D_rule 48 = .ok (.iconst 0, 1) := by decide +kernel
theorem d_D_rule_49 : decode b_D_rule 49 = .ok (.ireturn, 1) := by decide +kernel
theorem d_D_rule_50 : decode b_D_rule 50 = .ok (.aload_n 0, 1) := by decide +kernel
theorem d_D_rule_51 : decode b_D_rule 51 = .ok (.aload 5, 2) := by decide +kernel
theorem d_D_rule_53 : decode b_D_rule 53 = .ok (.iload_n 1, 1) := by decide +kernel
theorem d_D_rule_54 : decode b_D_rule 54 = .ok (.iload_n 2, 1) := by decide +kernel
theorem d_D_rule_55 : decode b_D_rule 55 = .ok (.iload_n 3, 1) := by decide +kernel
theorem d_D_rule_56 : decode b_D_rule 56 = .ok (.iload 4, 2) := by decide +kernel
theorem d_D_rule_58 : decode b_D_rule 58 = .ok (.invokestatic 49, 3) := by decide +kernel
theorem d_D_rule_61 : decode b_D_rule 61 = .ok (.invokevirtual 45, 3) := by decide +kernel
theorem d_D_rule_64 : decode b_D_rule 64 = .ok (.ireturn, 1) := by decide +kernel
abbrev b_D_setGlue : ByteArray := prog_1_method_24_code
def y_D_setGlue : MethodName := ⟨"BoxDesk", "setGlue", "(LBoxDesk$ItemList;LBoxDesk$Measure;J)[I"⟩
theorem d_D_setGlue_0 : decode b_D_setGlue 0 = .ok (.aload_n 0, 1) := by decide +kernel
theorem d_D_setGlue_1 : decode b_D_setGlue 1 = .ok (.getfield 117, 3) := by decide +kernel
theorem d_D_setGlue_4 : decode b_D_setGlue 4 = .ok (.invokevirtual 135, 3) := by decide +kernel
theorem d_D_setGlue_7 : decode b_D_setGlue 7 = .ok (.newarray .int, 2) := by decide +kernel
theorem d_D_setGlue_9 : decode b_D_setGlue 9 = .ok (.astore 4, 2) := by decide +kernel
theorem d_D_setGlue_11 : decode b_D_setGlue 11 = .ok (.aload_n 1, 1) := by decide +kernel
theorem d_D_setGlue_12 : decode b_D_setGlue 12 = .ok (.invokevirtual 193, 3) := by decide +kernel
theorem d_D_setGlue_15 : decode b_D_setGlue 15 = .ok (.istore 5, 2) := by decide +kernel
theorem d_D_setGlue_17 : decode b_D_setGlue 17 = .ok (.lload_n 2, 1) := by decide +kernel
theorem d_D_setGlue_18 : decode b_D_setGlue 18 = .ok (.lconst 0, 1) := by decide +kernel
theorem d_D_setGlue_19 : decode b_D_setGlue 19 = .ok (.lcmp, 1) := by decide +kernel
theorem d_D_setGlue_20 : decode b_D_setGlue 20 = .ok (.ifCond .ge 10, 3) := by decide +kernel
theorem d_D_setGlue_23 : decode b_D_setGlue 23 = .ok (.aload_n 1, 1) := by decide +kernel
theorem d_D_setGlue_24 : decode b_D_setGlue 24 = .ok (.getfield 196, 3) := by decide +kernel
theorem d_D_setGlue_27 : decode b_D_setGlue 27 = .ok (.goto 10, 3) := by decide +kernel
theorem d_D_setGlue_30 : decode b_D_setGlue 30 = .ok (.aload_n 1, 1) := by decide +kernel
theorem d_D_setGlue_31 : decode b_D_setGlue 31 = .ok (.getfield 199, 3) := by decide +kernel
theorem d_D_setGlue_34 : decode b_D_setGlue 34 = .ok (.iload 5, 2) := by decide +kernel
theorem d_D_setGlue_36 : decode b_D_setGlue 36 = .ok (.laload, 1) := by decide +kernel
theorem d_D_setGlue_37 : decode b_D_setGlue 37 = .ok (.lstore 6, 2) := by decide +kernel
theorem d_D_setGlue_39 : decode b_D_setGlue 39 = .ok (.lload_n 2, 1) := by decide +kernel
theorem d_D_setGlue_40 : decode b_D_setGlue 40 = .ok (.lload 6, 2) := by decide +kernel
theorem d_D_setGlue_42 : decode b_D_setGlue 42 = .ok (.lneg, 1) := by decide +kernel
theorem d_D_setGlue_43 : decode b_D_setGlue 43 = .ok (.invokestatic 203, 3) := by decide +kernel
theorem d_D_setGlue_46 : decode b_D_setGlue 46 = .ok (.lstore 8, 2) := by decide +kernel
theorem d_D_setGlue_48 : decode b_D_setGlue 48 = .ok (.lconst 0, 1) := by decide +kernel
theorem d_D_setGlue_49 : decode b_D_setGlue 49 = .ok (.lstore 10, 2) := by decide +kernel
theorem d_D_setGlue_51 : decode b_D_setGlue 51 = .ok (.lconst 0, 1) := by decide +kernel
theorem d_D_setGlue_52 : decode b_D_setGlue 52 = .ok (.lstore 12, 2) := by decide +kernel
theorem d_D_setGlue_54 : decode b_D_setGlue 54 = .ok (.iconst 0, 1) := by decide +kernel
theorem d_D_setGlue_55 : decode b_D_setGlue 55 = .ok (.istore 14, 2) := by decide +kernel
theorem d_D_setGlue_57 : decode b_D_setGlue 57 = .ok (.iload 14, 2) := by decide +kernel
theorem d_D_setGlue_59 : decode b_D_setGlue 59 = .ok (.aload 4, 2) := by decide +kernel
theorem d_D_setGlue_61 : decode b_D_setGlue 61 = .ok (.arraylength, 1) := by decide +kernel
theorem d_D_setGlue_62 : decode b_D_setGlue 62 = .ok (.if_icmp .ge 87, 3) := by decide +kernel
theorem d_D_setGlue_65 : decode b_D_setGlue 65 = .ok (.aload_n 0, 1) := by decide +kernel
theorem d_D_setGlue_66 : decode b_D_setGlue 66 = .ok (.getfield 117, 3) := by decide +kernel
theorem d_D_setGlue_69 : decode b_D_setGlue 69 = .ok (.iload 14, 2) := by decide +kernel
theorem d_D_setGlue_71 : decode b_D_setGlue 71 = .ok (.invokevirtual 139, 3) := by decide +kernel
theorem d_D_setGlue_74 : decode b_D_setGlue 74 = .ok (.checkcast 40, 3) := by decide +kernel
theorem d_D_setGlue_77 : decode b_D_setGlue 77 = .ok (.astore 15, 2) := by decide +kernel
theorem d_D_setGlue_79 : decode b_D_setGlue 79 = .ok (.lload 10, 2) := by decide +kernel
theorem d_D_setGlue_81 : decode b_D_setGlue 81 = .ok (.lload_n 2, 1) := by decide +kernel
theorem d_D_setGlue_82 : decode b_D_setGlue 82 = .ok (.lconst 0, 1) := by decide +kernel
theorem d_D_setGlue_83 : decode b_D_setGlue 83 = .ok (.lcmp, 1) := by decide +kernel
theorem d_D_setGlue_84 : decode b_D_setGlue 84 = .ok (.ifCond .ge 12, 3) := by decide +kernel
theorem d_D_setGlue_87 : decode b_D_setGlue 87 = .ok (.aload 15, 2) := by decide +kernel
theorem d_D_setGlue_89 : decode b_D_setGlue 89 = .ok (.getfield 209, 3) := by decide +kernel
theorem d_D_setGlue_92 : decode b_D_setGlue 92 = .ok (.i2l, 1) := by decide +kernel
theorem d_D_setGlue_93 : decode b_D_setGlue 93 = .ok (.goto 11, 3) := by decide +kernel
theorem d_D_setGlue_96 : decode b_D_setGlue 96 = .ok (.aload 15, 2) := by decide +kernel
theorem d_D_setGlue_98 : decode b_D_setGlue 98 = .ok (.iload 5, 2) := by decide +kernel
theorem d_D_setGlue_100 : decode b_D_setGlue 100 = .ok (.invokevirtual 212, 3) := by decide +kernel
theorem d_D_setGlue_103 : decode b_D_setGlue 103 = .ok (.i2l, 1) := by decide +kernel
theorem d_D_setGlue_104 : decode b_D_setGlue 104 = .ok (.ladd, 1) := by decide +kernel
theorem d_D_setGlue_105 : decode b_D_setGlue 105 = .ok (.lstore 10, 2) := by decide +kernel
theorem d_D_setGlue_107 : decode b_D_setGlue 107 = .ok (.lload 8, 2) := by decide +kernel
theorem d_D_setGlue_109 : decode b_D_setGlue 109 = .ok (.lload 10, 2) := by decide +kernel
theorem d_D_setGlue_111 : decode b_D_setGlue 111 = .ok (.lmul, 1) := by decide +kernel
theorem d_D_setGlue_112 : decode b_D_setGlue 112 = .ok (.lload 6, 2) := by decide +kernel
theorem d_D_setGlue_114 : decode b_D_setGlue 114 = .ok (.invokestatic 215, 3) := by decide +kernel
theorem d_D_setGlue_117 : decode b_D_setGlue 117 = .ok (.lstore 16, 2) := by decide +kernel
theorem d_D_setGlue_119 : decode b_D_setGlue 119 = .ok (.aload 4, 2) := by decide +kernel
theorem d_D_setGlue_121 : decode b_D_setGlue 121 = .ok (.iload 14, 2) := by decide +kernel
theorem d_D_setGlue_123 : decode b_D_setGlue 123 = .ok (.aload 15, 2) := by decide +kernel
theorem d_D_setGlue_125 : decode b_D_setGlue 125 = .ok (.getfield 218, 3) := by decide +kernel
theorem d_D_setGlue_128 : decode b_D_setGlue 128 = .ok (.i2l, 1) := by decide +kernel
theorem d_D_setGlue_129 : decode b_D_setGlue 129 = .ok (.lload 16, 2) := by decide +kernel
theorem d_D_setGlue_131 : decode b_D_setGlue 131 = .ok (.ladd, 1) := by decide +kernel
theorem d_D_setGlue_132 : decode b_D_setGlue 132 = .ok (.lload 12, 2) := by decide +kernel
theorem d_D_setGlue_134 : decode b_D_setGlue 134 = .ok (.lsub, 1) := by decide +kernel
theorem d_D_setGlue_135 : decode b_D_setGlue 135 = .ok (.invokestatic 219, 3) := by decide +kernel
theorem d_D_setGlue_138 : decode b_D_setGlue 138 = .ok (.iastore, 1) := by decide +kernel
theorem d_D_setGlue_139 : decode b_D_setGlue 139 = .ok (.lload 16, 2) := by decide +kernel
theorem d_D_setGlue_141 : decode b_D_setGlue 141 = .ok (.lstore 12, 2) := by decide +kernel
theorem d_D_setGlue_143 : decode b_D_setGlue 143 = .ok (.iinc 14 1, 3) := by decide +kernel
theorem d_D_setGlue_146 : decode b_D_setGlue 146 = .ok (.goto (-89), 3) := by decide +kernel
theorem d_D_setGlue_149 : decode b_D_setGlue 149 = .ok (.aload 4, 2) := by decide +kernel
theorem d_D_setGlue_151 : decode b_D_setGlue 151 = .ok (.areturn, 1) := by decide +kernel
abbrev b_D_size : ByteArray := prog_1_method_11_code
def y_D_size : MethodName := ⟨"BoxDesk", "size", "(III)Z"⟩
theorem d_D_size_0 : decode b_D_size 0 = .ok (.aload_n 0, 1) := by decide +kernel
theorem d_D_size_1 : decode b_D_size 1 = .ok (.iload_n 1, 1) := by decide +kernel
theorem d_D_size_2 : decode b_D_size 2 = .ok (.invokevirtual 113, 3) := by decide +kernel
theorem d_D_size_5 : decode b_D_size 5 = .ok (.astore 4, 2) := by decide +kernel
theorem d_D_size_7 : decode b_D_size 7 = .ok (.aload 4, 2) := by decide +kernel
theorem d_D_size_9 : decode b_D_size 9 = .ok (.ifnull 11, 3) := by decide +kernel
theorem d_D_size_12 : decode b_D_size 12 = .ok (.iload_n 3, 1) := by decide +kernel
theorem d_D_size_13 : decode b_D_size 13 = .ok (.i2l, 1) := by decide +kernel
theorem d_D_size_14 : decode b_D_size 14 = .ok (.invokestatic 56, 3) := by decide +kernel
theorem d_D_size_17 : decode b_D_size 17 = .ok (.ifCond .ne 5, 3) := by decide +kernel
theorem d_D_size_20 : decode b_D_size 20 = .ok (.iconst 0, 1) := by decide +kernel
theorem d_D_size_21 : decode b_D_size 21 = .ok (.ireturn, 1) := by decide +kernel
theorem d_D_size_22 : decode b_D_size 22 = .ok (.iload_n 2, 1) := by decide +kernel
theorem d_D_size_23 : decode b_D_size 23 = .ok (.tableswitch 49 0 2 #[25, 33, 41], 25) := by decide +kernel
theorem d_D_size_48 : decode b_D_size 48 = .ok (.aload 4, 2) := by decide +kernel
theorem d_D_size_50 : decode b_D_size 50 = .ok (.iload_n 3, 1) := by decide +kernel
theorem d_D_size_51 : decode b_D_size 51 = .ok (.putfield 143, 3) := by decide +kernel
theorem d_D_size_54 : decode b_D_size 54 = .ok (.iconst 1, 1) := by decide +kernel
theorem d_D_size_55 : decode b_D_size 55 = .ok (.ireturn, 1) := by decide +kernel
theorem d_D_size_56 : decode b_D_size 56 = .ok (.aload 4, 2) := by decide +kernel
theorem d_D_size_58 : decode b_D_size 58 = .ok (.iload_n 3, 1) := by decide +kernel
theorem d_D_size_59 : decode b_D_size 59 = .ok (.putfield 146, 3) := by decide +kernel
theorem d_D_size_62 : decode b_D_size 62 = .ok (.iconst 1, 1) := by decide +kernel
theorem d_D_size_63 : decode b_D_size 63 = .ok (.ireturn, 1) := by decide +kernel
theorem d_D_size_64 : decode b_D_size 64 = .ok (.aload 4, 2) := by decide +kernel
theorem d_D_size_66 : decode b_D_size 66 = .ok (.iload_n 3, 1) := by decide +kernel
theorem d_D_size_67 : decode b_D_size 67 = .ok (.putfield 149, 3) := by decide +kernel
theorem d_D_size_70 : decode b_D_size 70 = .ok (.iconst 1, 1) := by decide +kernel
theorem d_D_size_71 : decode b_D_size 71 = .ok (.ireturn, 1) := by decide +kernel
theorem d_D_size_72 : decode b_D_size 72 = .ok (.iconst 0, 1) := by decide +kernel
theorem d_D_size_73 : decode b_D_size 73 = .ok (.ireturn, 1) := by decide +kernel
abbrev b_D_unbox : ByteArray := prog_1_method_10_code
def y_D_unbox : MethodName := ⟨"BoxDesk", "unbox", "(I)Z"⟩
theorem d_D_unbox_0 : decode b_D_unbox 0 = .ok (.aload_n 0, 1) := by decide +kernel
theorem d_D_unbox_1 : decode b_D_unbox 1 = .ok (.invokevirtual 28, 3) := by decide +kernel
theorem d_D_unbox_4 : decode b_D_unbox 4 = .ok (.astore_n 2, 1) := by decide +kernel
theorem d_D_unbox_5 : decode b_D_unbox 5 = .ok (.aload_n 0, 1) := by decide +kernel
theorem d_D_unbox_6 : decode b_D_unbox 6 = .ok (.iload_n 1, 1) := by decide +kernel
theorem d_D_unbox_7 : decode b_D_unbox 7 = .ok (.invokevirtual 113, 3) := by decide +kernel
theorem d_D_unbox_10 : decode b_D_unbox 10 = .ok (.astore_n 3, 1) := by decide +kernel
theorem d_D_unbox_11 : decode b_D_unbox 11 = .ok (.aload_n 2, 1) := by decide +kernel
theorem d_D_unbox_12 : decode b_D_unbox 12 = .ok (.ifnull 21, 3) := by decide +kernel
theorem d_D_unbox_15 : decode b_D_unbox 15 = .ok (.aload_n 3, 1) := by decide +kernel
theorem d_D_unbox_16 : decode b_D_unbox 16 = .ok (.ifnull 17, 3) := by decide +kernel
theorem d_D_unbox_19 : decode b_D_unbox 19 = .ok (.aload_n 3, 1) := by decide +kernel
theorem d_D_unbox_20 : decode b_D_unbox 20 = .ok (.getfield 131, 3) := by decide +kernel
theorem d_D_unbox_23 : decode b_D_unbox 23 = .ok (.getfield 32, 3) := by decide +kernel
theorem d_D_unbox_26 : decode b_D_unbox 26 = .ok (.aload_n 2, 1) := by decide +kernel
theorem d_D_unbox_27 : decode b_D_unbox 27 = .ok (.getfield 32, 3) := by decide +kernel
theorem d_D_unbox_30 : decode b_D_unbox 30 = .ok (.if_icmp .eq 5, 3) := by decide +kernel
theorem d_D_unbox_33 : decode b_D_unbox 33 = .ok (.iconst 0, 1) := by decide +kernel
theorem d_D_unbox_34 : decode b_D_unbox 34 = .ok (.ireturn, 1) := by decide +kernel
theorem d_D_unbox_35 : decode b_D_unbox 35 = .ok (.aload_n 3, 1) := by decide +kernel
theorem d_D_unbox_36 : decode b_D_unbox 36 = .ok (.getfield 131, 3) := by decide +kernel
theorem d_D_unbox_39 : decode b_D_unbox 39 = .ok (.getfield 117, 3) := by decide +kernel
theorem d_D_unbox_42 : decode b_D_unbox 42 = .ok (.astore 4, 2) := by decide +kernel
theorem d_D_unbox_44 : decode b_D_unbox 44 = .ok (.iconst 0, 1) := by decide +kernel
theorem d_D_unbox_45 : decode b_D_unbox 45 = .ok (.istore 5, 2) := by decide +kernel
theorem d_D_unbox_47 : decode b_D_unbox 47 = .ok (.iload 5, 2) := by decide +kernel
theorem d_D_unbox_49 : decode b_D_unbox 49 = .ok (.aload 4, 2) := by decide +kernel
theorem d_D_unbox_51 : decode b_D_unbox 51 = .ok (.invokevirtual 135, 3) := by decide +kernel
theorem d_D_unbox_54 : decode b_D_unbox 54 = .ok (.if_icmp .ge 27, 3) := by decide +kernel
theorem d_D_unbox_57 : decode b_D_unbox 57 = .ok (.aload_n 2, 1) := by decide +kernel
theorem d_D_unbox_58 : decode b_D_unbox 58 = .ok (.getfield 117, 3) := by decide +kernel
theorem d_D_unbox_61 : decode b_D_unbox 61 = .ok (.aload 4, 2) := by decide +kernel
theorem d_D_unbox_63 : decode b_D_unbox 63 = .ok (.iload 5, 2) := by decide +kernel
theorem d_D_unbox_65 : decode b_D_unbox 65 = .ok (.invokevirtual 139, 3) := by decide +kernel
theorem d_D_unbox_68 : decode b_D_unbox 68 = .ok (.checkcast 40, 3) := by decide +kernel
theorem d_D_unbox_71 : decode b_D_unbox 71 = .ok (.invokevirtual 125, 3) := by decide +kernel
theorem d_D_unbox_74 : decode b_D_unbox 74 = .ok (.pop, 1) := by decide +kernel
theorem d_D_unbox_75 : decode b_D_unbox 75 = .ok (.iinc 5 1, 3) := by decide +kernel
theorem d_D_unbox_78 : decode b_D_unbox 78 = .ok (.goto (-31), 3) := by decide +kernel
theorem d_D_unbox_81 : decode b_D_unbox 81 = .ok (.aload_n 0, 1) := by decide +kernel
theorem d_D_unbox_82 : decode b_D_unbox 82 = .ok (.dup, 1) := by decide +kernel
theorem d_D_unbox_83 : decode b_D_unbox 83 = .ok (.getfield 94, 3) := by decide +kernel
theorem d_D_unbox_86 : decode b_D_unbox 86 = .ok (.iconst 1, 1) := by decide +kernel
theorem d_D_unbox_87 : decode b_D_unbox 87 = .ok (.isub, 1) := by decide +kernel
theorem d_D_unbox_88 : decode b_D_unbox 88 = .ok (.putfield 94, 3) := by decide +kernel
theorem d_D_unbox_91 : decode b_D_unbox 91 = .ok (.aload_n 0, 1) := by decide +kernel
theorem d_D_unbox_92 : decode b_D_unbox 92 = .ok (.getfield 17, 3) := by decide +kernel
theorem d_D_unbox_95 : decode b_D_unbox 95 = .ok (.iload_n 1, 1) := by decide +kernel
theorem d_D_unbox_96 : decode b_D_unbox 96 = .ok (.aconst_null, 1) := by decide +kernel
theorem d_D_unbox_97 : decode b_D_unbox 97 = .ok (.aastore, 1) := by decide +kernel
theorem d_D_unbox_98 : decode b_D_unbox 98 = .ok (.iconst 1, 1) := by decide +kernel
theorem d_D_unbox_99 : decode b_D_unbox 99 = .ok (.ireturn, 1) := by decide +kernel
abbrev b_D_wanted : ByteArray := prog_1_method_22_code
def y_D_wanted : MethodName := ⟨"BoxDesk", "wanted", "(IIJ)J"⟩
theorem d_D_wanted_0 : decode b_D_wanted 0 = .ok (.iload_n 0, 1) := by decide +kernel
theorem d_D_wanted_1 : decode b_D_wanted 1 = .ok (.iconst 2, 1) := by decide +kernel
theorem d_D_wanted_2 : decode b_D_wanted 2 = .ok (.if_icmp .ne 6, 3) := by decide +kernel
theorem d_D_wanted_5 : decode b_D_wanted 5 = .ok (.iload_n 1, 1) := by decide +kernel
theorem d_D_wanted_6 : decode b_D_wanted 6 = .ok (.i2l, 1) := by decide +kernel
theorem d_D_wanted_7 : decode b_D_wanted 7 = .ok (.lreturn, 1) := by decide +kernel
theorem d_D_wanted_8 : decode b_D_wanted 8 = .ok (.iload_n 0, 1) := by decide +kernel
theorem d_D_wanted_9 : decode b_D_wanted 9 = .ok (.iconst 1, 1) := by decide +kernel
theorem d_D_wanted_10 : decode b_D_wanted 10 = .ok (.if_icmp .ne 10, 3) := by decide +kernel
theorem d_D_wanted_13 : decode b_D_wanted 13 = .ok (.lload_n 2, 1) := by decide +kernel
theorem d_D_wanted_14 : decode b_D_wanted 14 = .ok (.iload_n 1, 1) := by decide +kernel
theorem d_D_wanted_15 : decode b_D_wanted 15 = .ok (.i2l, 1) := by decide +kernel
theorem d_D_wanted_16 : decode b_D_wanted 16 = .ok (.ladd, 1) := by decide +kernel
theorem d_D_wanted_17 : decode b_D_wanted 17 = .ok (.goto 4, 3) := by decide +kernel
theorem d_D_wanted_20 : decode b_D_wanted 20 = .ok (.lload_n 2, 1) := by decide +kernel
theorem d_D_wanted_21 : decode b_D_wanted 21 = .ok (.lreturn, 1) := by decide +kernel
abbrev b_I_init : ByteArray := prog_3_method_1_code
def y_I_init : MethodName := ⟨"BoxDesk$Item", "<init>", "(IIII)V"⟩
theorem d_I_init_0 : decode b_I_init 0 = .ok (.aload_n 0, 1) := by decide +kernel
theorem d_I_init_1 : decode b_I_init 1 = .ok (.invokespecial 3, 3) := by decide +kernel
theorem d_I_init_4 : decode b_I_init 4 = .ok (.aload_n 0, 1) := by decide +kernel
theorem d_I_init_5 : decode b_I_init 5 = .ok (.iload_n 1, 1) := by decide +kernel
theorem d_I_init_6 : decode b_I_init 6 = .ok (.putfield 9, 3) := by decide +kernel
theorem d_I_init_9 : decode b_I_init 9 = .ok (.aload_n 0, 1) := by decide +kernel
theorem d_I_init_10 : decode b_I_init 10 = .ok (.iload_n 2, 1) := by decide +kernel
theorem d_I_init_11 : decode b_I_init 11 = .ok (.putfield 15, 3) := by decide +kernel
theorem d_I_init_14 : decode b_I_init 14 = .ok (.aload_n 0, 1) := by decide +kernel
theorem d_I_init_15 : decode b_I_init 15 = .ok (.iload_n 3, 1) := by decide +kernel
theorem d_I_init_16 : decode b_I_init 16 = .ok (.putfield 18, 3) := by decide +kernel
theorem d_I_init_19 : decode b_I_init 19 = .ok (.aload_n 0, 1) := by decide +kernel
theorem d_I_init_20 : decode b_I_init 20 = .ok (.iload 4, 2) := by decide +kernel
theorem d_I_init_22 : decode b_I_init 22 = .ok (.putfield 21, 3) := by decide +kernel
theorem d_I_init_25 : decode b_I_init 25 = .ok (.return_, 1) := by decide +kernel
abbrev b_I_isBoxOrRule : ByteArray := prog_3_method_6_code
def y_I_isBoxOrRule : MethodName := ⟨"BoxDesk$Item", "isBoxOrRule", "()Z"⟩
theorem d_I_isBoxOrRule_0 : decode b_I_isBoxOrRule 0 = .ok (.aload_n 0, 1) := by decide +kernel
theorem d_I_isBoxOrRule_1 : decode b_I_isBoxOrRule 1 = .ok (.getfield 9, 3) := by decide +kernel
theorem d_I_isBoxOrRule_4 : decode b_I_isBoxOrRule 4 = .ok (.iconst 2, 1) := by decide +kernel
theorem d_I_isBoxOrRule_5 : decode b_I_isBoxOrRule 5 = .ok (.if_icmp .eq 19, 3) := by decide +kernel
theorem d_I_isBoxOrRule_8 : decode b_I_isBoxOrRule 8 = .ok (.aload_n 0, 1) := by decide +kernel
theorem d_I_isBoxOrRule_9 : decode b_I_isBoxOrRule 9 = .ok (.getfield 9, 3) := by decide +kernel
theorem d_I_isBoxOrRule_12 : decode b_I_isBoxOrRule 12 = .ok (.iconst 3, 1) := by decide +kernel
theorem d_I_isBoxOrRule_13 : decode b_I_isBoxOrRule 13 = .ok (.if_icmp .eq 11, 3) := by decide +kernel
theorem d_I_isBoxOrRule_16 : decode b_I_isBoxOrRule 16 = .ok (.aload_n 0, 1) := by decide +kernel
theorem d_I_isBoxOrRule_17 : decode b_I_isBoxOrRule 17 = .ok (.getfield 9, 3) := by decide +kernel
theorem d_I_isBoxOrRule_20 : decode b_I_isBoxOrRule 20 = .ok (.iconst 4, 1) := by decide +kernel
theorem d_I_isBoxOrRule_21 : decode b_I_isBoxOrRule 21 = .ok (.if_icmp .ne 7, 3) := by decide +kernel
theorem d_I_isBoxOrRule_24 : decode b_I_isBoxOrRule 24 = .ok (.iconst 1, 1) := by decide +kernel
theorem d_I_isBoxOrRule_25 : decode b_I_isBoxOrRule 25 = .ok (.goto 4, 3) := by decide +kernel
theorem d_I_isBoxOrRule_28 : decode b_I_isBoxOrRule 28 = .ok (.iconst 0, 1) := by decide +kernel
theorem d_I_isBoxOrRule_29 : decode b_I_isBoxOrRule 29 = .ok (.ireturn, 1) := by decide +kernel
abbrev b_I_ofBox : ByteArray := prog_3_method_5_code
def y_I_ofBox : MethodName := ⟨"BoxDesk$Item", "ofBox", "(LBoxDesk$Box;I)LBoxDesk$Item;"⟩
theorem d_I_ofBox_0 : decode b_I_ofBox 0 = .ok (.new 10, 3) := by decide +kernel
theorem d_I_ofBox_3 : decode b_I_ofBox 3 = .ok (.dup, 1) := by decide +kernel
theorem d_I_ofBox_4 : decode b_I_ofBox 4 = .ok (.aload_n 0, 1) := by decide +kernel
theorem d_I_ofBox_5 : decode b_I_ofBox 5 = .ok (.getfield 42, 3) := by decide +kernel
theorem d_I_ofBox_8 : decode b_I_ofBox 8 = .ok (.getfield 48, 3) := by decide +kernel
theorem d_I_ofBox_11 : decode b_I_ofBox 11 = .ok (.ifCond .eq 7, 3) := by decide +kernel
theorem d_I_ofBox_14 : decode b_I_ofBox 14 = .ok (.iconst 3, 1) := by decide +kernel
theorem d_I_ofBox_15 : decode b_I_ofBox 15 = .ok (.goto 4, 3) := by decide +kernel
theorem d_I_ofBox_18 : decode b_I_ofBox 18 = .ok (.iconst 2, 1) := by decide +kernel
theorem d_I_ofBox_19 : decode b_I_ofBox 19 = .ok (.aload_n 0, 1) := by decide +kernel
theorem d_I_ofBox_20 : decode b_I_ofBox 20 = .ok (.getfield 54, 3) := by decide +kernel
theorem d_I_ofBox_23 : decode b_I_ofBox 23 = .ok (.aload_n 0, 1) := by decide +kernel
theorem d_I_ofBox_24 : decode b_I_ofBox 24 = .ok (.getfield 55, 3) := by decide +kernel
theorem d_I_ofBox_27 : decode b_I_ofBox 27 = .ok (.aload_n 0, 1) := by decide +kernel
theorem d_I_ofBox_28 : decode b_I_ofBox 28 = .ok (.getfield 56, 3) := by decide +kernel
theorem d_I_ofBox_31 : decode b_I_ofBox 31 = .ok (.invokespecial 24, 3) := by decide +kernel
theorem d_I_ofBox_34 : decode b_I_ofBox 34 = .ok (.astore_n 2, 1) := by decide +kernel
theorem d_I_ofBox_35 : decode b_I_ofBox 35 = .ok (.aload_n 2, 1) := by decide +kernel
theorem d_I_ofBox_36 : decode b_I_ofBox 36 = .ok (.iload_n 1, 1) := by decide +kernel
theorem d_I_ofBox_37 : decode b_I_ofBox 37 = .ok (.putfield 57, 3) := by decide +kernel
theorem d_I_ofBox_40 : decode b_I_ofBox 40 = .ok (.aload_n 2, 1) := by decide +kernel
theorem d_I_ofBox_41 : decode b_I_ofBox 41 = .ok (.aload_n 0, 1) := by decide +kernel
theorem d_I_ofBox_42 : decode b_I_ofBox 42 = .ok (.getfield 60, 3) := by decide +kernel
theorem d_I_ofBox_45 : decode b_I_ofBox 45 = .ok (.putfield 63, 3) := by decide +kernel
theorem d_I_ofBox_48 : decode b_I_ofBox 48 = .ok (.aload_n 2, 1) := by decide +kernel
theorem d_I_ofBox_49 : decode b_I_ofBox 49 = .ok (.aload_n 0, 1) := by decide +kernel
theorem d_I_ofBox_50 : decode b_I_ofBox 50 = .ok (.getfield 64, 3) := by decide +kernel
theorem d_I_ofBox_53 : decode b_I_ofBox 53 = .ok (.putfield 67, 3) := by decide +kernel
theorem d_I_ofBox_56 : decode b_I_ofBox 56 = .ok (.aload_n 2, 1) := by decide +kernel
theorem d_I_ofBox_57 : decode b_I_ofBox 57 = .ok (.areturn, 1) := by decide +kernel
abbrev b_I_ofGlue : ByteArray := prog_3_method_3_code
def y_I_ofGlue : MethodName := ⟨"BoxDesk$Item", "ofGlue", "(IIII)LBoxDesk$Item;"⟩
theorem d_I_ofGlue_0 : decode b_I_ofGlue 0 = .ok (.new 10, 3) := by decide +kernel
theorem d_I_ofGlue_3 : decode b_I_ofGlue 3 = .ok (.dup, 1) := by decide +kernel
theorem d_I_ofGlue_4 : decode b_I_ofGlue 4 = .ok (.iconst 5, 1) := by decide +kernel
theorem d_I_ofGlue_5 : decode b_I_ofGlue 5 = .ok (.iload_n 0, 1) := by decide +kernel
theorem d_I_ofGlue_6 : decode b_I_ofGlue 6 = .ok (.iconst 0, 1) := by decide +kernel
theorem d_I_ofGlue_7 : decode b_I_ofGlue 7 = .ok (.iconst 0, 1) := by decide +kernel
theorem d_I_ofGlue_8 : decode b_I_ofGlue 8 = .ok (.invokespecial 24, 3) := by decide +kernel
theorem d_I_ofGlue_11 : decode b_I_ofGlue 11 = .ok (.astore 4, 2) := by decide +kernel
theorem d_I_ofGlue_13 : decode b_I_ofGlue 13 = .ok (.aload 4, 2) := by decide +kernel
theorem d_I_ofGlue_15 : decode b_I_ofGlue 15 = .ok (.iload_n 1, 1) := by decide +kernel
theorem d_I_ofGlue_16 : decode b_I_ofGlue 16 = .ok (.putfield 30, 3) := by decide +kernel
theorem d_I_ofGlue_19 : decode b_I_ofGlue 19 = .ok (.aload 4, 2) := by decide +kernel
theorem d_I_ofGlue_21 : decode b_I_ofGlue 21 = .ok (.iload_n 2, 1) := by decide +kernel
theorem d_I_ofGlue_22 : decode b_I_ofGlue 22 = .ok (.putfield 33, 3) := by decide +kernel
theorem d_I_ofGlue_25 : decode b_I_ofGlue 25 = .ok (.aload 4, 2) := by decide +kernel
theorem d_I_ofGlue_27 : decode b_I_ofGlue 27 = .ok (.iload_n 3, 1) := by decide +kernel
theorem d_I_ofGlue_28 : decode b_I_ofGlue 28 = .ok (.putfield 36, 3) := by decide +kernel
theorem d_I_ofGlue_31 : decode b_I_ofGlue 31 = .ok (.aload 4, 2) := by decide +kernel
theorem d_I_ofGlue_33 : decode b_I_ofGlue 33 = .ok (.areturn, 1) := by decide +kernel
abbrev b_I_ofPenalty : ByteArray := prog_3_method_4_code
def y_I_ofPenalty : MethodName := ⟨"BoxDesk$Item", "ofPenalty", "(I)LBoxDesk$Item;"⟩
theorem d_I_ofPenalty_0 : decode b_I_ofPenalty 0 = .ok (.new 10, 3) := by decide +kernel
theorem d_I_ofPenalty_3 : decode b_I_ofPenalty 3 = .ok (.dup, 1) := by decide +kernel
theorem d_I_ofPenalty_4 : decode b_I_ofPenalty 4 = .ok (.bipush 7, 2) := by decide +kernel
theorem d_I_ofPenalty_6 : decode b_I_ofPenalty 6 = .ok (.iconst 0, 1) := by decide +kernel
theorem d_I_ofPenalty_7 : decode b_I_ofPenalty 7 = .ok (.iconst 0, 1) := by decide +kernel
theorem d_I_ofPenalty_8 : decode b_I_ofPenalty 8 = .ok (.iconst 0, 1) := by decide +kernel
theorem d_I_ofPenalty_9 : decode b_I_ofPenalty 9 = .ok (.invokespecial 24, 3) := by decide +kernel
theorem d_I_ofPenalty_12 : decode b_I_ofPenalty 12 = .ok (.astore_n 1, 1) := by decide +kernel
theorem d_I_ofPenalty_13 : decode b_I_ofPenalty 13 = .ok (.aload_n 1, 1) := by decide +kernel
theorem d_I_ofPenalty_14 : decode b_I_ofPenalty 14 = .ok (.iload_n 0, 1) := by decide +kernel
theorem d_I_ofPenalty_15 : decode b_I_ofPenalty 15 = .ok (.putfield 39, 3) := by decide +kernel
theorem d_I_ofPenalty_18 : decode b_I_ofPenalty 18 = .ok (.aload_n 1, 1) := by decide +kernel
theorem d_I_ofPenalty_19 : decode b_I_ofPenalty 19 = .ok (.areturn, 1) := by decide +kernel
abbrev b_I_ofRule : ByteArray := prog_3_method_2_code
def y_I_ofRule : MethodName := ⟨"BoxDesk$Item", "ofRule", "(IIII)LBoxDesk$Item;"⟩
theorem d_I_ofRule_0 : decode b_I_ofRule 0 = .ok (.new 10, 3) := by decide +kernel
theorem d_I_ofRule_3 : decode b_I_ofRule 3 = .ok (.dup, 1) := by decide +kernel
theorem d_I_ofRule_4 : decode b_I_ofRule 4 = .ok (.iconst 4, 1) := by decide +kernel
theorem d_I_ofRule_5 : decode b_I_ofRule 5 = .ok (.iload_n 0, 1) := by decide +kernel
theorem d_I_ofRule_6 : decode b_I_ofRule 6 = .ok (.iload_n 1, 1) := by decide +kernel
theorem d_I_ofRule_7 : decode b_I_ofRule 7 = .ok (.iload_n 2, 1) := by decide +kernel
theorem d_I_ofRule_8 : decode b_I_ofRule 8 = .ok (.invokespecial 24, 3) := by decide +kernel
theorem d_I_ofRule_11 : decode b_I_ofRule 11 = .ok (.astore 4, 2) := by decide +kernel
theorem d_I_ofRule_13 : decode b_I_ofRule 13 = .ok (.aload 4, 2) := by decide +kernel
theorem d_I_ofRule_15 : decode b_I_ofRule 15 = .ok (.iload_n 3, 1) := by decide +kernel
theorem d_I_ofRule_16 : decode b_I_ofRule 16 = .ok (.putfield 27, 3) := by decide +kernel
theorem d_I_ofRule_19 : decode b_I_ofRule 19 = .ok (.aload 4, 2) := by decide +kernel
theorem d_I_ofRule_21 : decode b_I_ofRule 21 = .ok (.areturn, 1) := by decide +kernel
abbrev b_I_runs : ByteArray := prog_3_method_7_code
def y_I_runs : MethodName := ⟨"BoxDesk$Item", "runs", "(I)Z"⟩
theorem d_I_runs_0 : decode b_I_runs 0 = .ok (.aload_n 0, 1) := by decide +kernel
theorem d_I_runs_1 : decode b_I_runs 1 = .ok (.getfield 27, 3) := by decide +kernel
theorem d_I_runs_4 : decode b_I_runs 4 = .ok (.iload_n 1, 1) := by decide +kernel
theorem d_I_runs_5 : decode b_I_runs 5 = .ok (.iand, 1) := by decide +kernel
theorem d_I_runs_6 : decode b_I_runs 6 = .ok (.ifCond .eq 7, 3) := by decide +kernel
theorem d_I_runs_9 : decode b_I_runs 9 = .ok (.iconst 1, 1) := by decide +kernel
theorem d_I_runs_10 : decode b_I_runs 10 = .ok (.goto 4, 3) := by decide +kernel
theorem d_I_runs_13 : decode b_I_runs 13 = .ok (.iconst 0, 1) := by decide +kernel
theorem d_I_runs_14 : decode b_I_runs 14 = .ok (.ireturn, 1) := by decide +kernel
abbrev b_I_stretchOf : ByteArray := prog_3_method_8_code
def y_I_stretchOf : MethodName := ⟨"BoxDesk$Item", "stretchOf", "(I)I"⟩
theorem d_I_stretchOf_0 : decode b_I_stretchOf 0 = .ok (.aload_n 0, 1) := by decide +kernel
theorem d_I_stretchOf_1 : decode b_I_stretchOf 1 = .ok (.getfield 33, 3) := by decide +kernel
theorem d_I_stretchOf_4 : decode b_I_stretchOf 4 = .ok (.iload_n 1, 1) := by decide +kernel
theorem d_I_stretchOf_5 : decode b_I_stretchOf 5 = .ok (.if_icmp .ne 10, 3) := by decide +kernel
theorem d_I_stretchOf_8 : decode b_I_stretchOf 8 = .ok (.aload_n 0, 1) := by decide +kernel
theorem d_I_stretchOf_9 : decode b_I_stretchOf 9 = .ok (.getfield 30, 3) := by decide +kernel
theorem d_I_stretchOf_12 : decode b_I_stretchOf 12 = .ok (.goto 4, 3) := by decide +kernel
theorem d_I_stretchOf_15 : decode b_I_stretchOf 15 = .ok (.iconst 0, 1) := by decide +kernel
theorem d_I_stretchOf_16 : decode b_I_stretchOf 16 = .ok (.ireturn, 1) := by decide +kernel
abbrev b_I_tell : ByteArray := prog_3_method_10_code
def y_I_tell : MethodName := ⟨"BoxDesk$Item", "tell", "(I)I"⟩
theorem d_I_tell_0 : decode b_I_tell 0 = .ok (.iload_n 1, 1) := by decide +kernel
theorem d_I_tell_1 : decode b_I_tell 1 = .ok (.tableswitch 114 0 4 #[35, 40, 58, 76, 94], 35) := by decide +kernel
theorem d_I_tell_36 : decode b_I_tell 36 = .ok (.aload_n 0, 1) := by decide +kernel
theorem d_I_tell_37 : decode b_I_tell 37 = .ok (.getfield 9, 3) := by decide +kernel
theorem d_I_tell_40 : decode b_I_tell 40 = .ok (.ireturn, 1) := by decide +kernel
theorem d_I_tell_41 : decode b_I_tell 41 = .ok (.aload_n 0, 1) := by decide +kernel
theorem d_I_tell_42 : decode b_I_tell 42 = .ok (.iconst 1, 1) := by decide +kernel
theorem d_I_tell_43 : decode b_I_tell 43 = .ok (.invokevirtual 68, 3) := by decide +kernel
theorem d_I_tell_46 : decode b_I_tell 46 = .ok (.ifCond .eq 8, 3) := by decide +kernel
theorem d_I_tell_49 : decode b_I_tell 49 = .ok (.ldc 72, 2) := by decide +kernel
theorem d_I_tell_51 : decode b_I_tell 51 = .ok (.goto 7, 3) := by decide +kernel
theorem d_I_tell_54 : decode b_I_tell 54 = .ok (.aload_n 0, 1) := by decide +kernel
theorem d_I_tell_55 : decode b_I_tell 55 = .ok (.invokevirtual 73, 3) := by decide +kernel
theorem d_I_tell_58 : decode b_I_tell 58 = .ok (.ireturn, 1) := by decide +kernel
theorem d_I_tell_59 : decode b_I_tell 59 = .ok (.aload_n 0, 1) := by decide +kernel
theorem d_I_tell_60 : decode b_I_tell 60 = .ok (.iconst 2, 1) := by decide +kernel
theorem d_I_tell_61 : decode b_I_tell 61 = .ok (.invokevirtual 68, 3) := by decide +kernel
theorem d_I_tell_64 : decode b_I_tell 64 = .ok (.ifCond .eq 8, 3) := by decide +kernel
theorem d_I_tell_67 : decode b_I_tell 67 = .ok (.ldc 72, 2) := by decide +kernel
theorem d_I_tell_69 : decode b_I_tell 69 = .ok (.goto 7, 3) := by decide +kernel
theorem d_I_tell_72 : decode b_I_tell 72 = .ok (.aload_n 0, 1) := by decide +kernel
theorem d_I_tell_73 : decode b_I_tell 73 = .ok (.getfield 18, 3) := by decide +kernel
theorem d_I_tell_76 : decode b_I_tell 76 = .ok (.ireturn, 1) := by decide +kernel
theorem d_I_tell_77 : decode b_I_tell 77 = .ok (.aload_n 0, 1) := by decide +kernel
theorem d_I_tell_78 : decode b_I_tell 78 = .ok (.iconst 4, 1) := by decide +kernel
theorem d_I_tell_79 : decode b_I_tell 79 = .ok (.invokevirtual 68, 3) := by decide +kernel
theorem d_I_tell_82 : decode b_I_tell 82 = .ok (.ifCond .eq 8, 3) := by decide +kernel
theorem d_I_tell_85 : decode b_I_tell 85 = .ok (.ldc 72, 2) := by decide +kernel
theorem d_I_tell_87 : decode b_I_tell 87 = .ok (.goto 7, 3) := by decide +kernel
theorem d_I_tell_90 : decode b_I_tell 90 = .ok (.aload_n 0, 1) := by decide +kernel
theorem d_I_tell_91 : decode b_I_tell 91 = .ok (.getfield 21, 3) := by decide +kernel
theorem d_I_tell_94 : decode b_I_tell 94 = .ok (.ireturn, 1) := by decide +kernel
theorem d_I_tell_95 : decode b_I_tell 95 = .ok (.aload_n 0, 1) := by decide +kernel
theorem d_I_tell_96 : decode b_I_tell 96 = .ok (.getfield 9, 3) := by decide +kernel
theorem d_I_tell_99 : decode b_I_tell 99 = .ok (.iconst 5, 1) := by decide +kernel
theorem d_I_tell_100 : decode b_I_tell 100 = .ok (.if_icmp .ne 10, 3) := by decide +kernel
theorem d_I_tell_103 : decode b_I_tell 103 = .ok (.aload_n 0, 1) := by decide +kernel
theorem d_I_tell_104 : decode b_I_tell 104 = .ok (.getfield 30, 3) := by decide +kernel
theorem d_I_tell_107 : decode b_I_tell 107 = .ok (.goto 7, 3) := by decide +kernel
theorem d_I_tell_110 : decode b_I_tell 110 = .ok (.aload_n 0, 1) := by decide +kernel
theorem d_I_tell_111 : decode b_I_tell 111 = .ok (.getfield 57, 3) := by decide +kernel
theorem d_I_tell_114 : decode b_I_tell 114 = .ok (.ireturn, 1) := by decide +kernel
theorem d_I_tell_115 : decode b_I_tell 115 = .ok (.aload_n 0, 1) := by decide +kernel
theorem d_I_tell_116 : decode b_I_tell 116 = .ok (.getfield 36, 3) := by decide +kernel
theorem d_I_tell_119 : decode b_I_tell 119 = .ok (.ireturn, 1) := by decide +kernel
abbrev b_I_widthOrNumber : ByteArray := prog_3_method_9_code
def y_I_widthOrNumber : MethodName := ⟨"BoxDesk$Item", "widthOrNumber", "()I"⟩
theorem d_I_widthOrNumber_0 : decode b_I_widthOrNumber 0 = .ok (.aload_n 0, 1) := by decide +kernel
theorem d_I_widthOrNumber_1 : decode b_I_widthOrNumber 1 = .ok (.getfield 9, 3) := by decide +kernel
theorem d_I_widthOrNumber_4 : decode b_I_widthOrNumber 4 = .ok (.bipush 7, 2) := by decide +kernel
theorem d_I_widthOrNumber_6 : decode b_I_widthOrNumber 6 = .ok (.if_icmp .ne 10, 3) := by decide +kernel
theorem d_I_widthOrNumber_9 : decode b_I_widthOrNumber 9 = .ok (.aload_n 0, 1) := by decide +kernel
theorem d_I_widthOrNumber_10 : decode b_I_widthOrNumber 10 = .ok (.getfield 39, 3) := by decide +kernel
theorem d_I_widthOrNumber_13 : decode b_I_widthOrNumber 13 = .ok (.goto 7, 3) := by decide +kernel
theorem d_I_widthOrNumber_16 : decode b_I_widthOrNumber 16 = .ok (.aload_n 0, 1) := by decide +kernel
theorem d_I_widthOrNumber_17 : decode b_I_widthOrNumber 17 = .ok (.getfield 15, 3) := by decide +kernel
theorem d_I_widthOrNumber_20 : decode b_I_widthOrNumber 20 = .ok (.ireturn, 1) := by decide +kernel
abbrev b_L_init : ByteArray := prog_4_method_1_code
def y_L_init : MethodName := ⟨"BoxDesk$ItemList", "<init>", "(Z)V"⟩
theorem d_L_init_0 : decode b_L_init 0 = .ok (.aload_n 0, 1) := by decide +kernel
theorem d_L_init_1 : decode b_L_init 1 = .ok (.invokespecial 1, 3) := by decide +kernel
theorem d_L_init_4 : decode b_L_init 4 = .ok (.aload_n 0, 1) := by decide +kernel
theorem d_L_init_5 : decode b_L_init 5 = .ok (.iload_n 1, 1) := by decide +kernel
theorem d_L_init_6 : decode b_L_init 6 = .ok (.putfield 7, 3) := by decide +kernel
theorem d_L_init_9 : decode b_L_init 9 = .ok (.aload_n 0, 1) := by decide +kernel
theorem d_L_init_10 : decode b_L_init 10 = .ok (.new 13, 3) := by decide +kernel
theorem d_L_init_13 : decode b_L_init 13 = .ok (.dup, 1) := by decide +kernel
theorem d_L_init_14 : decode b_L_init 14 = .ok (.invokespecial 15, 3) := by decide +kernel
theorem d_L_init_17 : decode b_L_init 17 = .ok (.putfield 16, 3) := by decide +kernel
theorem d_L_init_20 : decode b_L_init 20 = .ok (.return_, 1) := by decide +kernel
abbrev b_M_canBeBoxed : ByteArray := prog_5_method_7_code
def y_M_canBeBoxed : MethodName := ⟨"BoxDesk$Measure", "canBeBoxed", "()Z"⟩
theorem d_M_canBeBoxed_0 : decode b_M_canBeBoxed 0 = .ok (.iconst 0, 1) := by decide +kernel
theorem d_M_canBeBoxed_1 : decode b_M_canBeBoxed 1 = .ok (.istore_n 1, 1) := by decide +kernel
theorem d_M_canBeBoxed_2 : decode b_M_canBeBoxed 2 = .ok (.iload_n 1, 1) := by decide +kernel
theorem d_M_canBeBoxed_3 : decode b_M_canBeBoxed 3 = .ok (.iconst 4, 1) := by decide +kernel
theorem d_M_canBeBoxed_4 : decode b_M_canBeBoxed 4 = .ok (.if_icmp .ge 23, 3) := by decide +kernel
theorem d_M_canBeBoxed_7 : decode b_M_canBeBoxed 7 = .ok (.aload_n 0, 1) := by decide +kernel
theorem d_M_canBeBoxed_8 : decode b_M_canBeBoxed 8 = .ok (.getfield 9, 3) := by decide +kernel
theorem d_M_canBeBoxed_11 : decode b_M_canBeBoxed 11 = .ok (.iload_n 1, 1) := by decide +kernel
theorem d_M_canBeBoxed_12 : decode b_M_canBeBoxed 12 = .ok (.laload, 1) := by decide +kernel
theorem d_M_canBeBoxed_13 : decode b_M_canBeBoxed 13 = .ok (.invokestatic 80, 3) := by decide +kernel
theorem d_M_canBeBoxed_16 : decode b_M_canBeBoxed 16 = .ok (.ifCond .ne 5, 3) := by decide +kernel
theorem d_M_canBeBoxed_19 : decode b_M_canBeBoxed 19 = .ok (.iconst 0, 1) := by decide +kernel
theorem d_M_canBeBoxed_20 : decode b_M_canBeBoxed 20 = .ok (.ireturn, 1) := by decide +kernel
theorem d_M_canBeBoxed_21 : decode b_M_canBeBoxed 21 = .ok (.iinc 1 1, 3) := by decide +kernel
theorem d_M_canBeBoxed_24 : decode b_M_canBeBoxed 24 = .ok (.goto (-22), 3) := by decide +kernel
theorem d_M_canBeBoxed_27 : decode b_M_canBeBoxed 27 = .ok (.aload_n 0, 1) := by decide +kernel
theorem d_M_canBeBoxed_28 : decode b_M_canBeBoxed 28 = .ok (.getfield 47, 3) := by decide +kernel
theorem d_M_canBeBoxed_31 : decode b_M_canBeBoxed 31 = .ok (.invokestatic 80, 3) := by decide +kernel
theorem d_M_canBeBoxed_34 : decode b_M_canBeBoxed 34 = .ok (.ifCond .eq 56, 3) := by decide +kernel
theorem d_M_canBeBoxed_37 : decode b_M_canBeBoxed 37 = .ok (.aload_n 0, 1) := by decide +kernel
theorem d_M_canBeBoxed_38 : decode b_M_canBeBoxed 38 = .ok (.getfield 24, 3) := by decide +kernel
theorem d_M_canBeBoxed_41 : decode b_M_canBeBoxed 41 = .ok (.invokestatic 80, 3) := by decide +kernel
theorem d_M_canBeBoxed_44 : decode b_M_canBeBoxed 44 = .ok (.ifCond .eq 46, 3) := by decide +kernel
theorem d_M_canBeBoxed_47 : decode b_M_canBeBoxed 47 = .ok (.aload_n 0, 1) := by decide +kernel
theorem d_M_canBeBoxed_48 : decode b_M_canBeBoxed 48 = .ok (.getfield 35, 3) := by decide +kernel
theorem d_M_canBeBoxed_51 : decode b_M_canBeBoxed 51 = .ok (.bipush 100, 2) := by decide +kernel
theorem d_M_canBeBoxed_53 : decode b_M_canBeBoxed 53 = .ok (.if_icmp .ge 37, 3) := by decide +kernel
theorem d_M_canBeBoxed_56 : decode b_M_canBeBoxed 56 = .ok (.aload_n 0, 1) := by decide +kernel
theorem d_M_canBeBoxed_57 : decode b_M_canBeBoxed 57 = .ok (.getfield 77, 3) := by decide +kernel
theorem d_M_canBeBoxed_60 : decode b_M_canBeBoxed 60 = .ok (.invokestatic 80, 3) := by decide +kernel
theorem d_M_canBeBoxed_63 : decode b_M_canBeBoxed 63 = .ok (.ifCond .eq 27, 3) := by decide +kernel
theorem d_M_canBeBoxed_66 : decode b_M_canBeBoxed 66 = .ok (.aload_n 0, 1) := by decide +kernel
theorem d_M_canBeBoxed_67 : decode b_M_canBeBoxed 67 = .ok (.getfield 57, 3) := by decide +kernel
theorem d_M_canBeBoxed_70 : decode b_M_canBeBoxed 70 = .ok (.invokestatic 80, 3) := by decide +kernel
theorem d_M_canBeBoxed_73 : decode b_M_canBeBoxed 73 = .ok (.ifCond .eq 17, 3) := by decide +kernel
theorem d_M_canBeBoxed_76 : decode b_M_canBeBoxed 76 = .ok (.aload_n 0, 1) := by decide +kernel
theorem d_M_canBeBoxed_77 : decode b_M_canBeBoxed 77 = .ok (.getfield 68, 3) := by decide +kernel
theorem d_M_canBeBoxed_80 : decode b_M_canBeBoxed 80 = .ok (.invokestatic 80, 3) := by decide +kernel
theorem d_M_canBeBoxed_83 : decode b_M_canBeBoxed 83 = .ok (.ifCond .eq 7, 3) := by decide +kernel
theorem d_M_canBeBoxed_86 : decode b_M_canBeBoxed 86 = .ok (.iconst 1, 1) := by decide +kernel
theorem d_M_canBeBoxed_87 : decode b_M_canBeBoxed 87 = .ok (.goto 4, 3) := by decide +kernel
theorem d_M_canBeBoxed_90 : decode b_M_canBeBoxed 90 = .ok (.iconst 0, 1) := by decide +kernel
theorem d_M_canBeBoxed_91 : decode b_M_canBeBoxed 91 = .ok (.ireturn, 1) := by decide +kernel
abbrev b_M_highestOrder : ByteArray := prog_5_method_6_code
def y_M_highestOrder : MethodName := ⟨"BoxDesk$Measure", "highestOrder", "()I"⟩
theorem d_M_highestOrder_0 : decode b_M_highestOrder 0 = .ok (.iconst 3, 1) := by decide +kernel
theorem d_M_highestOrder_1 : decode b_M_highestOrder 1 = .ok (.istore_n 1, 1) := by decide +kernel
theorem d_M_highestOrder_2 : decode b_M_highestOrder 2 = .ok (.iload_n 1, 1) := by decide +kernel
theorem d_M_highestOrder_3 : decode b_M_highestOrder 3 = .ok (.ifCond .le 20, 3) := by decide +kernel
theorem d_M_highestOrder_6 : decode b_M_highestOrder 6 = .ok (.aload_n 0, 1) := by decide +kernel
theorem d_M_highestOrder_7 : decode b_M_highestOrder 7 = .ok (.getfield 9, 3) := by decide +kernel
theorem d_M_highestOrder_10 : decode b_M_highestOrder 10 = .ok (.iload_n 1, 1) := by decide +kernel
theorem d_M_highestOrder_11 : decode b_M_highestOrder 11 = .ok (.laload, 1) := by decide +kernel
theorem d_M_highestOrder_12 : decode b_M_highestOrder 12 = .ok (.lconst 0, 1) := by decide +kernel
theorem d_M_highestOrder_13 : decode b_M_highestOrder 13 = .ok (.lcmp, 1) := by decide +kernel
theorem d_M_highestOrder_14 : decode b_M_highestOrder 14 = .ok (.ifCond .ne 9, 3) := by decide +kernel
theorem d_M_highestOrder_17 : decode b_M_highestOrder 17 = .ok (.iinc 1 (-1), 3) := by decide +kernel
theorem d_M_highestOrder_20 : decode b_M_highestOrder 20 = .ok (.goto (-18), 3) := by decide +kernel
theorem d_M_highestOrder_23 : decode b_M_highestOrder 23 = .ok (.iload_n 1, 1) := by decide +kernel
theorem d_M_highestOrder_24 : decode b_M_highestOrder 24 = .ok (.ireturn, 1) := by decide +kernel
abbrev b_M_init : ByteArray := prog_5_method_1_code
def y_M_init : MethodName := ⟨"BoxDesk$Measure", "<init>", "()V"⟩
theorem d_M_init_0 : decode b_M_init 0 = .ok (.aload_n 0, 1) := by decide +kernel
theorem d_M_init_1 : decode b_M_init 1 = .ok (.invokespecial 3, 3) := by decide +kernel
theorem d_M_init_4 : decode b_M_init 4 = .ok (.aload_n 0, 1) := by decide +kernel
theorem d_M_init_5 : decode b_M_init 5 = .ok (.iconst 4, 1) := by decide +kernel
theorem d_M_init_6 : decode b_M_init 6 = .ok (.newarray .long, 2) := by decide +kernel
theorem d_M_init_8 : decode b_M_init 8 = .ok (.putfield 9, 3) := by decide +kernel
theorem d_M_init_11 : decode b_M_init 11 = .ok (.return_, 1) := by decide +kernel
abbrev b_M_limitDepth : ByteArray := prog_5_method_5_code
def y_M_limitDepth : MethodName := ⟨"BoxDesk$Measure", "limitDepth", "(I)V"⟩
theorem d_M_limitDepth_0 : decode b_M_limitDepth 0 = .ok (.aload_n 0, 1) := by decide +kernel
theorem d_M_limitDepth_1 : decode b_M_limitDepth 1 = .ok (.getfield 68, 3) := by decide +kernel
theorem d_M_limitDepth_4 : decode b_M_limitDepth 4 = .ok (.iload_n 1, 1) := by decide +kernel
theorem d_M_limitDepth_5 : decode b_M_limitDepth 5 = .ok (.i2l, 1) := by decide +kernel
theorem d_M_limitDepth_6 : decode b_M_limitDepth 6 = .ok (.lcmp, 1) := by decide +kernel
theorem d_M_limitDepth_7 : decode b_M_limitDepth 7 = .ok (.ifCond .le 25, 3) := by decide +kernel
theorem d_M_limitDepth_10 : decode b_M_limitDepth 10 = .ok (.aload_n 0, 1) := by decide +kernel
theorem d_M_limitDepth_11 : decode b_M_limitDepth 11 = .ok (.dup, 1) := by decide +kernel
theorem d_M_limitDepth_12 : decode b_M_limitDepth 12 = .ok (.getfield 47, 3) := by decide +kernel
theorem d_M_limitDepth_15 : decode b_M_limitDepth 15 = .ok (.aload_n 0, 1) := by decide +kernel
theorem d_M_limitDepth_16 : decode b_M_limitDepth 16 = .ok (.getfield 68, 3) := by decide +kernel
theorem d_M_limitDepth_19 : decode b_M_limitDepth 19 = .ok (.iload_n 1, 1) := by decide +kernel
theorem d_M_limitDepth_20 : decode b_M_limitDepth 20 = .ok (.i2l, 1) := by decide +kernel
theorem d_M_limitDepth_21 : decode b_M_limitDepth 21 = .ok (.lsub, 1) := by decide +kernel
theorem d_M_limitDepth_22 : decode b_M_limitDepth 22 = .ok (.ladd, 1) := by decide +kernel
theorem d_M_limitDepth_23 : decode b_M_limitDepth 23 = .ok (.putfield 47, 3) := by decide +kernel
theorem d_M_limitDepth_26 : decode b_M_limitDepth 26 = .ok (.aload_n 0, 1) := by decide +kernel
theorem d_M_limitDepth_27 : decode b_M_limitDepth 27 = .ok (.iload_n 1, 1) := by decide +kernel
theorem d_M_limitDepth_28 : decode b_M_limitDepth 28 = .ok (.i2l, 1) := by decide +kernel
theorem d_M_limitDepth_29 : decode b_M_limitDepth 29 = .ok (.putfield 68, 3) := by decide +kernel
theorem d_M_limitDepth_32 : decode b_M_limitDepth 32 = .ok (.return_, 1) := by decide +kernel
abbrev b_M_takeAcross : ByteArray := prog_5_method_3_code
def y_M_takeAcross : MethodName := ⟨"BoxDesk$Measure", "takeAcross", "(LBoxDesk$Item;)V"⟩
theorem d_M_takeAcross_0 : decode b_M_takeAcross 0 = .ok (.aload_n 0, 1) := by decide +kernel
theorem d_M_takeAcross_1 : decode b_M_takeAcross 1 = .ok (.dup, 1) := by decide +kernel
theorem d_M_takeAcross_2 : decode b_M_takeAcross 2 = .ok (.getfield 47, 3) := by decide +kernel
theorem d_M_takeAcross_5 : decode b_M_takeAcross 5 = .ok (.aload_n 1, 1) := by decide +kernel
theorem d_M_takeAcross_6 : decode b_M_takeAcross 6 = .ok (.getfield 50, 3) := by decide +kernel
theorem d_M_takeAcross_9 : decode b_M_takeAcross 9 = .ok (.i2l, 1) := by decide +kernel
theorem d_M_takeAcross_10 : decode b_M_takeAcross 10 = .ok (.ladd, 1) := by decide +kernel
theorem d_M_takeAcross_11 : decode b_M_takeAcross 11 = .ok (.putfield 47, 3) := by decide +kernel
theorem d_M_takeAcross_14 : decode b_M_takeAcross 14 = .ok (.aload_n 1, 1) := by decide +kernel
theorem d_M_takeAcross_15 : decode b_M_takeAcross 15 = .ok (.iconst 2, 1) := by decide +kernel
theorem d_M_takeAcross_16 : decode b_M_takeAcross 16 = .ok (.invokevirtual 53, 3) := by decide +kernel
theorem d_M_takeAcross_19 : decode b_M_takeAcross 19 = .ok (.ifCond .ne 25, 3) := by decide +kernel
theorem d_M_takeAcross_22 : decode b_M_takeAcross 22 = .ok (.aload_n 0, 1) := by decide +kernel
theorem d_M_takeAcross_23 : decode b_M_takeAcross 23 = .ok (.aload_n 0, 1) := by decide +kernel
theorem d_M_takeAcross_24 : decode b_M_takeAcross 24 = .ok (.getfield 57, 3) := by decide +kernel
theorem d_M_takeAcross_27 : decode b_M_takeAcross 27 = .ok (.aload_n 1, 1) := by decide +kernel
theorem d_M_takeAcross_28 : decode b_M_takeAcross 28 = .ok (.getfield 60, 3) := by decide +kernel
theorem d_M_takeAcross_31 : decode b_M_takeAcross 31 = .ok (.i2l, 1) := by decide +kernel
theorem d_M_takeAcross_32 : decode b_M_takeAcross 32 = .ok (.aload_n 1, 1) := by decide +kernel
theorem d_M_takeAcross_33 : decode b_M_takeAcross 33 = .ok (.getfield 62, 3) := by decide +kernel
theorem d_M_takeAcross_36 : decode b_M_takeAcross 36 = .ok (.i2l, 1) := by decide +kernel
theorem d_M_takeAcross_37 : decode b_M_takeAcross 37 = .ok (.lsub, 1) := by decide +kernel
theorem d_M_takeAcross_38 : decode b_M_takeAcross 38 = .ok (.invokestatic 65, 3) := by decide +kernel
theorem d_M_takeAcross_41 : decode b_M_takeAcross 41 = .ok (.putfield 57, 3) := by decide +kernel
theorem d_M_takeAcross_44 : decode b_M_takeAcross 44 = .ok (.aload_n 1, 1) := by decide +kernel
theorem d_M_takeAcross_45 : decode b_M_takeAcross 45 = .ok (.iconst 4, 1) := by decide +kernel
theorem d_M_takeAcross_46 : decode b_M_takeAcross 46 = .ok (.invokevirtual 53, 3) := by decide +kernel
theorem d_M_takeAcross_49 : decode b_M_takeAcross 49 = .ok (.ifCond .ne 25, 3) := by decide +kernel
theorem d_M_takeAcross_52 : decode b_M_takeAcross 52 = .ok (.aload_n 0, 1) := by decide +kernel
theorem d_M_takeAcross_53 : decode b_M_takeAcross 53 = .ok (.aload_n 0, 1) := by decide +kernel
theorem d_M_takeAcross_54 : decode b_M_takeAcross 54 = .ok (.getfield 68, 3) := by decide +kernel
theorem d_M_takeAcross_57 : decode b_M_takeAcross 57 = .ok (.aload_n 1, 1) := by decide +kernel
theorem d_M_takeAcross_58 : decode b_M_takeAcross 58 = .ok (.getfield 71, 3) := by decide +kernel
theorem d_M_takeAcross_61 : decode b_M_takeAcross 61 = .ok (.i2l, 1) := by decide +kernel
theorem d_M_takeAcross_62 : decode b_M_takeAcross 62 = .ok (.aload_n 1, 1) := by decide +kernel
theorem d_M_takeAcross_63 : decode b_M_takeAcross 63 = .ok (.getfield 62, 3) := by decide +kernel
theorem d_M_takeAcross_66 : decode b_M_takeAcross 66 = .ok (.i2l, 1) := by decide +kernel
theorem d_M_takeAcross_67 : decode b_M_takeAcross 67 = .ok (.ladd, 1) := by decide +kernel
theorem d_M_takeAcross_68 : decode b_M_takeAcross 68 = .ok (.invokestatic 65, 3) := by decide +kernel
theorem d_M_takeAcross_71 : decode b_M_takeAcross 71 = .ok (.putfield 68, 3) := by decide +kernel
theorem d_M_takeAcross_74 : decode b_M_takeAcross 74 = .ok (.return_, 1) := by decide +kernel
abbrev b_M_takeDownwards : ByteArray := prog_5_method_4_code
def y_M_takeDownwards : MethodName := ⟨"BoxDesk$Measure", "takeDownwards", "(LBoxDesk$Item;)V"⟩
theorem d_M_takeDownwards_0 : decode b_M_takeDownwards 0 = .ok (.aload_n 0, 1) := by decide +kernel
theorem d_M_takeDownwards_1 : decode b_M_takeDownwards 1 = .ok (.dup, 1) := by decide +kernel
theorem d_M_takeDownwards_2 : decode b_M_takeDownwards 2 = .ok (.getfield 47, 3) := by decide +kernel
theorem d_M_takeDownwards_5 : decode b_M_takeDownwards 5 = .ok (.aload_n 0, 1) := by decide +kernel
theorem d_M_takeDownwards_6 : decode b_M_takeDownwards 6 = .ok (.getfield 68, 3) := by decide +kernel
theorem d_M_takeDownwards_9 : decode b_M_takeDownwards 9 = .ok (.ladd, 1) := by decide +kernel
theorem d_M_takeDownwards_10 : decode b_M_takeDownwards 10 = .ok (.putfield 47, 3) := by decide +kernel
theorem d_M_takeDownwards_13 : decode b_M_takeDownwards 13 = .ok (.aload_n 0, 1) := by decide +kernel
theorem d_M_takeDownwards_14 : decode b_M_takeDownwards 14 = .ok (.lconst 0, 1) := by decide +kernel
theorem d_M_takeDownwards_15 : decode b_M_takeDownwards 15 = .ok (.putfield 68, 3) := by decide +kernel
theorem d_M_takeDownwards_18 : decode b_M_takeDownwards 18 = .ok (.aload_n 1, 1) := by decide +kernel
theorem d_M_takeDownwards_19 : decode b_M_takeDownwards 19 = .ok (.invokevirtual 73, 3) := by decide +kernel
theorem d_M_takeDownwards_22 : decode b_M_takeDownwards 22 = .ok (.ifCond .ne 18, 3) := by decide +kernel
theorem d_M_takeDownwards_25 : decode b_M_takeDownwards 25 = .ok (.aload_n 0, 1) := by decide +kernel
theorem d_M_takeDownwards_26 : decode b_M_takeDownwards 26 = .ok (.dup, 1) := by decide +kernel
theorem d_M_takeDownwards_27 : decode b_M_takeDownwards 27 = .ok (.getfield 47, 3) := by decide +kernel
theorem d_M_takeDownwards_30 : decode b_M_takeDownwards 30 = .ok (.aload_n 1, 1) := by decide +kernel
theorem d_M_takeDownwards_31 : decode b_M_takeDownwards 31 = .ok (.getfield 50, 3) := by decide +kernel
theorem d_M_takeDownwards_34 : decode b_M_takeDownwards 34 = .ok (.i2l, 1) := by decide +kernel
theorem d_M_takeDownwards_35 : decode b_M_takeDownwards 35 = .ok (.ladd, 1) := by decide +kernel
theorem d_M_takeDownwards_36 : decode b_M_takeDownwards 36 = .ok (.putfield 47, 3) := by decide +kernel
theorem d_M_takeDownwards_39 : decode b_M_takeDownwards 39 = .ok (.return_, 1) := by decide +kernel
theorem d_M_takeDownwards_40 : decode b_M_takeDownwards 40 = .ok (.aload_n 0, 1) := by decide +kernel
theorem d_M_takeDownwards_41 : decode b_M_takeDownwards 41 = .ok (.dup, 1) := by decide +kernel
theorem d_M_takeDownwards_42 : decode b_M_takeDownwards 42 = .ok (.getfield 47, 3) := by decide +kernel
theorem d_M_takeDownwards_45 : decode b_M_takeDownwards 45 = .ok (.aload_n 1, 1) := by decide +kernel
theorem d_M_takeDownwards_46 : decode b_M_takeDownwards 46 = .ok (.getfield 60, 3) := by decide +kernel
theorem d_M_takeDownwards_49 : decode b_M_takeDownwards 49 = .ok (.i2l, 1) := by decide +kernel
theorem d_M_takeDownwards_50 : decode b_M_takeDownwards 50 = .ok (.ladd, 1) := by decide +kernel
theorem d_M_takeDownwards_51 : decode b_M_takeDownwards 51 = .ok (.putfield 47, 3) := by decide +kernel
theorem d_M_takeDownwards_54 : decode b_M_takeDownwards 54 = .ok (.aload_n 0, 1) := by decide +kernel
theorem d_M_takeDownwards_55 : decode b_M_takeDownwards 55 = .ok (.aload_n 1, 1) := by decide +kernel
theorem d_M_takeDownwards_56 : decode b_M_takeDownwards 56 = .ok (.getfield 71, 3) := by decide +kernel
theorem d_M_takeDownwards_59 : decode b_M_takeDownwards 59 = .ok (.i2l, 1) := by decide +kernel
theorem d_M_takeDownwards_60 : decode b_M_takeDownwards 60 = .ok (.putfield 68, 3) := by decide +kernel
theorem d_M_takeDownwards_63 : decode b_M_takeDownwards 63 = .ok (.aload_n 1, 1) := by decide +kernel
theorem d_M_takeDownwards_64 : decode b_M_takeDownwards 64 = .ok (.iconst 1, 1) := by decide +kernel
theorem d_M_takeDownwards_65 : decode b_M_takeDownwards 65 = .ok (.invokevirtual 53, 3) := by decide +kernel
theorem d_M_takeDownwards_68 : decode b_M_takeDownwards 68 = .ok (.ifCond .ne 25, 3) := by decide +kernel
theorem d_M_takeDownwards_71 : decode b_M_takeDownwards 71 = .ok (.aload_n 0, 1) := by decide +kernel
theorem d_M_takeDownwards_72 : decode b_M_takeDownwards 72 = .ok (.aload_n 0, 1) := by decide +kernel
theorem d_M_takeDownwards_73 : decode b_M_takeDownwards 73 = .ok (.getfield 77, 3) := by decide +kernel
theorem d_M_takeDownwards_76 : decode b_M_takeDownwards 76 = .ok (.aload_n 1, 1) := by decide +kernel
theorem d_M_takeDownwards_77 : decode b_M_takeDownwards 77 = .ok (.getfield 50, 3) := by decide +kernel
theorem d_M_takeDownwards_80 : decode b_M_takeDownwards 80 = .ok (.i2l, 1) := by decide +kernel
theorem d_M_takeDownwards_81 : decode b_M_takeDownwards 81 = .ok (.aload_n 1, 1) := by decide +kernel
theorem d_M_takeDownwards_82 : decode b_M_takeDownwards 82 = .ok (.getfield 62, 3) := by decide +kernel
theorem d_M_takeDownwards_85 : decode b_M_takeDownwards 85 = .ok (.i2l, 1) := by decide +kernel
theorem d_M_takeDownwards_86 : decode b_M_takeDownwards 86 = .ok (.ladd, 1) := by decide +kernel
theorem d_M_takeDownwards_87 : decode b_M_takeDownwards 87 = .ok (.invokestatic 65, 3) := by decide +kernel
theorem d_M_takeDownwards_90 : decode b_M_takeDownwards 90 = .ok (.putfield 77, 3) := by decide +kernel
theorem d_M_takeDownwards_93 : decode b_M_takeDownwards 93 = .ok (.return_, 1) := by decide +kernel
abbrev b_M_takeGlueAndBoxes : ByteArray := prog_5_method_2_code
def y_M_takeGlueAndBoxes : MethodName := ⟨"BoxDesk$Measure", "takeGlueAndBoxes", "(LBoxDesk$Item;)V"⟩
theorem d_M_takeGlueAndBoxes_0 : decode b_M_takeGlueAndBoxes 0 = .ok (.aload_n 1, 1) := by decide +kernel
theorem d_M_takeGlueAndBoxes_1 : decode b_M_takeGlueAndBoxes 1 = .ok (.getfield 15, 3) := by decide +kernel
theorem d_M_takeGlueAndBoxes_4 : decode b_M_takeGlueAndBoxes 4 = .ok (.ifCond .lt 28, 3) := by decide +kernel
theorem d_M_takeGlueAndBoxes_7 : decode b_M_takeGlueAndBoxes 7 = .ok (.aload_n 1, 1) := by decide +kernel
theorem d_M_takeGlueAndBoxes_8 : decode b_M_takeGlueAndBoxes 8 = .ok (.getfield 15, 3) := by decide +kernel
theorem d_M_takeGlueAndBoxes_11 : decode b_M_takeGlueAndBoxes 11 = .ok (.iconst 4, 1) := by decide +kernel
theorem d_M_takeGlueAndBoxes_12 : decode b_M_takeGlueAndBoxes 12 = .ok (.if_icmp .ge 20, 3) := by decide +kernel
theorem d_M_takeGlueAndBoxes_15 : decode b_M_takeGlueAndBoxes 15 = .ok (.aload_n 0, 1) := by decide +kernel
theorem d_M_takeGlueAndBoxes_16 : decode b_M_takeGlueAndBoxes 16 = .ok (.getfield 9, 3) := by decide +kernel
theorem d_M_takeGlueAndBoxes_19 : decode b_M_takeGlueAndBoxes 19 = .ok (.aload_n 1, 1) := by decide +kernel
theorem d_M_takeGlueAndBoxes_20 : decode b_M_takeGlueAndBoxes 20 = .ok (.getfield 15, 3) := by decide +kernel
theorem d_M_takeGlueAndBoxes_23 : decode b_M_takeGlueAndBoxes 23 = .ok (.dup2, 1) := by decide +kernel
theorem d_M_takeGlueAndBoxes_24 : decode b_M_takeGlueAndBoxes 24 = .ok (.laload, 1) := by decide +kernel
theorem d_M_takeGlueAndBoxes_25 : decode b_M_takeGlueAndBoxes 25 = .ok (.aload_n 1, 1) := by decide +kernel
theorem d_M_takeGlueAndBoxes_26 : decode b_M_takeGlueAndBoxes 26 = .ok (.getfield 21, 3) := by decide +kernel
theorem d_M_takeGlueAndBoxes_29 : decode b_M_takeGlueAndBoxes 29 = .ok (.i2l, 1) := by decide +kernel
theorem d_M_takeGlueAndBoxes_30 : decode b_M_takeGlueAndBoxes 30 = .ok (.ladd, 1) := by decide +kernel
theorem d_M_takeGlueAndBoxes_31 : decode b_M_takeGlueAndBoxes 31 = .ok (.lastore, 1) := by decide +kernel
theorem d_M_takeGlueAndBoxes_32 : decode b_M_takeGlueAndBoxes 32 = .ok (.aload_n 0, 1) := by decide +kernel
theorem d_M_takeGlueAndBoxes_33 : decode b_M_takeGlueAndBoxes 33 = .ok (.dup, 1) := by decide +kernel
theorem d_M_takeGlueAndBoxes_34 : decode b_M_takeGlueAndBoxes 34 = .ok (.getfield 24, 3) := by decide +kernel
theorem d_M_takeGlueAndBoxes_37 : decode b_M_takeGlueAndBoxes 37 = .ok (.aload_n 1, 1) := by decide +kernel
theorem d_M_takeGlueAndBoxes_38 : decode b_M_takeGlueAndBoxes 38 = .ok (.getfield 28, 3) := by decide +kernel
theorem d_M_takeGlueAndBoxes_41 : decode b_M_takeGlueAndBoxes 41 = .ok (.i2l, 1) := by decide +kernel
theorem d_M_takeGlueAndBoxes_42 : decode b_M_takeGlueAndBoxes 42 = .ok (.ladd, 1) := by decide +kernel
theorem d_M_takeGlueAndBoxes_43 : decode b_M_takeGlueAndBoxes 43 = .ok (.putfield 24, 3) := by decide +kernel
theorem d_M_takeGlueAndBoxes_46 : decode b_M_takeGlueAndBoxes 46 = .ok (.aload_n 0, 1) := by decide +kernel
theorem d_M_takeGlueAndBoxes_47 : decode b_M_takeGlueAndBoxes 47 = .ok (.dup, 1) := by decide +kernel
theorem d_M_takeGlueAndBoxes_48 : decode b_M_takeGlueAndBoxes 48 = .ok (.getfield 31, 3) := by decide +kernel
theorem d_M_takeGlueAndBoxes_51 : decode b_M_takeGlueAndBoxes 51 = .ok (.iconst 1, 1) := by decide +kernel
theorem d_M_takeGlueAndBoxes_52 : decode b_M_takeGlueAndBoxes 52 = .ok (.aload_n 1, 1) := by decide +kernel
theorem d_M_takeGlueAndBoxes_53 : decode b_M_takeGlueAndBoxes 53 = .ok (.getfield 34, 3) := by decide +kernel
theorem d_M_takeGlueAndBoxes_56 : decode b_M_takeGlueAndBoxes 56 = .ok (.iadd, 1) := by decide +kernel
theorem d_M_takeGlueAndBoxes_57 : decode b_M_takeGlueAndBoxes 57 = .ok (.iadd, 1) := by decide +kernel
theorem d_M_takeGlueAndBoxes_58 : decode b_M_takeGlueAndBoxes 58 = .ok (.putfield 31, 3) := by decide +kernel
theorem d_M_takeGlueAndBoxes_61 : decode b_M_takeGlueAndBoxes 61 = .ok (.aload_n 0, 1) := by decide +kernel
theorem d_M_takeGlueAndBoxes_62 : decode b_M_takeGlueAndBoxes 62 = .ok (.aload_n 0, 1) := by decide +kernel
theorem d_M_takeGlueAndBoxes_63 : decode b_M_takeGlueAndBoxes 63 = .ok (.getfield 35, 3) := by decide +kernel
theorem d_M_takeGlueAndBoxes_66 : decode b_M_takeGlueAndBoxes 66 = .ok (.aload_n 1, 1) := by decide +kernel
theorem d_M_takeGlueAndBoxes_67 : decode b_M_takeGlueAndBoxes 67 = .ok (.getfield 38, 3) := by decide +kernel
theorem d_M_takeGlueAndBoxes_70 : decode b_M_takeGlueAndBoxes 70 = .ok (.invokestatic 41, 3) := by decide +kernel
theorem d_M_takeGlueAndBoxes_73 : decode b_M_takeGlueAndBoxes 73 = .ok (.putfield 35, 3) := by decide +kernel
theorem d_M_takeGlueAndBoxes_76 : decode b_M_takeGlueAndBoxes 76 = .ok (.return_, 1) := by decide +kernel
