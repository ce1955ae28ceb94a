/-! printed: methods and their instructions -/
abbrev b_R_about : ByteArray := prog_7_method_35_code
def y_R_about : MethodName := ⟨"BoxDeskModel", "about", "(II)I"⟩
theorem d_R_about_0 : decode b_R_about 0 = .ok (.iload_n 1, 1) := by decide +kernel
theorem d_R_about_1 : decode b_R_about 1 = .ok (.ifCond .lt 18, 3) := by decide +kernel
theorem d_R_about_4 : decode b_R_about 4 = .ok (.iload_n 1, 1) := by decide +kernel
theorem d_R_about_5 : decode b_R_about 5 = .ok (.bipush 15, 2) := by decide +kernel
theorem d_R_about_7 : decode b_R_about 7 = .ok (.if_icmp .gt 12, 3) := by decide +kernel
theorem d_R_about_10 : decode b_R_about 10 = .ok (.iload_n 2, 1) := by decide +kernel
theorem d_R_about_11 : decode b_R_about 11 = .ok (.ifCond .lt 8, 3) := by decide +kernel
theorem d_R_about_14 : decode b_R_about 14 = .ok (.iload_n 2, 1) := by decide +kernel
theorem d_R_about_15 : decode b_R_about 15 = .ok (.iconst 5, 1) := by decide +kernel
theorem d_R_about_16 : decode b_R_about 16 = .ok (.if_icmp .le 9, 3) := by decide +kernel
theorem d_R_about_19 : decode b_R_about 19 = .ok (.aload_n 0, 1) := by decide +kernel
theorem d_R_about_20 : decode b_R_about 20 = .ok (.iconst 1, 1) := by decide +kernel
theorem d_R_about_21 : decode b_R_about 21 = .ok (.invokevirtual 130, 3) := by decide +kernel
theorem d_R_about_24 : decode b_R_about 24 = .ok (.ireturn, 1) := by decide +kernel
theorem d_R_about_25 : decode b_R_about 25 = .ok (.aload_n 0, 1) := by decide +kernel
theorem d_R_about_26 : decode b_R_about 26 = .ok (.iconst 0, 1) := by decide +kernel
theorem d_R_about_27 : decode b_R_about 27 = .ok (.putfield 51, 3) := by decide +kernel
theorem d_R_about_30 : decode b_R_about 30 = .ok (.aload_n 0, 1) := by decide +kernel
theorem d_R_about_31 : decode b_R_about 31 = .ok (.getfield 45, 3) := by decide +kernel
theorem d_R_about_34 : decode b_R_about 34 = .ok (.iload_n 1, 1) := by decide +kernel
theorem d_R_about_35 : decode b_R_about 35 = .ok (.iaload, 1) := by decide +kernel
theorem d_R_about_36 : decode b_R_about 36 = .ok (.ifCond .ne 5, 3) := by decide +kernel
theorem d_R_about_39 : decode b_R_about 39 = .ok (.iconst 0, 1) := by decide +kernel
theorem d_R_about_40 : decode b_R_about 40 = .ok (.ireturn, 1) := by decide +kernel
theorem d_R_about_41 : decode b_R_about 41 = .ok (.aload_n 0, 1) := by decide +kernel
theorem d_R_about_42 : decode b_R_about 42 = .ok (.iload_n 1, 1) := by decide +kernel
theorem d_R_about_43 : decode b_R_about 43 = .ok (.invokevirtual 122, 3) := by decide +kernel
theorem d_R_about_46 : decode b_R_about 46 = .ok (.istore_n 3, 1) := by decide +kernel
theorem d_R_about_47 : decode b_R_about 47 = .ok (.iload_n 2, 1) := by decide +kernel
theorem d_R_about_48 : decode b_R_about 48 = .ok (.ifCond .ne 14, 3) := by decide +kernel
theorem d_R_about_51 : decode b_R_about 51 = .ok (.aload_n 0, 1) := by decide +kernel
theorem d_R_about_52 : decode b_R_about 52 = .ok (.getfield 7, 3) := by decide +kernel
theorem d_R_about_55 : decode b_R_about 55 = .ok (.iload_n 3, 1) := by decide +kernel
theorem d_R_about_56 : decode b_R_about 56 = .ok (.iaload, 1) := by decide +kernel
theorem d_R_about_57 : decode b_R_about 57 = .ok (.iconst 1, 1) := by decide +kernel
theorem d_R_about_58 : decode b_R_about 58 = .ok (.isub, 1) := by decide +kernel
theorem d_R_about_59 : decode b_R_about 59 = .ok (.goto 66, 3) := by decide +kernel
theorem d_R_about_62 : decode b_R_about 62 = .ok (.iload_n 2, 1) := by decide +kernel
theorem d_R_about_63 : decode b_R_about 63 = .ok (.iconst 1, 1) := by decide +kernel
theorem d_R_about_64 : decode b_R_about 64 = .ok (.if_icmp .ne 12, 3) := by decide +kernel
theorem d_R_about_67 : decode b_R_about 67 = .ok (.aload_n 0, 1) := by decide +kernel
theorem d_R_about_68 : decode b_R_about 68 = .ok (.getfield 13, 3) := by decide +kernel
theorem d_R_about_71 : decode b_R_about 71 = .ok (.iload_n 3, 1) := by decide +kernel
theorem d_R_about_72 : decode b_R_about 72 = .ok (.iaload, 1) := by decide +kernel
theorem d_R_about_73 : decode b_R_about 73 = .ok (.goto 52, 3) := by decide +kernel
theorem d_R_about_76 : decode b_R_about 76 = .ok (.iload_n 2, 1) := by decide +kernel
theorem d_R_about_77 : decode b_R_about 77 = .ok (.iconst 2, 1) := by decide +kernel
theorem d_R_about_78 : decode b_R_about 78 = .ok (.if_icmp .ne 12, 3) := by decide +kernel
theorem d_R_about_81 : decode b_R_about 81 = .ok (.aload_n 0, 1) := by decide +kernel
theorem d_R_about_82 : decode b_R_about 82 = .ok (.getfield 16, 3) := by decide +kernel
theorem d_R_about_85 : decode b_R_about 85 = .ok (.iload_n 3, 1) := by decide +kernel
theorem d_R_about_86 : decode b_R_about 86 = .ok (.iaload, 1) := by decide +kernel
theorem d_R_about_87 : decode b_R_about 87 = .ok (.goto 38, 3) := by decide +kernel
theorem d_R_about_90 : decode b_R_about 90 = .ok (.iload_n 2, 1) := by decide +kernel
theorem d_R_about_91 : decode b_R_about 91 = .ok (.iconst 3, 1) := by decide +kernel
theorem d_R_about_92 : decode b_R_about 92 = .ok (.if_icmp .ne 12, 3) := by decide +kernel
theorem d_R_about_95 : decode b_R_about 95 = .ok (.aload_n 0, 1) := by decide +kernel
theorem d_R_about_96 : decode b_R_about 96 = .ok (.getfield 19, 3) := by decide +kernel
theorem d_R_about_99 : decode b_R_about 99 = .ok (.iload_n 3, 1) := by decide +kernel
theorem d_R_about_100 : decode b_R_about 100 = .ok (.iaload, 1) := by decide +kernel
theorem d_R_about_101 : decode b_R_about 101 = .ok (.goto 24, 3) := by decide +kernel
theorem d_R_about_104 : decode b_R_about 104 = .ok (.iload_n 2, 1) := by decide +kernel
theorem d_R_about_105 : decode b_R_about 105 = .ok (.iconst 4, 1) := by decide +kernel
theorem d_R_about_106 : decode b_R_about 106 = .ok (.if_icmp .ne 11, 3) := by decide +kernel
theorem d_R_about_109 : decode b_R_about 109 = .ok (.aload_n 0, 1) := by decide +kernel
theorem d_R_about_110 : decode b_R_about 110 = .ok (.iload_n 3, 1) := by decide +kernel
theorem d_R_about_111 : decode b_R_about 111 = .ok (.invokevirtual 160, 3) := by decide +kernel
theorem d_R_about_114 : decode b_R_about 114 = .ok (.goto 11, 3) := by decide +kernel
theorem d_R_about_117 : decode b_R_about 117 = .ok (.aload_n 0, 1) := by decide +kernel
theorem d_R_about_118 : decode b_R_about 118 = .ok (.getfield 45, 3) := by decide +kernel
theorem d_R_about_121 : decode b_R_about 121 = .ok (.iload_n 1, 1) := by decide +kernel
theorem d_R_about_122 : decode b_R_about 122 = .ok (.iaload, 1) := by decide +kernel
theorem d_R_about_123 : decode b_R_about 123 = .ok (.iconst 1, 1) := by decide +kernel
theorem d_R_about_124 : decode b_R_about 124 = .ok (.isub, 1) := by decide +kernel
theorem d_R_about_125 : decode b_R_about 125 = .ok (.ireturn, 1) := by decide +kernel
abbrev b_R_add : ByteArray := prog_7_method_11_code
def y_R_add : MethodName := ⟨"BoxDeskModel", "add", "(ZIIIIIII)Z"⟩
theorem d_R_add_0 : decode b_R_add 0 = .ok (.aload_n 0, 1) := by decide +kernel
theorem d_R_add_1 : decode b_R_add 1 = .ok (.iconst 0, 1) := by decide +kernel
theorem d_R_add_2 : decode b_R_add 2 = .ok (.putfield 51, 3) := by decide +kernel
theorem d_R_add_5 : decode b_R_add 5 = .ok (.iload_n 1, 1) := by decide +kernel
theorem d_R_add_6 : decode b_R_add 6 = .ok (.ifCond .eq 18, 3) := by decide +kernel
theorem d_R_add_9 : decode b_R_add 9 = .ok (.aload_n 0, 1) := by decide +kernel
theorem d_R_add_10 : decode b_R_add 10 = .ok (.getfield 68, 3) := by decide +kernel
theorem d_R_add_13 : decode b_R_add 13 = .ok (.ifCond .eq 11, 3) := by decide +kernel
theorem d_R_add_16 : decode b_R_add 16 = .ok (.aload_n 0, 1) := by decide +kernel
theorem d_R_add_17 : decode b_R_add 17 = .ok (.iconst 1, 1) := by decide +kernel
theorem d_R_add_18 : decode b_R_add 18 = .ok (.invokevirtual 71, 3) := by decide +kernel
theorem d_R_add_21 : decode b_R_add 21 = .ok (.ifCond .ne 5, 3) := by decide +kernel
theorem d_R_add_24 : decode b_R_add 24 = .ok (.iconst 0, 1) := by decide +kernel
theorem d_R_add_25 : decode b_R_add 25 = .ok (.ireturn, 1) := by decide +kernel
theorem d_R_add_26 : decode b_R_add 26 = .ok (.aload_n 0, 1) := by decide +kernel
theorem d_R_add_27 : decode b_R_add 27 = .ok (.getfield 7, 3) := by decide +kernel
theorem d_R_add_30 : decode b_R_add 30 = .ok (.aload_n 0, 1) := by decide +kernel
theorem d_R_add_31 : decode b_R_add 31 = .ok (.getfield 61, 3) := by decide +kernel
theorem d_R_add_34 : decode b_R_add 34 = .ok (.iload_n 2, 1) := by decide +kernel
theorem d_R_add_35 : decode b_R_add 35 = .ok (.iastore, 1) := by decide +kernel
theorem d_R_add_36 : decode b_R_add 36 = .ok (.aload_n 0, 1) := by decide +kernel
theorem d_R_add_37 : decode b_R_add 37 = .ok (.getfield 13, 3) := by decide +kernel
theorem d_R_add_40 : decode b_R_add 40 = .ok (.aload_n 0, 1) := by decide +kernel
theorem d_R_add_41 : decode b_R_add 41 = .ok (.getfield 61, 3) := by decide +kernel
theorem d_R_add_44 : decode b_R_add 44 = .ok (.iload_n 3, 1) := by decide +kernel
theorem d_R_add_45 : decode b_R_add 45 = .ok (.iastore, 1) := by decide +kernel
theorem d_R_add_46 : decode b_R_add 46 = .ok (.aload_n 0, 1) := by decide +kernel
theorem d_R_add_47 : decode b_R_add 47 = .ok (.getfield 16, 3) := by decide +kernel
theorem d_R_add_50 : decode b_R_add 50 = .ok (.aload_n 0, 1) := by decide +kernel
theorem d_R_add_51 : decode b_R_add 51 = .ok (.getfield 61, 3) := by decide +kernel
theorem d_R_add_54 : decode b_R_add 54 = .ok (.iload 4, 2) := by decide +kernel
theorem d_R_add_56 : decode b_R_add 56 = .ok (.iastore, 1) := by decide +kernel
theorem d_R_add_57 : decode b_R_add 57 = .ok (.aload_n 0, 1) := by decide +kernel
theorem d_R_add_58 : decode b_R_add 58 = .ok (.getfield 19, 3) := by decide +kernel
theorem d_R_add_61 : decode b_R_add 61 = .ok (.aload_n 0, 1) := by decide +kernel
theorem d_R_add_62 : decode b_R_add 62 = .ok (.getfield 61, 3) := by decide +kernel
theorem d_R_add_65 : decode b_R_add 65 = .ok (.iload 5, 2) := by decide +kernel
theorem d_R_add_67 : decode b_R_add 67 = .ok (.iastore, 1) := by decide +kernel
theorem d_R_add_68 : decode b_R_add 68 = .ok (.aload_n 0, 1) := by decide +kernel
theorem d_R_add_69 : decode b_R_add 69 = .ok (.getfield 22, 3) := by decide +kernel
theorem d_R_add_72 : decode b_R_add 72 = .ok (.aload_n 0, 1) := by decide +kernel
theorem d_R_add_73 : decode b_R_add 73 = .ok (.getfield 61, 3) := by decide +kernel
theorem d_R_add_76 : decode b_R_add 76 = .ok (.iload 6, 2) := by decide +kernel
theorem d_R_add_78 : decode b_R_add 78 = .ok (.iastore, 1) := by decide +kernel
theorem d_R_add_79 : decode b_R_add 79 = .ok (.aload_n 0, 1) := by decide +kernel
theorem d_R_add_80 : decode b_R_add 80 = .ok (.getfield 25, 3) := by decide +kernel
theorem d_R_add_83 : decode b_R_add 83 = .ok (.aload_n 0, 1) := by decide +kernel
theorem d_R_add_84 : decode b_R_add 84 = .ok (.getfield 61, 3) := by decide +kernel
theorem d_R_add_87 : decode b_R_add 87 = .ok (.iload 7, 2) := by decide +kernel
theorem d_R_add_89 : decode b_R_add 89 = .ok (.iastore, 1) := by decide +kernel
theorem d_R_add_90 : decode b_R_add 90 = .ok (.aload_n 0, 1) := by decide +kernel
theorem d_R_add_91 : decode b_R_add 91 = .ok (.getfield 28, 3) := by decide +kernel
theorem d_R_add_94 : decode b_R_add 94 = .ok (.aload_n 0, 1) := by decide +kernel
theorem d_R_add_95 : decode b_R_add 95 = .ok (.getfield 61, 3) := by decide +kernel
theorem d_R_add_98 : decode b_R_add 98 = .ok (.iload 8, 2) := by decide +kernel
theorem d_R_add_100 : decode b_R_add 100 = .ok (.iastore, 1) := by decide +kernel
theorem d_R_add_101 : decode b_R_add 101 = .ok (.aload_n 0, 1) := by decide +kernel
theorem d_R_add_102 : decode b_R_add 102 = .ok (.getfield 31, 3) := by decide +kernel
theorem d_R_add_105 : decode b_R_add 105 = .ok (.aload_n 0, 1) := by decide +kernel
theorem d_R_add_106 : decode b_R_add 106 = .ok (.getfield 61, 3) := by decide +kernel
theorem d_R_add_109 : decode b_R_add 109 = .ok (.lconst 0, 1) := by decide +kernel
theorem d_R_add_110 : decode b_R_add 110 = .ok (.lastore, 1) := by decide +kernel
theorem d_R_add_111 : decode b_R_add 111 = .ok (.aload_n 0, 1) := by decide +kernel
theorem d_R_add_112 : decode b_R_add 112 = .ok (.getfield 35, 3) := by decide +kernel
theorem d_R_add_115 : decode b_R_add 115 = .ok (.aload_n 0, 1) := by decide +kernel
theorem d_R_add_116 : decode b_R_add 116 = .ok (.getfield 61, 3) := by decide +kernel
theorem d_R_add_119 : decode b_R_add 119 = .ok (.iconst 1, 1) := by decide +kernel
theorem d_R_add_120 : decode b_R_add 120 = .ok (.iastore, 1) := by decide +kernel
theorem d_R_add_121 : decode b_R_add 121 = .ok (.aload_n 0, 1) := by decide +kernel
theorem d_R_add_122 : decode b_R_add 122 = .ok (.dup, 1) := by decide +kernel
theorem d_R_add_123 : decode b_R_add 123 = .ok (.getfield 61, 3) := by decide +kernel
theorem d_R_add_126 : decode b_R_add 126 = .ok (.iconst 1, 1) := by decide +kernel
theorem d_R_add_127 : decode b_R_add 127 = .ok (.iadd, 1) := by decide +kernel
theorem d_R_add_128 : decode b_R_add 128 = .ok (.putfield 61, 3) := by decide +kernel
theorem d_R_add_131 : decode b_R_add 131 = .ok (.iconst 1, 1) := by decide +kernel
theorem d_R_add_132 : decode b_R_add 132 = .ok (.ireturn, 1) := by decide +kernel
abbrev b_R_character : ByteArray := prog_7_method_13_code
def y_R_character : MethodName := ⟨"BoxDeskModel", "character", "(III)Z"⟩
theorem d_R_character_0 : decode b_R_character 0 = .ok (.aload_n 0, 1) := by decide +kernel
theorem d_R_character_1 : decode b_R_character 1 = .ok (.aload_n 0, 1) := by decide +kernel
theorem d_R_character_2 : decode b_R_character 2 = .ok (.invokevirtual 75, 3) := by decide +kernel
theorem d_R_character_5 : decode b_R_character 5 = .ok (.ifCond .ne 28, 3) := by decide +kernel
theorem d_R_character_8 : decode b_R_character 8 = .ok (.iload_n 1, 1) := by decide +kernel
theorem d_R_character_9 : decode b_R_character 9 = .ok (.invokestatic 79, 3) := by decide +kernel
theorem d_R_character_12 : decode b_R_character 12 = .ok (.ifCond .eq 21, 3) := by decide +kernel
theorem d_R_character_15 : decode b_R_character 15 = .ok (.iload_n 2, 1) := by decide +kernel
theorem d_R_character_16 : decode b_R_character 16 = .ok (.invokestatic 79, 3) := by decide +kernel
theorem d_R_character_19 : decode b_R_character 19 = .ok (.ifCond .eq 14, 3) := by decide +kernel
theorem d_R_character_22 : decode b_R_character 22 = .ok (.iload_n 3, 1) := by decide +kernel
theorem d_R_character_23 : decode b_R_character 23 = .ok (.invokestatic 79, 3) := by decide +kernel
theorem d_R_character_26 : decode b_R_character 26 = .ok (.ifCond .eq 7, 3) := by decide +kernel
theorem d_R_character_29 : decode b_R_character 29 = .ok (.iconst 1, 1) := by decide +kernel
theorem d_R_character_30 : decode b_R_character 30 = .ok (.goto 4, 3) := by decide +kernel
theorem d_R_character_33 : decode b_R_character 33 = .ok (.iconst 0, 1) := by decide +kernel
theorem d_R_character_34 : decode b_R_character 34 = .ok (.iconst 1, 1) := by decide +kernel
theorem d_R_character_35 : decode b_R_character 35 = .ok (.iload_n 1, 1) := by decide +kernel
theorem d_R_character_36 : decode b_R_character 36 = .ok (.iload_n 2, 1) := by decide +kernel
theorem d_R_character_37 : decode b_R_character 37 = .ok (.iload_n 3, 1) := by decide +kernel
theorem d_R_character_38 : decode b_R_character 38 = .ok (.iconst 0, 1) := by decide +kernel
theorem d_R_character_39 : decode b_R_character 39 = .ok (.iconst 0, 1) := by decide +kernel
theorem d_R_character_40 : decode b_R_character 40 = .ok (.iconst 0, 1) := by decide +kernel
theorem d_R_character_41 : decode b_R_character 41 = .ok (.invokevirtual 82, 3) := by decide +kernel
theorem d_R_character_44 : decode b_R_character 44 = .ok (.ireturn, 1) := by decide +kernel
abbrev b_R_close : ByteArray := prog_7_method_29_code
def y_R_close : MethodName := ⟨"BoxDeskModel", "close", "(IIII)I"⟩
theorem d_R_close_0 : decode b_R_close 0 = .ok (.aload_n 0, 1) := by decide +kernel
theorem d_R_close_1 : decode b_R_close 1 = .ok (.getfield 68, 3) := by decide +kernel
theorem d_R_close_4 : decode b_R_close 4 = .ok (.ifCond .ne 9, 3) := by decide +kernel
theorem d_R_close_7 : decode b_R_close 7 = .ok (.aload_n 0, 1) := by decide +kernel
theorem d_R_close_8 : decode b_R_close 8 = .ok (.iconst 1, 1) := by decide +kernel
theorem d_R_close_9 : decode b_R_close 9 = .ok (.invokevirtual 130, 3) := by decide +kernel
theorem d_R_close_12 : decode b_R_close 12 = .ok (.ireturn, 1) := by decide +kernel
theorem d_R_close_13 : decode b_R_close 13 = .ok (.iload_n 1, 1) := by decide +kernel
theorem d_R_close_14 : decode b_R_close 14 = .ok (.ifCond .lt 34, 3) := by decide +kernel
theorem d_R_close_17 : decode b_R_close 17 = .ok (.iload_n 1, 1) := by decide +kernel
theorem d_R_close_18 : decode b_R_close 18 = .ok (.iconst 2, 1) := by decide +kernel
theorem d_R_close_19 : decode b_R_close 19 = .ok (.if_icmp .gt 29, 3) := by decide +kernel
theorem d_R_close_22 : decode b_R_close 22 = .ok (.iload_n 2, 1) := by decide +kernel
theorem d_R_close_23 : decode b_R_close 23 = .ok (.invokestatic 79, 3) := by decide +kernel
theorem d_R_close_26 : decode b_R_close 26 = .ok (.ifCond .eq 22, 3) := by decide +kernel
theorem d_R_close_29 : decode b_R_close 29 = .ok (.iload_n 3, 1) := by decide +kernel
theorem d_R_close_30 : decode b_R_close 30 = .ok (.invokestatic 79, 3) := by decide +kernel
theorem d_R_close_33 : decode b_R_close 33 = .ok (.ifCond .eq 15, 3) := by decide +kernel
theorem d_R_close_36 : decode b_R_close 36 = .ok (.iload 4, 2) := by decide +kernel
theorem d_R_close_38 : decode b_R_close 38 = .ok (.ifCond .lt 10, 3) := by decide +kernel
theorem d_R_close_41 : decode b_R_close 41 = .ok (.iload 4, 2) := by decide +kernel
theorem d_R_close_43 : decode b_R_close 43 = .ok (.bipush 15, 2) := by decide +kernel
theorem d_R_close_45 : decode b_R_close 45 = .ok (.if_icmp .le 9, 3) := by decide +kernel
theorem d_R_close_48 : decode b_R_close 48 = .ok (.aload_n 0, 1) := by decide +kernel
theorem d_R_close_49 : decode b_R_close 49 = .ok (.iconst 2, 1) := by decide +kernel
theorem d_R_close_50 : decode b_R_close 50 = .ok (.invokevirtual 130, 3) := by decide +kernel
theorem d_R_close_53 : decode b_R_close 53 = .ok (.ireturn, 1) := by decide +kernel
theorem d_R_close_54 : decode b_R_close 54 = .ok (.aload_n 0, 1) := by decide +kernel
theorem d_R_close_55 : decode b_R_close 55 = .ok (.getfield 38, 3) := by decide +kernel
theorem d_R_close_58 : decode b_R_close 58 = .ok (.aload_n 0, 1) := by decide +kernel
theorem d_R_close_59 : decode b_R_close 59 = .ok (.getfield 68, 3) := by decide +kernel
theorem d_R_close_62 : decode b_R_close 62 = .ok (.iconst 1, 1) := by decide +kernel
theorem d_R_close_63 : decode b_R_close 63 = .ok (.isub, 1) := by decide +kernel
theorem d_R_close_64 : decode b_R_close 64 = .ok (.iaload, 1) := by decide +kernel
theorem d_R_close_65 : decode b_R_close 65 = .ok (.istore 5, 2) := by decide +kernel
theorem d_R_close_67 : decode b_R_close 67 = .ok (.aload_n 0, 1) := by decide +kernel
theorem d_R_close_68 : decode b_R_close 68 = .ok (.invokevirtual 75, 3) := by decide +kernel
theorem d_R_close_71 : decode b_R_close 71 = .ok (.istore 6, 2) := by decide +kernel
theorem d_R_close_73 : decode b_R_close 73 = .ok (.iload 6, 2) := by decide +kernel
theorem d_R_close_75 : decode b_R_close 75 = .ok (.ifCond .eq 13, 3) := by decide +kernel
theorem d_R_close_78 : decode b_R_close 78 = .ok (.aload_n 0, 1) := by decide +kernel
theorem d_R_close_79 : decode b_R_close 79 = .ok (.iload 5, 2) := by decide +kernel
theorem d_R_close_81 : decode b_R_close 81 = .ok (.iload_n 3, 1) := by decide +kernel
theorem d_R_close_82 : decode b_R_close 82 = .ok (.invokevirtual 133, 3) := by decide +kernel
theorem d_R_close_85 : decode b_R_close 85 = .ok (.goto 9, 3) := by decide +kernel
theorem d_R_close_88 : decode b_R_close 88 = .ok (.aload_n 0, 1) := by decide +kernel
theorem d_R_close_89 : decode b_R_close 89 = .ok (.iload 5, 2) := by decide +kernel
theorem d_R_close_91 : decode b_R_close 91 = .ok (.invokevirtual 136, 3) := by decide +kernel
theorem d_R_close_94 : decode b_R_close 94 = .ok (.iload_n 1, 1) := by decide +kernel
theorem d_R_close_95 : decode b_R_close 95 = .ok (.ifCond .ne 10, 3) := by decide +kernel
theorem d_R_close_98 : decode b_R_close 98 = .ok (.aload_n 0, 1) := by decide +kernel
theorem d_R_close_99 : decode b_R_close 99 = .ok (.getfield 90, 3) := by decide +kernel
theorem d_R_close_102 : decode b_R_close 102 = .ok (.goto 20, 3) := by decide +kernel
theorem d_R_close_105 : decode b_R_close 105 = .ok (.iload_n 1, 1) := by decide +kernel
theorem d_R_close_106 : decode b_R_close 106 = .ok (.iconst 1, 1) := by decide +kernel
theorem d_R_close_107 : decode b_R_close 107 = .ok (.if_icmp .ne 13, 3) := by decide +kernel
theorem d_R_close_110 : decode b_R_close 110 = .ok (.aload_n 0, 1) := by decide +kernel
theorem d_R_close_111 : decode b_R_close 111 = .ok (.getfield 90, 3) := by decide +kernel
theorem d_R_close_114 : decode b_R_close 114 = .ok (.iload_n 2, 1) := by decide +kernel
theorem d_R_close_115 : decode b_R_close 115 = .ok (.i2l, 1) := by decide +kernel
theorem d_R_close_116 : decode b_R_close 116 = .ok (.ladd, 1) := by decide +kernel
theorem d_R_close_117 : decode b_R_close 117 = .ok (.goto 5, 3) := by decide +kernel
theorem d_R_close_120 : decode b_R_close 120 = .ok (.iload_n 2, 1) := by decide +kernel
theorem d_R_close_121 : decode b_R_close 121 = .ok (.i2l, 1) := by decide +kernel
theorem d_R_close_122 : decode b_R_close 122 = .ok (.lstore 7, 2) := by decide +kernel
theorem d_R_close_124 : decode b_R_close 124 = .ok (.aload_n 0, 1) := by decide +kernel
theorem d_R_close_125 : decode b_R_close 125 = .ok (.getfield 90, 3) := by decide +kernel
theorem d_R_close_128 : decode b_R_close 128 = .ok (.invokestatic 139, 3) := by decide +kernel
theorem d_R_close_131 : decode b_R_close 131 = .ok (.ifCond .eq 78, 3) := by decide +kernel
theorem d_R_close_134 : decode b_R_close 134 = .ok (.lload 7, 2) := by decide +kernel
theorem d_R_close_136 : decode b_R_close 136 = .ok (.invokestatic 139, 3) := by decide +kernel
theorem d_R_close_139 : decode b_R_close 139 = .ok (.ifCond .eq 70, 3) := by decide +kernel
theorem d_R_close_142 : decode b_R_close 142 = .ok (.aload_n 0, 1) := by decide +kernel
theorem d_R_close_143 : decode b_R_close 143 = .ok (.getfield 103, 3) := by decide +kernel
theorem d_R_close_146 : decode b_R_close 146 = .ok (.invokestatic 139, 3) := by decide +kernel
theorem d_R_close_149 : decode b_R_close 149 = .ok (.ifCond .eq 60, 3) := by decide +kernel
theorem d_R_close_152 : decode b_R_close 152 = .ok (.aload_n 0, 1) := by decide +kernel
theorem d_R_close_153 : decode b_R_close 153 = .ok (.getfield 100, 3) := by decide +kernel
theorem d_R_close_156 : decode b_R_close 156 = .ok (.invokestatic 139, 3) := by decide +kernel
theorem d_R_close_159 : decode b_R_close 159 = .ok (.ifCond .eq 50, 3) := by decide +kernel
theorem d_R_close_162 : decode b_R_close 162 = .ok (.aload_n 0, 1) := by decide +kernel
theorem d_R_close_163 : decode b_R_close 163 = .ok (.getfield 94, 3) := by decide +kernel
theorem d_R_close_166 : decode b_R_close 166 = .ok (.invokestatic 139, 3) := by decide +kernel
theorem d_R_close_169 : decode b_R_close 169 = .ok (.ifCond .eq 40, 3) := by decide +kernel
theorem d_R_close_172 : decode b_R_close 172 = .ok (.aload_n 0, 1) := by decide +kernel
theorem d_R_close_173 : decode b_R_close 173 = .ok (.getfield 97, 3) := by decide +kernel
theorem d_R_close_176 : decode b_R_close 176 = .ok (.invokestatic 139, 3) := by decide +kernel
theorem d_R_close_179 : decode b_R_close 179 = .ok (.ifCond .eq 30, 3) := by decide +kernel
theorem d_R_close_182 : decode b_R_close 182 = .ok (.aload_n 0, 1) := by decide +kernel
theorem d_R_close_183 : decode b_R_close 183 = .ok (.iload 5, 2) := by decide +kernel
theorem d_R_close_185 : decode b_R_close 185 = .ok (.aload_n 0, 1) := by decide +kernel
theorem d_R_close_186 : decode b_R_close 186 = .ok (.getfield 61, 3) := by decide +kernel
theorem d_R_close_189 : decode b_R_close 189 = .ok (.invokevirtual 143, 3) := by decide +kernel
theorem d_R_close_192 : decode b_R_close 192 = .ok (.bipush 100, 2) := by decide +kernel
theorem d_R_close_194 : decode b_R_close 194 = .ok (.if_icmp .ge 15, 3) := by decide +kernel
theorem d_R_close_197 : decode b_R_close 197 = .ok (.aload_n 0, 1) := by decide +kernel
theorem d_R_close_198 : decode b_R_close 198 = .ok (.iconst 1, 1) := by decide +kernel
theorem d_R_close_199 : decode b_R_close 199 = .ok (.invokevirtual 71, 3) := by decide +kernel
theorem d_R_close_202 : decode b_R_close 202 = .ok (.ifCond .eq 7, 3) := by decide +kernel
theorem d_R_close_205 : decode b_R_close 205 = .ok (.iconst 1, 1) := by decide +kernel
theorem d_R_close_206 : decode b_R_close 206 = .ok (.goto 4, 3) := by decide +kernel
theorem d_R_close_209 : decode b_R_close 209 = .ok (.iconst 0, 1) := by decide +kernel
theorem d_R_close_210 : decode b_R_close 210 = .ok (.istore 9, 2) := by decide +kernel
theorem d_R_close_212 : decode b_R_close 212 = .ok (.iconst 0, 1) := by decide +kernel
theorem d_R_close_213 : decode b_R_close 213 = .ok (.istore 10, 2) := by decide +kernel
theorem d_R_close_215 : decode b_R_close 215 = .ok (.iload 10, 2) := by decide +kernel
theorem d_R_close_217 : decode b_R_close 217 = .ok (.iconst 4, 1) := by decide +kernel
theorem d_R_close_218 : decode b_R_close 218 = .ok (.if_icmp .ge 34, 3) := by decide +kernel
theorem d_R_close_221 : decode b_R_close 221 = .ok (.iload 9, 2) := by decide +kernel
theorem d_R_close_223 : decode b_R_close 223 = .ok (.ifCond .eq 20, 3) := by decide +kernel
theorem d_R_close_226 : decode b_R_close 226 = .ok (.aload_n 0, 1) := by decide +kernel
theorem d_R_close_227 : decode b_R_close 227 = .ok (.getfield 48, 3) := by decide +kernel
theorem d_R_close_230 : decode b_R_close 230 = .ok (.iload 10, 2) := by decide +kernel
theorem d_R_close_232 : decode b_R_close 232 = .ok (.laload, 1) := by decide +kernel
theorem d_R_close_233 : decode b_R_close 233 = .ok (.invokestatic 139, 3) := by decide +kernel
theorem d_R_close_236 : decode b_R_close 236 = .ok (.ifCond .eq 7, 3) := by decide +kernel
theorem d_R_close_239 : decode b_R_close 239 = .ok (.iconst 1, 1) := by decide +kernel
theorem d_R_close_240 : decode b_R_close 240 = .ok (.goto 4, 3) := by decide +kernel
theorem d_R_close_243 : decode b_R_close 243 = .ok (.iconst 0, 1) := by decide +kernel
theorem d_R_close_244 : decode b_R_close 244 = .ok (.istore 9, 2) := by decide +kernel
theorem d_R_close_246 : decode b_R_close 246 = .ok (.iinc 10 1, 3) := by decide +kernel
theorem d_R_close_249 : decode b_R_close 249 = .ok (.goto (-34), 3) := by decide +kernel
theorem d_R_close_252 : decode b_R_close 252 = .ok (.iload 9, 2) := by decide +kernel
theorem d_R_close_254 : decode b_R_close 254 = .ok (.ifCond .ne 9, 3) := by decide +kernel
theorem d_R_close_257 : decode b_R_close 257 = .ok (.aload_n 0, 1) := by decide +kernel
theorem d_R_close_258 : decode b_R_close 258 = .ok (.iconst 3, 1) := by decide +kernel
theorem d_R_close_259 : decode b_R_close 259 = .ok (.invokevirtual 130, 3) := by decide +kernel
theorem d_R_close_262 : decode b_R_close 262 = .ok (.ireturn, 1) := by decide +kernel
theorem d_R_close_263 : decode b_R_close 263 = .ok (.aload_n 0, 1) := by decide +kernel
theorem d_R_close_264 : decode b_R_close 264 = .ok (.iconst 0, 1) := by decide +kernel
theorem d_R_close_265 : decode b_R_close 265 = .ok (.putfield 51, 3) := by decide +kernel
theorem d_R_close_268 : decode b_R_close 268 = .ok (.aload_n 0, 1) := by decide +kernel
theorem d_R_close_269 : decode b_R_close 269 = .ok (.iload 5, 2) := by decide +kernel
theorem d_R_close_271 : decode b_R_close 271 = .ok (.lload 7, 2) := by decide +kernel
theorem d_R_close_273 : decode b_R_close 273 = .ok (.aload_n 0, 1) := by decide +kernel
theorem d_R_close_274 : decode b_R_close 274 = .ok (.getfield 90, 3) := by decide +kernel
theorem d_R_close_277 : decode b_R_close 277 = .ok (.lsub, 1) := by decide +kernel
theorem d_R_close_278 : decode b_R_close 278 = .ok (.invokevirtual 147, 3) := by decide +kernel
theorem d_R_close_281 : decode b_R_close 281 = .ok (.aload_n 0, 1) := by decide +kernel
theorem d_R_close_282 : decode b_R_close 282 = .ok (.iload 4, 2) := by decide +kernel
theorem d_R_close_284 : decode b_R_close 284 = .ok (.invokevirtual 151, 3) := by decide +kernel
theorem d_R_close_287 : decode b_R_close 287 = .ok (.aload_n 0, 1) := by decide +kernel
theorem d_R_close_288 : decode b_R_close 288 = .ok (.getfield 61, 3) := by decide +kernel
theorem d_R_close_291 : decode b_R_close 291 = .ok (.iload 5, 2) := by decide +kernel
theorem d_R_close_293 : decode b_R_close 293 = .ok (.isub, 1) := by decide +kernel
theorem d_R_close_294 : decode b_R_close 294 = .ok (.istore 10, 2) := by decide +kernel
theorem d_R_close_296 : decode b_R_close 296 = .ok (.aload_n 0, 1) := by decide +kernel
theorem d_R_close_297 : decode b_R_close 297 = .ok (.iload 4, 2) := by decide +kernel
theorem d_R_close_299 : decode b_R_close 299 = .ok (.iload 10, 2) := by decide +kernel
theorem d_R_close_301 : decode b_R_close 301 = .ok (.iconst 1, 1) := by decide +kernel
theorem d_R_close_302 : decode b_R_close 302 = .ok (.iadd, 1) := by decide +kernel
theorem d_R_close_303 : decode b_R_close 303 = .ok (.invokevirtual 154, 3) := by decide +kernel
theorem d_R_close_306 : decode b_R_close 306 = .ok (.aload_n 0, 1) := by decide +kernel
theorem d_R_close_307 : decode b_R_close 307 = .ok (.iload 4, 2) := by decide +kernel
theorem d_R_close_309 : decode b_R_close 309 = .ok (.invokevirtual 122, 3) := by decide +kernel
theorem d_R_close_312 : decode b_R_close 312 = .ok (.istore 11, 2) := by decide +kernel
theorem d_R_close_314 : decode b_R_close 314 = .ok (.aload_n 0, 1) := by decide +kernel
theorem d_R_close_315 : decode b_R_close 315 = .ok (.getfield 7, 3) := by decide +kernel
theorem d_R_close_318 : decode b_R_close 318 = .ok (.iload 11, 2) := by decide +kernel
theorem d_R_close_320 : decode b_R_close 320 = .ok (.iload 6, 2) := by decide +kernel
theorem d_R_close_322 : decode b_R_close 322 = .ok (.ifCond .eq 7, 3) := by decide +kernel
theorem d_R_close_325 : decode b_R_close 325 = .ok (.iconst 3, 1) := by decide +kernel
theorem d_R_close_326 : decode b_R_close 326 = .ok (.goto 4, 3) := by decide +kernel
theorem d_R_close_329 : decode b_R_close 329 = .ok (.iconst 2, 1) := by decide +kernel
theorem d_R_close_330 : decode b_R_close 330 = .ok (.iastore, 1) := by decide +kernel
theorem d_R_close_331 : decode b_R_close 331 = .ok (.aload_n 0, 1) := by decide +kernel
theorem d_R_close_332 : decode b_R_close 332 = .ok (.getfield 13, 3) := by decide +kernel
theorem d_R_close_335 : decode b_R_close 335 = .ok (.iload 11, 2) := by decide +kernel
theorem d_R_close_337 : decode b_R_close 337 = .ok (.iload 6, 2) := by decide +kernel
theorem d_R_close_339 : decode b_R_close 339 = .ok (.ifCond .eq 10, 3) := by decide +kernel
theorem d_R_close_342 : decode b_R_close 342 = .ok (.aload_n 0, 1) := by decide +kernel
theorem d_R_close_343 : decode b_R_close 343 = .ok (.getfield 100, 3) := by decide +kernel
theorem d_R_close_346 : decode b_R_close 346 = .ok (.goto 5, 3) := by decide +kernel
theorem d_R_close_349 : decode b_R_close 349 = .ok (.lload 7, 2) := by decide +kernel
theorem d_R_close_351 : decode b_R_close 351 = .ok (.l2i, 1) := by decide +kernel
theorem d_R_close_352 : decode b_R_close 352 = .ok (.iastore, 1) := by decide +kernel
theorem d_R_close_353 : decode b_R_close 353 = .ok (.aload_n 0, 1) := by decide +kernel
theorem d_R_close_354 : decode b_R_close 354 = .ok (.getfield 16, 3) := by decide +kernel
theorem d_R_close_357 : decode b_R_close 357 = .ok (.iload 11, 2) := by decide +kernel
theorem d_R_close_359 : decode b_R_close 359 = .ok (.iload 6, 2) := by decide +kernel
theorem d_R_close_361 : decode b_R_close 361 = .ok (.ifCond .eq 8, 3) := by decide +kernel
theorem d_R_close_364 : decode b_R_close 364 = .ok (.lload 7, 2) := by decide +kernel
theorem d_R_close_366 : decode b_R_close 366 = .ok (.goto 7, 3) := by decide +kernel
theorem d_R_close_369 : decode b_R_close 369 = .ok (.aload_n 0, 1) := by decide +kernel
theorem d_R_close_370 : decode b_R_close 370 = .ok (.getfield 94, 3) := by decide +kernel
theorem d_R_close_373 : decode b_R_close 373 = .ok (.l2i, 1) := by decide +kernel
theorem d_R_close_374 : decode b_R_close 374 = .ok (.iastore, 1) := by decide +kernel
theorem d_R_close_375 : decode b_R_close 375 = .ok (.aload_n 0, 1) := by decide +kernel
theorem d_R_close_376 : decode b_R_close 376 = .ok (.getfield 19, 3) := by decide +kernel
theorem d_R_close_379 : decode b_R_close 379 = .ok (.iload 11, 2) := by decide +kernel
theorem d_R_close_381 : decode b_R_close 381 = .ok (.aload_n 0, 1) := by decide +kernel
theorem d_R_close_382 : decode b_R_close 382 = .ok (.getfield 97, 3) := by decide +kernel
theorem d_R_close_385 : decode b_R_close 385 = .ok (.l2i, 1) := by decide +kernel
theorem d_R_close_386 : decode b_R_close 386 = .ok (.iastore, 1) := by decide +kernel
theorem d_R_close_387 : decode b_R_close 387 = .ok (.aload_n 0, 1) := by decide +kernel
theorem d_R_close_388 : decode b_R_close 388 = .ok (.getfield 22, 3) := by decide +kernel
theorem d_R_close_391 : decode b_R_close 391 = .ok (.iload 11, 2) := by decide +kernel
theorem d_R_close_393 : decode b_R_close 393 = .ok (.iconst 0, 1) := by decide +kernel
theorem d_R_close_394 : decode b_R_close 394 = .ok (.iastore, 1) := by decide +kernel
theorem d_R_close_395 : decode b_R_close 395 = .ok (.aload_n 0, 1) := by decide +kernel
theorem d_R_close_396 : decode b_R_close 396 = .ok (.getfield 35, 3) := by decide +kernel
theorem d_R_close_399 : decode b_R_close 399 = .ok (.iload 11, 2) := by decide +kernel
theorem d_R_close_401 : decode b_R_close 401 = .ok (.iload 10, 2) := by decide +kernel
theorem d_R_close_403 : decode b_R_close 403 = .ok (.iconst 1, 1) := by decide +kernel
theorem d_R_close_404 : decode b_R_close 404 = .ok (.iadd, 1) := by decide +kernel
theorem d_R_close_405 : decode b_R_close 405 = .ok (.iastore, 1) := by decide +kernel
theorem d_R_close_406 : decode b_R_close 406 = .ok (.iconst 0, 1) := by decide +kernel
theorem d_R_close_407 : decode b_R_close 407 = .ok (.istore 12, 2) := by decide +kernel
theorem d_R_close_409 : decode b_R_close 409 = .ok (.iload 12, 2) := by decide +kernel
theorem d_R_close_411 : decode b_R_close 411 = .ok (.iload 10, 2) := by decide +kernel
theorem d_R_close_413 : decode b_R_close 413 = .ok (.if_icmp .ge 25, 3) := by decide +kernel
theorem d_R_close_416 : decode b_R_close 416 = .ok (.aload_n 0, 1) := by decide +kernel
theorem d_R_close_417 : decode b_R_close 417 = .ok (.iload 5, 2) := by decide +kernel
theorem d_R_close_419 : decode b_R_close 419 = .ok (.iload 12, 2) := by decide +kernel
theorem d_R_close_421 : decode b_R_close 421 = .ok (.iadd, 1) := by decide +kernel
theorem d_R_close_422 : decode b_R_close 422 = .ok (.iload 11, 2) := by decide +kernel
theorem d_R_close_424 : decode b_R_close 424 = .ok (.iconst 1, 1) := by decide +kernel
theorem d_R_close_425 : decode b_R_close 425 = .ok (.iadd, 1) := by decide +kernel
theorem d_R_close_426 : decode b_R_close 426 = .ok (.iload 12, 2) := by decide +kernel
theorem d_R_close_428 : decode b_R_close 428 = .ok (.iadd, 1) := by decide +kernel
theorem d_R_close_429 : decode b_R_close 429 = .ok (.invokevirtual 126, 3) := by decide +kernel
theorem d_R_close_432 : decode b_R_close 432 = .ok (.iinc 12 1, 3) := by decide +kernel
theorem d_R_close_435 : decode b_R_close 435 = .ok (.goto (-26), 3) := by decide +kernel
theorem d_R_close_438 : decode b_R_close 438 = .ok (.aload_n 0, 1) := by decide +kernel
theorem d_R_close_439 : decode b_R_close 439 = .ok (.iload 5, 2) := by decide +kernel
theorem d_R_close_441 : decode b_R_close 441 = .ok (.putfield 61, 3) := by decide +kernel
theorem d_R_close_444 : decode b_R_close 444 = .ok (.aload_n 0, 1) := by decide +kernel
theorem d_R_close_445 : decode b_R_close 445 = .ok (.dup, 1) := by decide +kernel
theorem d_R_close_446 : decode b_R_close 446 = .ok (.getfield 68, 3) := by decide +kernel
theorem d_R_close_449 : decode b_R_close 449 = .ok (.iconst 1, 1) := by decide +kernel
theorem d_R_close_450 : decode b_R_close 450 = .ok (.isub, 1) := by decide +kernel
theorem d_R_close_451 : decode b_R_close 451 = .ok (.putfield 68, 3) := by decide +kernel
theorem d_R_close_454 : decode b_R_close 454 = .ok (.lload 7, 2) := by decide +kernel
theorem d_R_close_456 : decode b_R_close 456 = .ok (.l2i, 1) := by decide +kernel
theorem d_R_close_457 : decode b_R_close 457 = .ok (.ireturn, 1) := by decide +kernel
abbrev b_R_count : ByteArray := prog_7_method_37_code
def y_R_count : MethodName := ⟨"BoxDeskModel", "count", "(I)I"⟩
theorem d_R_count_0 : decode b_R_count 0 = .ok (.aload_n 0, 1) := by decide +kernel
theorem d_R_count_1 : decode b_R_count 1 = .ok (.iconst 0, 1) := by decide +kernel
theorem d_R_count_2 : decode b_R_count 2 = .ok (.putfield 51, 3) := by decide +kernel
theorem d_R_count_5 : decode b_R_count 5 = .ok (.iload_n 1, 1) := by decide +kernel
theorem d_R_count_6 : decode b_R_count 6 = .ok (.ifCond .ne 10, 3) := by decide +kernel
theorem d_R_count_9 : decode b_R_count 9 = .ok (.aload_n 0, 1) := by decide +kernel
theorem d_R_count_10 : decode b_R_count 10 = .ok (.getfield 68, 3) := by decide +kernel
theorem d_R_count_13 : decode b_R_count 13 = .ok (.goto 21, 3) := by decide +kernel
theorem d_R_count_16 : decode b_R_count 16 = .ok (.iload_n 1, 1) := by decide +kernel
theorem d_R_count_17 : decode b_R_count 17 = .ok (.iconst 1, 1) := by decide +kernel
theorem d_R_count_18 : decode b_R_count 18 = .ok (.if_icmp .ne 15, 3) := by decide +kernel
theorem d_R_count_21 : decode b_R_count 21 = .ok (.aload_n 0, 1) := by decide +kernel
theorem d_R_count_22 : decode b_R_count 22 = .ok (.getfield 61, 3) := by decide +kernel
theorem d_R_count_25 : decode b_R_count 25 = .ok (.aload_n 0, 1) := by decide +kernel
theorem d_R_count_26 : decode b_R_count 26 = .ok (.invokevirtual 64, 3) := by decide +kernel
theorem d_R_count_29 : decode b_R_count 29 = .ok (.iadd, 1) := by decide +kernel
theorem d_R_count_30 : decode b_R_count 30 = .ok (.goto 4, 3) := by decide +kernel
theorem d_R_count_33 : decode b_R_count 33 = .ok (.iconst (-1), 1) := by decide +kernel
theorem d_R_count_34 : decode b_R_count 34 = .ok (.ireturn, 1) := by decide +kernel
abbrev b_R_empty : ByteArray := prog_7_method_27_code
def y_R_empty : MethodName := ⟨"BoxDeskModel", "empty", "(I)V"⟩
theorem d_R_empty_0 : decode b_R_empty 0 = .ok (.aload_n 0, 1) := by decide +kernel
theorem d_R_empty_1 : decode b_R_empty 1 = .ok (.iload_n 1, 1) := by decide +kernel
theorem d_R_empty_2 : decode b_R_empty 2 = .ok (.invokevirtual 122, 3) := by decide +kernel
theorem d_R_empty_5 : decode b_R_empty 5 = .ok (.istore_n 2, 1) := by decide +kernel
theorem d_R_empty_6 : decode b_R_empty 6 = .ok (.aload_n 0, 1) := by decide +kernel
theorem d_R_empty_7 : decode b_R_empty 7 = .ok (.getfield 45, 3) := by decide +kernel
theorem d_R_empty_10 : decode b_R_empty 10 = .ok (.iload_n 1, 1) := by decide +kernel
theorem d_R_empty_11 : decode b_R_empty 11 = .ok (.iaload, 1) := by decide +kernel
theorem d_R_empty_12 : decode b_R_empty 12 = .ok (.istore_n 3, 1) := by decide +kernel
theorem d_R_empty_13 : decode b_R_empty 13 = .ok (.sipush 4100, 3) := by decide +kernel
theorem d_R_empty_16 : decode b_R_empty 16 = .ok (.aload_n 0, 1) := by decide +kernel
theorem d_R_empty_17 : decode b_R_empty 17 = .ok (.invokevirtual 64, 3) := by decide +kernel
theorem d_R_empty_20 : decode b_R_empty 20 = .ok (.iadd, 1) := by decide +kernel
theorem d_R_empty_21 : decode b_R_empty 21 = .ok (.istore 4, 2) := by decide +kernel
theorem d_R_empty_23 : decode b_R_empty 23 = .ok (.iload_n 2, 1) := by decide +kernel
theorem d_R_empty_24 : decode b_R_empty 24 = .ok (.iload_n 3, 1) := by decide +kernel
theorem d_R_empty_25 : decode b_R_empty 25 = .ok (.iadd, 1) := by decide +kernel
theorem d_R_empty_26 : decode b_R_empty 26 = .ok (.istore 5, 2) := by decide +kernel
theorem d_R_empty_28 : decode b_R_empty 28 = .ok (.iload 5, 2) := by decide +kernel
theorem d_R_empty_30 : decode b_R_empty 30 = .ok (.iload 4, 2) := by decide +kernel
theorem d_R_empty_32 : decode b_R_empty 32 = .ok (.if_icmp .ge 19, 3) := by decide +kernel
theorem d_R_empty_35 : decode b_R_empty 35 = .ok (.aload_n 0, 1) := by decide +kernel
theorem d_R_empty_36 : decode b_R_empty 36 = .ok (.iload 5, 2) := by decide +kernel
theorem d_R_empty_38 : decode b_R_empty 38 = .ok (.iload 5, 2) := by decide +kernel
theorem d_R_empty_40 : decode b_R_empty 40 = .ok (.iload_n 3, 1) := by decide +kernel
theorem d_R_empty_41 : decode b_R_empty 41 = .ok (.isub, 1) := by decide +kernel
theorem d_R_empty_42 : decode b_R_empty 42 = .ok (.invokevirtual 126, 3) := by decide +kernel
theorem d_R_empty_45 : decode b_R_empty 45 = .ok (.iinc 5 1, 3) := by decide +kernel
theorem d_R_empty_48 : decode b_R_empty 48 = .ok (.goto (-20), 3) := by decide +kernel
theorem d_R_empty_51 : decode b_R_empty 51 = .ok (.aload_n 0, 1) := by decide +kernel
theorem d_R_empty_52 : decode b_R_empty 52 = .ok (.getfield 45, 3) := by decide +kernel
theorem d_R_empty_55 : decode b_R_empty 55 = .ok (.iload_n 1, 1) := by decide +kernel
theorem d_R_empty_56 : decode b_R_empty 56 = .ok (.iconst 0, 1) := by decide +kernel
theorem d_R_empty_57 : decode b_R_empty 57 = .ok (.iastore, 1) := by decide +kernel
theorem d_R_empty_58 : decode b_R_empty 58 = .ok (.return_, 1) := by decide +kernel
abbrev b_R_fails : ByteArray := prog_7_method_3_code
def y_R_fails : MethodName := ⟨"BoxDeskModel", "fails", "(I)I"⟩
theorem d_R_fails_0 : decode b_R_fails 0 = .ok (.aload_n 0, 1) := by decide +kernel
theorem d_R_fails_1 : decode b_R_fails 1 = .ok (.iload_n 1, 1) := by decide +kernel
theorem d_R_fails_2 : decode b_R_fails 2 = .ok (.putfield 51, 3) := by decide +kernel
theorem d_R_fails_5 : decode b_R_fails 5 = .ok (.iconst 0, 1) := by decide +kernel
theorem d_R_fails_6 : decode b_R_fails 6 = .ok (.ireturn, 1) := by decide +kernel
abbrev b_R_glue : ByteArray := prog_7_method_15_code
def y_R_glue : MethodName := ⟨"BoxDeskModel", "glue", "(IIII)Z"⟩
theorem d_R_glue_0 : decode b_R_glue 0 = .ok (.aload_n 0, 1) := by decide +kernel
theorem d_R_glue_1 : decode b_R_glue 1 = .ok (.iload_n 1, 1) := by decide +kernel
theorem d_R_glue_2 : decode b_R_glue 2 = .ok (.invokestatic 79, 3) := by decide +kernel
theorem d_R_glue_5 : decode b_R_glue 5 = .ok (.ifCond .eq 40, 3) := by decide +kernel
theorem d_R_glue_8 : decode b_R_glue 8 = .ok (.iload_n 2, 1) := by decide +kernel
theorem d_R_glue_9 : decode b_R_glue 9 = .ok (.invokestatic 79, 3) := by decide +kernel
theorem d_R_glue_12 : decode b_R_glue 12 = .ok (.ifCond .eq 33, 3) := by decide +kernel
theorem d_R_glue_15 : decode b_R_glue 15 = .ok (.iload 4, 2) := by decide +kernel
theorem d_R_glue_17 : decode b_R_glue 17 = .ok (.invokestatic 79, 3) := by decide +kernel
theorem d_R_glue_20 : decode b_R_glue 20 = .ok (.ifCond .eq 25, 3) := by decide +kernel
theorem d_R_glue_23 : decode b_R_glue 23 = .ok (.iload_n 2, 1) := by decide +kernel
theorem d_R_glue_24 : decode b_R_glue 24 = .ok (.ifCond .lt 21, 3) := by decide +kernel
theorem d_R_glue_27 : decode b_R_glue 27 = .ok (.iload 4, 2) := by decide +kernel
theorem d_R_glue_29 : decode b_R_glue 29 = .ok (.ifCond .lt 16, 3) := by decide +kernel
theorem d_R_glue_32 : decode b_R_glue 32 = .ok (.iload_n 3, 1) := by decide +kernel
theorem d_R_glue_33 : decode b_R_glue 33 = .ok (.ifCond .lt 12, 3) := by decide +kernel
theorem d_R_glue_36 : decode b_R_glue 36 = .ok (.iload_n 3, 1) := by decide +kernel
theorem d_R_glue_37 : decode b_R_glue 37 = .ok (.iconst 4, 1) := by decide +kernel
theorem d_R_glue_38 : decode b_R_glue 38 = .ok (.if_icmp .ge 7, 3) := by decide +kernel
theorem d_R_glue_41 : decode b_R_glue 41 = .ok (.iconst 1, 1) := by decide +kernel
theorem d_R_glue_42 : decode b_R_glue 42 = .ok (.goto 4, 3) := by decide +kernel
theorem d_R_glue_45 : decode b_R_glue 45 = .ok (.iconst 0, 1) := by decide +kernel
theorem d_R_glue_46 : decode b_R_glue 46 = .ok (.iconst 5, 1) := by decide +kernel
theorem d_R_glue_47 : decode b_R_glue 47 = .ok (.iload_n 1, 1) := by decide +kernel
theorem d_R_glue_48 : decode b_R_glue 48 = .ok (.iconst 0, 1) := by decide +kernel
theorem d_R_glue_49 : decode b_R_glue 49 = .ok (.iconst 0, 1) := by decide +kernel
theorem d_R_glue_50 : decode b_R_glue 50 = .ok (.iload_n 2, 1) := by decide +kernel
theorem d_R_glue_51 : decode b_R_glue 51 = .ok (.iload_n 3, 1) := by decide +kernel
theorem d_R_glue_52 : decode b_R_glue 52 = .ok (.iload 4, 2) := by decide +kernel
theorem d_R_glue_54 : decode b_R_glue 54 = .ok (.invokevirtual 82, 3) := by decide +kernel
theorem d_R_glue_57 : decode b_R_glue 57 = .ok (.ireturn, 1) := by decide +kernel
abbrev b_R_hasRoom : ByteArray := prog_7_method_7_code
def y_R_hasRoom : MethodName := ⟨"BoxDeskModel", "hasRoom", "(I)Z"⟩
theorem d_R_hasRoom_0 : decode b_R_hasRoom 0 = .ok (.aload_n 0, 1) := by decide +kernel
theorem d_R_hasRoom_1 : decode b_R_hasRoom 1 = .ok (.getfield 61, 3) := by decide +kernel
theorem d_R_hasRoom_4 : decode b_R_hasRoom 4 = .ok (.aload_n 0, 1) := by decide +kernel
theorem d_R_hasRoom_5 : decode b_R_hasRoom 5 = .ok (.invokevirtual 64, 3) := by decide +kernel
theorem d_R_hasRoom_8 : decode b_R_hasRoom 8 = .ok (.iadd, 1) := by decide +kernel
theorem d_R_hasRoom_9 : decode b_R_hasRoom 9 = .ok (.iload_n 1, 1) := by decide +kernel
theorem d_R_hasRoom_10 : decode b_R_hasRoom 10 = .ok (.iadd, 1) := by decide +kernel
theorem d_R_hasRoom_11 : decode b_R_hasRoom 11 = .ok (.sipush 4000, 3) := by decide +kernel
theorem d_R_hasRoom_14 : decode b_R_hasRoom 14 = .ok (.if_icmp .gt 7, 3) := by decide +kernel
theorem d_R_hasRoom_17 : decode b_R_hasRoom 17 = .ok (.iconst 1, 1) := by decide +kernel
theorem d_R_hasRoom_18 : decode b_R_hasRoom 18 = .ok (.goto 4, 3) := by decide +kernel
theorem d_R_hasRoom_21 : decode b_R_hasRoom 21 = .ok (.iconst 0, 1) := by decide +kernel
theorem d_R_hasRoom_22 : decode b_R_hasRoom 22 = .ok (.ireturn, 1) := by decide +kernel
abbrev b_R_init : ByteArray := prog_7_method_1_code
def y_R_init : MethodName := ⟨"BoxDeskModel", "<init>", "()V"⟩
theorem d_R_init_0 : decode b_R_init 0 = .ok (.aload_n 0, 1) := by decide +kernel
theorem d_R_init_1 : decode b_R_init 1 = .ok (.invokespecial 1, 3) := by decide +kernel
theorem d_R_init_4 : decode b_R_init 4 = .ok (.aload_n 0, 1) := by decide +kernel
theorem d_R_init_5 : decode b_R_init 5 = .ok (.sipush 8200, 3) := by decide +kernel
theorem d_R_init_8 : decode b_R_init 8 = .ok (.newarray .int, 2) := by decide +kernel
theorem d_R_init_10 : decode b_R_init 10 = .ok (.putfield 7, 3) := by decide +kernel
theorem d_R_init_13 : decode b_R_init 13 = .ok (.aload_n 0, 1) := by decide +kernel
theorem d_R_init_14 : decode b_R_init 14 = .ok (.sipush 8200, 3) := by decide +kernel
theorem d_R_init_17 : decode b_R_init 17 = .ok (.newarray .int, 2) := by decide +kernel
theorem d_R_init_19 : decode b_R_init 19 = .ok (.putfield 13, 3) := by decide +kernel
theorem d_R_init_22 : decode b_R_init 22 = .ok (.aload_n 0, 1) := by decide +kernel
theorem d_R_init_23 : decode b_R_init 23 = .ok (.sipush 8200, 3) := by decide +kernel
theorem d_R_init_26 : decode b_R_init 26 = .ok (.newarray .int, 2) := by decide +kernel
theorem d_R_init_28 : decode b_R_init 28 = .ok (.putfield 16, 3) := by decide +kernel
theorem d_R_init_31 : decode b_R_init 31 = .ok (.aload_n 0, 1) := by decide +kernel
theorem d_R_init_32 : decode b_R_init 32 = .ok (.sipush 8200, 3) := by decide +kernel
theorem d_R_init_35 : decode b_R_init 35 = .ok (.newarray .int, 2) := by decide +kernel
theorem d_R_init_37 : decode b_R_init 37 = .ok (.putfield 19, 3) := by decide +kernel
theorem d_R_init_40 : decode b_R_init 40 = .ok (.aload_n 0, 1) := by decide +kernel
theorem d_R_init_41 : decode b_R_init 41 = .ok (.sipush 8200, 3) := by decide +kernel
theorem d_R_init_44 : decode b_R_init 44 = .ok (.newarray .int, 2) := by decide +kernel
theorem d_R_init_46 : decode b_R_init 46 = .ok (.putfield 22, 3) := by decide +kernel
theorem d_R_init_49 : decode b_R_init 49 = .ok (.aload_n 0, 1) := by decide +kernel
theorem d_R_init_50 : decode b_R_init 50 = .ok (.sipush 8200, 3) := by decide +kernel
theorem d_R_init_53 : decode b_R_init 53 = .ok (.newarray .int, 2) := by decide +kernel
theorem d_R_init_55 : decode b_R_init 55 = .ok (.putfield 25, 3) := by decide +kernel
theorem d_R_init_58 : decode b_R_init 58 = .ok (.aload_n 0, 1) := by decide +kernel
theorem d_R_init_59 : decode b_R_init 59 = .ok (.sipush 8200, 3) := by decide +kernel
theorem d_R_init_62 : decode b_R_init 62 = .ok (.newarray .int, 2) := by decide +kernel
theorem d_R_init_64 : decode b_R_init 64 = .ok (.putfield 28, 3) := by decide +kernel
theorem d_R_init_67 : decode b_R_init 67 = .ok (.aload_n 0, 1) := by decide +kernel
theorem d_R_init_68 : decode b_R_init 68 = .ok (.sipush 8200, 3) := by decide +kernel
theorem d_R_init_71 : decode b_R_init 71 = .ok (.newarray .long, 2) := by decide +kernel
theorem d_R_init_73 : decode b_R_init 73 = .ok (.putfield 31, 3) := by decide +kernel
theorem d_R_init_76 : decode b_R_init 76 = .ok (.aload_n 0, 1) := by decide +kernel
theorem d_R_init_77 : decode b_R_init 77 = .ok (.sipush 8200, 3) := by decide +kernel
theorem d_R_init_80 : decode b_R_init 80 = .ok (.newarray .int, 2) := by decide +kernel
theorem d_R_init_82 : decode b_R_init 82 = .ok (.putfield 35, 3) := by decide +kernel
theorem d_R_init_85 : decode b_R_init 85 = .ok (.aload_n 0, 1) := by decide +kernel
theorem d_R_init_86 : decode b_R_init 86 = .ok (.bipush 101, 2) := by decide +kernel
theorem d_R_init_88 : decode b_R_init 88 = .ok (.newarray .int, 2) := by decide +kernel
theorem d_R_init_90 : decode b_R_init 90 = .ok (.putfield 38, 3) := by decide +kernel
theorem d_R_init_93 : decode b_R_init 93 = .ok (.aload_n 0, 1) := by decide +kernel
theorem d_R_init_94 : decode b_R_init 94 = .ok (.bipush 101, 2) := by decide +kernel
theorem d_R_init_96 : decode b_R_init 96 = .ok (.newarray .boolean, 2) := by decide +kernel
theorem d_R_init_98 : decode b_R_init 98 = .ok (.putfield 41, 3) := by decide +kernel
theorem d_R_init_101 : decode b_R_init 101 = .ok (.aload_n 0, 1) := by decide +kernel
theorem d_R_init_102 : decode b_R_init 102 = .ok (.bipush 16, 2) := by decide +kernel
theorem d_R_init_104 : decode b_R_init 104 = .ok (.newarray .int, 2) := by decide +kernel
theorem d_R_init_106 : decode b_R_init 106 = .ok (.putfield 45, 3) := by decide +kernel
theorem d_R_init_109 : decode b_R_init 109 = .ok (.aload_n 0, 1) := by decide +kernel
theorem d_R_init_110 : decode b_R_init 110 = .ok (.iconst 4, 1) := by decide +kernel
theorem d_R_init_111 : decode b_R_init 111 = .ok (.newarray .long, 2) := by decide +kernel
theorem d_R_init_113 : decode b_R_init 113 = .ok (.putfield 48, 3) := by decide +kernel
theorem d_R_init_116 : decode b_R_init 116 = .ok (.return_, 1) := by decide +kernel
abbrev b_R_isBox : ByteArray := prog_7_method_18_code
def y_R_isBox : MethodName := ⟨"BoxDeskModel", "isBox", "(I)Z"⟩
theorem d_R_isBox_0 : decode b_R_isBox 0 = .ok (.aload_n 0, 1) := by decide +kernel
theorem d_R_isBox_1 : decode b_R_isBox 1 = .ok (.getfield 7, 3) := by decide +kernel
theorem d_R_isBox_4 : decode b_R_isBox 4 = .ok (.iload_n 1, 1) := by decide +kernel
theorem d_R_isBox_5 : decode b_R_isBox 5 = .ok (.iaload, 1) := by decide +kernel
theorem d_R_isBox_6 : decode b_R_isBox 6 = .ok (.iconst 2, 1) := by decide +kernel
theorem d_R_isBox_7 : decode b_R_isBox 7 = .ok (.if_icmp .eq 13, 3) := by decide +kernel
theorem d_R_isBox_10 : decode b_R_isBox 10 = .ok (.aload_n 0, 1) := by decide +kernel
theorem d_R_isBox_11 : decode b_R_isBox 11 = .ok (.getfield 7, 3) := by decide +kernel
theorem d_R_isBox_14 : decode b_R_isBox 14 = .ok (.iload_n 1, 1) := by decide +kernel
theorem d_R_isBox_15 : decode b_R_isBox 15 = .ok (.iaload, 1) := by decide +kernel
theorem d_R_isBox_16 : decode b_R_isBox 16 = .ok (.iconst 3, 1) := by decide +kernel
theorem d_R_isBox_17 : decode b_R_isBox 17 = .ok (.if_icmp .ne 7, 3) := by decide +kernel
theorem d_R_isBox_20 : decode b_R_isBox 20 = .ok (.iconst 1, 1) := by decide +kernel
theorem d_R_isBox_21 : decode b_R_isBox 21 = .ok (.goto 4, 3) := by decide +kernel
theorem d_R_isBox_24 : decode b_R_isBox 24 = .ok (.iconst 0, 1) := by decide +kernel
theorem d_R_isBox_25 : decode b_R_isBox 25 = .ok (.ireturn, 1) := by decide +kernel
abbrev b_R_isFull : ByteArray := prog_7_method_30_code
def y_R_isFull : MethodName := ⟨"BoxDeskModel", "isFull", "(I)Z"⟩
theorem d_R_isFull_0 : decode b_R_isFull 0 = .ok (.iload_n 1, 1) := by decide +kernel
theorem d_R_isFull_1 : decode b_R_isFull 1 = .ok (.ifCond .lt 36, 3) := by decide +kernel
theorem d_R_isFull_4 : decode b_R_isFull 4 = .ok (.iload_n 1, 1) := by decide +kernel
theorem d_R_isFull_5 : decode b_R_isFull 5 = .ok (.bipush 16, 2) := by decide +kernel
theorem d_R_isFull_7 : decode b_R_isFull 7 = .ok (.if_icmp .ge 30, 3) := by decide +kernel
theorem d_R_isFull_10 : decode b_R_isFull 10 = .ok (.aload_n 0, 1) := by decide +kernel
theorem d_R_isFull_11 : decode b_R_isFull 11 = .ok (.getfield 45, 3) := by decide +kernel
theorem d_R_isFull_14 : decode b_R_isFull 14 = .ok (.iload_n 1, 1) := by decide +kernel
theorem d_R_isFull_15 : decode b_R_isFull 15 = .ok (.ifCond .lt 13, 3) := by decide +kernel
theorem d_R_isFull_18 : decode b_R_isFull 18 = .ok (.iload_n 1, 1) := by decide +kernel
theorem d_R_isFull_19 : decode b_R_isFull 19 = .ok (.bipush 16, 2) := by decide +kernel
theorem d_R_isFull_21 : decode b_R_isFull 21 = .ok (.if_icmp .ge 7, 3) := by decide +kernel
theorem d_R_isFull_24 : decode b_R_isFull 24 = .ok (.iload_n 1, 1) := by decide +kernel
theorem d_R_isFull_25 : decode b_R_isFull 25 = .ok (.goto 4, 3) := by decide +kernel
theorem d_R_isFull_28 : decode b_R_isFull 28 = .ok (.iconst 0, 1) := by decide +kernel
theorem d_R_isFull_29 : decode b_R_isFull 29 = .ok (.iaload, 1) := by decide +kernel
theorem d_R_isFull_30 : decode b_R_isFull 30 = .ok (.ifCond .le 7, 3) := by decide +kernel
theorem d_R_isFull_33 : decode b_R_isFull 33 = .ok (.iconst 1, 1) := by decide +kernel
theorem d_R_isFull_34 : decode b_R_isFull 34 = .ok (.goto 4, 3) := by decide +kernel
theorem d_R_isFull_37 : decode b_R_isFull 37 = .ok (.iconst 0, 1) := by decide +kernel
theorem d_R_isFull_38 : decode b_R_isFull 38 = .ok (.ireturn, 1) := by decide +kernel
abbrev b_R_isSize : ByteArray := prog_7_method_4_code
def y_R_isSize : MethodName := ⟨"BoxDeskModel", "isSize", "(I)Z"⟩
theorem d_R_isSize_0 : decode b_R_isSize 0 = .ok (.iload_n 0, 1) := by decide +kernel
theorem d_R_isSize_1 : decode b_R_isSize 1 = .ok (.ldc 55, 2) := by decide +kernel
theorem d_R_isSize_3 : decode b_R_isSize 3 = .ok (.if_icmp .lt 13, 3) := by decide +kernel
theorem d_R_isSize_6 : decode b_R_isSize 6 = .ok (.iload_n 0, 1) := by decide +kernel
theorem d_R_isSize_7 : decode b_R_isSize 7 = .ok (.ldc 56, 2) := by decide +kernel
theorem d_R_isSize_9 : decode b_R_isSize 9 = .ok (.if_icmp .gt 7, 3) := by decide +kernel
theorem d_R_isSize_12 : decode b_R_isSize 12 = .ok (.iconst 1, 1) := by decide +kernel
theorem d_R_isSize_13 : decode b_R_isSize 13 = .ok (.goto 4, 3) := by decide +kernel
theorem d_R_isSize_16 : decode b_R_isSize 16 = .ok (.iconst 0, 1) := by decide +kernel
theorem d_R_isSize_17 : decode b_R_isSize 17 = .ok (.ireturn, 1) := by decide +kernel
abbrev b_R_isSizeLong : ByteArray := prog_7_method_5_code
def y_R_isSizeLong : MethodName := ⟨"BoxDeskModel", "isSizeLong", "(J)Z"⟩
theorem d_R_isSizeLong_0 : decode b_R_isSizeLong 0 = .ok (.lload_n 0, 1) := by decide +kernel
theorem d_R_isSizeLong_1 : decode b_R_isSizeLong 1 = .ok (.ldc2_w 57, 3) := by decide +kernel
theorem d_R_isSizeLong_4 : decode b_R_isSizeLong 4 = .ok (.lcmp, 1) := by decide +kernel
theorem d_R_isSizeLong_5 : decode b_R_isSizeLong 5 = .ok (.ifCond .lt 15, 3) := by decide +kernel
theorem d_R_isSizeLong_8 : decode b_R_isSizeLong 8 = .ok (.lload_n 0, 1) := by decide +kernel
theorem d_R_isSizeLong_9 : decode b_R_isSizeLong 9 = .ok (.ldc2_w 59, 3) := by decide +kernel
theorem d_R_isSizeLong_12 : decode b_R_isSizeLong 12 = .ok (.lcmp, 1) := by decide +kernel
theorem d_R_isSizeLong_13 : decode b_R_isSizeLong 13 = .ok (.ifCond .gt 7, 3) := by decide +kernel
theorem d_R_isSizeLong_16 : decode b_R_isSizeLong 16 = .ok (.iconst 1, 1) := by decide +kernel
theorem d_R_isSizeLong_17 : decode b_R_isSizeLong 17 = .ok (.goto 4, 3) := by decide +kernel
theorem d_R_isSizeLong_20 : decode b_R_isSizeLong 20 = .ok (.iconst 0, 1) := by decide +kernel
theorem d_R_isSizeLong_21 : decode b_R_isSizeLong 21 = .ok (.ireturn, 1) := by decide +kernel
abbrev b_R_isSolid : ByteArray := prog_7_method_19_code
def y_R_isSolid : MethodName := ⟨"BoxDeskModel", "isSolid", "(I)Z"⟩
theorem d_R_isSolid_0 : decode b_R_isSolid 0 = .ok (.aload_n 0, 1) := by decide +kernel
theorem d_R_isSolid_1 : decode b_R_isSolid 1 = .ok (.getfield 7, 3) := by decide +kernel
theorem d_R_isSolid_4 : decode b_R_isSolid 4 = .ok (.iload_n 1, 1) := by decide +kernel
theorem d_R_isSolid_5 : decode b_R_isSolid 5 = .ok (.iaload, 1) := by decide +kernel
theorem d_R_isSolid_6 : decode b_R_isSolid 6 = .ok (.iconst 4, 1) := by decide +kernel
theorem d_R_isSolid_7 : decode b_R_isSolid 7 = .ok (.if_icmp .gt 7, 3) := by decide +kernel
theorem d_R_isSolid_10 : decode b_R_isSolid 10 = .ok (.iconst 1, 1) := by decide +kernel
theorem d_R_isSolid_11 : decode b_R_isSolid 11 = .ok (.goto 4, 3) := by decide +kernel
theorem d_R_isSolid_14 : decode b_R_isSolid 14 = .ok (.iconst 0, 1) := by decide +kernel
theorem d_R_isSolid_15 : decode b_R_isSolid 15 = .ok (.ireturn, 1) := by decide +kernel
abbrev b_R_isVertical : ByteArray := prog_7_method_12_code
def y_R_isVertical : MethodName := ⟨"BoxDeskModel", "isVertical", "()Z"⟩
theorem d_R_isVertical_0 : decode b_R_isVertical 0 = .ok (.aload_n 0, 1) := by decide +kernel
theorem d_R_isVertical_1 : decode b_R_isVertical 1 = .ok (.getfield 68, 3) := by decide +kernel
theorem d_R_isVertical_4 : decode b_R_isVertical 4 = .ok (.ifCond .le 21, 3) := by decide +kernel
theorem d_R_isVertical_7 : decode b_R_isVertical 7 = .ok (.aload_n 0, 1) := by decide +kernel
theorem d_R_isVertical_8 : decode b_R_isVertical 8 = .ok (.getfield 41, 3) := by decide +kernel
theorem d_R_isVertical_11 : decode b_R_isVertical 11 = .ok (.aload_n 0, 1) := by decide +kernel
theorem d_R_isVertical_12 : decode b_R_isVertical 12 = .ok (.getfield 68, 3) := by decide +kernel
theorem d_R_isVertical_15 : decode b_R_isVertical 15 = .ok (.iconst 1, 1) := by decide +kernel
theorem d_R_isVertical_16 : decode b_R_isVertical 16 = .ok (.isub, 1) := by decide +kernel
theorem d_R_isVertical_17 : decode b_R_isVertical 17 = .ok (.baload, 1) := by decide +kernel
theorem d_R_isVertical_18 : decode b_R_isVertical 18 = .ok (.ifCond .eq 7, 3) := by decide +kernel
theorem d_R_isVertical_21 : decode b_R_isVertical 21 = .ok (.iconst 1, 1) := by decide +kernel
theorem d_R_isVertical_22 : decode b_R_isVertical 22 = .ok (.goto 4, 3) := by decide +kernel
theorem d_R_isVertical_25 : decode b_R_isVertical 25 = .ok (.iconst 0, 1) := by decide +kernel
theorem d_R_isVertical_26 : decode b_R_isVertical 26 = .ok (.ireturn, 1) := by decide +kernel
abbrev b_R_item : ByteArray := prog_7_method_36_code
def y_R_item : MethodName := ⟨"BoxDeskModel", "item", "(III)I"⟩
theorem d_R_item_0 : decode b_R_item 0 = .ok (.aload_n 0, 1) := by decide +kernel
theorem d_R_item_1 : decode b_R_item 1 = .ok (.iload_n 1, 1) := by decide +kernel
theorem d_R_item_2 : decode b_R_item 2 = .ok (.invokevirtual 157, 3) := by decide +kernel
theorem d_R_item_5 : decode b_R_item 5 = .ok (.ifCond .eq 16, 3) := by decide +kernel
theorem d_R_item_8 : decode b_R_item 8 = .ok (.iload_n 2, 1) := by decide +kernel
theorem d_R_item_9 : decode b_R_item 9 = .ok (.ifCond .lt 12, 3) := by decide +kernel
theorem d_R_item_12 : decode b_R_item 12 = .ok (.iload_n 3, 1) := by decide +kernel
theorem d_R_item_13 : decode b_R_item 13 = .ok (.ifCond .lt 8, 3) := by decide +kernel
theorem d_R_item_16 : decode b_R_item 16 = .ok (.iload_n 3, 1) := by decide +kernel
theorem d_R_item_17 : decode b_R_item 17 = .ok (.iconst 5, 1) := by decide +kernel
theorem d_R_item_18 : decode b_R_item 18 = .ok (.if_icmp .le 9, 3) := by decide +kernel
theorem d_R_item_21 : decode b_R_item 21 = .ok (.aload_n 0, 1) := by decide +kernel
theorem d_R_item_22 : decode b_R_item 22 = .ok (.iconst 1, 1) := by decide +kernel
theorem d_R_item_23 : decode b_R_item 23 = .ok (.invokevirtual 130, 3) := by decide +kernel
theorem d_R_item_26 : decode b_R_item 26 = .ok (.ireturn, 1) := by decide +kernel
theorem d_R_item_27 : decode b_R_item 27 = .ok (.aload_n 0, 1) := by decide +kernel
theorem d_R_item_28 : decode b_R_item 28 = .ok (.iload_n 1, 1) := by decide +kernel
theorem d_R_item_29 : decode b_R_item 29 = .ok (.invokevirtual 122, 3) := by decide +kernel
theorem d_R_item_32 : decode b_R_item 32 = .ok (.istore 4, 2) := by decide +kernel
theorem d_R_item_34 : decode b_R_item 34 = .ok (.iload_n 2, 1) := by decide +kernel
theorem d_R_item_35 : decode b_R_item 35 = .ok (.aload_n 0, 1) := by decide +kernel
theorem d_R_item_36 : decode b_R_item 36 = .ok (.iload 4, 2) := by decide +kernel
theorem d_R_item_38 : decode b_R_item 38 = .ok (.invokevirtual 160, 3) := by decide +kernel
theorem d_R_item_41 : decode b_R_item 41 = .ok (.if_icmp .lt 9, 3) := by decide +kernel
theorem d_R_item_44 : decode b_R_item 44 = .ok (.aload_n 0, 1) := by decide +kernel
theorem d_R_item_45 : decode b_R_item 45 = .ok (.iconst 1, 1) := by decide +kernel
theorem d_R_item_46 : decode b_R_item 46 = .ok (.invokevirtual 130, 3) := by decide +kernel
theorem d_R_item_49 : decode b_R_item 49 = .ok (.ireturn, 1) := by decide +kernel
theorem d_R_item_50 : decode b_R_item 50 = .ok (.aload_n 0, 1) := by decide +kernel
theorem d_R_item_51 : decode b_R_item 51 = .ok (.iconst 0, 1) := by decide +kernel
theorem d_R_item_52 : decode b_R_item 52 = .ok (.putfield 51, 3) := by decide +kernel
theorem d_R_item_55 : decode b_R_item 55 = .ok (.iload 4, 2) := by decide +kernel
theorem d_R_item_57 : decode b_R_item 57 = .ok (.iconst 1, 1) := by decide +kernel
theorem d_R_item_58 : decode b_R_item 58 = .ok (.iadd, 1) := by decide +kernel
theorem d_R_item_59 : decode b_R_item 59 = .ok (.istore 5, 2) := by decide +kernel
theorem d_R_item_61 : decode b_R_item 61 = .ok (.iconst 0, 1) := by decide +kernel
theorem d_R_item_62 : decode b_R_item 62 = .ok (.istore 6, 2) := by decide +kernel
theorem d_R_item_64 : decode b_R_item 64 = .ok (.iload 6, 2) := by decide +kernel
theorem d_R_item_66 : decode b_R_item 66 = .ok (.iload_n 2, 1) := by decide +kernel
theorem d_R_item_67 : decode b_R_item 67 = .ok (.if_icmp .ge 21, 3) := by decide +kernel
theorem d_R_item_70 : decode b_R_item 70 = .ok (.iload 5, 2) := by decide +kernel
theorem d_R_item_72 : decode b_R_item 72 = .ok (.aload_n 0, 1) := by decide +kernel
theorem d_R_item_73 : decode b_R_item 73 = .ok (.getfield 35, 3) := by decide +kernel
theorem d_R_item_76 : decode b_R_item 76 = .ok (.iload 5, 2) := by decide +kernel
theorem d_R_item_78 : decode b_R_item 78 = .ok (.iaload, 1) := by decide +kernel
theorem d_R_item_79 : decode b_R_item 79 = .ok (.iadd, 1) := by decide +kernel
theorem d_R_item_80 : decode b_R_item 80 = .ok (.istore 5, 2) := by decide +kernel
theorem d_R_item_82 : decode b_R_item 82 = .ok (.iinc 6 1, 3) := by decide +kernel
theorem d_R_item_85 : decode b_R_item 85 = .ok (.goto (-21), 3) := by decide +kernel
theorem d_R_item_88 : decode b_R_item 88 = .ok (.iload_n 3, 1) := by decide +kernel
theorem d_R_item_89 : decode b_R_item 89 = .ok (.ifCond .ne 11, 3) := by decide +kernel
theorem d_R_item_92 : decode b_R_item 92 = .ok (.aload_n 0, 1) := by decide +kernel
theorem d_R_item_93 : decode b_R_item 93 = .ok (.getfield 7, 3) := by decide +kernel
theorem d_R_item_96 : decode b_R_item 96 = .ok (.iload 5, 2) := by decide +kernel
theorem d_R_item_98 : decode b_R_item 98 = .ok (.iaload, 1) := by decide +kernel
theorem d_R_item_99 : decode b_R_item 99 = .ok (.ireturn, 1) := by decide +kernel
theorem d_R_item_100 : decode b_R_item 100 = .ok (.aload_n 0, 1) := by decide +kernel
theorem d_R_item_101 : decode b_R_item 101 = .ok (.getfield 7, 3) := by decide +kernel
theorem d_R_item_104 : decode b_R_item 104 = .ok (.iload 5, 2) := by decide +kernel
theorem d_R_item_106 : decode b_R_item 106 = .ok (.iaload, 1) := by decide +kernel
theorem d_R_item_107 : decode b_R_item 107 = .ok (.iconst 5, 1) := by decide +kernel
theorem d_R_item_108 : decode b_R_item 108 = .ok (.if_icmp .ne 94, 3) := by decide +kernel
theorem d_R_item_111 : decode b_R_item 111 = .ok (.aload_n 0, 1) := by decide +kernel
theorem d_R_item_112 : decode b_R_item 112 = .ok (.getfield 13, 3) := by decide +kernel
theorem d_R_item_115 : decode b_R_item 115 = .ok (.iload 5, 2) := by decide +kernel
theorem d_R_item_117 : decode b_R_item 117 = .ok (.iaload, 1) := by decide +kernel
theorem d_R_item_118 : decode b_R_item 118 = .ok (.i2l, 1) := by decide +kernel
theorem d_R_item_119 : decode b_R_item 119 = .ok (.aload_n 0, 1) := by decide +kernel
theorem d_R_item_120 : decode b_R_item 120 = .ok (.getfield 31, 3) := by decide +kernel
theorem d_R_item_123 : decode b_R_item 123 = .ok (.iload 5, 2) := by decide +kernel
theorem d_R_item_125 : decode b_R_item 125 = .ok (.laload, 1) := by decide +kernel
theorem d_R_item_126 : decode b_R_item 126 = .ok (.ladd, 1) := by decide +kernel
theorem d_R_item_127 : decode b_R_item 127 = .ok (.lstore 6, 2) := by decide +kernel
theorem d_R_item_129 : decode b_R_item 129 = .ok (.iload_n 3, 1) := by decide +kernel
theorem d_R_item_130 : decode b_R_item 130 = .ok (.iconst 1, 1) := by decide +kernel
theorem d_R_item_131 : decode b_R_item 131 = .ok (.if_icmp .ne 39, 3) := by decide +kernel
theorem d_R_item_134 : decode b_R_item 134 = .ok (.lload 6, 2) := by decide +kernel
theorem d_R_item_136 : decode b_R_item 136 = .ok (.ldc2_w 163, 3) := by decide +kernel
theorem d_R_item_139 : decode b_R_item 139 = .ok (.lcmp, 1) := by decide +kernel
theorem d_R_item_140 : decode b_R_item 140 = .ok (.ifCond .le 9, 3) := by decide +kernel
theorem d_R_item_143 : decode b_R_item 143 = .ok (.ldc2_w 163, 3) := by decide +kernel
theorem d_R_item_146 : decode b_R_item 146 = .ok (.goto 20, 3) := by decide +kernel
theorem d_R_item_149 : decode b_R_item 149 = .ok (.lload 6, 2) := by decide +kernel
theorem d_R_item_151 : decode b_R_item 151 = .ok (.ldc2_w 165, 3) := by decide +kernel
theorem d_R_item_154 : decode b_R_item 154 = .ok (.lcmp, 1) := by decide +kernel
theorem d_R_item_155 : decode b_R_item 155 = .ok (.ifCond .ge 9, 3) := by decide +kernel
theorem d_R_item_158 : decode b_R_item 158 = .ok (.ldc2_w 165, 3) := by decide +kernel
theorem d_R_item_161 : decode b_R_item 161 = .ok (.goto 5, 3) := by decide +kernel
theorem d_R_item_164 : decode b_R_item 164 = .ok (.lload 6, 2) := by decide +kernel
theorem d_R_item_166 : decode b_R_item 166 = .ok (.l2i, 1) := by decide +kernel
theorem d_R_item_167 : decode b_R_item 167 = .ok (.goto 34, 3) := by decide +kernel
theorem d_R_item_170 : decode b_R_item 170 = .ok (.iload_n 3, 1) := by decide +kernel
theorem d_R_item_171 : decode b_R_item 171 = .ok (.iconst 4, 1) := by decide +kernel
theorem d_R_item_172 : decode b_R_item 172 = .ok (.if_icmp .ne 13, 3) := by decide +kernel
theorem d_R_item_175 : decode b_R_item 175 = .ok (.aload_n 0, 1) := by decide +kernel
theorem d_R_item_176 : decode b_R_item 176 = .ok (.getfield 22, 3) := by decide +kernel
theorem d_R_item_179 : decode b_R_item 179 = .ok (.iload 5, 2) := by decide +kernel
theorem d_R_item_181 : decode b_R_item 181 = .ok (.iaload, 1) := by decide +kernel
theorem d_R_item_182 : decode b_R_item 182 = .ok (.goto 19, 3) := by decide +kernel
theorem d_R_item_185 : decode b_R_item 185 = .ok (.iload_n 3, 1) := by decide +kernel
theorem d_R_item_186 : decode b_R_item 186 = .ok (.iconst 5, 1) := by decide +kernel
theorem d_R_item_187 : decode b_R_item 187 = .ok (.if_icmp .ne 13, 3) := by decide +kernel
theorem d_R_item_190 : decode b_R_item 190 = .ok (.aload_n 0, 1) := by decide +kernel
theorem d_R_item_191 : decode b_R_item 191 = .ok (.getfield 28, 3) := by decide +kernel
theorem d_R_item_194 : decode b_R_item 194 = .ok (.iload 5, 2) := by decide +kernel
theorem d_R_item_196 : decode b_R_item 196 = .ok (.iaload, 1) := by decide +kernel
theorem d_R_item_197 : decode b_R_item 197 = .ok (.goto 4, 3) := by decide +kernel
theorem d_R_item_200 : decode b_R_item 200 = .ok (.iconst 0, 1) := by decide +kernel
theorem d_R_item_201 : decode b_R_item 201 = .ok (.ireturn, 1) := by decide +kernel
theorem d_R_item_202 : decode b_R_item 202 = .ok (.iload_n 3, 1) := by decide +kernel
theorem d_R_item_203 : decode b_R_item 203 = .ok (.iconst 1, 1) := by decide +kernel
theorem d_R_item_204 : decode b_R_item 204 = .ok (.if_icmp .ne 13, 3) := by decide +kernel
theorem d_R_item_207 : decode b_R_item 207 = .ok (.aload_n 0, 1) := by decide +kernel
theorem d_R_item_208 : decode b_R_item 208 = .ok (.getfield 13, 3) := by decide +kernel
theorem d_R_item_211 : decode b_R_item 211 = .ok (.iload 5, 2) := by decide +kernel
theorem d_R_item_213 : decode b_R_item 213 = .ok (.iaload, 1) := by decide +kernel
theorem d_R_item_214 : decode b_R_item 214 = .ok (.goto 58, 3) := by decide +kernel
theorem d_R_item_217 : decode b_R_item 217 = .ok (.iload_n 3, 1) := by decide +kernel
theorem d_R_item_218 : decode b_R_item 218 = .ok (.iconst 2, 1) := by decide +kernel
theorem d_R_item_219 : decode b_R_item 219 = .ok (.if_icmp .ne 13, 3) := by decide +kernel
theorem d_R_item_222 : decode b_R_item 222 = .ok (.aload_n 0, 1) := by decide +kernel
theorem d_R_item_223 : decode b_R_item 223 = .ok (.getfield 16, 3) := by decide +kernel
theorem d_R_item_226 : decode b_R_item 226 = .ok (.iload 5, 2) := by decide +kernel
theorem d_R_item_228 : decode b_R_item 228 = .ok (.iaload, 1) := by decide +kernel
theorem d_R_item_229 : decode b_R_item 229 = .ok (.goto 43, 3) := by decide +kernel
theorem d_R_item_232 : decode b_R_item 232 = .ok (.iload_n 3, 1) := by decide +kernel
theorem d_R_item_233 : decode b_R_item 233 = .ok (.iconst 3, 1) := by decide +kernel
theorem d_R_item_234 : decode b_R_item 234 = .ok (.if_icmp .ne 13, 3) := by decide +kernel
theorem d_R_item_237 : decode b_R_item 237 = .ok (.aload_n 0, 1) := by decide +kernel
theorem d_R_item_238 : decode b_R_item 238 = .ok (.getfield 19, 3) := by decide +kernel
theorem d_R_item_241 : decode b_R_item 241 = .ok (.iload 5, 2) := by decide +kernel
theorem d_R_item_243 : decode b_R_item 243 = .ok (.iaload, 1) := by decide +kernel
theorem d_R_item_244 : decode b_R_item 244 = .ok (.goto 28, 3) := by decide +kernel
theorem d_R_item_247 : decode b_R_item 247 = .ok (.iload_n 3, 1) := by decide +kernel
theorem d_R_item_248 : decode b_R_item 248 = .ok (.iconst 4, 1) := by decide +kernel
theorem d_R_item_249 : decode b_R_item 249 = .ok (.if_icmp .ne 22, 3) := by decide +kernel
theorem d_R_item_252 : decode b_R_item 252 = .ok (.aload_n 0, 1) := by decide +kernel
theorem d_R_item_253 : decode b_R_item 253 = .ok (.iload 5, 2) := by decide +kernel
theorem d_R_item_255 : decode b_R_item 255 = .ok (.invokevirtual 87, 3) := by decide +kernel
theorem d_R_item_258 : decode b_R_item 258 = .ok (.ifCond .eq 13, 3) := by decide +kernel
theorem d_R_item_261 : decode b_R_item 261 = .ok (.aload_n 0, 1) := by decide +kernel
theorem d_R_item_262 : decode b_R_item 262 = .ok (.getfield 22, 3) := by decide +kernel
theorem d_R_item_265 : decode b_R_item 265 = .ok (.iload 5, 2) := by decide +kernel
theorem d_R_item_267 : decode b_R_item 267 = .ok (.iaload, 1) := by decide +kernel
theorem d_R_item_268 : decode b_R_item 268 = .ok (.goto 4, 3) := by decide +kernel
theorem d_R_item_271 : decode b_R_item 271 = .ok (.iconst 0, 1) := by decide +kernel
theorem d_R_item_272 : decode b_R_item 272 = .ok (.ireturn, 1) := by decide +kernel
abbrev b_R_items : ByteArray := prog_7_method_34_code
def y_R_items : MethodName := ⟨"BoxDeskModel", "items", "(I)I"⟩
theorem d_R_items_0 : decode b_R_items 0 = .ok (.iconst 0, 1) := by decide +kernel
theorem d_R_items_1 : decode b_R_items 1 = .ok (.istore_n 2, 1) := by decide +kernel
theorem d_R_items_2 : decode b_R_items 2 = .ok (.iload_n 1, 1) := by decide +kernel
theorem d_R_items_3 : decode b_R_items 3 = .ok (.iconst 1, 1) := by decide +kernel
theorem d_R_items_4 : decode b_R_items 4 = .ok (.iadd, 1) := by decide +kernel
theorem d_R_items_5 : decode b_R_items 5 = .ok (.istore_n 3, 1) := by decide +kernel
theorem d_R_items_6 : decode b_R_items 6 = .ok (.iload_n 3, 1) := by decide +kernel
theorem d_R_items_7 : decode b_R_items 7 = .ok (.iload_n 1, 1) := by decide +kernel
theorem d_R_items_8 : decode b_R_items 8 = .ok (.aload_n 0, 1) := by decide +kernel
theorem d_R_items_9 : decode b_R_items 9 = .ok (.getfield 35, 3) := by decide +kernel
theorem d_R_items_12 : decode b_R_items 12 = .ok (.iload_n 1, 1) := by decide +kernel
theorem d_R_items_13 : decode b_R_items 13 = .ok (.iaload, 1) := by decide +kernel
theorem d_R_items_14 : decode b_R_items 14 = .ok (.iadd, 1) := by decide +kernel
theorem d_R_items_15 : decode b_R_items 15 = .ok (.if_icmp .ge 18, 3) := by decide +kernel
theorem d_R_items_18 : decode b_R_items 18 = .ok (.iinc 2 1, 3) := by decide +kernel
theorem d_R_items_21 : decode b_R_items 21 = .ok (.iload_n 3, 1) := by decide +kernel
theorem d_R_items_22 : decode b_R_items 22 = .ok (.aload_n 0, 1) := by decide +kernel
theorem d_R_items_23 : decode b_R_items 23 = .ok (.getfield 35, 3) := by decide +kernel
theorem d_R_items_26 : decode b_R_items 26 = .ok (.iload_n 3, 1) := by decide +kernel
theorem d_R_items_27 : decode b_R_items 27 = .ok (.iaload, 1) := by decide +kernel
theorem d_R_items_28 : decode b_R_items 28 = .ok (.iadd, 1) := by decide +kernel
theorem d_R_items_29 : decode b_R_items 29 = .ok (.istore_n 3, 1) := by decide +kernel
theorem d_R_items_30 : decode b_R_items 30 = .ok (.goto (-24), 3) := by decide +kernel
theorem d_R_items_33 : decode b_R_items 33 = .ok (.iload_n 2, 1) := by decide +kernel
theorem d_R_items_34 : decode b_R_items 34 = .ok (.ireturn, 1) := by decide +kernel
abbrev b_R_kern : ByteArray := prog_7_method_16_code
def y_R_kern : MethodName := ⟨"BoxDeskModel", "kern", "(I)Z"⟩
theorem d_R_kern_0 : decode b_R_kern 0 = .ok (.aload_n 0, 1) := by decide +kernel
theorem d_R_kern_1 : decode b_R_kern 1 = .ok (.iload_n 1, 1) := by decide +kernel
theorem d_R_kern_2 : decode b_R_kern 2 = .ok (.invokestatic 79, 3) := by decide +kernel
theorem d_R_kern_5 : decode b_R_kern 5 = .ok (.bipush 6, 2) := by decide +kernel
theorem d_R_kern_7 : decode b_R_kern 7 = .ok (.iload_n 1, 1) := by decide +kernel
theorem d_R_kern_8 : decode b_R_kern 8 = .ok (.iconst 0, 1) := by decide +kernel
theorem d_R_kern_9 : decode b_R_kern 9 = .ok (.iconst 0, 1) := by decide +kernel
theorem d_R_kern_10 : decode b_R_kern 10 = .ok (.iconst 0, 1) := by decide +kernel
theorem d_R_kern_11 : decode b_R_kern 11 = .ok (.iconst 0, 1) := by decide +kernel
theorem d_R_kern_12 : decode b_R_kern 12 = .ok (.iconst 0, 1) := by decide +kernel
theorem d_R_kern_13 : decode b_R_kern 13 = .ok (.invokevirtual 82, 3) := by decide +kernel
theorem d_R_kern_16 : decode b_R_kern 16 = .ok (.ireturn, 1) := by decide +kernel
abbrev b_R_make : ByteArray := prog_7_method_28_code
def y_R_make : MethodName := ⟨"BoxDeskModel", "make", "(II)V"⟩
theorem d_R_make_0 : decode b_R_make 0 = .ok (.aload_n 0, 1) := by decide +kernel
theorem d_R_make_1 : decode b_R_make 1 = .ok (.iload_n 1, 1) := by decide +kernel
theorem d_R_make_2 : decode b_R_make 2 = .ok (.invokevirtual 122, 3) := by decide +kernel
theorem d_R_make_5 : decode b_R_make 5 = .ok (.istore_n 3, 1) := by decide +kernel
theorem d_R_make_6 : decode b_R_make 6 = .ok (.sipush 4100, 3) := by decide +kernel
theorem d_R_make_9 : decode b_R_make 9 = .ok (.aload_n 0, 1) := by decide +kernel
theorem d_R_make_10 : decode b_R_make 10 = .ok (.invokevirtual 64, 3) := by decide +kernel
theorem d_R_make_13 : decode b_R_make 13 = .ok (.iadd, 1) := by decide +kernel
theorem d_R_make_14 : decode b_R_make 14 = .ok (.iconst 1, 1) := by decide +kernel
theorem d_R_make_15 : decode b_R_make 15 = .ok (.isub, 1) := by decide +kernel
theorem d_R_make_16 : decode b_R_make 16 = .ok (.istore 4, 2) := by decide +kernel
theorem d_R_make_18 : decode b_R_make 18 = .ok (.iload 4, 2) := by decide +kernel
theorem d_R_make_20 : decode b_R_make 20 = .ok (.iload_n 3, 1) := by decide +kernel
theorem d_R_make_21 : decode b_R_make 21 = .ok (.if_icmp .lt 19, 3) := by decide +kernel
theorem d_R_make_24 : decode b_R_make 24 = .ok (.aload_n 0, 1) := by decide +kernel
theorem d_R_make_25 : decode b_R_make 25 = .ok (.iload 4, 2) := by decide +kernel
theorem d_R_make_27 : decode b_R_make 27 = .ok (.iload 4, 2) := by decide +kernel
theorem d_R_make_29 : decode b_R_make 29 = .ok (.iload_n 2, 1) := by decide +kernel
theorem d_R_make_30 : decode b_R_make 30 = .ok (.iadd, 1) := by decide +kernel
theorem d_R_make_31 : decode b_R_make 31 = .ok (.invokevirtual 126, 3) := by decide +kernel
theorem d_R_make_34 : decode b_R_make 34 = .ok (.iinc 4 (-1), 3) := by decide +kernel
theorem d_R_make_37 : decode b_R_make 37 = .ok (.goto (-19), 3) := by decide +kernel
theorem d_R_make_40 : decode b_R_make 40 = .ok (.aload_n 0, 1) := by decide +kernel
theorem d_R_make_41 : decode b_R_make 41 = .ok (.getfield 45, 3) := by decide +kernel
theorem d_R_make_44 : decode b_R_make 44 = .ok (.iload_n 1, 1) := by decide +kernel
theorem d_R_make_45 : decode b_R_make 45 = .ok (.iload_n 2, 1) := by decide +kernel
theorem d_R_make_46 : decode b_R_make 46 = .ok (.iastore, 1) := by decide +kernel
theorem d_R_make_47 : decode b_R_make 47 = .ok (.return_, 1) := by decide +kernel
abbrev b_R_measure : ByteArray := prog_7_method_21_code
def y_R_measure : MethodName := ⟨"BoxDeskModel", "measure", "(I)V"⟩
theorem d_R_measure_0 : decode b_R_measure 0 = .ok (.aload_n 0, 1) := by decide +kernel
theorem d_R_measure_1 : decode b_R_measure 1 = .ok (.lconst 0, 1) := by decide +kernel
theorem d_R_measure_2 : decode b_R_measure 2 = .ok (.putfield 90, 3) := by decide +kernel
theorem d_R_measure_5 : decode b_R_measure 5 = .ok (.aload_n 0, 1) := by decide +kernel
theorem d_R_measure_6 : decode b_R_measure 6 = .ok (.lconst 0, 1) := by decide +kernel
theorem d_R_measure_7 : decode b_R_measure 7 = .ok (.putfield 94, 3) := by decide +kernel
theorem d_R_measure_10 : decode b_R_measure 10 = .ok (.aload_n 0, 1) := by decide +kernel
theorem d_R_measure_11 : decode b_R_measure 11 = .ok (.lconst 0, 1) := by decide +kernel
theorem d_R_measure_12 : decode b_R_measure 12 = .ok (.putfield 97, 3) := by decide +kernel
theorem d_R_measure_15 : decode b_R_measure 15 = .ok (.aload_n 0, 1) := by decide +kernel
theorem d_R_measure_16 : decode b_R_measure 16 = .ok (.lconst 0, 1) := by decide +kernel
theorem d_R_measure_17 : decode b_R_measure 17 = .ok (.putfield 100, 3) := by decide +kernel
theorem d_R_measure_20 : decode b_R_measure 20 = .ok (.aload_n 0, 1) := by decide +kernel
theorem d_R_measure_21 : decode b_R_measure 21 = .ok (.lconst 0, 1) := by decide +kernel
theorem d_R_measure_22 : decode b_R_measure 22 = .ok (.putfield 103, 3) := by decide +kernel
theorem d_R_measure_25 : decode b_R_measure 25 = .ok (.iconst 0, 1) := by decide +kernel
theorem d_R_measure_26 : decode b_R_measure 26 = .ok (.istore_n 2, 1) := by decide +kernel
theorem d_R_measure_27 : decode b_R_measure 27 = .ok (.iload_n 2, 1) := by decide +kernel
theorem d_R_measure_28 : decode b_R_measure 28 = .ok (.iconst 4, 1) := by decide +kernel
theorem d_R_measure_29 : decode b_R_measure 29 = .ok (.if_icmp .ge 16, 3) := by decide +kernel
theorem d_R_measure_32 : decode b_R_measure 32 = .ok (.aload_n 0, 1) := by decide +kernel
theorem d_R_measure_33 : decode b_R_measure 33 = .ok (.getfield 48, 3) := by decide +kernel
theorem d_R_measure_36 : decode b_R_measure 36 = .ok (.iload_n 2, 1) := by decide +kernel
theorem d_R_measure_37 : decode b_R_measure 37 = .ok (.lconst 0, 1) := by decide +kernel
theorem d_R_measure_38 : decode b_R_measure 38 = .ok (.lastore, 1) := by decide +kernel
theorem d_R_measure_39 : decode b_R_measure 39 = .ok (.iinc 2 1, 3) := by decide +kernel
theorem d_R_measure_42 : decode b_R_measure 42 = .ok (.goto (-15), 3) := by decide +kernel
theorem d_R_measure_45 : decode b_R_measure 45 = .ok (.iload_n 1, 1) := by decide +kernel
theorem d_R_measure_46 : decode b_R_measure 46 = .ok (.istore_n 2, 1) := by decide +kernel
theorem d_R_measure_47 : decode b_R_measure 47 = .ok (.iload_n 2, 1) := by decide +kernel
theorem d_R_measure_48 : decode b_R_measure 48 = .ok (.aload_n 0, 1) := by decide +kernel
theorem d_R_measure_49 : decode b_R_measure 49 = .ok (.getfield 61, 3) := by decide +kernel
theorem d_R_measure_52 : decode b_R_measure 52 = .ok (.if_icmp .ge 62, 3) := by decide +kernel
theorem d_R_measure_55 : decode b_R_measure 55 = .ok (.aload_n 0, 1) := by decide +kernel
theorem d_R_measure_56 : decode b_R_measure 56 = .ok (.getfield 7, 3) := by decide +kernel
theorem d_R_measure_59 : decode b_R_measure 59 = .ok (.iload_n 2, 1) := by decide +kernel
theorem d_R_measure_60 : decode b_R_measure 60 = .ok (.iaload, 1) := by decide +kernel
theorem d_R_measure_61 : decode b_R_measure 61 = .ok (.iconst 5, 1) := by decide +kernel
theorem d_R_measure_62 : decode b_R_measure 62 = .ok (.if_icmp .ne 40, 3) := by decide +kernel
theorem d_R_measure_65 : decode b_R_measure 65 = .ok (.aload_n 0, 1) := by decide +kernel
theorem d_R_measure_66 : decode b_R_measure 66 = .ok (.getfield 48, 3) := by decide +kernel
theorem d_R_measure_69 : decode b_R_measure 69 = .ok (.aload_n 0, 1) := by decide +kernel
theorem d_R_measure_70 : decode b_R_measure 70 = .ok (.getfield 25, 3) := by decide +kernel
theorem d_R_measure_73 : decode b_R_measure 73 = .ok (.iload_n 2, 1) := by decide +kernel
theorem d_R_measure_74 : decode b_R_measure 74 = .ok (.iaload, 1) := by decide +kernel
theorem d_R_measure_75 : decode b_R_measure 75 = .ok (.dup2, 1) := by decide +kernel
theorem d_R_measure_76 : decode b_R_measure 76 = .ok (.laload, 1) := by decide +kernel
theorem d_R_measure_77 : decode b_R_measure 77 = .ok (.aload_n 0, 1) := by decide +kernel
theorem d_R_measure_78 : decode b_R_measure 78 = .ok (.getfield 22, 3) := by decide +kernel
theorem d_R_measure_81 : decode b_R_measure 81 = .ok (.iload_n 2, 1) := by decide +kernel
theorem d_R_measure_82 : decode b_R_measure 82 = .ok (.iaload, 1) := by decide +kernel
theorem d_R_measure_83 : decode b_R_measure 83 = .ok (.i2l, 1) := by decide +kernel
theorem d_R_measure_84 : decode b_R_measure 84 = .ok (.ladd, 1) := by decide +kernel
theorem d_R_measure_85 : decode b_R_measure 85 = .ok (.lastore, 1) := by decide +kernel
theorem d_R_measure_86 : decode b_R_measure 86 = .ok (.aload_n 0, 1) := by decide +kernel
theorem d_R_measure_87 : decode b_R_measure 87 = .ok (.dup, 1) := by decide +kernel
theorem d_R_measure_88 : decode b_R_measure 88 = .ok (.getfield 103, 3) := by decide +kernel
theorem d_R_measure_91 : decode b_R_measure 91 = .ok (.aload_n 0, 1) := by decide +kernel
theorem d_R_measure_92 : decode b_R_measure 92 = .ok (.getfield 28, 3) := by decide +kernel
theorem d_R_measure_95 : decode b_R_measure 95 = .ok (.iload_n 2, 1) := by decide +kernel
theorem d_R_measure_96 : decode b_R_measure 96 = .ok (.iaload, 1) := by decide +kernel
theorem d_R_measure_97 : decode b_R_measure 97 = .ok (.i2l, 1) := by decide +kernel
theorem d_R_measure_98 : decode b_R_measure 98 = .ok (.ladd, 1) := by decide +kernel
theorem d_R_measure_99 : decode b_R_measure 99 = .ok (.putfield 103, 3) := by decide +kernel
theorem d_R_measure_102 : decode b_R_measure 102 = .ok (.iload_n 2, 1) := by decide +kernel
theorem d_R_measure_103 : decode b_R_measure 103 = .ok (.aload_n 0, 1) := by decide +kernel
theorem d_R_measure_104 : decode b_R_measure 104 = .ok (.getfield 35, 3) := by decide +kernel
theorem d_R_measure_107 : decode b_R_measure 107 = .ok (.iload_n 2, 1) := by decide +kernel
theorem d_R_measure_108 : decode b_R_measure 108 = .ok (.iaload, 1) := by decide +kernel
theorem d_R_measure_109 : decode b_R_measure 109 = .ok (.iadd, 1) := by decide +kernel
theorem d_R_measure_110 : decode b_R_measure 110 = .ok (.istore_n 2, 1) := by decide +kernel
theorem d_R_measure_111 : decode b_R_measure 111 = .ok (.goto (-64), 3) := by decide +kernel
theorem d_R_measure_114 : decode b_R_measure 114 = .ok (.return_, 1) := by decide +kernel
abbrev b_R_measureHigh : ByteArray := prog_7_method_23_code
def y_R_measureHigh : MethodName := ⟨"BoxDeskModel", "measureHigh", "(II)V"⟩
theorem d_R_measureHigh_0 : decode b_R_measureHigh 0 = .ok (.aload_n 0, 1) := by decide +kernel
theorem d_R_measureHigh_1 : decode b_R_measureHigh 1 = .ok (.iload_n 1, 1) := by decide +kernel
theorem d_R_measureHigh_2 : decode b_R_measureHigh 2 = .ok (.invokevirtual 106, 3) := by decide +kernel
theorem d_R_measureHigh_5 : decode b_R_measureHigh 5 = .ok (.iconst (-1), 1) := by decide +kernel
theorem d_R_measureHigh_6 : decode b_R_measureHigh 6 = .ok (.istore_n 3, 1) := by decide +kernel
theorem d_R_measureHigh_7 : decode b_R_measureHigh 7 = .ok (.iload_n 1, 1) := by decide +kernel
theorem d_R_measureHigh_8 : decode b_R_measureHigh 8 = .ok (.istore 4, 2) := by decide +kernel
theorem d_R_measureHigh_10 : decode b_R_measureHigh 10 = .ok (.iload 4, 2) := by decide +kernel
theorem d_R_measureHigh_12 : decode b_R_measureHigh 12 = .ok (.aload_n 0, 1) := by decide +kernel
theorem d_R_measureHigh_13 : decode b_R_measureHigh 13 = .ok (.getfield 61, 3) := by decide +kernel
theorem d_R_measureHigh_16 : decode b_R_measureHigh 16 = .ok (.if_icmp .ge 161, 3) := by decide +kernel
theorem d_R_measureHigh_19 : decode b_R_measureHigh 19 = .ok (.aload_n 0, 1) := by decide +kernel
theorem d_R_measureHigh_20 : decode b_R_measureHigh 20 = .ok (.iload 4, 2) := by decide +kernel
theorem d_R_measureHigh_22 : decode b_R_measureHigh 22 = .ok (.invokevirtual 87, 3) := by decide +kernel
theorem d_R_measureHigh_25 : decode b_R_measureHigh 25 = .ok (.ifCond .eq 14, 3) := by decide +kernel
theorem d_R_measureHigh_28 : decode b_R_measureHigh 28 = .ok (.aload_n 0, 1) := by decide +kernel
theorem d_R_measureHigh_29 : decode b_R_measureHigh 29 = .ok (.getfield 22, 3) := by decide +kernel
theorem d_R_measureHigh_32 : decode b_R_measureHigh 32 = .ok (.iload 4, 2) := by decide +kernel
theorem d_R_measureHigh_34 : decode b_R_measureHigh 34 = .ok (.iaload, 1) := by decide +kernel
theorem d_R_measureHigh_35 : decode b_R_measureHigh 35 = .ok (.i2l, 1) := by decide +kernel
theorem d_R_measureHigh_36 : decode b_R_measureHigh 36 = .ok (.goto 4, 3) := by decide +kernel
theorem d_R_measureHigh_39 : decode b_R_measureHigh 39 = .ok (.lconst 0, 1) := by decide +kernel
theorem d_R_measureHigh_40 : decode b_R_measureHigh 40 = .ok (.lstore 5, 2) := by decide +kernel
theorem d_R_measureHigh_42 : decode b_R_measureHigh 42 = .ok (.aload_n 0, 1) := by decide +kernel
theorem d_R_measureHigh_43 : decode b_R_measureHigh 43 = .ok (.dup, 1) := by decide +kernel
theorem d_R_measureHigh_44 : decode b_R_measureHigh 44 = .ok (.getfield 90, 3) := by decide +kernel
theorem d_R_measureHigh_47 : decode b_R_measureHigh 47 = .ok (.aload_n 0, 1) := by decide +kernel
theorem d_R_measureHigh_48 : decode b_R_measureHigh 48 = .ok (.iload 4, 2) := by decide +kernel
theorem d_R_measureHigh_50 : decode b_R_measureHigh 50 = .ok (.invokevirtual 110, 3) := by decide +kernel
theorem d_R_measureHigh_53 : decode b_R_measureHigh 53 = .ok (.ifCond .eq 23, 3) := by decide +kernel
theorem d_R_measureHigh_56 : decode b_R_measureHigh 56 = .ok (.aload_n 0, 1) := by decide +kernel
theorem d_R_measureHigh_57 : decode b_R_measureHigh 57 = .ok (.getfield 16, 3) := by decide +kernel
theorem d_R_measureHigh_60 : decode b_R_measureHigh 60 = .ok (.iload 4, 2) := by decide +kernel
theorem d_R_measureHigh_62 : decode b_R_measureHigh 62 = .ok (.iaload, 1) := by decide +kernel
theorem d_R_measureHigh_63 : decode b_R_measureHigh 63 = .ok (.i2l, 1) := by decide +kernel
theorem d_R_measureHigh_64 : decode b_R_measureHigh 64 = .ok (.aload_n 0, 1) := by decide +kernel
theorem d_R_measureHigh_65 : decode b_R_measureHigh 65 = .ok (.getfield 19, 3) := by decide +kernel
theorem d_R_measureHigh_68 : decode b_R_measureHigh 68 = .ok (.iload 4, 2) := by decide +kernel
theorem d_R_measureHigh_70 : decode b_R_measureHigh 70 = .ok (.iaload, 1) := by decide +kernel
theorem d_R_measureHigh_71 : decode b_R_measureHigh 71 = .ok (.i2l, 1) := by decide +kernel
theorem d_R_measureHigh_72 : decode b_R_measureHigh 72 = .ok (.ladd, 1) := by decide +kernel
theorem d_R_measureHigh_73 : decode b_R_measureHigh 73 = .ok (.goto 27, 3) := by decide +kernel
theorem d_R_measureHigh_76 : decode b_R_measureHigh 76 = .ok (.aload_n 0, 1) := by decide +kernel
theorem d_R_measureHigh_77 : decode b_R_measureHigh 77 = .ok (.getfield 7, 3) := by decide +kernel
theorem d_R_measureHigh_80 : decode b_R_measureHigh 80 = .ok (.iload 4, 2) := by decide +kernel
theorem d_R_measureHigh_82 : decode b_R_measureHigh 82 = .ok (.iaload, 1) := by decide +kernel
theorem d_R_measureHigh_83 : decode b_R_measureHigh 83 = .ok (.bipush 7, 2) := by decide +kernel
theorem d_R_measureHigh_85 : decode b_R_measureHigh 85 = .ok (.if_icmp .ne 7, 3) := by decide +kernel
theorem d_R_measureHigh_88 : decode b_R_measureHigh 88 = .ok (.lconst 0, 1) := by decide +kernel
theorem d_R_measureHigh_89 : decode b_R_measureHigh 89 = .ok (.goto 11, 3) := by decide +kernel
theorem d_R_measureHigh_92 : decode b_R_measureHigh 92 = .ok (.aload_n 0, 1) := by decide +kernel
theorem d_R_measureHigh_93 : decode b_R_measureHigh 93 = .ok (.getfield 13, 3) := by decide +kernel
theorem d_R_measureHigh_96 : decode b_R_measureHigh 96 = .ok (.iload 4, 2) := by decide +kernel
theorem d_R_measureHigh_98 : decode b_R_measureHigh 98 = .ok (.iaload, 1) := by decide +kernel
theorem d_R_measureHigh_99 : decode b_R_measureHigh 99 = .ok (.i2l, 1) := by decide +kernel
theorem d_R_measureHigh_100 : decode b_R_measureHigh 100 = .ok (.ladd, 1) := by decide +kernel
theorem d_R_measureHigh_101 : decode b_R_measureHigh 101 = .ok (.putfield 90, 3) := by decide +kernel
theorem d_R_measureHigh_104 : decode b_R_measureHigh 104 = .ok (.aload_n 0, 1) := by decide +kernel
theorem d_R_measureHigh_105 : decode b_R_measureHigh 105 = .ok (.iload 4, 2) := by decide +kernel
theorem d_R_measureHigh_107 : decode b_R_measureHigh 107 = .ok (.invokevirtual 110, 3) := by decide +kernel
theorem d_R_measureHigh_110 : decode b_R_measureHigh 110 = .ok (.ifCond .eq 49, 3) := by decide +kernel
theorem d_R_measureHigh_113 : decode b_R_measureHigh 113 = .ok (.aload_n 0, 1) := by decide +kernel
theorem d_R_measureHigh_114 : decode b_R_measureHigh 114 = .ok (.getfield 13, 3) := by decide +kernel
theorem d_R_measureHigh_117 : decode b_R_measureHigh 117 = .ok (.iload 4, 2) := by decide +kernel
theorem d_R_measureHigh_119 : decode b_R_measureHigh 119 = .ok (.iaload, 1) := by decide +kernel
theorem d_R_measureHigh_120 : decode b_R_measureHigh 120 = .ok (.ldc 86, 2) := by decide +kernel
theorem d_R_measureHigh_122 : decode b_R_measureHigh 122 = .ok (.if_icmp .eq 37, 3) := by decide +kernel
theorem d_R_measureHigh_125 : decode b_R_measureHigh 125 = .ok (.aload_n 0, 1) := by decide +kernel
theorem d_R_measureHigh_126 : decode b_R_measureHigh 126 = .ok (.getfield 13, 3) := by decide +kernel
theorem d_R_measureHigh_129 : decode b_R_measureHigh 129 = .ok (.iload 4, 2) := by decide +kernel
theorem d_R_measureHigh_131 : decode b_R_measureHigh 131 = .ok (.iaload, 1) := by decide +kernel
theorem d_R_measureHigh_132 : decode b_R_measureHigh 132 = .ok (.i2l, 1) := by decide +kernel
theorem d_R_measureHigh_133 : decode b_R_measureHigh 133 = .ok (.lload 5, 2) := by decide +kernel
theorem d_R_measureHigh_135 : decode b_R_measureHigh 135 = .ok (.ladd, 1) := by decide +kernel
theorem d_R_measureHigh_136 : decode b_R_measureHigh 136 = .ok (.aload_n 0, 1) := by decide +kernel
theorem d_R_measureHigh_137 : decode b_R_measureHigh 137 = .ok (.getfield 100, 3) := by decide +kernel
theorem d_R_measureHigh_140 : decode b_R_measureHigh 140 = .ok (.lcmp, 1) := by decide +kernel
theorem d_R_measureHigh_141 : decode b_R_measureHigh 141 = .ok (.ifCond .le 18, 3) := by decide +kernel
theorem d_R_measureHigh_144 : decode b_R_measureHigh 144 = .ok (.aload_n 0, 1) := by decide +kernel
theorem d_R_measureHigh_145 : decode b_R_measureHigh 145 = .ok (.aload_n 0, 1) := by decide +kernel
theorem d_R_measureHigh_146 : decode b_R_measureHigh 146 = .ok (.getfield 13, 3) := by decide +kernel
theorem d_R_measureHigh_149 : decode b_R_measureHigh 149 = .ok (.iload 4, 2) := by decide +kernel
theorem d_R_measureHigh_151 : decode b_R_measureHigh 151 = .ok (.iaload, 1) := by decide +kernel
theorem d_R_measureHigh_152 : decode b_R_measureHigh 152 = .ok (.i2l, 1) := by decide +kernel
theorem d_R_measureHigh_153 : decode b_R_measureHigh 153 = .ok (.lload 5, 2) := by decide +kernel
theorem d_R_measureHigh_155 : decode b_R_measureHigh 155 = .ok (.ladd, 1) := by decide +kernel
theorem d_R_measureHigh_156 : decode b_R_measureHigh 156 = .ok (.putfield 100, 3) := by decide +kernel
theorem d_R_measureHigh_159 : decode b_R_measureHigh 159 = .ok (.iload 4, 2) := by decide +kernel
theorem d_R_measureHigh_161 : decode b_R_measureHigh 161 = .ok (.istore_n 3, 1) := by decide +kernel
theorem d_R_measureHigh_162 : decode b_R_measureHigh 162 = .ok (.iload 4, 2) := by decide +kernel
theorem d_R_measureHigh_164 : decode b_R_measureHigh 164 = .ok (.aload_n 0, 1) := by decide +kernel
theorem d_R_measureHigh_165 : decode b_R_measureHigh 165 = .ok (.getfield 35, 3) := by decide +kernel
theorem d_R_measureHigh_168 : decode b_R_measureHigh 168 = .ok (.iload 4, 2) := by decide +kernel
theorem d_R_measureHigh_170 : decode b_R_measureHigh 170 = .ok (.iaload, 1) := by decide +kernel
theorem d_R_measureHigh_171 : decode b_R_measureHigh 171 = .ok (.iadd, 1) := by decide +kernel
theorem d_R_measureHigh_172 : decode b_R_measureHigh 172 = .ok (.istore 4, 2) := by decide +kernel
theorem d_R_measureHigh_174 : decode b_R_measureHigh 174 = .ok (.goto (-164), 3) := by decide +kernel
theorem d_R_measureHigh_177 : decode b_R_measureHigh 177 = .ok (.aload_n 0, 1) := by decide +kernel
theorem d_R_measureHigh_178 : decode b_R_measureHigh 178 = .ok (.iload_n 3, 1) := by decide +kernel
theorem d_R_measureHigh_179 : decode b_R_measureHigh 179 = .ok (.ifCond .lt 21, 3) := by decide +kernel
theorem d_R_measureHigh_182 : decode b_R_measureHigh 182 = .ok (.aload_n 0, 1) := by decide +kernel
theorem d_R_measureHigh_183 : decode b_R_measureHigh 183 = .ok (.iload_n 3, 1) := by decide +kernel
theorem d_R_measureHigh_184 : decode b_R_measureHigh 184 = .ok (.invokevirtual 110, 3) := by decide +kernel
theorem d_R_measureHigh_187 : decode b_R_measureHigh 187 = .ok (.ifCond .eq 13, 3) := by decide +kernel
theorem d_R_measureHigh_190 : decode b_R_measureHigh 190 = .ok (.aload_n 0, 1) := by decide +kernel
theorem d_R_measureHigh_191 : decode b_R_measureHigh 191 = .ok (.getfield 19, 3) := by decide +kernel
theorem d_R_measureHigh_194 : decode b_R_measureHigh 194 = .ok (.iload_n 3, 1) := by decide +kernel
theorem d_R_measureHigh_195 : decode b_R_measureHigh 195 = .ok (.iaload, 1) := by decide +kernel
theorem d_R_measureHigh_196 : decode b_R_measureHigh 196 = .ok (.i2l, 1) := by decide +kernel
theorem d_R_measureHigh_197 : decode b_R_measureHigh 197 = .ok (.goto 4, 3) := by decide +kernel
theorem d_R_measureHigh_200 : decode b_R_measureHigh 200 = .ok (.lconst 0, 1) := by decide +kernel
theorem d_R_measureHigh_201 : decode b_R_measureHigh 201 = .ok (.putfield 97, 3) := by decide +kernel
theorem d_R_measureHigh_204 : decode b_R_measureHigh 204 = .ok (.aload_n 0, 1) := by decide +kernel
theorem d_R_measureHigh_205 : decode b_R_measureHigh 205 = .ok (.dup, 1) := by decide +kernel
theorem d_R_measureHigh_206 : decode b_R_measureHigh 206 = .ok (.getfield 90, 3) := by decide +kernel
theorem d_R_measureHigh_209 : decode b_R_measureHigh 209 = .ok (.aload_n 0, 1) := by decide +kernel
theorem d_R_measureHigh_210 : decode b_R_measureHigh 210 = .ok (.getfield 97, 3) := by decide +kernel
theorem d_R_measureHigh_213 : decode b_R_measureHigh 213 = .ok (.lsub, 1) := by decide +kernel
theorem d_R_measureHigh_214 : decode b_R_measureHigh 214 = .ok (.putfield 90, 3) := by decide +kernel
theorem d_R_measureHigh_217 : decode b_R_measureHigh 217 = .ok (.aload_n 0, 1) := by decide +kernel
theorem d_R_measureHigh_218 : decode b_R_measureHigh 218 = .ok (.getfield 97, 3) := by decide +kernel
theorem d_R_measureHigh_221 : decode b_R_measureHigh 221 = .ok (.iload_n 2, 1) := by decide +kernel
theorem d_R_measureHigh_222 : decode b_R_measureHigh 222 = .ok (.i2l, 1) := by decide +kernel
theorem d_R_measureHigh_223 : decode b_R_measureHigh 223 = .ok (.lcmp, 1) := by decide +kernel
theorem d_R_measureHigh_224 : decode b_R_measureHigh 224 = .ok (.ifCond .le 25, 3) := by decide +kernel
theorem d_R_measureHigh_227 : decode b_R_measureHigh 227 = .ok (.aload_n 0, 1) := by decide +kernel
theorem d_R_measureHigh_228 : decode b_R_measureHigh 228 = .ok (.dup, 1) := by decide +kernel
theorem d_R_measureHigh_229 : decode b_R_measureHigh 229 = .ok (.getfield 90, 3) := by decide +kernel
theorem d_R_measureHigh_232 : decode b_R_measureHigh 232 = .ok (.aload_n 0, 1) := by decide +kernel
theorem d_R_measureHigh_233 : decode b_R_measureHigh 233 = .ok (.getfield 97, 3) := by decide +kernel
theorem d_R_measureHigh_236 : decode b_R_measureHigh 236 = .ok (.iload_n 2, 1) := by decide +kernel
theorem d_R_measureHigh_237 : decode b_R_measureHigh 237 = .ok (.i2l, 1) := by decide +kernel
theorem d_R_measureHigh_238 : decode b_R_measureHigh 238 = .ok (.lsub, 1) := by decide +kernel
theorem d_R_measureHigh_239 : decode b_R_measureHigh 239 = .ok (.ladd, 1) := by decide +kernel
theorem d_R_measureHigh_240 : decode b_R_measureHigh 240 = .ok (.putfield 90, 3) := by decide +kernel
theorem d_R_measureHigh_243 : decode b_R_measureHigh 243 = .ok (.aload_n 0, 1) := by decide +kernel
theorem d_R_measureHigh_244 : decode b_R_measureHigh 244 = .ok (.iload_n 2, 1) := by decide +kernel
theorem d_R_measureHigh_245 : decode b_R_measureHigh 245 = .ok (.i2l, 1) := by decide +kernel
theorem d_R_measureHigh_246 : decode b_R_measureHigh 246 = .ok (.putfield 97, 3) := by decide +kernel
theorem d_R_measureHigh_249 : decode b_R_measureHigh 249 = .ok (.return_, 1) := by decide +kernel
abbrev b_R_measureWide : ByteArray := prog_7_method_22_code
def y_R_measureWide : MethodName := ⟨"BoxDeskModel", "measureWide", "(I)V"⟩
theorem d_R_measureWide_0 : decode b_R_measureWide 0 = .ok (.aload_n 0, 1) := by decide +kernel
theorem d_R_measureWide_1 : decode b_R_measureWide 1 = .ok (.iload_n 1, 1) := by decide +kernel
theorem d_R_measureWide_2 : decode b_R_measureWide 2 = .ok (.invokevirtual 106, 3) := by decide +kernel
theorem d_R_measureWide_5 : decode b_R_measureWide 5 = .ok (.iload_n 1, 1) := by decide +kernel
theorem d_R_measureWide_6 : decode b_R_measureWide 6 = .ok (.istore_n 2, 1) := by decide +kernel
theorem d_R_measureWide_7 : decode b_R_measureWide 7 = .ok (.iload_n 2, 1) := by decide +kernel
theorem d_R_measureWide_8 : decode b_R_measureWide 8 = .ok (.aload_n 0, 1) := by decide +kernel
theorem d_R_measureWide_9 : decode b_R_measureWide 9 = .ok (.getfield 61, 3) := by decide +kernel
theorem d_R_measureWide_12 : decode b_R_measureWide 12 = .ok (.if_icmp .ge 164, 3) := by decide +kernel
theorem d_R_measureWide_15 : decode b_R_measureWide 15 = .ok (.aload_n 0, 1) := by decide +kernel
theorem d_R_measureWide_16 : decode b_R_measureWide 16 = .ok (.dup, 1) := by decide +kernel
theorem d_R_measureWide_17 : decode b_R_measureWide 17 = .ok (.getfield 90, 3) := by decide +kernel
theorem d_R_measureWide_20 : decode b_R_measureWide 20 = .ok (.aload_n 0, 1) := by decide +kernel
theorem d_R_measureWide_21 : decode b_R_measureWide 21 = .ok (.getfield 7, 3) := by decide +kernel
theorem d_R_measureWide_24 : decode b_R_measureWide 24 = .ok (.iload_n 2, 1) := by decide +kernel
theorem d_R_measureWide_25 : decode b_R_measureWide 25 = .ok (.iaload, 1) := by decide +kernel
theorem d_R_measureWide_26 : decode b_R_measureWide 26 = .ok (.bipush 7, 2) := by decide +kernel
theorem d_R_measureWide_28 : decode b_R_measureWide 28 = .ok (.if_icmp .ne 7, 3) := by decide +kernel
theorem d_R_measureWide_31 : decode b_R_measureWide 31 = .ok (.lconst 0, 1) := by decide +kernel
theorem d_R_measureWide_32 : decode b_R_measureWide 32 = .ok (.goto 10, 3) := by decide +kernel
theorem d_R_measureWide_35 : decode b_R_measureWide 35 = .ok (.aload_n 0, 1) := by decide +kernel
theorem d_R_measureWide_36 : decode b_R_measureWide 36 = .ok (.getfield 13, 3) := by decide +kernel
theorem d_R_measureWide_39 : decode b_R_measureWide 39 = .ok (.iload_n 2, 1) := by decide +kernel
theorem d_R_measureWide_40 : decode b_R_measureWide 40 = .ok (.iaload, 1) := by decide +kernel
theorem d_R_measureWide_41 : decode b_R_measureWide 41 = .ok (.i2l, 1) := by decide +kernel
theorem d_R_measureWide_42 : decode b_R_measureWide 42 = .ok (.ladd, 1) := by decide +kernel
theorem d_R_measureWide_43 : decode b_R_measureWide 43 = .ok (.putfield 90, 3) := by decide +kernel
theorem d_R_measureWide_46 : decode b_R_measureWide 46 = .ok (.aload_n 0, 1) := by decide +kernel
theorem d_R_measureWide_47 : decode b_R_measureWide 47 = .ok (.iload_n 2, 1) := by decide +kernel
theorem d_R_measureWide_48 : decode b_R_measureWide 48 = .ok (.invokevirtual 87, 3) := by decide +kernel
theorem d_R_measureWide_51 : decode b_R_measureWide 51 = .ok (.ifCond .eq 13, 3) := by decide +kernel
theorem d_R_measureWide_54 : decode b_R_measureWide 54 = .ok (.aload_n 0, 1) := by decide +kernel
theorem d_R_measureWide_55 : decode b_R_measureWide 55 = .ok (.getfield 22, 3) := by decide +kernel
theorem d_R_measureWide_58 : decode b_R_measureWide 58 = .ok (.iload_n 2, 1) := by decide +kernel
theorem d_R_measureWide_59 : decode b_R_measureWide 59 = .ok (.iaload, 1) := by decide +kernel
theorem d_R_measureWide_60 : decode b_R_measureWide 60 = .ok (.i2l, 1) := by decide +kernel
theorem d_R_measureWide_61 : decode b_R_measureWide 61 = .ok (.goto 4, 3) := by decide +kernel
theorem d_R_measureWide_64 : decode b_R_measureWide 64 = .ok (.lconst 0, 1) := by decide +kernel
theorem d_R_measureWide_65 : decode b_R_measureWide 65 = .ok (.lstore_n 3, 1) := by decide +kernel
theorem d_R_measureWide_66 : decode b_R_measureWide 66 = .ok (.aload_n 0, 1) := by decide +kernel
theorem d_R_measureWide_67 : decode b_R_measureWide 67 = .ok (.iload_n 2, 1) := by decide +kernel
theorem d_R_measureWide_68 : decode b_R_measureWide 68 = .ok (.invokevirtual 110, 3) := by decide +kernel
theorem d_R_measureWide_71 : decode b_R_measureWide 71 = .ok (.ifCond .eq 44, 3) := by decide +kernel
theorem d_R_measureWide_74 : decode b_R_measureWide 74 = .ok (.aload_n 0, 1) := by decide +kernel
theorem d_R_measureWide_75 : decode b_R_measureWide 75 = .ok (.getfield 16, 3) := by decide +kernel
theorem d_R_measureWide_78 : decode b_R_measureWide 78 = .ok (.iload_n 2, 1) := by decide +kernel
theorem d_R_measureWide_79 : decode b_R_measureWide 79 = .ok (.iaload, 1) := by decide +kernel
theorem d_R_measureWide_80 : decode b_R_measureWide 80 = .ok (.ldc 86, 2) := by decide +kernel
theorem d_R_measureWide_82 : decode b_R_measureWide 82 = .ok (.if_icmp .eq 33, 3) := by decide +kernel
theorem d_R_measureWide_85 : decode b_R_measureWide 85 = .ok (.aload_n 0, 1) := by decide +kernel
theorem d_R_measureWide_86 : decode b_R_measureWide 86 = .ok (.getfield 16, 3) := by decide +kernel
theorem d_R_measureWide_89 : decode b_R_measureWide 89 = .ok (.iload_n 2, 1) := by decide +kernel
theorem d_R_measureWide_90 : decode b_R_measureWide 90 = .ok (.iaload, 1) := by decide +kernel
theorem d_R_measureWide_91 : decode b_R_measureWide 91 = .ok (.i2l, 1) := by decide +kernel
theorem d_R_measureWide_92 : decode b_R_measureWide 92 = .ok (.lload_n 3, 1) := by decide +kernel
theorem d_R_measureWide_93 : decode b_R_measureWide 93 = .ok (.lsub, 1) := by decide +kernel
theorem d_R_measureWide_94 : decode b_R_measureWide 94 = .ok (.aload_n 0, 1) := by decide +kernel
theorem d_R_measureWide_95 : decode b_R_measureWide 95 = .ok (.getfield 94, 3) := by decide +kernel
theorem d_R_measureWide_98 : decode b_R_measureWide 98 = .ok (.lcmp, 1) := by decide +kernel
theorem d_R_measureWide_99 : decode b_R_measureWide 99 = .ok (.ifCond .le 16, 3) := by decide +kernel
theorem d_R_measureWide_102 : decode b_R_measureWide 102 = .ok (.aload_n 0, 1) := by decide +kernel
theorem d_R_measureWide_103 : decode b_R_measureWide 103 = .ok (.aload_n 0, 1) := by decide +kernel
theorem d_R_measureWide_104 : decode b_R_measureWide 104 = .ok (.getfield 16, 3) := by decide +kernel
theorem d_R_measureWide_107 : decode b_R_measureWide 107 = .ok (.iload_n 2, 1) := by decide +kernel
theorem d_R_measureWide_108 : decode b_R_measureWide 108 = .ok (.iaload, 1) := by decide +kernel
theorem d_R_measureWide_109 : decode b_R_measureWide 109 = .ok (.i2l, 1) := by decide +kernel
theorem d_R_measureWide_110 : decode b_R_measureWide 110 = .ok (.lload_n 3, 1) := by decide +kernel
theorem d_R_measureWide_111 : decode b_R_measureWide 111 = .ok (.lsub, 1) := by decide +kernel
theorem d_R_measureWide_112 : decode b_R_measureWide 112 = .ok (.putfield 94, 3) := by decide +kernel
theorem d_R_measureWide_115 : decode b_R_measureWide 115 = .ok (.aload_n 0, 1) := by decide +kernel
theorem d_R_measureWide_116 : decode b_R_measureWide 116 = .ok (.iload_n 2, 1) := by decide +kernel
theorem d_R_measureWide_117 : decode b_R_measureWide 117 = .ok (.invokevirtual 110, 3) := by decide +kernel
theorem d_R_measureWide_120 : decode b_R_measureWide 120 = .ok (.ifCond .eq 44, 3) := by decide +kernel
theorem d_R_measureWide_123 : decode b_R_measureWide 123 = .ok (.aload_n 0, 1) := by decide +kernel
theorem d_R_measureWide_124 : decode b_R_measureWide 124 = .ok (.getfield 19, 3) := by decide +kernel
theorem d_R_measureWide_127 : decode b_R_measureWide 127 = .ok (.iload_n 2, 1) := by decide +kernel
theorem d_R_measureWide_128 : decode b_R_measureWide 128 = .ok (.iaload, 1) := by decide +kernel
theorem d_R_measureWide_129 : decode b_R_measureWide 129 = .ok (.ldc 86, 2) := by decide +kernel
theorem d_R_measureWide_131 : decode b_R_measureWide 131 = .ok (.if_icmp .eq 33, 3) := by decide +kernel
theorem d_R_measureWide_134 : decode b_R_measureWide 134 = .ok (.aload_n 0, 1) := by decide +kernel
theorem d_R_measureWide_135 : decode b_R_measureWide 135 = .ok (.getfield 19, 3) := by decide +kernel
theorem d_R_measureWide_138 : decode b_R_measureWide 138 = .ok (.iload_n 2, 1) := by decide +kernel
theorem d_R_measureWide_139 : decode b_R_measureWide 139 = .ok (.iaload, 1) := by decide +kernel
theorem d_R_measureWide_140 : decode b_R_measureWide 140 = .ok (.i2l, 1) := by decide +kernel
theorem d_R_measureWide_141 : decode b_R_measureWide 141 = .ok (.lload_n 3, 1) := by decide +kernel
theorem d_R_measureWide_142 : decode b_R_measureWide 142 = .ok (.ladd, 1) := by decide +kernel
theorem d_R_measureWide_143 : decode b_R_measureWide 143 = .ok (.aload_n 0, 1) := by decide +kernel
theorem d_R_measureWide_144 : decode b_R_measureWide 144 = .ok (.getfield 97, 3) := by decide +kernel
theorem d_R_measureWide_147 : decode b_R_measureWide 147 = .ok (.lcmp, 1) := by decide +kernel
theorem d_R_measureWide_148 : decode b_R_measureWide 148 = .ok (.ifCond .le 16, 3) := by decide +kernel
theorem d_R_measureWide_151 : decode b_R_measureWide 151 = .ok (.aload_n 0, 1) := by decide +kernel
theorem d_R_measureWide_152 : decode b_R_measureWide 152 = .ok (.aload_n 0, 1) := by decide +kernel
theorem d_R_measureWide_153 : decode b_R_measureWide 153 = .ok (.getfield 19, 3) := by decide +kernel
theorem d_R_measureWide_156 : decode b_R_measureWide 156 = .ok (.iload_n 2, 1) := by decide +kernel
theorem d_R_measureWide_157 : decode b_R_measureWide 157 = .ok (.iaload, 1) := by decide +kernel
theorem d_R_measureWide_158 : decode b_R_measureWide 158 = .ok (.i2l, 1) := by decide +kernel
theorem d_R_measureWide_159 : decode b_R_measureWide 159 = .ok (.lload_n 3, 1) := by decide +kernel
theorem d_R_measureWide_160 : decode b_R_measureWide 160 = .ok (.ladd, 1) := by decide +kernel
theorem d_R_measureWide_161 : decode b_R_measureWide 161 = .ok (.putfield 97, 3) := by decide +kernel
theorem d_R_measureWide_164 : decode b_R_measureWide 164 = .ok (.iload_n 2, 1) := by decide +kernel
theorem d_R_measureWide_165 : decode b_R_measureWide 165 = .ok (.aload_n 0, 1) := by decide +kernel
theorem d_R_measureWide_166 : decode b_R_measureWide 166 = .ok (.getfield 35, 3) := by decide +kernel
theorem d_R_measureWide_169 : decode b_R_measureWide 169 = .ok (.iload_n 2, 1) := by decide +kernel
theorem d_R_measureWide_170 : decode b_R_measureWide 170 = .ok (.iaload, 1) := by decide +kernel
theorem d_R_measureWide_171 : decode b_R_measureWide 171 = .ok (.iadd, 1) := by decide +kernel
theorem d_R_measureWide_172 : decode b_R_measureWide 172 = .ok (.istore_n 2, 1) := by decide +kernel
theorem d_R_measureWide_173 : decode b_R_measureWide 173 = .ok (.goto (-166), 3) := by decide +kernel
theorem d_R_measureWide_176 : decode b_R_measureWide 176 = .ok (.return_, 1) := by decide +kernel
abbrev b_R_move : ByteArray := prog_7_method_9_code
def y_R_move : MethodName := ⟨"BoxDeskModel", "move", "(II)V"⟩
theorem d_R_move_0 : decode b_R_move 0 = .ok (.aload_n 0, 1) := by decide +kernel
theorem d_R_move_1 : decode b_R_move 1 = .ok (.getfield 7, 3) := by decide +kernel
theorem d_R_move_4 : decode b_R_move 4 = .ok (.iload_n 2, 1) := by decide +kernel
theorem d_R_move_5 : decode b_R_move 5 = .ok (.aload_n 0, 1) := by decide +kernel
theorem d_R_move_6 : decode b_R_move 6 = .ok (.getfield 7, 3) := by decide +kernel
theorem d_R_move_9 : decode b_R_move 9 = .ok (.iload_n 1, 1) := by decide +kernel
theorem d_R_move_10 : decode b_R_move 10 = .ok (.iaload, 1) := by decide +kernel
theorem d_R_move_11 : decode b_R_move 11 = .ok (.iastore, 1) := by decide +kernel
theorem d_R_move_12 : decode b_R_move 12 = .ok (.aload_n 0, 1) := by decide +kernel
theorem d_R_move_13 : decode b_R_move 13 = .ok (.getfield 13, 3) := by decide +kernel
theorem d_R_move_16 : decode b_R_move 16 = .ok (.iload_n 2, 1) := by decide +kernel
theorem d_R_move_17 : decode b_R_move 17 = .ok (.aload_n 0, 1) := by decide +kernel
theorem d_R_move_18 : decode b_R_move 18 = .ok (.getfield 13, 3) := by decide +kernel
theorem d_R_move_21 : decode b_R_move 21 = .ok (.iload_n 1, 1) := by decide +kernel
theorem d_R_move_22 : decode b_R_move 22 = .ok (.iaload, 1) := by decide +kernel
theorem d_R_move_23 : decode b_R_move 23 = .ok (.iastore, 1) := by decide +kernel
theorem d_R_move_24 : decode b_R_move 24 = .ok (.aload_n 0, 1) := by decide +kernel
theorem d_R_move_25 : decode b_R_move 25 = .ok (.getfield 16, 3) := by decide +kernel
theorem d_R_move_28 : decode b_R_move 28 = .ok (.iload_n 2, 1) := by decide +kernel
theorem d_R_move_29 : decode b_R_move 29 = .ok (.aload_n 0, 1) := by decide +kernel
theorem d_R_move_30 : decode b_R_move 30 = .ok (.getfield 16, 3) := by decide +kernel
theorem d_R_move_33 : decode b_R_move 33 = .ok (.iload_n 1, 1) := by decide +kernel
theorem d_R_move_34 : decode b_R_move 34 = .ok (.iaload, 1) := by decide +kernel
theorem d_R_move_35 : decode b_R_move 35 = .ok (.iastore, 1) := by decide +kernel
theorem d_R_move_36 : decode b_R_move 36 = .ok (.aload_n 0, 1) := by decide +kernel
theorem d_R_move_37 : decode b_R_move 37 = .ok (.getfield 19, 3) := by decide +kernel
theorem d_R_move_40 : decode b_R_move 40 = .ok (.iload_n 2, 1) := by decide +kernel
theorem d_R_move_41 : decode b_R_move 41 = .ok (.aload_n 0, 1) := by decide +kernel
theorem d_R_move_42 : decode b_R_move 42 = .ok (.getfield 19, 3) := by decide +kernel
theorem d_R_move_45 : decode b_R_move 45 = .ok (.iload_n 1, 1) := by decide +kernel
theorem d_R_move_46 : decode b_R_move 46 = .ok (.iaload, 1) := by decide +kernel
theorem d_R_move_47 : decode b_R_move 47 = .ok (.iastore, 1) := by decide +kernel
theorem d_R_move_48 : decode b_R_move 48 = .ok (.aload_n 0, 1) := by decide +kernel
theorem d_R_move_49 : decode b_R_move 49 = .ok (.getfield 22, 3) := by decide +kernel
theorem d_R_move_52 : decode b_R_move 52 = .ok (.iload_n 2, 1) := by decide +kernel
theorem d_R_move_53 : decode b_R_move 53 = .ok (.aload_n 0, 1) := by decide +kernel
theorem d_R_move_54 : decode b_R_move 54 = .ok (.getfield 22, 3) := by decide +kernel
theorem d_R_move_57 : decode b_R_move 57 = .ok (.iload_n 1, 1) := by decide +kernel
theorem d_R_move_58 : decode b_R_move 58 = .ok (.iaload, 1) := by decide +kernel
theorem d_R_move_59 : decode b_R_move 59 = .ok (.iastore, 1) := by decide +kernel
theorem d_R_move_60 : decode b_R_move 60 = .ok (.aload_n 0, 1) := by decide +kernel
theorem d_R_move_61 : decode b_R_move 61 = .ok (.getfield 25, 3) := by decide +kernel
theorem d_R_move_64 : decode b_R_move 64 = .ok (.iload_n 2, 1) := by decide +kernel
theorem d_R_move_65 : decode b_R_move 65 = .ok (.aload_n 0, 1) := by decide +kernel
theorem d_R_move_66 : decode b_R_move 66 = .ok (.getfield 25, 3) := by decide +kernel
theorem d_R_move_69 : decode b_R_move 69 = .ok (.iload_n 1, 1) := by decide +kernel
theorem d_R_move_70 : decode b_R_move 70 = .ok (.iaload, 1) := by decide +kernel
theorem d_R_move_71 : decode b_R_move 71 = .ok (.iastore, 1) := by decide +kernel
theorem d_R_move_72 : decode b_R_move 72 = .ok (.aload_n 0, 1) := by decide +kernel
theorem d_R_move_73 : decode b_R_move 73 = .ok (.getfield 28, 3) := by decide +kernel
theorem d_R_move_76 : decode b_R_move 76 = .ok (.iload_n 2, 1) := by decide +kernel
theorem d_R_move_77 : decode b_R_move 77 = .ok (.aload_n 0, 1) := by decide +kernel
theorem d_R_move_78 : decode b_R_move 78 = .ok (.getfield 28, 3) := by decide +kernel
theorem d_R_move_81 : decode b_R_move 81 = .ok (.iload_n 1, 1) := by decide +kernel
theorem d_R_move_82 : decode b_R_move 82 = .ok (.iaload, 1) := by decide +kernel
theorem d_R_move_83 : decode b_R_move 83 = .ok (.iastore, 1) := by decide +kernel
theorem d_R_move_84 : decode b_R_move 84 = .ok (.aload_n 0, 1) := by decide +kernel
theorem d_R_move_85 : decode b_R_move 85 = .ok (.getfield 31, 3) := by decide +kernel
theorem d_R_move_88 : decode b_R_move 88 = .ok (.iload_n 2, 1) := by decide +kernel
theorem d_R_move_89 : decode b_R_move 89 = .ok (.aload_n 0, 1) := by decide +kernel
theorem d_R_move_90 : decode b_R_move 90 = .ok (.getfield 31, 3) := by decide +kernel
theorem d_R_move_93 : decode b_R_move 93 = .ok (.iload_n 1, 1) := by decide +kernel
theorem d_R_move_94 : decode b_R_move 94 = .ok (.laload, 1) := by decide +kernel
theorem d_R_move_95 : decode b_R_move 95 = .ok (.lastore, 1) := by decide +kernel
theorem d_R_move_96 : decode b_R_move 96 = .ok (.aload_n 0, 1) := by decide +kernel
theorem d_R_move_97 : decode b_R_move 97 = .ok (.getfield 35, 3) := by decide +kernel
theorem d_R_move_100 : decode b_R_move 100 = .ok (.iload_n 2, 1) := by decide +kernel
theorem d_R_move_101 : decode b_R_move 101 = .ok (.aload_n 0, 1) := by decide +kernel
theorem d_R_move_102 : decode b_R_move 102 = .ok (.getfield 35, 3) := by decide +kernel
theorem d_R_move_105 : decode b_R_move 105 = .ok (.iload_n 1, 1) := by decide +kernel
theorem d_R_move_106 : decode b_R_move 106 = .ok (.iaload, 1) := by decide +kernel
theorem d_R_move_107 : decode b_R_move 107 = .ok (.iastore, 1) := by decide +kernel
theorem d_R_move_108 : decode b_R_move 108 = .ok (.return_, 1) := by decide +kernel
abbrev b_R_near : ByteArray := prog_7_method_24_code
def y_R_near : MethodName := ⟨"BoxDeskModel", "near", "(JJ)J"⟩
theorem d_R_near_0 : decode b_R_near 0 = .ok (.lload_n 0, 1) := by decide +kernel
theorem d_R_near_1 : decode b_R_near 1 = .ok (.lconst 0, 1) := by decide +kernel
theorem d_R_near_2 : decode b_R_near 2 = .ok (.lcmp, 1) := by decide +kernel
theorem d_R_near_3 : decode b_R_near 3 = .ok (.ifCond .ge 13, 3) := by decide +kernel
theorem d_R_near_6 : decode b_R_near 6 = .ok (.lload_n 0, 1) := by decide +kernel
theorem d_R_near_7 : decode b_R_near 7 = .ok (.lneg, 1) := by decide +kernel
theorem d_R_near_8 : decode b_R_near 8 = .ok (.lload_n 2, 1) := by decide +kernel
theorem d_R_near_9 : decode b_R_near 9 = .ok (.invokestatic 113, 3) := by decide +kernel
theorem d_R_near_12 : decode b_R_near 12 = .ok (.lneg, 1) := by decide +kernel
theorem d_R_near_13 : decode b_R_near 13 = .ok (.goto 8, 3) := by decide +kernel
theorem d_R_near_16 : decode b_R_near 16 = .ok (.lload_n 0, 1) := by decide +kernel
theorem d_R_near_17 : decode b_R_near 17 = .ok (.lload_n 2, 1) := by decide +kernel
theorem d_R_near_18 : decode b_R_near 18 = .ok (.invokestatic 113, 3) := by decide +kernel
theorem d_R_near_21 : decode b_R_near 21 = .ok (.lreturn, 1) := by decide +kernel
abbrev b_R_near0 : ByteArray := prog_7_method_25_code
def y_R_near0 : MethodName := ⟨"BoxDeskModel", "near0", "(JJ)J"⟩
theorem d_R_near0_0 : decode b_R_near0 0 = .ok (.ldc2_w 117, 3) := by decide +kernel
theorem d_R_near0_3 : decode b_R_near0 3 = .ok (.lload_n 0, 1) := by decide +kernel
theorem d_R_near0_4 : decode b_R_near0 4 = .ok (.lmul, 1) := by decide +kernel
theorem d_R_near0_5 : decode b_R_near0 5 = .ok (.lload_n 2, 1) := by decide +kernel
theorem d_R_near0_6 : decode b_R_near0 6 = .ok (.ladd, 1) := by decide +kernel
theorem d_R_near0_7 : decode b_R_near0 7 = .ok (.ldc2_w 117, 3) := by decide +kernel
theorem d_R_near0_10 : decode b_R_near0 10 = .ok (.lload_n 2, 1) := by decide +kernel
theorem d_R_near0_11 : decode b_R_near0 11 = .ok (.lmul, 1) := by decide +kernel
theorem d_R_near0_12 : decode b_R_near0 12 = .ok (.ldiv, 1) := by decide +kernel
theorem d_R_near0_13 : decode b_R_near0 13 = .ok (.lreturn, 1) := by decide +kernel
abbrev b_R_nested : ByteArray := prog_7_method_20_code
def y_R_nested : MethodName := ⟨"BoxDeskModel", "nested", "(II)I"⟩
theorem d_R_nested_0 : decode b_R_nested 0 = .ok (.iconst 0, 1) := by decide +kernel
theorem d_R_nested_1 : decode b_R_nested 1 = .ok (.istore_n 3, 1) := by decide +kernel
theorem d_R_nested_2 : decode b_R_nested 2 = .ok (.iload_n 1, 1) := by decide +kernel
theorem d_R_nested_3 : decode b_R_nested 3 = .ok (.istore 4, 2) := by decide +kernel
theorem d_R_nested_5 : decode b_R_nested 5 = .ok (.iload 4, 2) := by decide +kernel
theorem d_R_nested_7 : decode b_R_nested 7 = .ok (.iload_n 2, 1) := by decide +kernel
theorem d_R_nested_8 : decode b_R_nested 8 = .ok (.if_icmp .ge 75, 3) := by decide +kernel
theorem d_R_nested_11 : decode b_R_nested 11 = .ok (.iconst 0, 1) := by decide +kernel
theorem d_R_nested_12 : decode b_R_nested 12 = .ok (.istore 5, 2) := by decide +kernel
theorem d_R_nested_14 : decode b_R_nested 14 = .ok (.iload_n 1, 1) := by decide +kernel
theorem d_R_nested_15 : decode b_R_nested 15 = .ok (.istore 6, 2) := by decide +kernel
theorem d_R_nested_17 : decode b_R_nested 17 = .ok (.iload 6, 2) := by decide +kernel
theorem d_R_nested_19 : decode b_R_nested 19 = .ok (.iload 4, 2) := by decide +kernel
theorem d_R_nested_21 : decode b_R_nested 21 = .ok (.if_icmp .gt 43, 3) := by decide +kernel
theorem d_R_nested_24 : decode b_R_nested 24 = .ok (.iload 5, 2) := by decide +kernel
theorem d_R_nested_26 : decode b_R_nested 26 = .ok (.aload_n 0, 1) := by decide +kernel
theorem d_R_nested_27 : decode b_R_nested 27 = .ok (.iload 6, 2) := by decide +kernel
theorem d_R_nested_29 : decode b_R_nested 29 = .ok (.invokevirtual 87, 3) := by decide +kernel
theorem d_R_nested_32 : decode b_R_nested 32 = .ok (.ifCond .eq 22, 3) := by decide +kernel
theorem d_R_nested_35 : decode b_R_nested 35 = .ok (.iload 6, 2) := by decide +kernel
theorem d_R_nested_37 : decode b_R_nested 37 = .ok (.aload_n 0, 1) := by decide +kernel
theorem d_R_nested_38 : decode b_R_nested 38 = .ok (.getfield 35, 3) := by decide +kernel
theorem d_R_nested_41 : decode b_R_nested 41 = .ok (.iload 6, 2) := by decide +kernel
theorem d_R_nested_43 : decode b_R_nested 43 = .ok (.iaload, 1) := by decide +kernel
theorem d_R_nested_44 : decode b_R_nested 44 = .ok (.iadd, 1) := by decide +kernel
theorem d_R_nested_45 : decode b_R_nested 45 = .ok (.iload 4, 2) := by decide +kernel
theorem d_R_nested_47 : decode b_R_nested 47 = .ok (.if_icmp .le 7, 3) := by decide +kernel
theorem d_R_nested_50 : decode b_R_nested 50 = .ok (.iconst 1, 1) := by decide +kernel
theorem d_R_nested_51 : decode b_R_nested 51 = .ok (.goto 4, 3) := by decide +kernel
theorem d_R_nested_54 : decode b_R_nested 54 = .ok (.iconst 0, 1) := by decide +kernel
theorem d_R_nested_55 : decode b_R_nested 55 = .ok (.iadd, 1) := by decide +kernel
theorem d_R_nested_56 : decode b_R_nested 56 = .ok (.istore 5, 2) := by decide +kernel
theorem d_R_nested_58 : decode b_R_nested 58 = .ok (.iinc 6 1, 3) := by decide +kernel
theorem d_R_nested_61 : decode b_R_nested 61 = .ok (.goto (-44), 3) := by decide +kernel
theorem d_R_nested_64 : decode b_R_nested 64 = .ok (.iload 5, 2) := by decide +kernel
theorem d_R_nested_66 : decode b_R_nested 66 = .ok (.iload_n 3, 1) := by decide +kernel
theorem d_R_nested_67 : decode b_R_nested 67 = .ok (.if_icmp .le 8, 3) := by decide +kernel
theorem d_R_nested_70 : decode b_R_nested 70 = .ok (.iload 5, 2) := by decide +kernel
theorem d_R_nested_72 : decode b_R_nested 72 = .ok (.goto 4, 3) := by decide +kernel
theorem d_R_nested_75 : decode b_R_nested 75 = .ok (.iload_n 3, 1) := by decide +kernel
theorem d_R_nested_76 : decode b_R_nested 76 = .ok (.istore_n 3, 1) := by decide +kernel
theorem d_R_nested_77 : decode b_R_nested 77 = .ok (.iinc 4 1, 3) := by decide +kernel
theorem d_R_nested_80 : decode b_R_nested 80 = .ok (.goto (-75), 3) := by decide +kernel
theorem d_R_nested_83 : decode b_R_nested 83 = .ok (.iload_n 3, 1) := by decide +kernel
theorem d_R_nested_84 : decode b_R_nested 84 = .ok (.ireturn, 1) := by decide +kernel
abbrev b_R_open : ByteArray := prog_7_method_10_code
def y_R_open : MethodName := ⟨"BoxDeskModel", "open", "(Z)Z"⟩
theorem d_R_open_0 : decode b_R_open 0 = .ok (.aload_n 0, 1) := by decide +kernel
theorem d_R_open_1 : decode b_R_open 1 = .ok (.iconst 0, 1) := by decide +kernel
theorem d_R_open_2 : decode b_R_open 2 = .ok (.putfield 51, 3) := by decide +kernel
theorem d_R_open_5 : decode b_R_open 5 = .ok (.aload_n 0, 1) := by decide +kernel
theorem d_R_open_6 : decode b_R_open 6 = .ok (.getfield 68, 3) := by decide +kernel
theorem d_R_open_9 : decode b_R_open 9 = .ok (.bipush 100, 2) := by decide +kernel
theorem d_R_open_11 : decode b_R_open 11 = .ok (.if_icmp .ne 5, 3) := by decide +kernel
theorem d_R_open_14 : decode b_R_open 14 = .ok (.iconst 0, 1) := by decide +kernel
theorem d_R_open_15 : decode b_R_open 15 = .ok (.ireturn, 1) := by decide +kernel
theorem d_R_open_16 : decode b_R_open 16 = .ok (.aload_n 0, 1) := by decide +kernel
theorem d_R_open_17 : decode b_R_open 17 = .ok (.getfield 38, 3) := by decide +kernel
theorem d_R_open_20 : decode b_R_open 20 = .ok (.aload_n 0, 1) := by decide +kernel
theorem d_R_open_21 : decode b_R_open 21 = .ok (.getfield 68, 3) := by decide +kernel
theorem d_R_open_24 : decode b_R_open 24 = .ok (.aload_n 0, 1) := by decide +kernel
theorem d_R_open_25 : decode b_R_open 25 = .ok (.getfield 61, 3) := by decide +kernel
theorem d_R_open_28 : decode b_R_open 28 = .ok (.iastore, 1) := by decide +kernel
theorem d_R_open_29 : decode b_R_open 29 = .ok (.aload_n 0, 1) := by decide +kernel
theorem d_R_open_30 : decode b_R_open 30 = .ok (.getfield 41, 3) := by decide +kernel
theorem d_R_open_33 : decode b_R_open 33 = .ok (.aload_n 0, 1) := by decide +kernel
theorem d_R_open_34 : decode b_R_open 34 = .ok (.getfield 68, 3) := by decide +kernel
theorem d_R_open_37 : decode b_R_open 37 = .ok (.iload_n 1, 1) := by decide +kernel
theorem d_R_open_38 : decode b_R_open 38 = .ok (.bastore, 1) := by decide +kernel
theorem d_R_open_39 : decode b_R_open 39 = .ok (.aload_n 0, 1) := by decide +kernel
theorem d_R_open_40 : decode b_R_open 40 = .ok (.dup, 1) := by decide +kernel
theorem d_R_open_41 : decode b_R_open 41 = .ok (.getfield 68, 3) := by decide +kernel
theorem d_R_open_44 : decode b_R_open 44 = .ok (.iconst 1, 1) := by decide +kernel
theorem d_R_open_45 : decode b_R_open 45 = .ok (.iadd, 1) := by decide +kernel
theorem d_R_open_46 : decode b_R_open 46 = .ok (.putfield 68, 3) := by decide +kernel
theorem d_R_open_49 : decode b_R_open 49 = .ok (.iconst 1, 1) := by decide +kernel
theorem d_R_open_50 : decode b_R_open 50 = .ok (.ireturn, 1) := by decide +kernel
abbrev b_R_penalty : ByteArray := prog_7_method_17_code
def y_R_penalty : MethodName := ⟨"BoxDeskModel", "penalty", "(I)Z"⟩
theorem d_R_penalty_0 : decode b_R_penalty 0 = .ok (.aload_n 0, 1) := by decide +kernel
theorem d_R_penalty_1 : decode b_R_penalty 1 = .ok (.iconst 1, 1) := by decide +kernel
theorem d_R_penalty_2 : decode b_R_penalty 2 = .ok (.bipush 7, 2) := by decide +kernel
theorem d_R_penalty_4 : decode b_R_penalty 4 = .ok (.iload_n 1, 1) := by decide +kernel
theorem d_R_penalty_5 : decode b_R_penalty 5 = .ok (.iconst 0, 1) := by decide +kernel
theorem d_R_penalty_6 : decode b_R_penalty 6 = .ok (.iconst 0, 1) := by decide +kernel
theorem d_R_penalty_7 : decode b_R_penalty 7 = .ok (.iconst 0, 1) := by decide +kernel
theorem d_R_penalty_8 : decode b_R_penalty 8 = .ok (.iconst 0, 1) := by decide +kernel
theorem d_R_penalty_9 : decode b_R_penalty 9 = .ok (.iconst 0, 1) := by decide +kernel
theorem d_R_penalty_10 : decode b_R_penalty 10 = .ok (.invokevirtual 82, 3) := by decide +kernel
theorem d_R_penalty_13 : decode b_R_penalty 13 = .ok (.ireturn, 1) := by decide +kernel
abbrev b_R_put : ByteArray := prog_7_method_31_code
def y_R_put : MethodName := ⟨"BoxDeskModel", "put", "(IIZ)Z"⟩
theorem d_R_put_0 : decode b_R_put 0 = .ok (.aload_n 0, 1) := by decide +kernel
theorem d_R_put_1 : decode b_R_put 1 = .ok (.iconst 0, 1) := by decide +kernel
theorem d_R_put_2 : decode b_R_put 2 = .ok (.putfield 51, 3) := by decide +kernel
theorem d_R_put_5 : decode b_R_put 5 = .ok (.aload_n 0, 1) := by decide +kernel
theorem d_R_put_6 : decode b_R_put 6 = .ok (.getfield 68, 3) := by decide +kernel
theorem d_R_put_9 : decode b_R_put 9 = .ok (.ifCond .eq 35, 3) := by decide +kernel
theorem d_R_put_12 : decode b_R_put 12 = .ok (.aload_n 0, 1) := by decide +kernel
theorem d_R_put_13 : decode b_R_put 13 = .ok (.iload_n 1, 1) := by decide +kernel
theorem d_R_put_14 : decode b_R_put 14 = .ok (.invokevirtual 157, 3) := by decide +kernel
theorem d_R_put_17 : decode b_R_put 17 = .ok (.ifCond .eq 27, 3) := by decide +kernel
theorem d_R_put_20 : decode b_R_put 20 = .ok (.iload_n 2, 1) := by decide +kernel
theorem d_R_put_21 : decode b_R_put 21 = .ok (.invokestatic 79, 3) := by decide +kernel
theorem d_R_put_24 : decode b_R_put 24 = .ok (.ifCond .eq 20, 3) := by decide +kernel
theorem d_R_put_27 : decode b_R_put 27 = .ok (.iload_n 3, 1) := by decide +kernel
theorem d_R_put_28 : decode b_R_put 28 = .ok (.ifCond .eq 18, 3) := by decide +kernel
theorem d_R_put_31 : decode b_R_put 31 = .ok (.aload_n 0, 1) := by decide +kernel
theorem d_R_put_32 : decode b_R_put 32 = .ok (.aload_n 0, 1) := by decide +kernel
theorem d_R_put_33 : decode b_R_put 33 = .ok (.getfield 45, 3) := by decide +kernel
theorem d_R_put_36 : decode b_R_put 36 = .ok (.iload_n 1, 1) := by decide +kernel
theorem d_R_put_37 : decode b_R_put 37 = .ok (.iaload, 1) := by decide +kernel
theorem d_R_put_38 : decode b_R_put 38 = .ok (.invokevirtual 71, 3) := by decide +kernel
theorem d_R_put_41 : decode b_R_put 41 = .ok (.ifCond .ne 5, 3) := by decide +kernel
theorem d_R_put_44 : decode b_R_put 44 = .ok (.iconst 0, 1) := by decide +kernel
theorem d_R_put_45 : decode b_R_put 45 = .ok (.ireturn, 1) := by decide +kernel
theorem d_R_put_46 : decode b_R_put 46 = .ok (.aload_n 0, 1) := by decide +kernel
theorem d_R_put_47 : decode b_R_put 47 = .ok (.iload_n 1, 1) := by decide +kernel
theorem d_R_put_48 : decode b_R_put 48 = .ok (.invokevirtual 122, 3) := by decide +kernel
theorem d_R_put_51 : decode b_R_put 51 = .ok (.istore 4, 2) := by decide +kernel
theorem d_R_put_53 : decode b_R_put 53 = .ok (.aload_n 0, 1) := by decide +kernel
theorem d_R_put_54 : decode b_R_put 54 = .ok (.getfield 45, 3) := by decide +kernel
theorem d_R_put_57 : decode b_R_put 57 = .ok (.iload_n 1, 1) := by decide +kernel
theorem d_R_put_58 : decode b_R_put 58 = .ok (.iaload, 1) := by decide +kernel
theorem d_R_put_59 : decode b_R_put 59 = .ok (.istore 5, 2) := by decide +kernel
theorem d_R_put_61 : decode b_R_put 61 = .ok (.iconst 0, 1) := by decide +kernel
theorem d_R_put_62 : decode b_R_put 62 = .ok (.istore 6, 2) := by decide +kernel
theorem d_R_put_64 : decode b_R_put 64 = .ok (.iload 6, 2) := by decide +kernel
theorem d_R_put_66 : decode b_R_put 66 = .ok (.iload 5, 2) := by decide +kernel
theorem d_R_put_68 : decode b_R_put 68 = .ok (.if_icmp .ge 25, 3) := by decide +kernel
theorem d_R_put_71 : decode b_R_put 71 = .ok (.aload_n 0, 1) := by decide +kernel
theorem d_R_put_72 : decode b_R_put 72 = .ok (.iload 4, 2) := by decide +kernel
theorem d_R_put_74 : decode b_R_put 74 = .ok (.iload 6, 2) := by decide +kernel
theorem d_R_put_76 : decode b_R_put 76 = .ok (.iadd, 1) := by decide +kernel
theorem d_R_put_77 : decode b_R_put 77 = .ok (.aload_n 0, 1) := by decide +kernel
theorem d_R_put_78 : decode b_R_put 78 = .ok (.getfield 61, 3) := by decide +kernel
theorem d_R_put_81 : decode b_R_put 81 = .ok (.iload 6, 2) := by decide +kernel
theorem d_R_put_83 : decode b_R_put 83 = .ok (.iadd, 1) := by decide +kernel
theorem d_R_put_84 : decode b_R_put 84 = .ok (.invokevirtual 126, 3) := by decide +kernel
theorem d_R_put_87 : decode b_R_put 87 = .ok (.iinc 6 1, 3) := by decide +kernel
theorem d_R_put_90 : decode b_R_put 90 = .ok (.goto (-26), 3) := by decide +kernel
theorem d_R_put_93 : decode b_R_put 93 = .ok (.aload_n 0, 1) := by decide +kernel
theorem d_R_put_94 : decode b_R_put 94 = .ok (.getfield 22, 3) := by decide +kernel
theorem d_R_put_97 : decode b_R_put 97 = .ok (.aload_n 0, 1) := by decide +kernel
theorem d_R_put_98 : decode b_R_put 98 = .ok (.getfield 61, 3) := by decide +kernel
theorem d_R_put_101 : decode b_R_put 101 = .ok (.iload_n 2, 1) := by decide +kernel
theorem d_R_put_102 : decode b_R_put 102 = .ok (.iastore, 1) := by decide +kernel
theorem d_R_put_103 : decode b_R_put 103 = .ok (.aload_n 0, 1) := by decide +kernel
theorem d_R_put_104 : decode b_R_put 104 = .ok (.dup, 1) := by decide +kernel
theorem d_R_put_105 : decode b_R_put 105 = .ok (.getfield 61, 3) := by decide +kernel
theorem d_R_put_108 : decode b_R_put 108 = .ok (.iload 5, 2) := by decide +kernel
theorem d_R_put_110 : decode b_R_put 110 = .ok (.iadd, 1) := by decide +kernel
theorem d_R_put_111 : decode b_R_put 111 = .ok (.putfield 61, 3) := by decide +kernel
theorem d_R_put_114 : decode b_R_put 114 = .ok (.iload_n 3, 1) := by decide +kernel
theorem d_R_put_115 : decode b_R_put 115 = .ok (.ifCond .ne 8, 3) := by decide +kernel
theorem d_R_put_118 : decode b_R_put 118 = .ok (.aload_n 0, 1) := by decide +kernel
theorem d_R_put_119 : decode b_R_put 119 = .ok (.iload_n 1, 1) := by decide +kernel
theorem d_R_put_120 : decode b_R_put 120 = .ok (.invokevirtual 151, 3) := by decide +kernel
theorem d_R_put_123 : decode b_R_put 123 = .ok (.iconst 1, 1) := by decide +kernel
theorem d_R_put_124 : decode b_R_put 124 = .ok (.ireturn, 1) := by decide +kernel
abbrev b_R_rule : ByteArray := prog_7_method_14_code
def y_R_rule : MethodName := ⟨"BoxDeskModel", "rule", "(IIII)Z"⟩
theorem d_R_rule_0 : decode b_R_rule 0 = .ok (.aload_n 0, 1) := by decide +kernel
theorem d_R_rule_1 : decode b_R_rule 1 = .ok (.invokevirtual 75, 3) := by decide +kernel
theorem d_R_rule_4 : decode b_R_rule 4 = .ok (.ifCond .eq 22, 3) := by decide +kernel
theorem d_R_rule_7 : decode b_R_rule 7 = .ok (.iload 4, 2) := by decide +kernel
theorem d_R_rule_9 : decode b_R_rule 9 = .ok (.ifCond .eq 9, 3) := by decide +kernel
theorem d_R_rule_12 : decode b_R_rule 12 = .ok (.iload 4, 2) := by decide +kernel
theorem d_R_rule_14 : decode b_R_rule 14 = .ok (.iconst 1, 1) := by decide +kernel
theorem d_R_rule_15 : decode b_R_rule 15 = .ok (.if_icmp .ne 7, 3) := by decide +kernel
theorem d_R_rule_18 : decode b_R_rule 18 = .ok (.iconst 1, 1) := by decide +kernel
theorem d_R_rule_19 : decode b_R_rule 19 = .ok (.goto 36, 3) := by decide +kernel
theorem d_R_rule_22 : decode b_R_rule 22 = .ok (.iconst 0, 1) := by decide +kernel
theorem d_R_rule_23 : decode b_R_rule 23 = .ok (.goto 32, 3) := by decide +kernel
theorem d_R_rule_26 : decode b_R_rule 26 = .ok (.iload 4, 2) := by decide +kernel
theorem d_R_rule_28 : decode b_R_rule 28 = .ok (.ifCond .eq 22, 3) := by decide +kernel
theorem d_R_rule_31 : decode b_R_rule 31 = .ok (.iload 4, 2) := by decide +kernel
theorem d_R_rule_33 : decode b_R_rule 33 = .ok (.iconst 2, 1) := by decide +kernel
theorem d_R_rule_34 : decode b_R_rule 34 = .ok (.if_icmp .eq 16, 3) := by decide +kernel
theorem d_R_rule_37 : decode b_R_rule 37 = .ok (.iload 4, 2) := by decide +kernel
theorem d_R_rule_39 : decode b_R_rule 39 = .ok (.iconst 4, 1) := by decide +kernel
theorem d_R_rule_40 : decode b_R_rule 40 = .ok (.if_icmp .eq 10, 3) := by decide +kernel
theorem d_R_rule_43 : decode b_R_rule 43 = .ok (.iload 4, 2) := by decide +kernel
theorem d_R_rule_45 : decode b_R_rule 45 = .ok (.bipush 6, 2) := by decide +kernel
theorem d_R_rule_47 : decode b_R_rule 47 = .ok (.if_icmp .ne 7, 3) := by decide +kernel
theorem d_R_rule_50 : decode b_R_rule 50 = .ok (.iconst 1, 1) := by decide +kernel
theorem d_R_rule_51 : decode b_R_rule 51 = .ok (.goto 4, 3) := by decide +kernel
theorem d_R_rule_54 : decode b_R_rule 54 = .ok (.iconst 0, 1) := by decide +kernel
theorem d_R_rule_55 : decode b_R_rule 55 = .ok (.istore 5, 2) := by decide +kernel
theorem d_R_rule_57 : decode b_R_rule 57 = .ok (.iload 4, 2) := by decide +kernel
theorem d_R_rule_59 : decode b_R_rule 59 = .ok (.iconst 1, 1) := by decide +kernel
theorem d_R_rule_60 : decode b_R_rule 60 = .ok (.iand, 1) := by decide +kernel
theorem d_R_rule_61 : decode b_R_rule 61 = .ok (.iconst 1, 1) := by decide +kernel
theorem d_R_rule_62 : decode b_R_rule 62 = .ok (.if_icmp .ne 7, 3) := by decide +kernel
theorem d_R_rule_65 : decode b_R_rule 65 = .ok (.iconst 1, 1) := by decide +kernel
theorem d_R_rule_66 : decode b_R_rule 66 = .ok (.goto 4, 3) := by decide +kernel
theorem d_R_rule_69 : decode b_R_rule 69 = .ok (.iconst 0, 1) := by decide +kernel
theorem d_R_rule_70 : decode b_R_rule 70 = .ok (.istore 6, 2) := by decide +kernel
theorem d_R_rule_72 : decode b_R_rule 72 = .ok (.iload 4, 2) := by decide +kernel
theorem d_R_rule_74 : decode b_R_rule 74 = .ok (.iconst 2, 1) := by decide +kernel
theorem d_R_rule_75 : decode b_R_rule 75 = .ok (.iand, 1) := by decide +kernel
theorem d_R_rule_76 : decode b_R_rule 76 = .ok (.iconst 2, 1) := by decide +kernel
theorem d_R_rule_77 : decode b_R_rule 77 = .ok (.if_icmp .ne 7, 3) := by decide +kernel
theorem d_R_rule_80 : decode b_R_rule 80 = .ok (.iconst 1, 1) := by decide +kernel
theorem d_R_rule_81 : decode b_R_rule 81 = .ok (.goto 4, 3) := by decide +kernel
theorem d_R_rule_84 : decode b_R_rule 84 = .ok (.iconst 0, 1) := by decide +kernel
theorem d_R_rule_85 : decode b_R_rule 85 = .ok (.istore 7, 2) := by decide +kernel
theorem d_R_rule_87 : decode b_R_rule 87 = .ok (.iload 4, 2) := by decide +kernel
theorem d_R_rule_89 : decode b_R_rule 89 = .ok (.iconst 4, 1) := by decide +kernel
theorem d_R_rule_90 : decode b_R_rule 90 = .ok (.iand, 1) := by decide +kernel
theorem d_R_rule_91 : decode b_R_rule 91 = .ok (.iconst 4, 1) := by decide +kernel
theorem d_R_rule_92 : decode b_R_rule 92 = .ok (.if_icmp .ne 7, 3) := by decide +kernel
theorem d_R_rule_95 : decode b_R_rule 95 = .ok (.iconst 1, 1) := by decide +kernel
theorem d_R_rule_96 : decode b_R_rule 96 = .ok (.goto 4, 3) := by decide +kernel
theorem d_R_rule_99 : decode b_R_rule 99 = .ok (.iconst 0, 1) := by decide +kernel
theorem d_R_rule_100 : decode b_R_rule 100 = .ok (.istore 8, 2) := by decide +kernel
theorem d_R_rule_102 : decode b_R_rule 102 = .ok (.aload_n 0, 1) := by decide +kernel
theorem d_R_rule_103 : decode b_R_rule 103 = .ok (.iload 5, 2) := by decide +kernel
theorem d_R_rule_105 : decode b_R_rule 105 = .ok (.ifCond .eq 28, 3) := by decide +kernel
theorem d_R_rule_108 : decode b_R_rule 108 = .ok (.iload_n 1, 1) := by decide +kernel
theorem d_R_rule_109 : decode b_R_rule 109 = .ok (.invokestatic 79, 3) := by decide +kernel
theorem d_R_rule_112 : decode b_R_rule 112 = .ok (.ifCond .eq 21, 3) := by decide +kernel
theorem d_R_rule_115 : decode b_R_rule 115 = .ok (.iload_n 2, 1) := by decide +kernel
theorem d_R_rule_116 : decode b_R_rule 116 = .ok (.invokestatic 79, 3) := by decide +kernel
theorem d_R_rule_119 : decode b_R_rule 119 = .ok (.ifCond .eq 14, 3) := by decide +kernel
theorem d_R_rule_122 : decode b_R_rule 122 = .ok (.iload_n 3, 1) := by decide +kernel
theorem d_R_rule_123 : decode b_R_rule 123 = .ok (.invokestatic 79, 3) := by decide +kernel
theorem d_R_rule_126 : decode b_R_rule 126 = .ok (.ifCond .eq 7, 3) := by decide +kernel
theorem d_R_rule_129 : decode b_R_rule 129 = .ok (.iconst 1, 1) := by decide +kernel
theorem d_R_rule_130 : decode b_R_rule 130 = .ok (.goto 4, 3) := by decide +kernel
theorem d_R_rule_133 : decode b_R_rule 133 = .ok (.iconst 0, 1) := by decide +kernel
theorem d_R_rule_134 : decode b_R_rule 134 = .ok (.iconst 4, 1) := by decide +kernel
theorem d_R_rule_135 : decode b_R_rule 135 = .ok (.iload 6, 2) := by decide +kernel
theorem d_R_rule_137 : decode b_R_rule 137 = .ok (.ifCond .eq 8, 3) := by decide +kernel
theorem d_R_rule_140 : decode b_R_rule 140 = .ok (.ldc 86, 2) := by decide +kernel
theorem d_R_rule_142 : decode b_R_rule 142 = .ok (.goto 4, 3) := by decide +kernel
theorem d_R_rule_145 : decode b_R_rule 145 = .ok (.iload_n 1, 1) := by decide +kernel
theorem d_R_rule_146 : decode b_R_rule 146 = .ok (.iload 7, 2) := by decide +kernel
theorem d_R_rule_148 : decode b_R_rule 148 = .ok (.ifCond .eq 8, 3) := by decide +kernel
theorem d_R_rule_151 : decode b_R_rule 151 = .ok (.ldc 86, 2) := by decide +kernel
theorem d_R_rule_153 : decode b_R_rule 153 = .ok (.goto 4, 3) := by decide +kernel
theorem d_R_rule_156 : decode b_R_rule 156 = .ok (.iload_n 2, 1) := by decide +kernel
theorem d_R_rule_157 : decode b_R_rule 157 = .ok (.iload 8, 2) := by decide +kernel
theorem d_R_rule_159 : decode b_R_rule 159 = .ok (.ifCond .eq 8, 3) := by decide +kernel
theorem d_R_rule_162 : decode b_R_rule 162 = .ok (.ldc 86, 2) := by decide +kernel
theorem d_R_rule_164 : decode b_R_rule 164 = .ok (.goto 4, 3) := by decide +kernel
theorem d_R_rule_167 : decode b_R_rule 167 = .ok (.iload_n 3, 1) := by decide +kernel
theorem d_R_rule_168 : decode b_R_rule 168 = .ok (.iconst 0, 1) := by decide +kernel
theorem d_R_rule_169 : decode b_R_rule 169 = .ok (.iconst 0, 1) := by decide +kernel
theorem d_R_rule_170 : decode b_R_rule 170 = .ok (.iconst 0, 1) := by decide +kernel
theorem d_R_rule_171 : decode b_R_rule 171 = .ok (.invokevirtual 82, 3) := by decide +kernel
theorem d_R_rule_174 : decode b_R_rule 174 = .ok (.ireturn, 1) := by decide +kernel
abbrev b_R_share : ByteArray := prog_7_method_26_code
def y_R_share : MethodName := ⟨"BoxDeskModel", "share", "(IJ)V"⟩
theorem d_R_share_0 : decode b_R_share 0 = .ok (.iconst 3, 1) := by decide +kernel
theorem d_R_share_1 : decode b_R_share 1 = .ok (.istore 4, 2) := by decide +kernel
theorem d_R_share_3 : decode b_R_share 3 = .ok (.iload 4, 2) := by decide +kernel
theorem d_R_share_5 : decode b_R_share 5 = .ok (.ifCond .le 21, 3) := by decide +kernel
theorem d_R_share_8 : decode b_R_share 8 = .ok (.aload_n 0, 1) := by decide +kernel
theorem d_R_share_9 : decode b_R_share 9 = .ok (.getfield 48, 3) := by decide +kernel
theorem d_R_share_12 : decode b_R_share 12 = .ok (.iload 4, 2) := by decide +kernel
theorem d_R_share_14 : decode b_R_share 14 = .ok (.laload, 1) := by decide +kernel
theorem d_R_share_15 : decode b_R_share 15 = .ok (.lconst 0, 1) := by decide +kernel
theorem d_R_share_16 : decode b_R_share 16 = .ok (.lcmp, 1) := by decide +kernel
theorem d_R_share_17 : decode b_R_share 17 = .ok (.ifCond .ne 9, 3) := by decide +kernel
theorem d_R_share_20 : decode b_R_share 20 = .ok (.iinc 4 (-1), 3) := by decide +kernel
theorem d_R_share_23 : decode b_R_share 23 = .ok (.goto (-20), 3) := by decide +kernel
theorem d_R_share_26 : decode b_R_share 26 = .ok (.lload_n 2, 1) := by decide +kernel
theorem d_R_share_27 : decode b_R_share 27 = .ok (.lconst 0, 1) := by decide +kernel
theorem d_R_share_28 : decode b_R_share 28 = .ok (.lcmp, 1) := by decide +kernel
theorem d_R_share_29 : decode b_R_share 29 = .ok (.ifCond .le 7, 3) := by decide +kernel
theorem d_R_share_32 : decode b_R_share 32 = .ok (.iconst 1, 1) := by decide +kernel
theorem d_R_share_33 : decode b_R_share 33 = .ok (.goto 4, 3) := by decide +kernel
theorem d_R_share_36 : decode b_R_share 36 = .ok (.iconst 0, 1) := by decide +kernel
theorem d_R_share_37 : decode b_R_share 37 = .ok (.istore 5, 2) := by decide +kernel
theorem d_R_share_39 : decode b_R_share 39 = .ok (.iload 5, 2) := by decide +kernel
theorem d_R_share_41 : decode b_R_share 41 = .ok (.ifCond .eq 13, 3) := by decide +kernel
theorem d_R_share_44 : decode b_R_share 44 = .ok (.aload_n 0, 1) := by decide +kernel
theorem d_R_share_45 : decode b_R_share 45 = .ok (.getfield 48, 3) := by decide +kernel
theorem d_R_share_48 : decode b_R_share 48 = .ok (.iload 4, 2) := by decide +kernel
theorem d_R_share_50 : decode b_R_share 50 = .ok (.laload, 1) := by decide +kernel
theorem d_R_share_51 : decode b_R_share 51 = .ok (.goto 7, 3) := by decide +kernel
theorem d_R_share_54 : decode b_R_share 54 = .ok (.aload_n 0, 1) := by decide +kernel
theorem d_R_share_55 : decode b_R_share 55 = .ok (.getfield 103, 3) := by decide +kernel
theorem d_R_share_58 : decode b_R_share 58 = .ok (.lstore 6, 2) := by decide +kernel
theorem d_R_share_60 : decode b_R_share 60 = .ok (.iload 5, 2) := by decide +kernel
theorem d_R_share_62 : decode b_R_share 62 = .ok (.ifCond .eq 7, 3) := by decide +kernel
theorem d_R_share_65 : decode b_R_share 65 = .ok (.lload_n 2, 1) := by decide +kernel
theorem d_R_share_66 : decode b_R_share 66 = .ok (.goto 22, 3) := by decide +kernel
theorem d_R_share_69 : decode b_R_share 69 = .ok (.lload_n 2, 1) := by decide +kernel
theorem d_R_share_70 : decode b_R_share 70 = .ok (.aload_n 0, 1) := by decide +kernel
theorem d_R_share_71 : decode b_R_share 71 = .ok (.getfield 103, 3) := by decide +kernel
theorem d_R_share_74 : decode b_R_share 74 = .ok (.lneg, 1) := by decide +kernel
theorem d_R_share_75 : decode b_R_share 75 = .ok (.lcmp, 1) := by decide +kernel
theorem d_R_share_76 : decode b_R_share 76 = .ok (.ifCond .ge 11, 3) := by decide +kernel
theorem d_R_share_79 : decode b_R_share 79 = .ok (.aload_n 0, 1) := by decide +kernel
theorem d_R_share_80 : decode b_R_share 80 = .ok (.getfield 103, 3) := by decide +kernel
theorem d_R_share_83 : decode b_R_share 83 = .ok (.lneg, 1) := by decide +kernel
theorem d_R_share_84 : decode b_R_share 84 = .ok (.goto 4, 3) := by decide +kernel
theorem d_R_share_87 : decode b_R_share 87 = .ok (.lload_n 2, 1) := by decide +kernel
theorem d_R_share_88 : decode b_R_share 88 = .ok (.lstore 8, 2) := by decide +kernel
theorem d_R_share_90 : decode b_R_share 90 = .ok (.lconst 0, 1) := by decide +kernel
theorem d_R_share_91 : decode b_R_share 91 = .ok (.lstore 10, 2) := by decide +kernel
theorem d_R_share_93 : decode b_R_share 93 = .ok (.iload_n 1, 1) := by decide +kernel
theorem d_R_share_94 : decode b_R_share 94 = .ok (.istore 12, 2) := by decide +kernel
theorem d_R_share_96 : decode b_R_share 96 = .ok (.iload 12, 2) := by decide +kernel
theorem d_R_share_98 : decode b_R_share 98 = .ok (.aload_n 0, 1) := by decide +kernel
theorem d_R_share_99 : decode b_R_share 99 = .ok (.getfield 61, 3) := by decide +kernel
theorem d_R_share_102 : decode b_R_share 102 = .ok (.if_icmp .ge 138, 3) := by decide +kernel
theorem d_R_share_105 : decode b_R_share 105 = .ok (.aload_n 0, 1) := by decide +kernel
theorem d_R_share_106 : decode b_R_share 106 = .ok (.getfield 7, 3) := by decide +kernel
theorem d_R_share_109 : decode b_R_share 109 = .ok (.iload 12, 2) := by decide +kernel
theorem d_R_share_111 : decode b_R_share 111 = .ok (.iaload, 1) := by decide +kernel
theorem d_R_share_112 : decode b_R_share 112 = .ok (.iconst 5, 1) := by decide +kernel
theorem d_R_share_113 : decode b_R_share 113 = .ok (.if_icmp .ne 112, 3) := by decide +kernel
theorem d_R_share_116 : decode b_R_share 116 = .ok (.lload 6, 2) := by decide +kernel
theorem d_R_share_118 : decode b_R_share 118 = .ok (.lconst 0, 1) := by decide +kernel
theorem d_R_share_119 : decode b_R_share 119 = .ok (.lcmp, 1) := by decide +kernel
theorem d_R_share_120 : decode b_R_share 120 = .ok (.ifCond .le 24, 3) := by decide +kernel
theorem d_R_share_123 : decode b_R_share 123 = .ok (.iload 5, 2) := by decide +kernel
theorem d_R_share_125 : decode b_R_share 125 = .ok (.ifCond .eq 15, 3) := by decide +kernel
theorem d_R_share_128 : decode b_R_share 128 = .ok (.aload_n 0, 1) := by decide +kernel
theorem d_R_share_129 : decode b_R_share 129 = .ok (.getfield 25, 3) := by decide +kernel
theorem d_R_share_132 : decode b_R_share 132 = .ok (.iload 12, 2) := by decide +kernel
theorem d_R_share_134 : decode b_R_share 134 = .ok (.iaload, 1) := by decide +kernel
theorem d_R_share_135 : decode b_R_share 135 = .ok (.iload 4, 2) := by decide +kernel
theorem d_R_share_137 : decode b_R_share 137 = .ok (.if_icmp .ne 7, 3) := by decide +kernel
theorem d_R_share_140 : decode b_R_share 140 = .ok (.iconst 1, 1) := by decide +kernel
theorem d_R_share_141 : decode b_R_share 141 = .ok (.goto 4, 3) := by decide +kernel
theorem d_R_share_144 : decode b_R_share 144 = .ok (.iconst 0, 1) := by decide +kernel
theorem d_R_share_145 : decode b_R_share 145 = .ok (.istore 13, 2) := by decide +kernel
theorem d_R_share_147 : decode b_R_share 147 = .ok (.lload 10, 2) := by decide +kernel
theorem d_R_share_149 : decode b_R_share 149 = .ok (.iload 13, 2) := by decide +kernel
theorem d_R_share_151 : decode b_R_share 151 = .ok (.ifCond .eq 28, 3) := by decide +kernel
theorem d_R_share_154 : decode b_R_share 154 = .ok (.iload 5, 2) := by decide +kernel
theorem d_R_share_156 : decode b_R_share 156 = .ok (.ifCond .eq 13, 3) := by decide +kernel
theorem d_R_share_159 : decode b_R_share 159 = .ok (.aload_n 0, 1) := by decide +kernel
theorem d_R_share_160 : decode b_R_share 160 = .ok (.getfield 22, 3) := by decide +kernel
theorem d_R_share_163 : decode b_R_share 163 = .ok (.iload 12, 2) := by decide +kernel
theorem d_R_share_165 : decode b_R_share 165 = .ok (.iaload, 1) := by decide +kernel
theorem d_R_share_166 : decode b_R_share 166 = .ok (.goto 14, 3) := by decide +kernel
theorem d_R_share_169 : decode b_R_share 169 = .ok (.aload_n 0, 1) := by decide +kernel
theorem d_R_share_170 : decode b_R_share 170 = .ok (.getfield 28, 3) := by decide +kernel
theorem d_R_share_173 : decode b_R_share 173 = .ok (.iload 12, 2) := by decide +kernel
theorem d_R_share_175 : decode b_R_share 175 = .ok (.iaload, 1) := by decide +kernel
theorem d_R_share_176 : decode b_R_share 176 = .ok (.goto 4, 3) := by decide +kernel
theorem d_R_share_179 : decode b_R_share 179 = .ok (.iconst 0, 1) := by decide +kernel
theorem d_R_share_180 : decode b_R_share 180 = .ok (.i2l, 1) := by decide +kernel
theorem d_R_share_181 : decode b_R_share 181 = .ok (.ladd, 1) := by decide +kernel
theorem d_R_share_182 : decode b_R_share 182 = .ok (.lstore 14, 2) := by decide +kernel
theorem d_R_share_184 : decode b_R_share 184 = .ok (.aload_n 0, 1) := by decide +kernel
theorem d_R_share_185 : decode b_R_share 185 = .ok (.getfield 31, 3) := by decide +kernel
theorem d_R_share_188 : decode b_R_share 188 = .ok (.iload 12, 2) := by decide +kernel
theorem d_R_share_190 : decode b_R_share 190 = .ok (.iload 13, 2) := by decide +kernel
theorem d_R_share_192 : decode b_R_share 192 = .ok (.ifCond .eq 27, 3) := by decide +kernel
theorem d_R_share_195 : decode b_R_share 195 = .ok (.lload 8, 2) := by decide +kernel
theorem d_R_share_197 : decode b_R_share 197 = .ok (.lload 14, 2) := by decide +kernel
theorem d_R_share_199 : decode b_R_share 199 = .ok (.lmul, 1) := by decide +kernel
theorem d_R_share_200 : decode b_R_share 200 = .ok (.lload 6, 2) := by decide +kernel
theorem d_R_share_202 : decode b_R_share 202 = .ok (.invokestatic 119, 3) := by decide +kernel
theorem d_R_share_205 : decode b_R_share 205 = .ok (.lload 8, 2) := by decide +kernel
theorem d_R_share_207 : decode b_R_share 207 = .ok (.lload 10, 2) := by decide +kernel
theorem d_R_share_209 : decode b_R_share 209 = .ok (.lmul, 1) := by decide +kernel
theorem d_R_share_210 : decode b_R_share 210 = .ok (.lload 6, 2) := by decide +kernel
theorem d_R_share_212 : decode b_R_share 212 = .ok (.invokestatic 119, 3) := by decide +kernel
theorem d_R_share_215 : decode b_R_share 215 = .ok (.lsub, 1) := by decide +kernel
theorem d_R_share_216 : decode b_R_share 216 = .ok (.goto 4, 3) := by decide +kernel
theorem d_R_share_219 : decode b_R_share 219 = .ok (.lconst 0, 1) := by decide +kernel
theorem d_R_share_220 : decode b_R_share 220 = .ok (.lastore, 1) := by decide +kernel
theorem d_R_share_221 : decode b_R_share 221 = .ok (.lload 14, 2) := by decide +kernel
theorem d_R_share_223 : decode b_R_share 223 = .ok (.lstore 10, 2) := by decide +kernel
theorem d_R_share_225 : decode b_R_share 225 = .ok (.iload 12, 2) := by decide +kernel
theorem d_R_share_227 : decode b_R_share 227 = .ok (.aload_n 0, 1) := by decide +kernel
theorem d_R_share_228 : decode b_R_share 228 = .ok (.getfield 35, 3) := by decide +kernel
theorem d_R_share_231 : decode b_R_share 231 = .ok (.iload 12, 2) := by decide +kernel
theorem d_R_share_233 : decode b_R_share 233 = .ok (.iaload, 1) := by decide +kernel
theorem d_R_share_234 : decode b_R_share 234 = .ok (.iadd, 1) := by decide +kernel
theorem d_R_share_235 : decode b_R_share 235 = .ok (.istore 12, 2) := by decide +kernel
theorem d_R_share_237 : decode b_R_share 237 = .ok (.goto (-141), 3) := by decide +kernel
theorem d_R_share_240 : decode b_R_share 240 = .ok (.return_, 1) := by decide +kernel
abbrev b_R_shelved : ByteArray := prog_7_method_6_code
def y_R_shelved : MethodName := ⟨"BoxDeskModel", "shelved", "()I"⟩
theorem d_R_shelved_0 : decode b_R_shelved 0 = .ok (.iconst 0, 1) := by decide +kernel
theorem d_R_shelved_1 : decode b_R_shelved 1 = .ok (.istore_n 1, 1) := by decide +kernel
theorem d_R_shelved_2 : decode b_R_shelved 2 = .ok (.iconst 0, 1) := by decide +kernel
theorem d_R_shelved_3 : decode b_R_shelved 3 = .ok (.istore_n 2, 1) := by decide +kernel
theorem d_R_shelved_4 : decode b_R_shelved 4 = .ok (.iload_n 2, 1) := by decide +kernel
theorem d_R_shelved_5 : decode b_R_shelved 5 = .ok (.bipush 16, 2) := by decide +kernel
theorem d_R_shelved_7 : decode b_R_shelved 7 = .ok (.if_icmp .ge 18, 3) := by decide +kernel
theorem d_R_shelved_10 : decode b_R_shelved 10 = .ok (.iload_n 1, 1) := by decide +kernel
theorem d_R_shelved_11 : decode b_R_shelved 11 = .ok (.aload_n 0, 1) := by decide +kernel
theorem d_R_shelved_12 : decode b_R_shelved 12 = .ok (.getfield 45, 3) := by decide +kernel
theorem d_R_shelved_15 : decode b_R_shelved 15 = .ok (.iload_n 2, 1) := by decide +kernel
theorem d_R_shelved_16 : decode b_R_shelved 16 = .ok (.iaload, 1) := by decide +kernel
theorem d_R_shelved_17 : decode b_R_shelved 17 = .ok (.iadd, 1) := by decide +kernel
theorem d_R_shelved_18 : decode b_R_shelved 18 = .ok (.istore_n 1, 1) := by decide +kernel
theorem d_R_shelved_19 : decode b_R_shelved 19 = .ok (.iinc 2 1, 3) := by decide +kernel
theorem d_R_shelved_22 : decode b_R_shelved 22 = .ok (.goto (-18), 3) := by decide +kernel
theorem d_R_shelved_25 : decode b_R_shelved 25 = .ok (.iload_n 1, 1) := by decide +kernel
theorem d_R_shelved_26 : decode b_R_shelved 26 = .ok (.ireturn, 1) := by decide +kernel
abbrev b_R_size : ByteArray := prog_7_method_33_code
def y_R_size : MethodName := ⟨"BoxDeskModel", "size", "(III)Z"⟩
theorem d_R_size_0 : decode b_R_size 0 = .ok (.aload_n 0, 1) := by decide +kernel
theorem d_R_size_1 : decode b_R_size 1 = .ok (.iconst 0, 1) := by decide +kernel
theorem d_R_size_2 : decode b_R_size 2 = .ok (.putfield 51, 3) := by decide +kernel
theorem d_R_size_5 : decode b_R_size 5 = .ok (.aload_n 0, 1) := by decide +kernel
theorem d_R_size_6 : decode b_R_size 6 = .ok (.iload_n 1, 1) := by decide +kernel
theorem d_R_size_7 : decode b_R_size 7 = .ok (.invokevirtual 157, 3) := by decide +kernel
theorem d_R_size_10 : decode b_R_size 10 = .ok (.ifCond .eq 19, 3) := by decide +kernel
theorem d_R_size_13 : decode b_R_size 13 = .ok (.iload_n 2, 1) := by decide +kernel
theorem d_R_size_14 : decode b_R_size 14 = .ok (.ifCond .lt 15, 3) := by decide +kernel
theorem d_R_size_17 : decode b_R_size 17 = .ok (.iload_n 2, 1) := by decide +kernel
theorem d_R_size_18 : decode b_R_size 18 = .ok (.iconst 2, 1) := by decide +kernel
theorem d_R_size_19 : decode b_R_size 19 = .ok (.if_icmp .gt 10, 3) := by decide +kernel
theorem d_R_size_22 : decode b_R_size 22 = .ok (.iload_n 3, 1) := by decide +kernel
theorem d_R_size_23 : decode b_R_size 23 = .ok (.invokestatic 79, 3) := by decide +kernel
theorem d_R_size_26 : decode b_R_size 26 = .ok (.ifCond .ne 5, 3) := by decide +kernel
theorem d_R_size_29 : decode b_R_size 29 = .ok (.iconst 0, 1) := by decide +kernel
theorem d_R_size_30 : decode b_R_size 30 = .ok (.ireturn, 1) := by decide +kernel
theorem d_R_size_31 : decode b_R_size 31 = .ok (.aload_n 0, 1) := by decide +kernel
theorem d_R_size_32 : decode b_R_size 32 = .ok (.iload_n 1, 1) := by decide +kernel
theorem d_R_size_33 : decode b_R_size 33 = .ok (.invokevirtual 122, 3) := by decide +kernel
theorem d_R_size_36 : decode b_R_size 36 = .ok (.istore 4, 2) := by decide +kernel
theorem d_R_size_38 : decode b_R_size 38 = .ok (.iload_n 2, 1) := by decide +kernel
theorem d_R_size_39 : decode b_R_size 39 = .ok (.ifCond .ne 14, 3) := by decide +kernel
theorem d_R_size_42 : decode b_R_size 42 = .ok (.aload_n 0, 1) := by decide +kernel
theorem d_R_size_43 : decode b_R_size 43 = .ok (.getfield 13, 3) := by decide +kernel
theorem d_R_size_46 : decode b_R_size 46 = .ok (.iload 4, 2) := by decide +kernel
theorem d_R_size_48 : decode b_R_size 48 = .ok (.iload_n 3, 1) := by decide +kernel
theorem d_R_size_49 : decode b_R_size 49 = .ok (.iastore, 1) := by decide +kernel
theorem d_R_size_50 : decode b_R_size 50 = .ok (.goto 27, 3) := by decide +kernel
theorem d_R_size_53 : decode b_R_size 53 = .ok (.iload_n 2, 1) := by decide +kernel
theorem d_R_size_54 : decode b_R_size 54 = .ok (.iconst 1, 1) := by decide +kernel
theorem d_R_size_55 : decode b_R_size 55 = .ok (.if_icmp .ne 14, 3) := by decide +kernel
theorem d_R_size_58 : decode b_R_size 58 = .ok (.aload_n 0, 1) := by decide +kernel
theorem d_R_size_59 : decode b_R_size 59 = .ok (.getfield 16, 3) := by decide +kernel
theorem d_R_size_62 : decode b_R_size 62 = .ok (.iload 4, 2) := by decide +kernel
theorem d_R_size_64 : decode b_R_size 64 = .ok (.iload_n 3, 1) := by decide +kernel
theorem d_R_size_65 : decode b_R_size 65 = .ok (.iastore, 1) := by decide +kernel
theorem d_R_size_66 : decode b_R_size 66 = .ok (.goto 11, 3) := by decide +kernel
theorem d_R_size_69 : decode b_R_size 69 = .ok (.aload_n 0, 1) := by decide +kernel
theorem d_R_size_70 : decode b_R_size 70 = .ok (.getfield 19, 3) := by decide +kernel
theorem d_R_size_73 : decode b_R_size 73 = .ok (.iload 4, 2) := by decide +kernel
theorem d_R_size_75 : decode b_R_size 75 = .ok (.iload_n 3, 1) := by decide +kernel
theorem d_R_size_76 : decode b_R_size 76 = .ok (.iastore, 1) := by decide +kernel
theorem d_R_size_77 : decode b_R_size 77 = .ok (.iconst 1, 1) := by decide +kernel
theorem d_R_size_78 : decode b_R_size 78 = .ok (.ireturn, 1) := by decide +kernel
abbrev b_R_start : ByteArray := prog_7_method_8_code
def y_R_start : MethodName := ⟨"BoxDeskModel", "start", "(I)I"⟩
theorem d_R_start_0 : decode b_R_start 0 = .ok (.sipush 4100, 3) := by decide +kernel
theorem d_R_start_3 : decode b_R_start 3 = .ok (.istore_n 2, 1) := by decide +kernel
theorem d_R_start_4 : decode b_R_start 4 = .ok (.iconst 0, 1) := by decide +kernel
theorem d_R_start_5 : decode b_R_start 5 = .ok (.istore_n 3, 1) := by decide +kernel
theorem d_R_start_6 : decode b_R_start 6 = .ok (.iload_n 3, 1) := by decide +kernel
theorem d_R_start_7 : decode b_R_start 7 = .ok (.iload_n 1, 1) := by decide +kernel
theorem d_R_start_8 : decode b_R_start 8 = .ok (.if_icmp .ge 18, 3) := by decide +kernel
theorem d_R_start_11 : decode b_R_start 11 = .ok (.iload_n 2, 1) := by decide +kernel
theorem d_R_start_12 : decode b_R_start 12 = .ok (.aload_n 0, 1) := by decide +kernel
theorem d_R_start_13 : decode b_R_start 13 = .ok (.getfield 45, 3) := by decide +kernel
theorem d_R_start_16 : decode b_R_start 16 = .ok (.iload_n 3, 1) := by decide +kernel
theorem d_R_start_17 : decode b_R_start 17 = .ok (.iaload, 1) := by decide +kernel
theorem d_R_start_18 : decode b_R_start 18 = .ok (.iadd, 1) := by decide +kernel
theorem d_R_start_19 : decode b_R_start 19 = .ok (.istore_n 2, 1) := by decide +kernel
theorem d_R_start_20 : decode b_R_start 20 = .ok (.iinc 3 1, 3) := by decide +kernel
theorem d_R_start_23 : decode b_R_start 23 = .ok (.goto (-17), 3) := by decide +kernel
theorem d_R_start_26 : decode b_R_start 26 = .ok (.iload_n 2, 1) := by decide +kernel
theorem d_R_start_27 : decode b_R_start 27 = .ok (.ireturn, 1) := by decide +kernel
abbrev b_R_thrown : ByteArray := prog_7_method_2_code
def y_R_thrown : MethodName := ⟨"BoxDeskModel", "thrown", "()I"⟩
theorem d_R_thrown_0 : decode b_R_thrown 0 = .ok (.aload_n 0, 1) := by decide +kernel
theorem d_R_thrown_1 : decode b_R_thrown 1 = .ok (.getfield 51, 3) := by decide +kernel
theorem d_R_thrown_4 : decode b_R_thrown 4 = .ok (.ireturn, 1) := by decide +kernel
abbrev b_R_unbox : ByteArray := prog_7_method_32_code
def y_R_unbox : MethodName := ⟨"BoxDeskModel", "unbox", "(I)Z"⟩
theorem d_R_unbox_0 : decode b_R_unbox 0 = .ok (.aload_n 0, 1) := by decide +kernel
theorem d_R_unbox_1 : decode b_R_unbox 1 = .ok (.iconst 0, 1) := by decide +kernel
theorem d_R_unbox_2 : decode b_R_unbox 2 = .ok (.putfield 51, 3) := by decide +kernel
theorem d_R_unbox_5 : decode b_R_unbox 5 = .ok (.aload_n 0, 1) := by decide +kernel
theorem d_R_unbox_6 : decode b_R_unbox 6 = .ok (.getfield 68, 3) := by decide +kernel
theorem d_R_unbox_9 : decode b_R_unbox 9 = .ok (.ifCond .eq 36, 3) := by decide +kernel
theorem d_R_unbox_12 : decode b_R_unbox 12 = .ok (.aload_n 0, 1) := by decide +kernel
theorem d_R_unbox_13 : decode b_R_unbox 13 = .ok (.iload_n 1, 1) := by decide +kernel
theorem d_R_unbox_14 : decode b_R_unbox 14 = .ok (.invokevirtual 157, 3) := by decide +kernel
theorem d_R_unbox_17 : decode b_R_unbox 17 = .ok (.ifCond .eq 28, 3) := by decide +kernel
theorem d_R_unbox_20 : decode b_R_unbox 20 = .ok (.aload_n 0, 1) := by decide +kernel
theorem d_R_unbox_21 : decode b_R_unbox 21 = .ok (.getfield 7, 3) := by decide +kernel
theorem d_R_unbox_24 : decode b_R_unbox 24 = .ok (.aload_n 0, 1) := by decide +kernel
theorem d_R_unbox_25 : decode b_R_unbox 25 = .ok (.iload_n 1, 1) := by decide +kernel
theorem d_R_unbox_26 : decode b_R_unbox 26 = .ok (.invokevirtual 122, 3) := by decide +kernel
theorem d_R_unbox_29 : decode b_R_unbox 29 = .ok (.iaload, 1) := by decide +kernel
theorem d_R_unbox_30 : decode b_R_unbox 30 = .ok (.aload_n 0, 1) := by decide +kernel
theorem d_R_unbox_31 : decode b_R_unbox 31 = .ok (.invokevirtual 75, 3) := by decide +kernel
theorem d_R_unbox_34 : decode b_R_unbox 34 = .ok (.ifCond .eq 7, 3) := by decide +kernel
theorem d_R_unbox_37 : decode b_R_unbox 37 = .ok (.iconst 3, 1) := by decide +kernel
theorem d_R_unbox_38 : decode b_R_unbox 38 = .ok (.goto 4, 3) := by decide +kernel
theorem d_R_unbox_41 : decode b_R_unbox 41 = .ok (.iconst 2, 1) := by decide +kernel
theorem d_R_unbox_42 : decode b_R_unbox 42 = .ok (.if_icmp .eq 5, 3) := by decide +kernel
theorem d_R_unbox_45 : decode b_R_unbox 45 = .ok (.iconst 0, 1) := by decide +kernel
theorem d_R_unbox_46 : decode b_R_unbox 46 = .ok (.ireturn, 1) := by decide +kernel
theorem d_R_unbox_47 : decode b_R_unbox 47 = .ok (.aload_n 0, 1) := by decide +kernel
theorem d_R_unbox_48 : decode b_R_unbox 48 = .ok (.iload_n 1, 1) := by decide +kernel
theorem d_R_unbox_49 : decode b_R_unbox 49 = .ok (.invokevirtual 122, 3) := by decide +kernel
theorem d_R_unbox_52 : decode b_R_unbox 52 = .ok (.istore_n 2, 1) := by decide +kernel
theorem d_R_unbox_53 : decode b_R_unbox 53 = .ok (.aload_n 0, 1) := by decide +kernel
theorem d_R_unbox_54 : decode b_R_unbox 54 = .ok (.getfield 45, 3) := by decide +kernel
theorem d_R_unbox_57 : decode b_R_unbox 57 = .ok (.iload_n 1, 1) := by decide +kernel
theorem d_R_unbox_58 : decode b_R_unbox 58 = .ok (.iaload, 1) := by decide +kernel
theorem d_R_unbox_59 : decode b_R_unbox 59 = .ok (.iconst 1, 1) := by decide +kernel
theorem d_R_unbox_60 : decode b_R_unbox 60 = .ok (.isub, 1) := by decide +kernel
theorem d_R_unbox_61 : decode b_R_unbox 61 = .ok (.istore_n 3, 1) := by decide +kernel
theorem d_R_unbox_62 : decode b_R_unbox 62 = .ok (.iconst 0, 1) := by decide +kernel
theorem d_R_unbox_63 : decode b_R_unbox 63 = .ok (.istore 4, 2) := by decide +kernel
theorem d_R_unbox_65 : decode b_R_unbox 65 = .ok (.iload 4, 2) := by decide +kernel
theorem d_R_unbox_67 : decode b_R_unbox 67 = .ok (.iload_n 3, 1) := by decide +kernel
theorem d_R_unbox_68 : decode b_R_unbox 68 = .ok (.if_icmp .ge 26, 3) := by decide +kernel
theorem d_R_unbox_71 : decode b_R_unbox 71 = .ok (.aload_n 0, 1) := by decide +kernel
theorem d_R_unbox_72 : decode b_R_unbox 72 = .ok (.iload_n 2, 1) := by decide +kernel
theorem d_R_unbox_73 : decode b_R_unbox 73 = .ok (.iconst 1, 1) := by decide +kernel
theorem d_R_unbox_74 : decode b_R_unbox 74 = .ok (.iadd, 1) := by decide +kernel
theorem d_R_unbox_75 : decode b_R_unbox 75 = .ok (.iload 4, 2) := by decide +kernel
theorem d_R_unbox_77 : decode b_R_unbox 77 = .ok (.iadd, 1) := by decide +kernel
theorem d_R_unbox_78 : decode b_R_unbox 78 = .ok (.aload_n 0, 1) := by decide +kernel
theorem d_R_unbox_79 : decode b_R_unbox 79 = .ok (.getfield 61, 3) := by decide +kernel
theorem d_R_unbox_82 : decode b_R_unbox 82 = .ok (.iload 4, 2) := by decide +kernel
theorem d_R_unbox_84 : decode b_R_unbox 84 = .ok (.iadd, 1) := by decide +kernel
theorem d_R_unbox_85 : decode b_R_unbox 85 = .ok (.invokevirtual 126, 3) := by decide +kernel
theorem d_R_unbox_88 : decode b_R_unbox 88 = .ok (.iinc 4 1, 3) := by decide +kernel
theorem d_R_unbox_91 : decode b_R_unbox 91 = .ok (.goto (-26), 3) := by decide +kernel
theorem d_R_unbox_94 : decode b_R_unbox 94 = .ok (.aload_n 0, 1) := by decide +kernel
theorem d_R_unbox_95 : decode b_R_unbox 95 = .ok (.dup, 1) := by decide +kernel
theorem d_R_unbox_96 : decode b_R_unbox 96 = .ok (.getfield 61, 3) := by decide +kernel
theorem d_R_unbox_99 : decode b_R_unbox 99 = .ok (.iload_n 3, 1) := by decide +kernel
theorem d_R_unbox_100 : decode b_R_unbox 100 = .ok (.iadd, 1) := by decide +kernel
theorem d_R_unbox_101 : decode b_R_unbox 101 = .ok (.putfield 61, 3) := by decide +kernel
theorem d_R_unbox_104 : decode b_R_unbox 104 = .ok (.aload_n 0, 1) := by decide +kernel
theorem d_R_unbox_105 : decode b_R_unbox 105 = .ok (.iload_n 1, 1) := by decide +kernel
theorem d_R_unbox_106 : decode b_R_unbox 106 = .ok (.invokevirtual 151, 3) := by decide +kernel
theorem d_R_unbox_109 : decode b_R_unbox 109 = .ok (.iconst 1, 1) := by decide +kernel
theorem d_R_unbox_110 : decode b_R_unbox 110 = .ok (.ireturn, 1) := by decide +kernel
