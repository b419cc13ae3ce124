abbrev M_V_init : vg_M := (⟨3, 116, 1202, 68⟩, 1, prog_1_method_1_code, ⟨"PatternValidator", "<init>", "()V"⟩, none, Cond.code ⟨"PatternValidator", "<init>", "()V"⟩ prog_1_method_1_code 1 (none))
theorem d_V_init_0 : decode prog_1_method_1_code 0 = .ok (.aload_n 0, 1) := by decide +kernel
theorem d_V_init_1 : decode prog_1_method_1_code 1 = .ok (.invokespecial 1, 3) := by decide +kernel
theorem d_V_init_4 : decode prog_1_method_1_code 4 = .ok (.aload_n 0, 1) := by decide +kernel
theorem d_V_init_5 : decode prog_1_method_1_code 5 = .ok (.new 7, 3) := by decide +kernel
theorem d_V_init_8 : decode prog_1_method_1_code 8 = .ok (.dup, 1) := by decide +kernel
theorem d_V_init_9 : decode prog_1_method_1_code 9 = .ok (.invokespecial 9, 3) := by decide +kernel
theorem d_V_init_12 : decode prog_1_method_1_code 12 = .ok (.putfield 10, 3) := by decide +kernel
theorem d_V_init_15 : decode prog_1_method_1_code 15 = .ok (.aload_n 0, 1) := by decide +kernel
theorem d_V_init_16 : decode prog_1_method_1_code 16 = .ok (.new 16, 3) := by decide +kernel
theorem d_V_init_19 : decode prog_1_method_1_code 19 = .ok (.dup, 1) := by decide +kernel
theorem d_V_init_20 : decode prog_1_method_1_code 20 = .ok (.invokespecial 18, 3) := by decide +kernel
theorem d_V_init_23 : decode prog_1_method_1_code 23 = .ok (.putfield 19, 3) := by decide +kernel
theorem d_V_init_26 : decode prog_1_method_1_code 26 = .ok (.aload_n 0, 1) := by decide +kernel
theorem d_V_init_27 : decode prog_1_method_1_code 27 = .ok (.new 23, 3) := by decide +kernel
theorem d_V_init_30 : decode prog_1_method_1_code 30 = .ok (.dup, 1) := by decide +kernel
theorem d_V_init_31 : decode prog_1_method_1_code 31 = .ok (.aload_n 0, 1) := by decide +kernel
theorem d_V_init_32 : decode prog_1_method_1_code 32 = .ok (.getfield 10, 3) := by decide +kernel
theorem d_V_init_35 : decode prog_1_method_1_code 35 = .ok (.aload_n 0, 1) := by decide +kernel
theorem d_V_init_36 : decode prog_1_method_1_code 36 = .ok (.getfield 19, 3) := by decide +kernel
theorem d_V_init_39 : decode prog_1_method_1_code 39 = .ok (.invokespecial 25, 3) := by decide +kernel
theorem d_V_init_42 : decode prog_1_method_1_code 42 = .ok (.putfield 28, 3) := by decide +kernel
theorem d_V_init_45 : decode prog_1_method_1_code 45 = .ok (.return_, 1) := by decide +kernel
abbrev M_G_init : vg_M := (⟨1, 6, 204, 20⟩, 1, prog_3_method_1_code, ⟨"PatternValidator$Grammar", "<init>", "()V"⟩, none, Cond.code ⟨"PatternValidator$Grammar", "<init>", "()V"⟩ prog_3_method_1_code 1 (none))
theorem d_G_init_0 : decode prog_3_method_1_code 0 = .ok (.aload_n 0, 1) := by decide +kernel
theorem d_G_init_1 : decode prog_3_method_1_code 1 = .ok (.invokespecial 3, 3) := by decide +kernel
theorem d_G_init_4 : decode prog_3_method_1_code 4 = .ok (.aload_n 0, 1) := by decide +kernel
theorem d_G_init_5 : decode prog_3_method_1_code 5 = .ok (.bipush 40, 2) := by decide +kernel
theorem d_G_init_7 : decode prog_3_method_1_code 7 = .ok (.newarray .int, 2) := by decide +kernel
theorem d_G_init_9 : decode prog_3_method_1_code 9 = .ok (.putfield 9, 3) := by decide +kernel
theorem d_G_init_12 : decode prog_3_method_1_code 12 = .ok (.aload_n 0, 1) := by decide +kernel
theorem d_G_init_13 : decode prog_3_method_1_code 13 = .ok (.bipush 40, 2) := by decide +kernel
theorem d_G_init_15 : decode prog_3_method_1_code 15 = .ok (.newarray .int, 2) := by decide +kernel
theorem d_G_init_17 : decode prog_3_method_1_code 17 = .ok (.putfield 15, 3) := by decide +kernel
theorem d_G_init_20 : decode prog_3_method_1_code 20 = .ok (.aload_n 0, 1) := by decide +kernel
theorem d_G_init_21 : decode prog_3_method_1_code 21 = .ok (.bipush 40, 2) := by decide +kernel
theorem d_G_init_23 : decode prog_3_method_1_code 23 = .ok (.newarray .int, 2) := by decide +kernel
theorem d_G_init_25 : decode prog_3_method_1_code 25 = .ok (.putfield 18, 3) := by decide +kernel
theorem d_G_init_28 : decode prog_3_method_1_code 28 = .ok (.aload_n 0, 1) := by decide +kernel
theorem d_G_init_29 : decode prog_3_method_1_code 29 = .ok (.bipush 40, 2) := by decide +kernel
theorem d_G_init_31 : decode prog_3_method_1_code 31 = .ok (.newarray .int, 2) := by decide +kernel
theorem d_G_init_33 : decode prog_3_method_1_code 33 = .ok (.putfield 21, 3) := by decide +kernel
theorem d_G_init_36 : decode prog_3_method_1_code 36 = .ok (.aload_n 0, 1) := by decide +kernel
theorem d_G_init_37 : decode prog_3_method_1_code 37 = .ok (.iconst 4, 1) := by decide +kernel
theorem d_G_init_38 : decode prog_3_method_1_code 38 = .ok (.newarray .int, 2) := by decide +kernel
theorem d_G_init_40 : decode prog_3_method_1_code 40 = .ok (.dup, 1) := by decide +kernel
theorem d_G_init_41 : decode prog_3_method_1_code 41 = .ok (.iconst 0, 1) := by decide +kernel
theorem d_G_init_42 : decode prog_3_method_1_code 42 = .ok (.iconst (-1), 1) := by decide +kernel
theorem d_G_init_43 : decode prog_3_method_1_code 43 = .ok (.iastore, 1) := by decide +kernel
theorem d_G_init_44 : decode prog_3_method_1_code 44 = .ok (.dup, 1) := by decide +kernel
theorem d_G_init_45 : decode prog_3_method_1_code 45 = .ok (.iconst 1, 1) := by decide +kernel
theorem d_G_init_46 : decode prog_3_method_1_code 46 = .ok (.iconst (-1), 1) := by decide +kernel
theorem d_G_init_47 : decode prog_3_method_1_code 47 = .ok (.iastore, 1) := by decide +kernel
theorem d_G_init_48 : decode prog_3_method_1_code 48 = .ok (.dup, 1) := by decide +kernel
theorem d_G_init_49 : decode prog_3_method_1_code 49 = .ok (.iconst 2, 1) := by decide +kernel
theorem d_G_init_50 : decode prog_3_method_1_code 50 = .ok (.iconst (-1), 1) := by decide +kernel
theorem d_G_init_51 : decode prog_3_method_1_code 51 = .ok (.iastore, 1) := by decide +kernel
theorem d_G_init_52 : decode prog_3_method_1_code 52 = .ok (.dup, 1) := by decide +kernel
theorem d_G_init_53 : decode prog_3_method_1_code 53 = .ok (.iconst 3, 1) := by decide +kernel
theorem d_G_init_54 : decode prog_3_method_1_code 54 = .ok (.iconst (-1), 1) := by decide +kernel
theorem d_G_init_55 : decode prog_3_method_1_code 55 = .ok (.iastore, 1) := by decide +kernel
theorem d_G_init_56 : decode prog_3_method_1_code 56 = .ok (.putfield 24, 3) := by decide +kernel
theorem d_G_init_59 : decode prog_3_method_1_code 59 = .ok (.aload_n 0, 1) := by decide +kernel
theorem d_G_init_60 : decode prog_3_method_1_code 60 = .ok (.bipush 40, 2) := by decide +kernel
theorem d_G_init_62 : decode prog_3_method_1_code 62 = .ok (.newarray .int, 2) := by decide +kernel
theorem d_G_init_64 : decode prog_3_method_1_code 64 = .ok (.putfield 27, 3) := by decide +kernel
theorem d_G_init_67 : decode prog_3_method_1_code 67 = .ok (.return_, 1) := by decide +kernel
abbrev M_D_init : vg_M := (⟨2, 98, 500, 40⟩, 2, prog_2_method_1_code, ⟨"PatternValidator$Document", "<init>", "()V"⟩, none, Cond.code ⟨"PatternValidator$Document", "<init>", "()V"⟩ prog_2_method_1_code 2 (none))
theorem d_D_init_0 : decode prog_2_method_1_code 0 = .ok (.aload_n 0, 1) := by decide +kernel
theorem d_D_init_1 : decode prog_2_method_1_code 1 = .ok (.invokespecial 3, 3) := by decide +kernel
theorem d_D_init_4 : decode prog_2_method_1_code 4 = .ok (.aload_n 0, 1) := by decide +kernel
theorem d_D_init_5 : decode prog_2_method_1_code 5 = .ok (.bipush 16, 2) := by decide +kernel
theorem d_D_init_7 : decode prog_2_method_1_code 7 = .ok (.anewarray 9, 3) := by decide +kernel
theorem d_D_init_10 : decode prog_2_method_1_code 10 = .ok (.putfield 11, 3) := by decide +kernel
theorem d_D_init_13 : decode prog_2_method_1_code 13 = .ok (.aload_n 0, 1) := by decide +kernel
theorem d_D_init_14 : decode prog_2_method_1_code 14 = .ok (.iconst 4, 1) := by decide +kernel
theorem d_D_init_15 : decode prog_2_method_1_code 15 = .ok (.newarray .int, 2) := by decide +kernel
theorem d_D_init_17 : decode prog_2_method_1_code 17 = .ok (.putfield 17, 3) := by decide +kernel
theorem d_D_init_20 : decode prog_2_method_1_code 20 = .ok (.iconst 0, 1) := by decide +kernel
theorem d_D_init_21 : decode prog_2_method_1_code 21 = .ok (.istore_n 1, 1) := by decide +kernel
theorem d_D_init_22 : decode prog_2_method_1_code 22 = .ok (.iload_n 1, 1) := by decide +kernel
theorem d_D_init_23 : decode prog_2_method_1_code 23 = .ok (.bipush 16, 2) := by decide +kernel
theorem d_D_init_25 : decode prog_2_method_1_code 25 = .ok (.if_icmp .ge 22, 3) := by decide +kernel
theorem d_D_init_28 : decode prog_2_method_1_code 28 = .ok (.aload_n 0, 1) := by decide +kernel
theorem d_D_init_29 : decode prog_2_method_1_code 29 = .ok (.getfield 11, 3) := by decide +kernel
theorem d_D_init_32 : decode prog_2_method_1_code 32 = .ok (.iload_n 1, 1) := by decide +kernel
theorem d_D_init_33 : decode prog_2_method_1_code 33 = .ok (.new 9, 3) := by decide +kernel
theorem d_D_init_36 : decode prog_2_method_1_code 36 = .ok (.dup, 1) := by decide +kernel
theorem d_D_init_37 : decode prog_2_method_1_code 37 = .ok (.invokespecial 21, 3) := by decide +kernel
theorem d_D_init_40 : decode prog_2_method_1_code 40 = .ok (.aastore, 1) := by decide +kernel
theorem d_D_init_41 : decode prog_2_method_1_code 41 = .ok (.iinc 1 1, 3) := by decide +kernel
theorem d_D_init_44 : decode prog_2_method_1_code 44 = .ok (.goto (-22), 3) := by decide +kernel
theorem d_D_init_47 : decode prog_2_method_1_code 47 = .ok (.return_, 1) := by decide +kernel
abbrev M_N_init : vg_M := (⟨1, 5, 21, 20⟩, 1, prog_5_method_1_code, ⟨"PatternValidator$Node", "<init>", "()V"⟩, none, Cond.code ⟨"PatternValidator$Node", "<init>", "()V"⟩ prog_5_method_1_code 1 (none))
theorem d_N_init_0 : decode prog_5_method_1_code 0 = .ok (.aload_n 0, 1) := by decide +kernel
theorem d_N_init_1 : decode prog_5_method_1_code 1 = .ok (.invokespecial 3, 3) := by decide +kernel
theorem d_N_init_4 : decode prog_5_method_1_code 4 = .ok (.aload_n 0, 1) := by decide +kernel
theorem d_N_init_5 : decode prog_5_method_1_code 5 = .ok (.iconst 3, 1) := by decide +kernel
theorem d_N_init_6 : decode prog_5_method_1_code 6 = .ok (.newarray .int, 2) := by decide +kernel
theorem d_N_init_8 : decode prog_5_method_1_code 8 = .ok (.putfield 9, 3) := by decide +kernel
theorem d_N_init_11 : decode prog_5_method_1_code 11 = .ok (.aload_n 0, 1) := by decide +kernel
theorem d_N_init_12 : decode prog_5_method_1_code 12 = .ok (.iconst 3, 1) := by decide +kernel
theorem d_N_init_13 : decode prog_5_method_1_code 13 = .ok (.newarray .int, 2) := by decide +kernel
theorem d_N_init_15 : decode prog_5_method_1_code 15 = .ok (.putfield 15, 3) := by decide +kernel
theorem d_N_init_18 : decode prog_5_method_1_code 18 = .ok (.aload_n 0, 1) := by decide +kernel
theorem d_N_init_19 : decode prog_5_method_1_code 19 = .ok (.iconst 3, 1) := by decide +kernel
theorem d_N_init_20 : decode prog_5_method_1_code 20 = .ok (.newarray .long, 2) := by decide +kernel
theorem d_N_init_22 : decode prog_5_method_1_code 22 = .ok (.putfield 18, 3) := by decide +kernel
theorem d_N_init_25 : decode prog_5_method_1_code 25 = .ok (.aload_n 0, 1) := by decide +kernel
theorem d_N_init_26 : decode prog_5_method_1_code 26 = .ok (.bipush 6, 2) := by decide +kernel
theorem d_N_init_28 : decode prog_5_method_1_code 28 = .ok (.newarray .int, 2) := by decide +kernel
theorem d_N_init_30 : decode prog_5_method_1_code 30 = .ok (.putfield 22, 3) := by decide +kernel
theorem d_N_init_33 : decode prog_5_method_1_code 33 = .ok (.aload_n 0, 1) := by decide +kernel
theorem d_N_init_34 : decode prog_5_method_1_code 34 = .ok (.bipush 6, 2) := by decide +kernel
theorem d_N_init_36 : decode prog_5_method_1_code 36 = .ok (.newarray .int, 2) := by decide +kernel
theorem d_N_init_38 : decode prog_5_method_1_code 38 = .ok (.putfield 25, 3) := by decide +kernel
theorem d_N_init_41 : decode prog_5_method_1_code 41 = .ok (.return_, 1) := by decide +kernel
abbrev M_T_init : vg_M := (⟨2, 9, 478, 40⟩, 9, prog_4_method_1_code, ⟨"PatternValidator$Matcher", "<init>", "(LPatternValidator$Grammar;LPatternValidator$Document;)V"⟩, none, Cond.code ⟨"PatternValidator$Matcher", "<init>", "(LPatternValidator$Grammar;LPatternValidator$Document;)V"⟩ prog_4_method_1_code 9 (none))
theorem d_T_init_0 : decode prog_4_method_1_code 0 = .ok (.aload_n 0, 1) := by decide +kernel
theorem d_T_init_1 : decode prog_4_method_1_code 1 = .ok (.invokespecial 3, 3) := by decide +kernel
theorem d_T_init_4 : decode prog_4_method_1_code 4 = .ok (.aload_n 0, 1) := by decide +kernel
theorem d_T_init_5 : decode prog_4_method_1_code 5 = .ok (.bipush 64, 2) := by decide +kernel
theorem d_T_init_7 : decode prog_4_method_1_code 7 = .ok (.newarray .long, 2) := by decide +kernel
theorem d_T_init_9 : decode prog_4_method_1_code 9 = .ok (.putfield 11, 3) := by decide +kernel
theorem d_T_init_12 : decode prog_4_method_1_code 12 = .ok (.aload_n 0, 1) := by decide +kernel
theorem d_T_init_13 : decode prog_4_method_1_code 13 = .ok (.bipush 64, 2) := by decide +kernel
theorem d_T_init_15 : decode prog_4_method_1_code 15 = .ok (.newarray .long, 2) := by decide +kernel
theorem d_T_init_17 : decode prog_4_method_1_code 17 = .ok (.putfield 15, 3) := by decide +kernel
theorem d_T_init_20 : decode prog_4_method_1_code 20 = .ok (.aload_n 0, 1) := by decide +kernel
theorem d_T_init_21 : decode prog_4_method_1_code 21 = .ok (.sipush 320, 3) := by decide +kernel
theorem d_T_init_24 : decode prog_4_method_1_code 24 = .ok (.newarray .long, 2) := by decide +kernel
theorem d_T_init_26 : decode prog_4_method_1_code 26 = .ok (.putfield 18, 3) := by decide +kernel
theorem d_T_init_29 : decode prog_4_method_1_code 29 = .ok (.aload_n 0, 1) := by decide +kernel
theorem d_T_init_30 : decode prog_4_method_1_code 30 = .ok (.new 21, 3) := by decide +kernel
theorem d_T_init_33 : decode prog_4_method_1_code 33 = .ok (.dup, 1) := by decide +kernel
theorem d_T_init_34 : decode prog_4_method_1_code 34 = .ok (.invokespecial 23, 3) := by decide +kernel
theorem d_T_init_37 : decode prog_4_method_1_code 37 = .ok (.putfield 24, 3) := by decide +kernel
theorem d_T_init_40 : decode prog_4_method_1_code 40 = .ok (.aload_n 0, 1) := by decide +kernel
theorem d_T_init_41 : decode prog_4_method_1_code 41 = .ok (.aload_n 1, 1) := by decide +kernel
theorem d_T_init_42 : decode prog_4_method_1_code 42 = .ok (.putfield 28, 3) := by decide +kernel
theorem d_T_init_45 : decode prog_4_method_1_code 45 = .ok (.aload_n 0, 1) := by decide +kernel
theorem d_T_init_46 : decode prog_4_method_1_code 46 = .ok (.aload_n 2, 1) := by decide +kernel
theorem d_T_init_47 : decode prog_4_method_1_code 47 = .ok (.putfield 32, 3) := by decide +kernel
theorem d_T_init_50 : decode prog_4_method_1_code 50 = .ok (.iconst 0, 1) := by decide +kernel
theorem d_T_init_51 : decode prog_4_method_1_code 51 = .ok (.istore_n 3, 1) := by decide +kernel
theorem d_T_init_52 : decode prog_4_method_1_code 52 = .ok (.iload_n 3, 1) := by decide +kernel
theorem d_T_init_53 : decode prog_4_method_1_code 53 = .ok (.bipush 64, 2) := by decide +kernel
theorem d_T_init_55 : decode prog_4_method_1_code 55 = .ok (.if_icmp .ge 89, 3) := by decide +kernel
theorem d_T_init_58 : decode prog_4_method_1_code 58 = .ok (.ldc2_w 36, 3) := by decide +kernel
theorem d_T_init_61 : decode prog_4_method_1_code 61 = .ok (.lstore 4, 2) := by decide +kernel
theorem d_T_init_63 : decode prog_4_method_1_code 63 = .ok (.ldc2_w 36, 3) := by decide +kernel
theorem d_T_init_66 : decode prog_4_method_1_code 66 = .ok (.lstore 6, 2) := by decide +kernel
theorem d_T_init_68 : decode prog_4_method_1_code 68 = .ok (.iconst 0, 1) := by decide +kernel
theorem d_T_init_69 : decode prog_4_method_1_code 69 = .ok (.istore 8, 2) := by decide +kernel
theorem d_T_init_71 : decode prog_4_method_1_code 71 = .ok (.iload 8, 2) := by decide +kernel
theorem d_T_init_73 : decode prog_4_method_1_code 73 = .ok (.bipush 6, 2) := by decide +kernel
theorem d_T_init_75 : decode prog_4_method_1_code 75 = .ok (.if_icmp .ge 47, 3) := by decide +kernel
theorem d_T_init_78 : decode prog_4_method_1_code 78 = .ok (.iload_n 3, 1) := by decide +kernel
theorem d_T_init_79 : decode prog_4_method_1_code 79 = .ok (.iload 8, 2) := by decide +kernel
theorem d_T_init_81 : decode prog_4_method_1_code 81 = .ok (.iushr, 1) := by decide +kernel
theorem d_T_init_82 : decode prog_4_method_1_code 82 = .ok (.iconst 1, 1) := by decide +kernel
theorem d_T_init_83 : decode prog_4_method_1_code 83 = .ok (.iand, 1) := by decide +kernel
theorem d_T_init_84 : decode prog_4_method_1_code 84 = .ok (.ifCond .eq 14, 3) := by decide +kernel
theorem d_T_init_87 : decode prog_4_method_1_code 87 = .ok (.lload 4, 2) := by decide +kernel
theorem d_T_init_89 : decode prog_4_method_1_code 89 = .ok (.getstatic 38, 3) := by decide +kernel
theorem d_T_init_92 : decode prog_4_method_1_code 92 = .ok (.iload 8, 2) := by decide +kernel
theorem d_T_init_94 : decode prog_4_method_1_code 94 = .ok (.laload, 1) := by decide +kernel
theorem d_T_init_95 : decode prog_4_method_1_code 95 = .ok (.land, 1) := by decide +kernel
theorem d_T_init_96 : decode prog_4_method_1_code 96 = .ok (.lstore 4, 2) := by decide +kernel
theorem d_T_init_98 : decode prog_4_method_1_code 98 = .ok (.iload_n 3, 1) := by decide +kernel
theorem d_T_init_99 : decode prog_4_method_1_code 99 = .ok (.iload 8, 2) := by decide +kernel
theorem d_T_init_101 : decode prog_4_method_1_code 101 = .ok (.iushr, 1) := by decide +kernel
theorem d_T_init_102 : decode prog_4_method_1_code 102 = .ok (.ifCond .eq 14, 3) := by decide +kernel
theorem d_T_init_105 : decode prog_4_method_1_code 105 = .ok (.lload 6, 2) := by decide +kernel
theorem d_T_init_107 : decode prog_4_method_1_code 107 = .ok (.getstatic 38, 3) := by decide +kernel
theorem d_T_init_110 : decode prog_4_method_1_code 110 = .ok (.iload 8, 2) := by decide +kernel
theorem d_T_init_112 : decode prog_4_method_1_code 112 = .ok (.laload, 1) := by decide +kernel
theorem d_T_init_113 : decode prog_4_method_1_code 113 = .ok (.land, 1) := by decide +kernel
theorem d_T_init_114 : decode prog_4_method_1_code 114 = .ok (.lstore 6, 2) := by decide +kernel
theorem d_T_init_116 : decode prog_4_method_1_code 116 = .ok (.iinc 8 1, 3) := by decide +kernel
theorem d_T_init_119 : decode prog_4_method_1_code 119 = .ok (.goto (-48), 3) := by decide +kernel
theorem d_T_init_122 : decode prog_4_method_1_code 122 = .ok (.aload_n 0, 1) := by decide +kernel
theorem d_T_init_123 : decode prog_4_method_1_code 123 = .ok (.getfield 11, 3) := by decide +kernel
theorem d_T_init_126 : decode prog_4_method_1_code 126 = .ok (.iload_n 3, 1) := by decide +kernel
theorem d_T_init_127 : decode prog_4_method_1_code 127 = .ok (.lload 4, 2) := by decide +kernel
theorem d_T_init_129 : decode prog_4_method_1_code 129 = .ok (.lastore, 1) := by decide +kernel
theorem d_T_init_130 : decode prog_4_method_1_code 130 = .ok (.aload_n 0, 1) := by decide +kernel
theorem d_T_init_131 : decode prog_4_method_1_code 131 = .ok (.getfield 15, 3) := by decide +kernel
theorem d_T_init_134 : decode prog_4_method_1_code 134 = .ok (.iload_n 3, 1) := by decide +kernel
theorem d_T_init_135 : decode prog_4_method_1_code 135 = .ok (.lload 6, 2) := by decide +kernel
theorem d_T_init_137 : decode prog_4_method_1_code 137 = .ok (.lastore, 1) := by decide +kernel
theorem d_T_init_138 : decode prog_4_method_1_code 138 = .ok (.iinc 3 1, 3) := by decide +kernel
theorem d_T_init_141 : decode prog_4_method_1_code 141 = .ok (.goto (-89), 3) := by decide +kernel
theorem d_T_init_144 : decode prog_4_method_1_code 144 = .ok (.return_, 1) := by decide +kernel
abbrev M_V_clear : vg_M := (⟨1, 0, 0, 21⟩, 1, prog_1_method_8_code, ⟨"PatternValidator", "clear", "()I"⟩, some .int, Cond.code ⟨"PatternValidator", "clear", "()I"⟩ prog_1_method_8_code 1 (some .int))
theorem d_V_clear_0 : decode prog_1_method_8_code 0 = .ok (.aload_n 0, 1) := by decide +kernel
theorem d_V_clear_1 : decode prog_1_method_8_code 1 = .ok (.getfield 19, 3) := by decide +kernel
theorem d_V_clear_4 : decode prog_1_method_8_code 4 = .ok (.invokevirtual 94, 3) := by decide +kernel
theorem d_V_clear_7 : decode prog_1_method_8_code 7 = .ok (.ireturn, 1) := by decide +kernel
abbrev M_D_takeAway : vg_M := (⟨0, 0, 0, 0⟩, 2, prog_2_method_12_code, ⟨"PatternValidator$Document", "takeAway", "()I"⟩, some .int, Cond.code ⟨"PatternValidator$Document", "takeAway", "()I"⟩ prog_2_method_12_code 2 (some .int))
theorem d_D_takeAway_0 : decode prog_2_method_12_code 0 = .ok (.aload_n 0, 1) := by decide +kernel
theorem d_D_takeAway_1 : decode prog_2_method_12_code 1 = .ok (.getfield 22, 3) := by decide +kernel
theorem d_D_takeAway_4 : decode prog_2_method_12_code 4 = .ok (.istore_n 1, 1) := by decide +kernel
theorem d_D_takeAway_5 : decode prog_2_method_12_code 5 = .ok (.aload_n 0, 1) := by decide +kernel
theorem d_D_takeAway_6 : decode prog_2_method_12_code 6 = .ok (.iconst 0, 1) := by decide +kernel
theorem d_D_takeAway_7 : decode prog_2_method_12_code 7 = .ok (.putfield 22, 3) := by decide +kernel
theorem d_D_takeAway_10 : decode prog_2_method_12_code 10 = .ok (.aload_n 0, 1) := by decide +kernel
theorem d_D_takeAway_11 : decode prog_2_method_12_code 11 = .ok (.iconst 0, 1) := by decide +kernel
theorem d_D_takeAway_12 : decode prog_2_method_12_code 12 = .ok (.putfield 26, 3) := by decide +kernel
theorem d_D_takeAway_15 : decode prog_2_method_12_code 15 = .ok (.iload_n 1, 1) := by decide +kernel
theorem d_D_takeAway_16 : decode prog_2_method_12_code 16 = .ok (.ireturn, 1) := by decide +kernel
abbrev M_V_pattern : vg_M := (⟨8, 1, 6, 120⟩, 4, prog_1_method_2_code, ⟨"PatternValidator", "pattern", "(III)I"⟩, some .int, Cond.code ⟨"PatternValidator", "pattern", "(III)I"⟩ prog_1_method_2_code 4 (some .int))
theorem d_V_pattern_0 : decode prog_1_method_2_code 0 = .ok (.aload_n 0, 1) := by decide +kernel
theorem d_V_pattern_1 : decode prog_1_method_2_code 1 = .ok (.getfield 10, 3) := by decide +kernel
theorem d_V_pattern_4 : decode prog_1_method_2_code 4 = .ok (.iload_n 1, 1) := by decide +kernel
theorem d_V_pattern_5 : decode prog_1_method_2_code 5 = .ok (.iload_n 2, 1) := by decide +kernel
theorem d_V_pattern_6 : decode prog_1_method_2_code 6 = .ok (.iload_n 3, 1) := by decide +kernel
theorem d_V_pattern_7 : decode prog_1_method_2_code 7 = .ok (.invokevirtual 32, 3) := by decide +kernel
theorem d_V_pattern_10 : decode prog_1_method_2_code 10 = .ok (.ifCond .ne 11, 3) := by decide +kernel
theorem d_V_pattern_13 : decode prog_1_method_2_code 13 = .ok (.new 36, 3) := by decide +kernel
theorem d_V_pattern_16 : decode prog_1_method_2_code 16 = .ok (.dup, 1) := by decide +kernel
theorem d_V_pattern_17 : decode prog_1_method_2_code 17 = .ok (.invokespecial 38, 3) := by decide +kernel
theorem d_V_pattern_20 : decode prog_1_method_2_code 20 = .ok (.athrow, 1) := by decide +kernel
theorem d_V_pattern_21 : decode prog_1_method_2_code 21 = .ok (.aload_n 0, 1) := by decide +kernel
theorem d_V_pattern_22 : decode prog_1_method_2_code 22 = .ok (.getfield 10, 3) := by decide +kernel
theorem d_V_pattern_25 : decode prog_1_method_2_code 25 = .ok (.iload_n 1, 1) := by decide +kernel
theorem d_V_pattern_26 : decode prog_1_method_2_code 26 = .ok (.iload_n 2, 1) := by decide +kernel
theorem d_V_pattern_27 : decode prog_1_method_2_code 27 = .ok (.iload_n 3, 1) := by decide +kernel
theorem d_V_pattern_28 : decode prog_1_method_2_code 28 = .ok (.invokevirtual 39, 3) := by decide +kernel
theorem d_V_pattern_31 : decode prog_1_method_2_code 31 = .ok (.ifCond .ne 11, 3) := by decide +kernel
theorem d_V_pattern_34 : decode prog_1_method_2_code 34 = .ok (.new 42, 3) := by decide +kernel
theorem d_V_pattern_37 : decode prog_1_method_2_code 37 = .ok (.dup, 1) := by decide +kernel
theorem d_V_pattern_38 : decode prog_1_method_2_code 38 = .ok (.invokespecial 44, 3) := by decide +kernel
theorem d_V_pattern_41 : decode prog_1_method_2_code 41 = .ok (.athrow, 1) := by decide +kernel
theorem d_V_pattern_42 : decode prog_1_method_2_code 42 = .ok (.aload_n 0, 1) := by decide +kernel
theorem d_V_pattern_43 : decode prog_1_method_2_code 43 = .ok (.getfield 10, 3) := by decide +kernel
theorem d_V_pattern_46 : decode prog_1_method_2_code 46 = .ok (.iload_n 1, 1) := by decide +kernel
theorem d_V_pattern_47 : decode prog_1_method_2_code 47 = .ok (.iload_n 2, 1) := by decide +kernel
theorem d_V_pattern_48 : decode prog_1_method_2_code 48 = .ok (.iload_n 3, 1) := by decide +kernel
theorem d_V_pattern_49 : decode prog_1_method_2_code 49 = .ok (.invokevirtual 45, 3) := by decide +kernel
theorem d_V_pattern_52 : decode prog_1_method_2_code 52 = .ok (.ireturn, 1) := by decide +kernel
abbrev M_G_allows : vg_M := (⟨1, 0, 0, 21⟩, 4, prog_3_method_3_code, ⟨"PatternValidator$Grammar", "allows", "(III)Z"⟩, some .boolean, Cond.code ⟨"PatternValidator$Grammar", "allows", "(III)Z"⟩ prog_3_method_3_code 4 (some .boolean))
theorem d_G_allows_0 : decode prog_3_method_3_code 0 = .ok (.iload_n 1, 1) := by decide +kernel
theorem d_G_allows_1 : decode prog_3_method_3_code 1 = .ok (.tableswitch 128 0 10 #[59, 59, 59, 59, 61, 61, 61, 83, 89, 89, 113], 59) := by decide +kernel
theorem d_G_allows_60 : decode prog_3_method_3_code 60 = .ok (.iconst 1, 1) := by decide +kernel
theorem d_G_allows_61 : decode prog_3_method_3_code 61 = .ok (.ireturn, 1) := by decide +kernel
theorem d_G_allows_62 : decode prog_3_method_3_code 62 = .ok (.aload_n 0, 1) := by decide +kernel
theorem d_G_allows_63 : decode prog_3_method_3_code 63 = .ok (.iload_n 2, 1) := by decide +kernel
theorem d_G_allows_64 : decode prog_3_method_3_code 64 = .ok (.invokevirtual 34, 3) := by decide +kernel
theorem d_G_allows_67 : decode prog_3_method_3_code 67 = .ok (.ifCond .eq 15, 3) := by decide +kernel
theorem d_G_allows_70 : decode prog_3_method_3_code 70 = .ok (.aload_n 0, 1) := by decide +kernel
theorem d_G_allows_71 : decode prog_3_method_3_code 71 = .ok (.iload_n 3, 1) := by decide +kernel
theorem d_G_allows_72 : decode prog_3_method_3_code 72 = .ok (.invokevirtual 34, 3) := by decide +kernel
theorem d_G_allows_75 : decode prog_3_method_3_code 75 = .ok (.ifCond .eq 7, 3) := by decide +kernel
theorem d_G_allows_78 : decode prog_3_method_3_code 78 = .ok (.iconst 1, 1) := by decide +kernel
theorem d_G_allows_79 : decode prog_3_method_3_code 79 = .ok (.goto 4, 3) := by decide +kernel
theorem d_G_allows_82 : decode prog_3_method_3_code 82 = .ok (.iconst 0, 1) := by decide +kernel
theorem d_G_allows_83 : decode prog_3_method_3_code 83 = .ok (.ireturn, 1) := by decide +kernel
theorem d_G_allows_84 : decode prog_3_method_3_code 84 = .ok (.aload_n 0, 1) := by decide +kernel
theorem d_G_allows_85 : decode prog_3_method_3_code 85 = .ok (.iload_n 2, 1) := by decide +kernel
theorem d_G_allows_86 : decode prog_3_method_3_code 86 = .ok (.invokevirtual 34, 3) := by decide +kernel
theorem d_G_allows_89 : decode prog_3_method_3_code 89 = .ok (.ireturn, 1) := by decide +kernel
theorem d_G_allows_90 : decode prog_3_method_3_code 90 = .ok (.iload_n 2, 1) := by decide +kernel
theorem d_G_allows_91 : decode prog_3_method_3_code 91 = .ok (.ifCond .lt 21, 3) := by decide +kernel
theorem d_G_allows_94 : decode prog_3_method_3_code 94 = .ok (.iload_n 2, 1) := by decide +kernel
theorem d_G_allows_95 : decode prog_3_method_3_code 95 = .ok (.bipush 6, 2) := by decide +kernel
theorem d_G_allows_97 : decode prog_3_method_3_code 97 = .ok (.if_icmp .gt 15, 3) := by decide +kernel
theorem d_G_allows_100 : decode prog_3_method_3_code 100 = .ok (.aload_n 0, 1) := by decide +kernel
theorem d_G_allows_101 : decode prog_3_method_3_code 101 = .ok (.iload_n 3, 1) := by decide +kernel
theorem d_G_allows_102 : decode prog_3_method_3_code 102 = .ok (.invokevirtual 34, 3) := by decide +kernel
theorem d_G_allows_105 : decode prog_3_method_3_code 105 = .ok (.ifCond .eq 7, 3) := by decide +kernel
theorem d_G_allows_108 : decode prog_3_method_3_code 108 = .ok (.iconst 1, 1) := by decide +kernel
theorem d_G_allows_109 : decode prog_3_method_3_code 109 = .ok (.goto 4, 3) := by decide +kernel
theorem d_G_allows_112 : decode prog_3_method_3_code 112 = .ok (.iconst 0, 1) := by decide +kernel
theorem d_G_allows_113 : decode prog_3_method_3_code 113 = .ok (.ireturn, 1) := by decide +kernel
theorem d_G_allows_114 : decode prog_3_method_3_code 114 = .ok (.iload_n 2, 1) := by decide +kernel
theorem d_G_allows_115 : decode prog_3_method_3_code 115 = .ok (.ifCond .lt 12, 3) := by decide +kernel
theorem d_G_allows_118 : decode prog_3_method_3_code 118 = .ok (.iload_n 2, 1) := by decide +kernel
theorem d_G_allows_119 : decode prog_3_method_3_code 119 = .ok (.iconst 4, 1) := by decide +kernel
theorem d_G_allows_120 : decode prog_3_method_3_code 120 = .ok (.if_icmp .ge 7, 3) := by decide +kernel
theorem d_G_allows_123 : decode prog_3_method_3_code 123 = .ok (.iconst 1, 1) := by decide +kernel
theorem d_G_allows_124 : decode prog_3_method_3_code 124 = .ok (.goto 4, 3) := by decide +kernel
theorem d_G_allows_127 : decode prog_3_method_3_code 127 = .ok (.iconst 0, 1) := by decide +kernel
theorem d_G_allows_128 : decode prog_3_method_3_code 128 = .ok (.ireturn, 1) := by decide +kernel
theorem d_G_allows_129 : decode prog_3_method_3_code 129 = .ok (.iconst 0, 1) := by decide +kernel
theorem d_G_allows_130 : decode prog_3_method_3_code 130 = .ok (.ireturn, 1) := by decide +kernel
abbrev M_G_has : vg_M := (⟨0, 0, 0, 0⟩, 2, prog_3_method_2_code, ⟨"PatternValidator$Grammar", "has", "(I)Z"⟩, some .boolean, Cond.code ⟨"PatternValidator$Grammar", "has", "(I)Z"⟩ prog_3_method_2_code 2 (some .boolean))
theorem d_G_has_0 : decode prog_3_method_2_code 0 = .ok (.iload_n 1, 1) := by decide +kernel
theorem d_G_has_1 : decode prog_3_method_2_code 1 = .ok (.ifCond .lt 15, 3) := by decide +kernel
theorem d_G_has_4 : decode prog_3_method_2_code 4 = .ok (.iload_n 1, 1) := by decide +kernel
theorem d_G_has_5 : decode prog_3_method_2_code 5 = .ok (.aload_n 0, 1) := by decide +kernel
theorem d_G_has_6 : decode prog_3_method_2_code 6 = .ok (.getfield 30, 3) := by decide +kernel
theorem d_G_has_9 : decode prog_3_method_2_code 9 = .ok (.if_icmp .ge 7, 3) := by decide +kernel
theorem d_G_has_12 : decode prog_3_method_2_code 12 = .ok (.iconst 1, 1) := by decide +kernel
theorem d_G_has_13 : decode prog_3_method_2_code 13 = .ok (.goto 4, 3) := by decide +kernel
theorem d_G_has_16 : decode prog_3_method_2_code 16 = .ok (.iconst 0, 1) := by decide +kernel
theorem d_G_has_17 : decode prog_3_method_2_code 17 = .ok (.ireturn, 1) := by decide +kernel
abbrev M_G_hasRoomFor : vg_M := (⟨2, 0, 0, 45⟩, 4, prog_3_method_4_code, ⟨"PatternValidator$Grammar", "hasRoomFor", "(III)Z"⟩, some .boolean, Cond.code ⟨"PatternValidator$Grammar", "hasRoomFor", "(III)Z"⟩ prog_3_method_4_code 4 (some .boolean))
theorem d_G_hasRoomFor_0 : decode prog_3_method_4_code 0 = .ok (.aload_n 0, 1) := by decide +kernel
theorem d_G_hasRoomFor_1 : decode prog_3_method_4_code 1 = .ok (.getfield 30, 3) := by decide +kernel
theorem d_G_hasRoomFor_4 : decode prog_3_method_4_code 4 = .ok (.bipush 40, 2) := by decide +kernel
theorem d_G_hasRoomFor_6 : decode prog_3_method_4_code 6 = .ok (.if_icmp .ge 18, 3) := by decide +kernel
theorem d_G_hasRoomFor_9 : decode prog_3_method_4_code 9 = .ok (.aload_n 0, 1) := by decide +kernel
theorem d_G_hasRoomFor_10 : decode prog_3_method_4_code 10 = .ok (.iload_n 1, 1) := by decide +kernel
theorem d_G_hasRoomFor_11 : decode prog_3_method_4_code 11 = .ok (.iload_n 2, 1) := by decide +kernel
theorem d_G_hasRoomFor_12 : decode prog_3_method_4_code 12 = .ok (.iload_n 3, 1) := by decide +kernel
theorem d_G_hasRoomFor_13 : decode prog_3_method_4_code 13 = .ok (.invokevirtual 38, 3) := by decide +kernel
theorem d_G_hasRoomFor_16 : decode prog_3_method_4_code 16 = .ok (.iconst 5, 1) := by decide +kernel
theorem d_G_hasRoomFor_17 : decode prog_3_method_4_code 17 = .ok (.if_icmp .gt 7, 3) := by decide +kernel
theorem d_G_hasRoomFor_20 : decode prog_3_method_4_code 20 = .ok (.iconst 1, 1) := by decide +kernel
theorem d_G_hasRoomFor_21 : decode prog_3_method_4_code 21 = .ok (.goto 4, 3) := by decide +kernel
theorem d_G_hasRoomFor_24 : decode prog_3_method_4_code 24 = .ok (.iconst 0, 1) := by decide +kernel
theorem d_G_hasRoomFor_25 : decode prog_3_method_4_code 25 = .ok (.ireturn, 1) := by decide +kernel
abbrev M_G_depthOf : vg_M := (⟨1, 0, 0, 21⟩, 5, prog_3_method_6_code, ⟨"PatternValidator$Grammar", "depthOf", "(III)I"⟩, some .int, Cond.code ⟨"PatternValidator$Grammar", "depthOf", "(III)I"⟩ prog_3_method_6_code 5 (some .int))
theorem d_G_depthOf_0 : decode prog_3_method_6_code 0 = .ok (.iconst 0, 1) := by decide +kernel
theorem d_G_depthOf_1 : decode prog_3_method_6_code 1 = .ok (.istore 4, 2) := by decide +kernel
theorem d_G_depthOf_3 : decode prog_3_method_6_code 3 = .ok (.iload_n 1, 1) := by decide +kernel
theorem d_G_depthOf_4 : decode prog_3_method_6_code 4 = .ok (.invokestatic 42, 3) := by decide +kernel
theorem d_G_depthOf_7 : decode prog_3_method_6_code 7 = .ok (.ifCond .eq 11, 3) := by decide +kernel
theorem d_G_depthOf_10 : decode prog_3_method_6_code 10 = .ok (.aload_n 0, 1) := by decide +kernel
theorem d_G_depthOf_11 : decode prog_3_method_6_code 11 = .ok (.getfield 21, 3) := by decide +kernel
theorem d_G_depthOf_14 : decode prog_3_method_6_code 14 = .ok (.iload_n 2, 1) := by decide +kernel
theorem d_G_depthOf_15 : decode prog_3_method_6_code 15 = .ok (.iaload, 1) := by decide +kernel
theorem d_G_depthOf_16 : decode prog_3_method_6_code 16 = .ok (.istore 4, 2) := by decide +kernel
theorem d_G_depthOf_18 : decode prog_3_method_6_code 18 = .ok (.iload_n 1, 1) := by decide +kernel
theorem d_G_depthOf_19 : decode prog_3_method_6_code 19 = .ok (.invokestatic 45, 3) := by decide +kernel
theorem d_G_depthOf_22 : decode prog_3_method_6_code 22 = .ok (.ifCond .eq 16, 3) := by decide +kernel
theorem d_G_depthOf_25 : decode prog_3_method_6_code 25 = .ok (.iload 4, 2) := by decide +kernel
theorem d_G_depthOf_27 : decode prog_3_method_6_code 27 = .ok (.aload_n 0, 1) := by decide +kernel
theorem d_G_depthOf_28 : decode prog_3_method_6_code 28 = .ok (.getfield 21, 3) := by decide +kernel
theorem d_G_depthOf_31 : decode prog_3_method_6_code 31 = .ok (.iload_n 3, 1) := by decide +kernel
theorem d_G_depthOf_32 : decode prog_3_method_6_code 32 = .ok (.iaload, 1) := by decide +kernel
theorem d_G_depthOf_33 : decode prog_3_method_6_code 33 = .ok (.invokestatic 48, 3) := by decide +kernel
theorem d_G_depthOf_36 : decode prog_3_method_6_code 36 = .ok (.istore 4, 2) := by decide +kernel
theorem d_G_depthOf_38 : decode prog_3_method_6_code 38 = .ok (.iload 4, 2) := by decide +kernel
theorem d_G_depthOf_40 : decode prog_3_method_6_code 40 = .ok (.iconst 1, 1) := by decide +kernel
theorem d_G_depthOf_41 : decode prog_3_method_6_code 41 = .ok (.iadd, 1) := by decide +kernel
theorem d_G_depthOf_42 : decode prog_3_method_6_code 42 = .ok (.ireturn, 1) := by decide +kernel
abbrev M_G_isMadeOfFirst : vg_M := (⟨0, 0, 0, 0⟩, 1, prog_3_method_7_code, ⟨"PatternValidator$Grammar", "isMadeOfFirst", "(I)Z"⟩, some .boolean, Cond.code ⟨"PatternValidator$Grammar", "isMadeOfFirst", "(I)Z"⟩ prog_3_method_7_code 1 (some .boolean))
theorem d_G_isMadeOfFirst_0 : decode prog_3_method_7_code 0 = .ok (.iload_n 0, 1) := by decide +kernel
theorem d_G_isMadeOfFirst_1 : decode prog_3_method_7_code 1 = .ok (.iconst 4, 1) := by decide +kernel
theorem d_G_isMadeOfFirst_2 : decode prog_3_method_7_code 2 = .ok (.if_icmp .eq 20, 3) := by decide +kernel
theorem d_G_isMadeOfFirst_5 : decode prog_3_method_7_code 5 = .ok (.iload_n 0, 1) := by decide +kernel
theorem d_G_isMadeOfFirst_6 : decode prog_3_method_7_code 6 = .ok (.iconst 5, 1) := by decide +kernel
theorem d_G_isMadeOfFirst_7 : decode prog_3_method_7_code 7 = .ok (.if_icmp .eq 15, 3) := by decide +kernel
theorem d_G_isMadeOfFirst_10 : decode prog_3_method_7_code 10 = .ok (.iload_n 0, 1) := by decide +kernel
theorem d_G_isMadeOfFirst_11 : decode prog_3_method_7_code 11 = .ok (.bipush 6, 2) := by decide +kernel
theorem d_G_isMadeOfFirst_13 : decode prog_3_method_7_code 13 = .ok (.if_icmp .eq 9, 3) := by decide +kernel
theorem d_G_isMadeOfFirst_16 : decode prog_3_method_7_code 16 = .ok (.iload_n 0, 1) := by decide +kernel
theorem d_G_isMadeOfFirst_17 : decode prog_3_method_7_code 17 = .ok (.bipush 7, 2) := by decide +kernel
theorem d_G_isMadeOfFirst_19 : decode prog_3_method_7_code 19 = .ok (.if_icmp .ne 7, 3) := by decide +kernel
theorem d_G_isMadeOfFirst_22 : decode prog_3_method_7_code 22 = .ok (.iconst 1, 1) := by decide +kernel
theorem d_G_isMadeOfFirst_23 : decode prog_3_method_7_code 23 = .ok (.goto 4, 3) := by decide +kernel
theorem d_G_isMadeOfFirst_26 : decode prog_3_method_7_code 26 = .ok (.iconst 0, 1) := by decide +kernel
theorem d_G_isMadeOfFirst_27 : decode prog_3_method_7_code 27 = .ok (.ireturn, 1) := by decide +kernel
abbrev M_G_isMadeOfSecond : vg_M := (⟨0, 0, 0, 0⟩, 1, prog_3_method_8_code, ⟨"PatternValidator$Grammar", "isMadeOfSecond", "(I)Z"⟩, some .boolean, Cond.code ⟨"PatternValidator$Grammar", "isMadeOfSecond", "(I)Z"⟩ prog_3_method_8_code 1 (some .boolean))
theorem d_G_isMadeOfSecond_0 : decode prog_3_method_8_code 0 = .ok (.iload_n 0, 1) := by decide +kernel
theorem d_G_isMadeOfSecond_1 : decode prog_3_method_8_code 1 = .ok (.iconst 4, 1) := by decide +kernel
theorem d_G_isMadeOfSecond_2 : decode prog_3_method_8_code 2 = .ok (.if_icmp .eq 26, 3) := by decide +kernel
theorem d_G_isMadeOfSecond_5 : decode prog_3_method_8_code 5 = .ok (.iload_n 0, 1) := by decide +kernel
theorem d_G_isMadeOfSecond_6 : decode prog_3_method_8_code 6 = .ok (.iconst 5, 1) := by decide +kernel
theorem d_G_isMadeOfSecond_7 : decode prog_3_method_8_code 7 = .ok (.if_icmp .eq 21, 3) := by decide +kernel
theorem d_G_isMadeOfSecond_10 : decode prog_3_method_8_code 10 = .ok (.iload_n 0, 1) := by decide +kernel
theorem d_G_isMadeOfSecond_11 : decode prog_3_method_8_code 11 = .ok (.bipush 6, 2) := by decide +kernel
theorem d_G_isMadeOfSecond_13 : decode prog_3_method_8_code 13 = .ok (.if_icmp .eq 15, 3) := by decide +kernel
theorem d_G_isMadeOfSecond_16 : decode prog_3_method_8_code 16 = .ok (.iload_n 0, 1) := by decide +kernel
theorem d_G_isMadeOfSecond_17 : decode prog_3_method_8_code 17 = .ok (.bipush 8, 2) := by decide +kernel
theorem d_G_isMadeOfSecond_19 : decode prog_3_method_8_code 19 = .ok (.if_icmp .eq 9, 3) := by decide +kernel
theorem d_G_isMadeOfSecond_22 : decode prog_3_method_8_code 22 = .ok (.iload_n 0, 1) := by decide +kernel
theorem d_G_isMadeOfSecond_23 : decode prog_3_method_8_code 23 = .ok (.bipush 9, 2) := by decide +kernel
theorem d_G_isMadeOfSecond_25 : decode prog_3_method_8_code 25 = .ok (.if_icmp .ne 7, 3) := by decide +kernel
theorem d_G_isMadeOfSecond_28 : decode prog_3_method_8_code 28 = .ok (.iconst 1, 1) := by decide +kernel
theorem d_G_isMadeOfSecond_29 : decode prog_3_method_8_code 29 = .ok (.goto 4, 3) := by decide +kernel
theorem d_G_isMadeOfSecond_32 : decode prog_3_method_8_code 32 = .ok (.iconst 0, 1) := by decide +kernel
theorem d_G_isMadeOfSecond_33 : decode prog_3_method_8_code 33 = .ok (.ireturn, 1) := by decide +kernel
abbrev M_H_max : vg_M := (⟨0, 0, 0, 0⟩, 2, prog_12_method_65_code, ⟨"java/lang/Math", "max", "(II)I"⟩, some .int, Cond.code ⟨"java/lang/Math", "max", "(II)I"⟩ prog_12_method_65_code 2 (some .int))
theorem d_H_max_0 : decode prog_12_method_65_code 0 = .ok (.iload_n 0, 1) := by decide +kernel
theorem d_H_max_1 : decode prog_12_method_65_code 1 = .ok (.iload_n 1, 1) := by decide +kernel
theorem d_H_max_2 : decode prog_12_method_65_code 2 = .ok (.if_icmp .lt 7, 3) := by decide +kernel
theorem d_H_max_5 : decode prog_12_method_65_code 5 = .ok (.iload_n 0, 1) := by decide +kernel
theorem d_H_max_6 : decode prog_12_method_65_code 6 = .ok (.goto 4, 3) := by decide +kernel
theorem d_H_max_9 : decode prog_12_method_65_code 9 = .ok (.iload_n 1, 1) := by decide +kernel
theorem d_H_max_10 : decode prog_12_method_65_code 10 = .ok (.ireturn, 1) := by decide +kernel
abbrev M_G_addPattern : vg_M := (⟨2, 0, 0, 45⟩, 4, prog_3_method_5_code, ⟨"PatternValidator$Grammar", "addPattern", "(III)I"⟩, some .int, Cond.code ⟨"PatternValidator$Grammar", "addPattern", "(III)I"⟩ prog_3_method_5_code 4 (some .int))
theorem d_G_addPattern_0 : decode prog_3_method_5_code 0 = .ok (.aload_n 0, 1) := by decide +kernel
theorem d_G_addPattern_1 : decode prog_3_method_5_code 1 = .ok (.getfield 9, 3) := by decide +kernel
theorem d_G_addPattern_4 : decode prog_3_method_5_code 4 = .ok (.aload_n 0, 1) := by decide +kernel
theorem d_G_addPattern_5 : decode prog_3_method_5_code 5 = .ok (.getfield 30, 3) := by decide +kernel
theorem d_G_addPattern_8 : decode prog_3_method_5_code 8 = .ok (.iload_n 1, 1) := by decide +kernel
theorem d_G_addPattern_9 : decode prog_3_method_5_code 9 = .ok (.iastore, 1) := by decide +kernel
theorem d_G_addPattern_10 : decode prog_3_method_5_code 10 = .ok (.aload_n 0, 1) := by decide +kernel
theorem d_G_addPattern_11 : decode prog_3_method_5_code 11 = .ok (.getfield 15, 3) := by decide +kernel
theorem d_G_addPattern_14 : decode prog_3_method_5_code 14 = .ok (.aload_n 0, 1) := by decide +kernel
theorem d_G_addPattern_15 : decode prog_3_method_5_code 15 = .ok (.getfield 30, 3) := by decide +kernel
theorem d_G_addPattern_18 : decode prog_3_method_5_code 18 = .ok (.iload_n 2, 1) := by decide +kernel
theorem d_G_addPattern_19 : decode prog_3_method_5_code 19 = .ok (.iastore, 1) := by decide +kernel
theorem d_G_addPattern_20 : decode prog_3_method_5_code 20 = .ok (.aload_n 0, 1) := by decide +kernel
theorem d_G_addPattern_21 : decode prog_3_method_5_code 21 = .ok (.getfield 18, 3) := by decide +kernel
theorem d_G_addPattern_24 : decode prog_3_method_5_code 24 = .ok (.aload_n 0, 1) := by decide +kernel
theorem d_G_addPattern_25 : decode prog_3_method_5_code 25 = .ok (.getfield 30, 3) := by decide +kernel
theorem d_G_addPattern_28 : decode prog_3_method_5_code 28 = .ok (.iload_n 3, 1) := by decide +kernel
theorem d_G_addPattern_29 : decode prog_3_method_5_code 29 = .ok (.iastore, 1) := by decide +kernel
theorem d_G_addPattern_30 : decode prog_3_method_5_code 30 = .ok (.aload_n 0, 1) := by decide +kernel
theorem d_G_addPattern_31 : decode prog_3_method_5_code 31 = .ok (.getfield 21, 3) := by decide +kernel
theorem d_G_addPattern_34 : decode prog_3_method_5_code 34 = .ok (.aload_n 0, 1) := by decide +kernel
theorem d_G_addPattern_35 : decode prog_3_method_5_code 35 = .ok (.getfield 30, 3) := by decide +kernel
theorem d_G_addPattern_38 : decode prog_3_method_5_code 38 = .ok (.aload_n 0, 1) := by decide +kernel
theorem d_G_addPattern_39 : decode prog_3_method_5_code 39 = .ok (.iload_n 1, 1) := by decide +kernel
theorem d_G_addPattern_40 : decode prog_3_method_5_code 40 = .ok (.iload_n 2, 1) := by decide +kernel
theorem d_G_addPattern_41 : decode prog_3_method_5_code 41 = .ok (.iload_n 3, 1) := by decide +kernel
theorem d_G_addPattern_42 : decode prog_3_method_5_code 42 = .ok (.invokevirtual 38, 3) := by decide +kernel
theorem d_G_addPattern_45 : decode prog_3_method_5_code 45 = .ok (.iastore, 1) := by decide +kernel
theorem d_G_addPattern_46 : decode prog_3_method_5_code 46 = .ok (.aload_n 0, 1) := by decide +kernel
theorem d_G_addPattern_47 : decode prog_3_method_5_code 47 = .ok (.dup, 1) := by decide +kernel
theorem d_G_addPattern_48 : decode prog_3_method_5_code 48 = .ok (.getfield 30, 3) := by decide +kernel
theorem d_G_addPattern_51 : decode prog_3_method_5_code 51 = .ok (.iconst 1, 1) := by decide +kernel
theorem d_G_addPattern_52 : decode prog_3_method_5_code 52 = .ok (.iadd, 1) := by decide +kernel
theorem d_G_addPattern_53 : decode prog_3_method_5_code 53 = .ok (.putfield 30, 3) := by decide +kernel
theorem d_G_addPattern_56 : decode prog_3_method_5_code 56 = .ok (.aload_n 0, 1) := by decide +kernel
theorem d_G_addPattern_57 : decode prog_3_method_5_code 57 = .ok (.getfield 30, 3) := by decide +kernel
theorem d_G_addPattern_60 : decode prog_3_method_5_code 60 = .ok (.iconst 1, 1) := by decide +kernel
theorem d_G_addPattern_61 : decode prog_3_method_5_code 61 = .ok (.isub, 1) := by decide +kernel
theorem d_G_addPattern_62 : decode prog_3_method_5_code 62 = .ok (.ireturn, 1) := by decide +kernel
abbrev M_V_define : vg_M := (⟨36, 1, 6, 828⟩, 3, prog_1_method_3_code, ⟨"PatternValidator", "define", "(II)I"⟩, some .int, Cond.code ⟨"PatternValidator", "define", "(II)I"⟩ prog_1_method_3_code 3 (some .int))
theorem d_V_define_0 : decode prog_1_method_3_code 0 = .ok (.iload_n 1, 1) := by decide +kernel
theorem d_V_define_1 : decode prog_1_method_3_code 1 = .ok (.ifCond .lt 8, 3) := by decide +kernel
theorem d_V_define_4 : decode prog_1_method_3_code 4 = .ok (.iload_n 1, 1) := by decide +kernel
theorem d_V_define_5 : decode prog_1_method_3_code 5 = .ok (.iconst 4, 1) := by decide +kernel
theorem d_V_define_6 : decode prog_1_method_3_code 6 = .ok (.if_icmp .lt 11, 3) := by decide +kernel
theorem d_V_define_9 : decode prog_1_method_3_code 9 = .ok (.new 36, 3) := by decide +kernel
theorem d_V_define_12 : decode prog_1_method_3_code 12 = .ok (.dup, 1) := by decide +kernel
theorem d_V_define_13 : decode prog_1_method_3_code 13 = .ok (.invokespecial 38, 3) := by decide +kernel
theorem d_V_define_16 : decode prog_1_method_3_code 16 = .ok (.athrow, 1) := by decide +kernel
theorem d_V_define_17 : decode prog_1_method_3_code 17 = .ok (.aload_n 0, 1) := by decide +kernel
theorem d_V_define_18 : decode prog_1_method_3_code 18 = .ok (.getfield 10, 3) := by decide +kernel
theorem d_V_define_21 : decode prog_1_method_3_code 21 = .ok (.iload_n 2, 1) := by decide +kernel
theorem d_V_define_22 : decode prog_1_method_3_code 22 = .ok (.invokevirtual 49, 3) := by decide +kernel
theorem d_V_define_25 : decode prog_1_method_3_code 25 = .ok (.ifCond .ne 11, 3) := by decide +kernel
theorem d_V_define_28 : decode prog_1_method_3_code 28 = .ok (.new 53, 3) := by decide +kernel
theorem d_V_define_31 : decode prog_1_method_3_code 31 = .ok (.dup, 1) := by decide +kernel
theorem d_V_define_32 : decode prog_1_method_3_code 32 = .ok (.invokespecial 55, 3) := by decide +kernel
theorem d_V_define_35 : decode prog_1_method_3_code 35 = .ok (.athrow, 1) := by decide +kernel
theorem d_V_define_36 : decode prog_1_method_3_code 36 = .ok (.aload_n 0, 1) := by decide +kernel
theorem d_V_define_37 : decode prog_1_method_3_code 37 = .ok (.getfield 10, 3) := by decide +kernel
theorem d_V_define_40 : decode prog_1_method_3_code 40 = .ok (.iload_n 2, 1) := by decide +kernel
theorem d_V_define_41 : decode prog_1_method_3_code 41 = .ok (.iload_n 1, 1) := by decide +kernel
theorem d_V_define_42 : decode prog_1_method_3_code 42 = .ok (.invokevirtual 56, 3) := by decide +kernel
theorem d_V_define_45 : decode prog_1_method_3_code 45 = .ok (.ifCond .eq 11, 3) := by decide +kernel
theorem d_V_define_48 : decode prog_1_method_3_code 48 = .ok (.new 60, 3) := by decide +kernel
theorem d_V_define_51 : decode prog_1_method_3_code 51 = .ok (.dup, 1) := by decide +kernel
theorem d_V_define_52 : decode prog_1_method_3_code 52 = .ok (.invokespecial 62, 3) := by decide +kernel
theorem d_V_define_55 : decode prog_1_method_3_code 55 = .ok (.athrow, 1) := by decide +kernel
theorem d_V_define_56 : decode prog_1_method_3_code 56 = .ok (.aload_n 0, 1) := by decide +kernel
theorem d_V_define_57 : decode prog_1_method_3_code 57 = .ok (.getfield 10, 3) := by decide +kernel
theorem d_V_define_60 : decode prog_1_method_3_code 60 = .ok (.iload_n 1, 1) := by decide +kernel
theorem d_V_define_61 : decode prog_1_method_3_code 61 = .ok (.iload_n 2, 1) := by decide +kernel
theorem d_V_define_62 : decode prog_1_method_3_code 62 = .ok (.invokevirtual 63, 3) := by decide +kernel
theorem d_V_define_65 : decode prog_1_method_3_code 65 = .ok (.ifCond .eq 7, 3) := by decide +kernel
theorem d_V_define_68 : decode prog_1_method_3_code 68 = .ok (.iconst 1, 1) := by decide +kernel
theorem d_V_define_69 : decode prog_1_method_3_code 69 = .ok (.goto 4, 3) := by decide +kernel
theorem d_V_define_72 : decode prog_1_method_3_code 72 = .ok (.iconst 0, 1) := by decide +kernel
theorem d_V_define_73 : decode prog_1_method_3_code 73 = .ok (.ireturn, 1) := by decide +kernel
abbrev M_G_comesTo : vg_M := (⟨35, 0, 0, 805⟩, 4, prog_3_method_11_code, ⟨"PatternValidator$Grammar", "comesTo", "(II)Z"⟩, some .boolean, Cond.code ⟨"PatternValidator$Grammar", "comesTo", "(II)Z"⟩ prog_3_method_11_code 4 (some .boolean))
theorem d_G_comesTo_0 : decode prog_3_method_11_code 0 = .ok (.aload_n 0, 1) := by decide +kernel
theorem d_G_comesTo_1 : decode prog_3_method_11_code 1 = .ok (.invokevirtual 54, 3) := by decide +kernel
theorem d_G_comesTo_4 : decode prog_3_method_11_code 4 = .ok (.aload_n 0, 1) := by decide +kernel
theorem d_G_comesTo_5 : decode prog_3_method_11_code 5 = .ok (.iload_n 1, 1) := by decide +kernel
theorem d_G_comesTo_6 : decode prog_3_method_11_code 6 = .ok (.iconst 0, 1) := by decide +kernel
theorem d_G_comesTo_7 : decode prog_3_method_11_code 7 = .ok (.invokevirtual 57, 3) := by decide +kernel
theorem d_G_comesTo_10 : decode prog_3_method_11_code 10 = .ok (.iconst 0, 1) := by decide +kernel
theorem d_G_comesTo_11 : decode prog_3_method_11_code 11 = .ok (.istore_n 3, 1) := by decide +kernel
theorem d_G_comesTo_12 : decode prog_3_method_11_code 12 = .ok (.iload_n 3, 1) := by decide +kernel
theorem d_G_comesTo_13 : decode prog_3_method_11_code 13 = .ok (.aload_n 0, 1) := by decide +kernel
theorem d_G_comesTo_14 : decode prog_3_method_11_code 14 = .ok (.getfield 61, 3) := by decide +kernel
theorem d_G_comesTo_17 : decode prog_3_method_11_code 17 = .ok (.if_icmp .ge 42, 3) := by decide +kernel
theorem d_G_comesTo_20 : decode prog_3_method_11_code 20 = .ok (.aload_n 0, 1) := by decide +kernel
theorem d_G_comesTo_21 : decode prog_3_method_11_code 21 = .ok (.getfield 9, 3) := by decide +kernel
theorem d_G_comesTo_24 : decode prog_3_method_11_code 24 = .ok (.aload_n 0, 1) := by decide +kernel
theorem d_G_comesTo_25 : decode prog_3_method_11_code 25 = .ok (.getfield 27, 3) := by decide +kernel
theorem d_G_comesTo_28 : decode prog_3_method_11_code 28 = .ok (.iload_n 3, 1) := by decide +kernel
theorem d_G_comesTo_29 : decode prog_3_method_11_code 29 = .ok (.iaload, 1) := by decide +kernel
theorem d_G_comesTo_30 : decode prog_3_method_11_code 30 = .ok (.iaload, 1) := by decide +kernel
theorem d_G_comesTo_31 : decode prog_3_method_11_code 31 = .ok (.bipush 10, 2) := by decide +kernel
theorem d_G_comesTo_33 : decode prog_3_method_11_code 33 = .ok (.if_icmp .ne 20, 3) := by decide +kernel
theorem d_G_comesTo_36 : decode prog_3_method_11_code 36 = .ok (.aload_n 0, 1) := by decide +kernel
theorem d_G_comesTo_37 : decode prog_3_method_11_code 37 = .ok (.getfield 15, 3) := by decide +kernel
theorem d_G_comesTo_40 : decode prog_3_method_11_code 40 = .ok (.aload_n 0, 1) := by decide +kernel
theorem d_G_comesTo_41 : decode prog_3_method_11_code 41 = .ok (.getfield 27, 3) := by decide +kernel
theorem d_G_comesTo_44 : decode prog_3_method_11_code 44 = .ok (.iload_n 3, 1) := by decide +kernel
theorem d_G_comesTo_45 : decode prog_3_method_11_code 45 = .ok (.iaload, 1) := by decide +kernel
theorem d_G_comesTo_46 : decode prog_3_method_11_code 46 = .ok (.iaload, 1) := by decide +kernel
theorem d_G_comesTo_47 : decode prog_3_method_11_code 47 = .ok (.iload_n 2, 1) := by decide +kernel
theorem d_G_comesTo_48 : decode prog_3_method_11_code 48 = .ok (.if_icmp .ne 5, 3) := by decide +kernel
theorem d_G_comesTo_51 : decode prog_3_method_11_code 51 = .ok (.iconst 1, 1) := by decide +kernel
theorem d_G_comesTo_52 : decode prog_3_method_11_code 52 = .ok (.ireturn, 1) := by decide +kernel
theorem d_G_comesTo_53 : decode prog_3_method_11_code 53 = .ok (.iinc 3 1, 3) := by decide +kernel
theorem d_G_comesTo_56 : decode prog_3_method_11_code 56 = .ok (.goto (-44), 3) := by decide +kernel
theorem d_G_comesTo_59 : decode prog_3_method_11_code 59 = .ok (.iconst 0, 1) := by decide +kernel
theorem d_G_comesTo_60 : decode prog_3_method_11_code 60 = .ok (.ireturn, 1) := by decide +kernel
abbrev M_G_startList : vg_M := (⟨0, 0, 0, 0⟩, 1, prog_3_method_13_code, ⟨"PatternValidator$Grammar", "startList", "()V"⟩, none, Cond.code ⟨"PatternValidator$Grammar", "startList", "()V"⟩ prog_3_method_13_code 1 (none))
theorem d_G_startList_0 : decode prog_3_method_13_code 0 = .ok (.aload_n 0, 1) := by decide +kernel
theorem d_G_startList_1 : decode prog_3_method_13_code 1 = .ok (.iconst 0, 1) := by decide +kernel
theorem d_G_startList_2 : decode prog_3_method_13_code 2 = .ok (.putfield 61, 3) := by decide +kernel
theorem d_G_startList_5 : decode prog_3_method_13_code 5 = .ok (.aload_n 0, 1) := by decide +kernel
theorem d_G_startList_6 : decode prog_3_method_13_code 6 = .ok (.lconst 0, 1) := by decide +kernel
theorem d_G_startList_7 : decode prog_3_method_13_code 7 = .ok (.putfield 64, 3) := by decide +kernel
theorem d_G_startList_10 : decode prog_3_method_13_code 10 = .ok (.return_, 1) := by decide +kernel
abbrev M_G_list (d : Nat) : vg_M := (⟨d + 1, 0, 0, 23 * d + 23⟩, 4, prog_3_method_14_code, ⟨"PatternValidator$Grammar", "list", "(II)V"⟩, none, Cond.code ⟨"PatternValidator$Grammar", "list", "(II)V"⟩ prog_3_method_14_code 4 (none))
theorem d_G_list_0 : decode prog_3_method_14_code 0 = .ok (.iload_n 2, 1) := by decide +kernel
theorem d_G_list_1 : decode prog_3_method_14_code 1 = .ok (.bipush 32, 2) := by decide +kernel
theorem d_G_list_3 : decode prog_3_method_14_code 3 = .ok (.if_icmp .gt 16, 3) := by decide +kernel
theorem d_G_list_6 : decode prog_3_method_14_code 6 = .ok (.aload_n 0, 1) := by decide +kernel
theorem d_G_list_7 : decode prog_3_method_14_code 7 = .ok (.getfield 64, 3) := by decide +kernel
theorem d_G_list_10 : decode prog_3_method_14_code 10 = .ok (.iload_n 1, 1) := by decide +kernel
theorem d_G_list_11 : decode prog_3_method_14_code 11 = .ok (.lushr, 1) := by decide +kernel
theorem d_G_list_12 : decode prog_3_method_14_code 12 = .ok (.lconst 1, 1) := by decide +kernel
theorem d_G_list_13 : decode prog_3_method_14_code 13 = .ok (.land, 1) := by decide +kernel
theorem d_G_list_14 : decode prog_3_method_14_code 14 = .ok (.lconst 0, 1) := by decide +kernel
theorem d_G_list_15 : decode prog_3_method_14_code 15 = .ok (.lcmp, 1) := by decide +kernel
theorem d_G_list_16 : decode prog_3_method_14_code 16 = .ok (.ifCond .eq 4, 3) := by decide +kernel
theorem d_G_list_19 : decode prog_3_method_14_code 19 = .ok (.return_, 1) := by decide +kernel
theorem d_G_list_20 : decode prog_3_method_14_code 20 = .ok (.aload_n 0, 1) := by decide +kernel
theorem d_G_list_21 : decode prog_3_method_14_code 21 = .ok (.dup, 1) := by decide +kernel
theorem d_G_list_22 : decode prog_3_method_14_code 22 = .ok (.getfield 64, 3) := by decide +kernel
theorem d_G_list_25 : decode prog_3_method_14_code 25 = .ok (.lconst 1, 1) := by decide +kernel
theorem d_G_list_26 : decode prog_3_method_14_code 26 = .ok (.iload_n 1, 1) := by decide +kernel
theorem d_G_list_27 : decode prog_3_method_14_code 27 = .ok (.lshl, 1) := by decide +kernel
theorem d_G_list_28 : decode prog_3_method_14_code 28 = .ok (.lor, 1) := by decide +kernel
theorem d_G_list_29 : decode prog_3_method_14_code 29 = .ok (.putfield 64, 3) := by decide +kernel
theorem d_G_list_32 : decode prog_3_method_14_code 32 = .ok (.aload_n 0, 1) := by decide +kernel
theorem d_G_list_33 : decode prog_3_method_14_code 33 = .ok (.getfield 9, 3) := by decide +kernel
theorem d_G_list_36 : decode prog_3_method_14_code 36 = .ok (.iload_n 1, 1) := by decide +kernel
theorem d_G_list_37 : decode prog_3_method_14_code 37 = .ok (.iaload, 1) := by decide +kernel
theorem d_G_list_38 : decode prog_3_method_14_code 38 = .ok (.istore_n 3, 1) := by decide +kernel
theorem d_G_list_39 : decode prog_3_method_14_code 39 = .ok (.iload_n 3, 1) := by decide +kernel
theorem d_G_list_40 : decode prog_3_method_14_code 40 = .ok (.invokestatic 42, 3) := by decide +kernel
theorem d_G_list_43 : decode prog_3_method_14_code 43 = .ok (.ifCond .eq 16, 3) := by decide +kernel
theorem d_G_list_46 : decode prog_3_method_14_code 46 = .ok (.aload_n 0, 1) := by decide +kernel
theorem d_G_list_47 : decode prog_3_method_14_code 47 = .ok (.aload_n 0, 1) := by decide +kernel
theorem d_G_list_48 : decode prog_3_method_14_code 48 = .ok (.getfield 15, 3) := by decide +kernel
theorem d_G_list_51 : decode prog_3_method_14_code 51 = .ok (.iload_n 1, 1) := by decide +kernel
theorem d_G_list_52 : decode prog_3_method_14_code 52 = .ok (.iaload, 1) := by decide +kernel
theorem d_G_list_53 : decode prog_3_method_14_code 53 = .ok (.iload_n 2, 1) := by decide +kernel
theorem d_G_list_54 : decode prog_3_method_14_code 54 = .ok (.iconst 1, 1) := by decide +kernel
theorem d_G_list_55 : decode prog_3_method_14_code 55 = .ok (.iadd, 1) := by decide +kernel
theorem d_G_list_56 : decode prog_3_method_14_code 56 = .ok (.invokevirtual 57, 3) := by decide +kernel
theorem d_G_list_59 : decode prog_3_method_14_code 59 = .ok (.iload_n 3, 1) := by decide +kernel
theorem d_G_list_60 : decode prog_3_method_14_code 60 = .ok (.invokestatic 45, 3) := by decide +kernel
theorem d_G_list_63 : decode prog_3_method_14_code 63 = .ok (.ifCond .eq 22, 3) := by decide +kernel
theorem d_G_list_66 : decode prog_3_method_14_code 66 = .ok (.iload_n 3, 1) := by decide +kernel
theorem d_G_list_67 : decode prog_3_method_14_code 67 = .ok (.bipush 8, 2) := by decide +kernel
theorem d_G_list_69 : decode prog_3_method_14_code 69 = .ok (.if_icmp .eq 16, 3) := by decide +kernel
theorem d_G_list_72 : decode prog_3_method_14_code 72 = .ok (.aload_n 0, 1) := by decide +kernel
theorem d_G_list_73 : decode prog_3_method_14_code 73 = .ok (.aload_n 0, 1) := by decide +kernel
theorem d_G_list_74 : decode prog_3_method_14_code 74 = .ok (.getfield 18, 3) := by decide +kernel
theorem d_G_list_77 : decode prog_3_method_14_code 77 = .ok (.iload_n 1, 1) := by decide +kernel
theorem d_G_list_78 : decode prog_3_method_14_code 78 = .ok (.iaload, 1) := by decide +kernel
theorem d_G_list_79 : decode prog_3_method_14_code 79 = .ok (.iload_n 2, 1) := by decide +kernel
theorem d_G_list_80 : decode prog_3_method_14_code 80 = .ok (.iconst 1, 1) := by decide +kernel
theorem d_G_list_81 : decode prog_3_method_14_code 81 = .ok (.iadd, 1) := by decide +kernel
theorem d_G_list_82 : decode prog_3_method_14_code 82 = .ok (.invokevirtual 57, 3) := by decide +kernel
theorem d_G_list_85 : decode prog_3_method_14_code 85 = .ok (.iload_n 3, 1) := by decide +kernel
theorem d_G_list_86 : decode prog_3_method_14_code 86 = .ok (.bipush 10, 2) := by decide +kernel
theorem d_G_list_88 : decode prog_3_method_14_code 88 = .ok (.if_icmp .ne 36, 3) := by decide +kernel
theorem d_G_list_91 : decode prog_3_method_14_code 91 = .ok (.aload_n 0, 1) := by decide +kernel
theorem d_G_list_92 : decode prog_3_method_14_code 92 = .ok (.getfield 24, 3) := by decide +kernel
theorem d_G_list_95 : decode prog_3_method_14_code 95 = .ok (.aload_n 0, 1) := by decide +kernel
theorem d_G_list_96 : decode prog_3_method_14_code 96 = .ok (.getfield 15, 3) := by decide +kernel
theorem d_G_list_99 : decode prog_3_method_14_code 99 = .ok (.iload_n 1, 1) := by decide +kernel
theorem d_G_list_100 : decode prog_3_method_14_code 100 = .ok (.iaload, 1) := by decide +kernel
theorem d_G_list_101 : decode prog_3_method_14_code 101 = .ok (.iaload, 1) := by decide +kernel
theorem d_G_list_102 : decode prog_3_method_14_code 102 = .ok (.iconst (-1), 1) := by decide +kernel
theorem d_G_list_103 : decode prog_3_method_14_code 103 = .ok (.if_icmp .eq 21, 3) := by decide +kernel
theorem d_G_list_106 : decode prog_3_method_14_code 106 = .ok (.aload_n 0, 1) := by decide +kernel
theorem d_G_list_107 : decode prog_3_method_14_code 107 = .ok (.aload_n 0, 1) := by decide +kernel
theorem d_G_list_108 : decode prog_3_method_14_code 108 = .ok (.getfield 24, 3) := by decide +kernel
theorem d_G_list_111 : decode prog_3_method_14_code 111 = .ok (.aload_n 0, 1) := by decide +kernel
theorem d_G_list_112 : decode prog_3_method_14_code 112 = .ok (.getfield 15, 3) := by decide +kernel
theorem d_G_list_115 : decode prog_3_method_14_code 115 = .ok (.iload_n 1, 1) := by decide +kernel
theorem d_G_list_116 : decode prog_3_method_14_code 116 = .ok (.iaload, 1) := by decide +kernel
theorem d_G_list_117 : decode prog_3_method_14_code 117 = .ok (.iaload, 1) := by decide +kernel
theorem d_G_list_118 : decode prog_3_method_14_code 118 = .ok (.iload_n 2, 1) := by decide +kernel
theorem d_G_list_119 : decode prog_3_method_14_code 119 = .ok (.iconst 1, 1) := by decide +kernel
theorem d_G_list_120 : decode prog_3_method_14_code 120 = .ok (.iadd, 1) := by decide +kernel
theorem d_G_list_121 : decode prog_3_method_14_code 121 = .ok (.invokevirtual 57, 3) := by decide +kernel
theorem d_G_list_124 : decode prog_3_method_14_code 124 = .ok (.aload_n 0, 1) := by decide +kernel
theorem d_G_list_125 : decode prog_3_method_14_code 125 = .ok (.getfield 27, 3) := by decide +kernel
theorem d_G_list_128 : decode prog_3_method_14_code 128 = .ok (.aload_n 0, 1) := by decide +kernel
theorem d_G_list_129 : decode prog_3_method_14_code 129 = .ok (.getfield 61, 3) := by decide +kernel
theorem d_G_list_132 : decode prog_3_method_14_code 132 = .ok (.iload_n 1, 1) := by decide +kernel
theorem d_G_list_133 : decode prog_3_method_14_code 133 = .ok (.iastore, 1) := by decide +kernel
theorem d_G_list_134 : decode prog_3_method_14_code 134 = .ok (.aload_n 0, 1) := by decide +kernel
theorem d_G_list_135 : decode prog_3_method_14_code 135 = .ok (.dup, 1) := by decide +kernel
theorem d_G_list_136 : decode prog_3_method_14_code 136 = .ok (.getfield 61, 3) := by decide +kernel
theorem d_G_list_139 : decode prog_3_method_14_code 139 = .ok (.iconst 1, 1) := by decide +kernel
theorem d_G_list_140 : decode prog_3_method_14_code 140 = .ok (.iadd, 1) := by decide +kernel
theorem d_G_list_141 : decode prog_3_method_14_code 141 = .ok (.putfield 61, 3) := by decide +kernel
theorem d_G_list_144 : decode prog_3_method_14_code 144 = .ok (.return_, 1) := by decide +kernel
abbrev M_G_give : vg_M := (⟨0, 0, 0, 0⟩, 4, prog_3_method_9_code, ⟨"PatternValidator$Grammar", "give", "(II)Z"⟩, some .boolean, Cond.code ⟨"PatternValidator$Grammar", "give", "(II)Z"⟩ prog_3_method_9_code 4 (some .boolean))
theorem d_G_give_0 : decode prog_3_method_9_code 0 = .ok (.aload_n 0, 1) := by decide +kernel
theorem d_G_give_1 : decode prog_3_method_9_code 1 = .ok (.getfield 24, 3) := by decide +kernel
theorem d_G_give_4 : decode prog_3_method_9_code 4 = .ok (.iload_n 1, 1) := by decide +kernel
theorem d_G_give_5 : decode prog_3_method_9_code 5 = .ok (.iaload, 1) := by decide +kernel
theorem d_G_give_6 : decode prog_3_method_9_code 6 = .ok (.iconst (-1), 1) := by decide +kernel
theorem d_G_give_7 : decode prog_3_method_9_code 7 = .ok (.if_icmp .ne 7, 3) := by decide +kernel
theorem d_G_give_10 : decode prog_3_method_9_code 10 = .ok (.iconst 1, 1) := by decide +kernel
theorem d_G_give_11 : decode prog_3_method_9_code 11 = .ok (.goto 4, 3) := by decide +kernel
theorem d_G_give_14 : decode prog_3_method_9_code 14 = .ok (.iconst 0, 1) := by decide +kernel
theorem d_G_give_15 : decode prog_3_method_9_code 15 = .ok (.istore_n 3, 1) := by decide +kernel
theorem d_G_give_16 : decode prog_3_method_9_code 16 = .ok (.aload_n 0, 1) := by decide +kernel
theorem d_G_give_17 : decode prog_3_method_9_code 17 = .ok (.getfield 24, 3) := by decide +kernel
theorem d_G_give_20 : decode prog_3_method_9_code 20 = .ok (.iload_n 1, 1) := by decide +kernel
theorem d_G_give_21 : decode prog_3_method_9_code 21 = .ok (.iload_n 2, 1) := by decide +kernel
theorem d_G_give_22 : decode prog_3_method_9_code 22 = .ok (.iastore, 1) := by decide +kernel
theorem d_G_give_23 : decode prog_3_method_9_code 23 = .ok (.iload_n 3, 1) := by decide +kernel
theorem d_G_give_24 : decode prog_3_method_9_code 24 = .ok (.ireturn, 1) := by decide +kernel
abbrev M_V_open : vg_M := (⟨8, 1, 6, 120⟩, 2, prog_1_method_4_code, ⟨"PatternValidator", "open", "(I)I"⟩, some .int, Cond.code ⟨"PatternValidator", "open", "(I)I"⟩ prog_1_method_4_code 2 (some .int))
theorem d_V_open_0 : decode prog_1_method_4_code 0 = .ok (.iload_n 1, 1) := by decide +kernel
theorem d_V_open_1 : decode prog_1_method_4_code 1 = .ok (.ifCond .lt 9, 3) := by decide +kernel
theorem d_V_open_4 : decode prog_1_method_4_code 4 = .ok (.iload_n 1, 1) := by decide +kernel
theorem d_V_open_5 : decode prog_1_method_4_code 5 = .ok (.bipush 6, 2) := by decide +kernel
theorem d_V_open_7 : decode prog_1_method_4_code 7 = .ok (.if_icmp .lt 11, 3) := by decide +kernel
theorem d_V_open_10 : decode prog_1_method_4_code 10 = .ok (.new 36, 3) := by decide +kernel
theorem d_V_open_13 : decode prog_1_method_4_code 13 = .ok (.dup, 1) := by decide +kernel
theorem d_V_open_14 : decode prog_1_method_4_code 14 = .ok (.invokespecial 38, 3) := by decide +kernel
theorem d_V_open_17 : decode prog_1_method_4_code 17 = .ok (.athrow, 1) := by decide +kernel
theorem d_V_open_18 : decode prog_1_method_4_code 18 = .ok (.aload_n 0, 1) := by decide +kernel
theorem d_V_open_19 : decode prog_1_method_4_code 19 = .ok (.getfield 19, 3) := by decide +kernel
theorem d_V_open_22 : decode prog_1_method_4_code 22 = .ok (.invokevirtual 66, 3) := by decide +kernel
theorem d_V_open_25 : decode prog_1_method_4_code 25 = .ok (.ifCond .ne 11, 3) := by decide +kernel
theorem d_V_open_28 : decode prog_1_method_4_code 28 = .ok (.new 42, 3) := by decide +kernel
theorem d_V_open_31 : decode prog_1_method_4_code 31 = .ok (.dup, 1) := by decide +kernel
theorem d_V_open_32 : decode prog_1_method_4_code 32 = .ok (.invokespecial 44, 3) := by decide +kernel
theorem d_V_open_35 : decode prog_1_method_4_code 35 = .ok (.athrow, 1) := by decide +kernel
theorem d_V_open_36 : decode prog_1_method_4_code 36 = .ok (.aload_n 0, 1) := by decide +kernel
theorem d_V_open_37 : decode prog_1_method_4_code 37 = .ok (.getfield 19, 3) := by decide +kernel
theorem d_V_open_40 : decode prog_1_method_4_code 40 = .ok (.iload_n 1, 1) := by decide +kernel
theorem d_V_open_41 : decode prog_1_method_4_code 41 = .ok (.invokevirtual 70, 3) := by decide +kernel
theorem d_V_open_44 : decode prog_1_method_4_code 44 = .ok (.ireturn, 1) := by decide +kernel
abbrev M_D_takesNode : vg_M := (⟨1, 0, 0, 20⟩, 1, prog_2_method_5_code, ⟨"PatternValidator$Document", "takesNode", "()Z"⟩, some .boolean, Cond.code ⟨"PatternValidator$Document", "takesNode", "()Z"⟩ prog_2_method_5_code 1 (some .boolean))
theorem d_D_takesNode_0 : decode prog_2_method_5_code 0 = .ok (.aload_n 0, 1) := by decide +kernel
theorem d_D_takesNode_1 : decode prog_2_method_5_code 1 = .ok (.getfield 26, 3) := by decide +kernel
theorem d_D_takesNode_4 : decode prog_2_method_5_code 4 = .ok (.ifCond .ne 16, 3) := by decide +kernel
theorem d_D_takesNode_7 : decode prog_2_method_5_code 7 = .ok (.aload_n 0, 1) := by decide +kernel
theorem d_D_takesNode_8 : decode prog_2_method_5_code 8 = .ok (.getfield 22, 3) := by decide +kernel
theorem d_D_takesNode_11 : decode prog_2_method_5_code 11 = .ok (.ifCond .ne 7, 3) := by decide +kernel
theorem d_D_takesNode_14 : decode prog_2_method_5_code 14 = .ok (.iconst 1, 1) := by decide +kernel
theorem d_D_takesNode_15 : decode prog_2_method_5_code 15 = .ok (.goto 4, 3) := by decide +kernel
theorem d_D_takesNode_18 : decode prog_2_method_5_code 18 = .ok (.iconst 0, 1) := by decide +kernel
theorem d_D_takesNode_19 : decode prog_2_method_5_code 19 = .ok (.ireturn, 1) := by decide +kernel
theorem d_D_takesNode_20 : decode prog_2_method_5_code 20 = .ok (.aload_n 0, 1) := by decide +kernel
theorem d_D_takesNode_21 : decode prog_2_method_5_code 21 = .ok (.getfield 22, 3) := by decide +kernel
theorem d_D_takesNode_24 : decode prog_2_method_5_code 24 = .ok (.bipush 16, 2) := by decide +kernel
theorem d_D_takesNode_26 : decode prog_2_method_5_code 26 = .ok (.if_icmp .ge 22, 3) := by decide +kernel
theorem d_D_takesNode_29 : decode prog_2_method_5_code 29 = .ok (.aload_n 0, 1) := by decide +kernel
theorem d_D_takesNode_30 : decode prog_2_method_5_code 30 = .ok (.getfield 26, 3) := by decide +kernel
theorem d_D_takesNode_33 : decode prog_2_method_5_code 33 = .ok (.iconst 4, 1) := by decide +kernel
theorem d_D_takesNode_34 : decode prog_2_method_5_code 34 = .ok (.if_icmp .ge 14, 3) := by decide +kernel
theorem d_D_takesNode_37 : decode prog_2_method_5_code 37 = .ok (.aload_n 0, 1) := by decide +kernel
theorem d_D_takesNode_38 : decode prog_2_method_5_code 38 = .ok (.invokevirtual 32, 3) := by decide +kernel
theorem d_D_takesNode_41 : decode prog_2_method_5_code 41 = .ok (.ifCond .eq 7, 3) := by decide +kernel
theorem d_D_takesNode_44 : decode prog_2_method_5_code 44 = .ok (.iconst 1, 1) := by decide +kernel
theorem d_D_takesNode_45 : decode prog_2_method_5_code 45 = .ok (.goto 4, 3) := by decide +kernel
theorem d_D_takesNode_48 : decode prog_2_method_5_code 48 = .ok (.iconst 0, 1) := by decide +kernel
theorem d_D_takesNode_49 : decode prog_2_method_5_code 49 = .ok (.ireturn, 1) := by decide +kernel
abbrev M_D_takesChild : vg_M := (⟨0, 0, 0, 0⟩, 1, prog_2_method_9_code, ⟨"PatternValidator$Document", "takesChild", "()Z"⟩, some .boolean, Cond.code ⟨"PatternValidator$Document", "takesChild", "()Z"⟩ prog_2_method_9_code 1 (some .boolean))
theorem d_D_takesChild_0 : decode prog_2_method_9_code 0 = .ok (.aload_n 0, 1) := by decide +kernel
theorem d_D_takesChild_1 : decode prog_2_method_9_code 1 = .ok (.getfield 26, 3) := by decide +kernel
theorem d_D_takesChild_4 : decode prog_2_method_9_code 4 = .ok (.ifCond .le 31, 3) := by decide +kernel
theorem d_D_takesChild_7 : decode prog_2_method_9_code 7 = .ok (.aload_n 0, 1) := by decide +kernel
theorem d_D_takesChild_8 : decode prog_2_method_9_code 8 = .ok (.getfield 11, 3) := by decide +kernel
theorem d_D_takesChild_11 : decode prog_2_method_9_code 11 = .ok (.aload_n 0, 1) := by decide +kernel
theorem d_D_takesChild_12 : decode prog_2_method_9_code 12 = .ok (.getfield 17, 3) := by decide +kernel
theorem d_D_takesChild_15 : decode prog_2_method_9_code 15 = .ok (.aload_n 0, 1) := by decide +kernel
theorem d_D_takesChild_16 : decode prog_2_method_9_code 16 = .ok (.getfield 26, 3) := by decide +kernel
theorem d_D_takesChild_19 : decode prog_2_method_9_code 19 = .ok (.iconst 1, 1) := by decide +kernel
theorem d_D_takesChild_20 : decode prog_2_method_9_code 20 = .ok (.isub, 1) := by decide +kernel
theorem d_D_takesChild_21 : decode prog_2_method_9_code 21 = .ok (.iaload, 1) := by decide +kernel
theorem d_D_takesChild_22 : decode prog_2_method_9_code 22 = .ok (.aaload, 1) := by decide +kernel
theorem d_D_takesChild_23 : decode prog_2_method_9_code 23 = .ok (.getfield 44, 3) := by decide +kernel
theorem d_D_takesChild_26 : decode prog_2_method_9_code 26 = .ok (.bipush 6, 2) := by decide +kernel
theorem d_D_takesChild_28 : decode prog_2_method_9_code 28 = .ok (.if_icmp .ge 7, 3) := by decide +kernel
theorem d_D_takesChild_31 : decode prog_2_method_9_code 31 = .ok (.iconst 1, 1) := by decide +kernel
theorem d_D_takesChild_32 : decode prog_2_method_9_code 32 = .ok (.goto 4, 3) := by decide +kernel
theorem d_D_takesChild_35 : decode prog_2_method_9_code 35 = .ok (.iconst 0, 1) := by decide +kernel
theorem d_D_takesChild_36 : decode prog_2_method_9_code 36 = .ok (.ireturn, 1) := by decide +kernel
abbrev M_D_addNode : vg_M := (⟨1, 0, 0, 22⟩, 2, prog_2_method_6_code, ⟨"PatternValidator$Document", "addNode", "(I)I"⟩, some .int, Cond.code ⟨"PatternValidator$Document", "addNode", "(I)I"⟩ prog_2_method_6_code 2 (some .int))
theorem d_D_addNode_0 : decode prog_2_method_6_code 0 = .ok (.aload_n 0, 1) := by decide +kernel
theorem d_D_addNode_1 : decode prog_2_method_6_code 1 = .ok (.getfield 26, 3) := by decide +kernel
theorem d_D_addNode_4 : decode prog_2_method_6_code 4 = .ok (.ifCond .le 27, 3) := by decide +kernel
theorem d_D_addNode_7 : decode prog_2_method_6_code 7 = .ok (.aload_n 0, 1) := by decide +kernel
theorem d_D_addNode_8 : decode prog_2_method_6_code 8 = .ok (.getfield 11, 3) := by decide +kernel
theorem d_D_addNode_11 : decode prog_2_method_6_code 11 = .ok (.aload_n 0, 1) := by decide +kernel
theorem d_D_addNode_12 : decode prog_2_method_6_code 12 = .ok (.getfield 17, 3) := by decide +kernel
theorem d_D_addNode_15 : decode prog_2_method_6_code 15 = .ok (.aload_n 0, 1) := by decide +kernel
theorem d_D_addNode_16 : decode prog_2_method_6_code 16 = .ok (.getfield 26, 3) := by decide +kernel
theorem d_D_addNode_19 : decode prog_2_method_6_code 19 = .ok (.iconst 1, 1) := by decide +kernel
theorem d_D_addNode_20 : decode prog_2_method_6_code 20 = .ok (.isub, 1) := by decide +kernel
theorem d_D_addNode_21 : decode prog_2_method_6_code 21 = .ok (.iaload, 1) := by decide +kernel
theorem d_D_addNode_22 : decode prog_2_method_6_code 22 = .ok (.aaload, 1) := by decide +kernel
theorem d_D_addNode_23 : decode prog_2_method_6_code 23 = .ok (.aload_n 0, 1) := by decide +kernel
theorem d_D_addNode_24 : decode prog_2_method_6_code 24 = .ok (.getfield 22, 3) := by decide +kernel
theorem d_D_addNode_27 : decode prog_2_method_6_code 27 = .ok (.iconst 0, 1) := by decide +kernel
theorem d_D_addNode_28 : decode prog_2_method_6_code 28 = .ok (.invokevirtual 36, 3) := by decide +kernel
theorem d_D_addNode_31 : decode prog_2_method_6_code 31 = .ok (.aload_n 0, 1) := by decide +kernel
theorem d_D_addNode_32 : decode prog_2_method_6_code 32 = .ok (.getfield 11, 3) := by decide +kernel
theorem d_D_addNode_35 : decode prog_2_method_6_code 35 = .ok (.aload_n 0, 1) := by decide +kernel
theorem d_D_addNode_36 : decode prog_2_method_6_code 36 = .ok (.getfield 22, 3) := by decide +kernel
theorem d_D_addNode_39 : decode prog_2_method_6_code 39 = .ok (.aaload, 1) := by decide +kernel
theorem d_D_addNode_40 : decode prog_2_method_6_code 40 = .ok (.iload_n 1, 1) := by decide +kernel
theorem d_D_addNode_41 : decode prog_2_method_6_code 41 = .ok (.invokevirtual 40, 3) := by decide +kernel
theorem d_D_addNode_44 : decode prog_2_method_6_code 44 = .ok (.aload_n 0, 1) := by decide +kernel
theorem d_D_addNode_45 : decode prog_2_method_6_code 45 = .ok (.getfield 17, 3) := by decide +kernel
theorem d_D_addNode_48 : decode prog_2_method_6_code 48 = .ok (.aload_n 0, 1) := by decide +kernel
theorem d_D_addNode_49 : decode prog_2_method_6_code 49 = .ok (.getfield 26, 3) := by decide +kernel
theorem d_D_addNode_52 : decode prog_2_method_6_code 52 = .ok (.aload_n 0, 1) := by decide +kernel
theorem d_D_addNode_53 : decode prog_2_method_6_code 53 = .ok (.getfield 22, 3) := by decide +kernel
theorem d_D_addNode_56 : decode prog_2_method_6_code 56 = .ok (.iastore, 1) := by decide +kernel
theorem d_D_addNode_57 : decode prog_2_method_6_code 57 = .ok (.aload_n 0, 1) := by decide +kernel
theorem d_D_addNode_58 : decode prog_2_method_6_code 58 = .ok (.dup, 1) := by decide +kernel
theorem d_D_addNode_59 : decode prog_2_method_6_code 59 = .ok (.getfield 26, 3) := by decide +kernel
theorem d_D_addNode_62 : decode prog_2_method_6_code 62 = .ok (.iconst 1, 1) := by decide +kernel
theorem d_D_addNode_63 : decode prog_2_method_6_code 63 = .ok (.iadd, 1) := by decide +kernel
theorem d_D_addNode_64 : decode prog_2_method_6_code 64 = .ok (.putfield 26, 3) := by decide +kernel
theorem d_D_addNode_67 : decode prog_2_method_6_code 67 = .ok (.aload_n 0, 1) := by decide +kernel
theorem d_D_addNode_68 : decode prog_2_method_6_code 68 = .ok (.dup, 1) := by decide +kernel
theorem d_D_addNode_69 : decode prog_2_method_6_code 69 = .ok (.getfield 22, 3) := by decide +kernel
theorem d_D_addNode_72 : decode prog_2_method_6_code 72 = .ok (.iconst 1, 1) := by decide +kernel
theorem d_D_addNode_73 : decode prog_2_method_6_code 73 = .ok (.iadd, 1) := by decide +kernel
theorem d_D_addNode_74 : decode prog_2_method_6_code 74 = .ok (.putfield 22, 3) := by decide +kernel
theorem d_D_addNode_77 : decode prog_2_method_6_code 77 = .ok (.aload_n 0, 1) := by decide +kernel
theorem d_D_addNode_78 : decode prog_2_method_6_code 78 = .ok (.getfield 22, 3) := by decide +kernel
theorem d_D_addNode_81 : decode prog_2_method_6_code 81 = .ok (.iconst 1, 1) := by decide +kernel
theorem d_D_addNode_82 : decode prog_2_method_6_code 82 = .ok (.isub, 1) := by decide +kernel
theorem d_D_addNode_83 : decode prog_2_method_6_code 83 = .ok (.ireturn, 1) := by decide +kernel
abbrev M_N_addChild : vg_M := (⟨0, 0, 0, 0⟩, 3, prog_5_method_4_code, ⟨"PatternValidator$Node", "addChild", "(II)V"⟩, none, Cond.code ⟨"PatternValidator$Node", "addChild", "(II)V"⟩ prog_5_method_4_code 3 (none))
theorem d_N_addChild_0 : decode prog_5_method_4_code 0 = .ok (.aload_n 0, 1) := by decide +kernel
theorem d_N_addChild_1 : decode prog_5_method_4_code 1 = .ok (.getfield 22, 3) := by decide +kernel
theorem d_N_addChild_4 : decode prog_5_method_4_code 4 = .ok (.aload_n 0, 1) := by decide +kernel
theorem d_N_addChild_5 : decode prog_5_method_4_code 5 = .ok (.getfield 35, 3) := by decide +kernel
theorem d_N_addChild_8 : decode prog_5_method_4_code 8 = .ok (.iload_n 1, 1) := by decide +kernel
theorem d_N_addChild_9 : decode prog_5_method_4_code 9 = .ok (.iastore, 1) := by decide +kernel
theorem d_N_addChild_10 : decode prog_5_method_4_code 10 = .ok (.aload_n 0, 1) := by decide +kernel
theorem d_N_addChild_11 : decode prog_5_method_4_code 11 = .ok (.getfield 25, 3) := by decide +kernel
theorem d_N_addChild_14 : decode prog_5_method_4_code 14 = .ok (.aload_n 0, 1) := by decide +kernel
theorem d_N_addChild_15 : decode prog_5_method_4_code 15 = .ok (.getfield 35, 3) := by decide +kernel
theorem d_N_addChild_18 : decode prog_5_method_4_code 18 = .ok (.iload_n 2, 1) := by decide +kernel
theorem d_N_addChild_19 : decode prog_5_method_4_code 19 = .ok (.iastore, 1) := by decide +kernel
theorem d_N_addChild_20 : decode prog_5_method_4_code 20 = .ok (.aload_n 0, 1) := by decide +kernel
theorem d_N_addChild_21 : decode prog_5_method_4_code 21 = .ok (.dup, 1) := by decide +kernel
theorem d_N_addChild_22 : decode prog_5_method_4_code 22 = .ok (.getfield 35, 3) := by decide +kernel
theorem d_N_addChild_25 : decode prog_5_method_4_code 25 = .ok (.iconst 1, 1) := by decide +kernel
theorem d_N_addChild_26 : decode prog_5_method_4_code 26 = .ok (.iadd, 1) := by decide +kernel
theorem d_N_addChild_27 : decode prog_5_method_4_code 27 = .ok (.putfield 35, 3) := by decide +kernel
theorem d_N_addChild_30 : decode prog_5_method_4_code 30 = .ok (.return_, 1) := by decide +kernel
abbrev M_N_begin : vg_M := (⟨0, 0, 0, 0⟩, 2, prog_5_method_2_code, ⟨"PatternValidator$Node", "begin", "(I)V"⟩, none, Cond.code ⟨"PatternValidator$Node", "begin", "(I)V"⟩ prog_5_method_2_code 2 (none))
theorem d_N_begin_0 : decode prog_5_method_2_code 0 = .ok (.aload_n 0, 1) := by decide +kernel
theorem d_N_begin_1 : decode prog_5_method_2_code 1 = .ok (.iload_n 1, 1) := by decide +kernel
theorem d_N_begin_2 : decode prog_5_method_2_code 2 = .ok (.putfield 28, 3) := by decide +kernel
theorem d_N_begin_5 : decode prog_5_method_2_code 5 = .ok (.aload_n 0, 1) := by decide +kernel
theorem d_N_begin_6 : decode prog_5_method_2_code 6 = .ok (.iconst 0, 1) := by decide +kernel
theorem d_N_begin_7 : decode prog_5_method_2_code 7 = .ok (.putfield 32, 3) := by decide +kernel
theorem d_N_begin_10 : decode prog_5_method_2_code 10 = .ok (.aload_n 0, 1) := by decide +kernel
theorem d_N_begin_11 : decode prog_5_method_2_code 11 = .ok (.iconst 0, 1) := by decide +kernel
theorem d_N_begin_12 : decode prog_5_method_2_code 12 = .ok (.putfield 35, 3) := by decide +kernel
theorem d_N_begin_15 : decode prog_5_method_2_code 15 = .ok (.return_, 1) := by decide +kernel
abbrev M_V_attribute : vg_M := (⟨8, 1, 6, 120⟩, 3, prog_1_method_5_code, ⟨"PatternValidator", "attribute", "(II)I"⟩, some .int, Cond.code ⟨"PatternValidator", "attribute", "(II)I"⟩ prog_1_method_5_code 3 (some .int))
theorem d_V_attribute_0 : decode prog_1_method_5_code 0 = .ok (.iload_n 1, 1) := by decide +kernel
theorem d_V_attribute_1 : decode prog_1_method_5_code 1 = .ok (.ifCond .lt 9, 3) := by decide +kernel
theorem d_V_attribute_4 : decode prog_1_method_5_code 4 = .ok (.iload_n 1, 1) := by decide +kernel
theorem d_V_attribute_5 : decode prog_1_method_5_code 5 = .ok (.bipush 6, 2) := by decide +kernel
theorem d_V_attribute_7 : decode prog_1_method_5_code 7 = .ok (.if_icmp .lt 11, 3) := by decide +kernel
theorem d_V_attribute_10 : decode prog_1_method_5_code 10 = .ok (.new 36, 3) := by decide +kernel
theorem d_V_attribute_13 : decode prog_1_method_5_code 13 = .ok (.dup, 1) := by decide +kernel
theorem d_V_attribute_14 : decode prog_1_method_5_code 14 = .ok (.invokespecial 38, 3) := by decide +kernel
theorem d_V_attribute_17 : decode prog_1_method_5_code 17 = .ok (.athrow, 1) := by decide +kernel
theorem d_V_attribute_18 : decode prog_1_method_5_code 18 = .ok (.aload_n 0, 1) := by decide +kernel
theorem d_V_attribute_19 : decode prog_1_method_5_code 19 = .ok (.getfield 19, 3) := by decide +kernel
theorem d_V_attribute_22 : decode prog_1_method_5_code 22 = .ok (.iload_n 1, 1) := by decide +kernel
theorem d_V_attribute_23 : decode prog_1_method_5_code 23 = .ok (.invokevirtual 74, 3) := by decide +kernel
theorem d_V_attribute_26 : decode prog_1_method_5_code 26 = .ok (.ifCond .ne 11, 3) := by decide +kernel
theorem d_V_attribute_29 : decode prog_1_method_5_code 29 = .ok (.new 42, 3) := by decide +kernel
theorem d_V_attribute_32 : decode prog_1_method_5_code 32 = .ok (.dup, 1) := by decide +kernel
theorem d_V_attribute_33 : decode prog_1_method_5_code 33 = .ok (.invokespecial 44, 3) := by decide +kernel
theorem d_V_attribute_36 : decode prog_1_method_5_code 36 = .ok (.athrow, 1) := by decide +kernel
theorem d_V_attribute_37 : decode prog_1_method_5_code 37 = .ok (.aload_n 0, 1) := by decide +kernel
theorem d_V_attribute_38 : decode prog_1_method_5_code 38 = .ok (.getfield 19, 3) := by decide +kernel
theorem d_V_attribute_41 : decode prog_1_method_5_code 41 = .ok (.iload_n 1, 1) := by decide +kernel
theorem d_V_attribute_42 : decode prog_1_method_5_code 42 = .ok (.iload_n 2, 1) := by decide +kernel
theorem d_V_attribute_43 : decode prog_1_method_5_code 43 = .ok (.invokevirtual 77, 3) := by decide +kernel
theorem d_V_attribute_46 : decode prog_1_method_5_code 46 = .ok (.ireturn, 1) := by decide +kernel
abbrev M_D_takesAttribute : vg_M := (⟨1, 0, 0, 22⟩, 3, prog_2_method_7_code, ⟨"PatternValidator$Document", "takesAttribute", "(I)Z"⟩, some .boolean, Cond.code ⟨"PatternValidator$Document", "takesAttribute", "(I)Z"⟩ prog_2_method_7_code 3 (some .boolean))
theorem d_D_takesAttribute_0 : decode prog_2_method_7_code 0 = .ok (.aload_n 0, 1) := by decide +kernel
theorem d_D_takesAttribute_1 : decode prog_2_method_7_code 1 = .ok (.getfield 26, 3) := by decide +kernel
theorem d_D_takesAttribute_4 : decode prog_2_method_7_code 4 = .ok (.ifCond .ne 5, 3) := by decide +kernel
theorem d_D_takesAttribute_7 : decode prog_2_method_7_code 7 = .ok (.iconst 0, 1) := by decide +kernel
theorem d_D_takesAttribute_8 : decode prog_2_method_7_code 8 = .ok (.ireturn, 1) := by decide +kernel
theorem d_D_takesAttribute_9 : decode prog_2_method_7_code 9 = .ok (.aload_n 0, 1) := by decide +kernel
theorem d_D_takesAttribute_10 : decode prog_2_method_7_code 10 = .ok (.getfield 11, 3) := by decide +kernel
theorem d_D_takesAttribute_13 : decode prog_2_method_7_code 13 = .ok (.aload_n 0, 1) := by decide +kernel
theorem d_D_takesAttribute_14 : decode prog_2_method_7_code 14 = .ok (.getfield 17, 3) := by decide +kernel
theorem d_D_takesAttribute_17 : decode prog_2_method_7_code 17 = .ok (.aload_n 0, 1) := by decide +kernel
theorem d_D_takesAttribute_18 : decode prog_2_method_7_code 18 = .ok (.getfield 26, 3) := by decide +kernel
theorem d_D_takesAttribute_21 : decode prog_2_method_7_code 21 = .ok (.iconst 1, 1) := by decide +kernel
theorem d_D_takesAttribute_22 : decode prog_2_method_7_code 22 = .ok (.isub, 1) := by decide +kernel
theorem d_D_takesAttribute_23 : decode prog_2_method_7_code 23 = .ok (.iaload, 1) := by decide +kernel
theorem d_D_takesAttribute_24 : decode prog_2_method_7_code 24 = .ok (.aaload, 1) := by decide +kernel
theorem d_D_takesAttribute_25 : decode prog_2_method_7_code 25 = .ok (.astore_n 2, 1) := by decide +kernel
theorem d_D_takesAttribute_26 : decode prog_2_method_7_code 26 = .ok (.aload_n 2, 1) := by decide +kernel
theorem d_D_takesAttribute_27 : decode prog_2_method_7_code 27 = .ok (.getfield 44, 3) := by decide +kernel
theorem d_D_takesAttribute_30 : decode prog_2_method_7_code 30 = .ok (.ifCond .ne 23, 3) := by decide +kernel
theorem d_D_takesAttribute_33 : decode prog_2_method_7_code 33 = .ok (.aload_n 2, 1) := by decide +kernel
theorem d_D_takesAttribute_34 : decode prog_2_method_7_code 34 = .ok (.getfield 47, 3) := by decide +kernel
theorem d_D_takesAttribute_37 : decode prog_2_method_7_code 37 = .ok (.iconst 3, 1) := by decide +kernel
theorem d_D_takesAttribute_38 : decode prog_2_method_7_code 38 = .ok (.if_icmp .ge 15, 3) := by decide +kernel
theorem d_D_takesAttribute_41 : decode prog_2_method_7_code 41 = .ok (.aload_n 2, 1) := by decide +kernel
theorem d_D_takesAttribute_42 : decode prog_2_method_7_code 42 = .ok (.iload_n 1, 1) := by decide +kernel
theorem d_D_takesAttribute_43 : decode prog_2_method_7_code 43 = .ok (.invokevirtual 50, 3) := by decide +kernel
theorem d_D_takesAttribute_46 : decode prog_2_method_7_code 46 = .ok (.ifCond .ne 7, 3) := by decide +kernel
theorem d_D_takesAttribute_49 : decode prog_2_method_7_code 49 = .ok (.iconst 1, 1) := by decide +kernel
theorem d_D_takesAttribute_50 : decode prog_2_method_7_code 50 = .ok (.goto 4, 3) := by decide +kernel
theorem d_D_takesAttribute_53 : decode prog_2_method_7_code 53 = .ok (.iconst 0, 1) := by decide +kernel
theorem d_D_takesAttribute_54 : decode prog_2_method_7_code 54 = .ok (.ireturn, 1) := by decide +kernel
abbrev M_N_hasAttribute : vg_M := (⟨0, 0, 0, 0⟩, 3, prog_5_method_5_code, ⟨"PatternValidator$Node", "hasAttribute", "(I)Z"⟩, some .boolean, Cond.code ⟨"PatternValidator$Node", "hasAttribute", "(I)Z"⟩ prog_5_method_5_code 3 (some .boolean))
theorem d_N_hasAttribute_0 : decode prog_5_method_5_code 0 = .ok (.iconst 0, 1) := by decide +kernel
theorem d_N_hasAttribute_1 : decode prog_5_method_5_code 1 = .ok (.istore_n 2, 1) := by decide +kernel
theorem d_N_hasAttribute_2 : decode prog_5_method_5_code 2 = .ok (.iload_n 2, 1) := by decide +kernel
theorem d_N_hasAttribute_3 : decode prog_5_method_5_code 3 = .ok (.aload_n 0, 1) := by decide +kernel
theorem d_N_hasAttribute_4 : decode prog_5_method_5_code 4 = .ok (.getfield 32, 3) := by decide +kernel
theorem d_N_hasAttribute_7 : decode prog_5_method_5_code 7 = .ok (.if_icmp .ge 21, 3) := by decide +kernel
theorem d_N_hasAttribute_10 : decode prog_5_method_5_code 10 = .ok (.aload_n 0, 1) := by decide +kernel
theorem d_N_hasAttribute_11 : decode prog_5_method_5_code 11 = .ok (.getfield 9, 3) := by decide +kernel
theorem d_N_hasAttribute_14 : decode prog_5_method_5_code 14 = .ok (.iload_n 2, 1) := by decide +kernel
theorem d_N_hasAttribute_15 : decode prog_5_method_5_code 15 = .ok (.iaload, 1) := by decide +kernel
theorem d_N_hasAttribute_16 : decode prog_5_method_5_code 16 = .ok (.iload_n 1, 1) := by decide +kernel
theorem d_N_hasAttribute_17 : decode prog_5_method_5_code 17 = .ok (.if_icmp .ne 5, 3) := by decide +kernel
theorem d_N_hasAttribute_20 : decode prog_5_method_5_code 20 = .ok (.iconst 1, 1) := by decide +kernel
theorem d_N_hasAttribute_21 : decode prog_5_method_5_code 21 = .ok (.ireturn, 1) := by decide +kernel
theorem d_N_hasAttribute_22 : decode prog_5_method_5_code 22 = .ok (.iinc 2 1, 3) := by decide +kernel
theorem d_N_hasAttribute_25 : decode prog_5_method_5_code 25 = .ok (.goto (-23), 3) := by decide +kernel
theorem d_N_hasAttribute_28 : decode prog_5_method_5_code 28 = .ok (.iconst 0, 1) := by decide +kernel
theorem d_N_hasAttribute_29 : decode prog_5_method_5_code 29 = .ok (.ireturn, 1) := by decide +kernel
abbrev M_D_addAttribute : vg_M := (⟨1, 0, 0, 22⟩, 4, prog_2_method_8_code, ⟨"PatternValidator$Document", "addAttribute", "(II)I"⟩, some .int, Cond.code ⟨"PatternValidator$Document", "addAttribute", "(II)I"⟩ prog_2_method_8_code 4 (some .int))
theorem d_D_addAttribute_0 : decode prog_2_method_8_code 0 = .ok (.aload_n 0, 1) := by decide +kernel
theorem d_D_addAttribute_1 : decode prog_2_method_8_code 1 = .ok (.getfield 11, 3) := by decide +kernel
theorem d_D_addAttribute_4 : decode prog_2_method_8_code 4 = .ok (.aload_n 0, 1) := by decide +kernel
theorem d_D_addAttribute_5 : decode prog_2_method_8_code 5 = .ok (.getfield 17, 3) := by decide +kernel
theorem d_D_addAttribute_8 : decode prog_2_method_8_code 8 = .ok (.aload_n 0, 1) := by decide +kernel
theorem d_D_addAttribute_9 : decode prog_2_method_8_code 9 = .ok (.getfield 26, 3) := by decide +kernel
theorem d_D_addAttribute_12 : decode prog_2_method_8_code 12 = .ok (.iconst 1, 1) := by decide +kernel
theorem d_D_addAttribute_13 : decode prog_2_method_8_code 13 = .ok (.isub, 1) := by decide +kernel
theorem d_D_addAttribute_14 : decode prog_2_method_8_code 14 = .ok (.iaload, 1) := by decide +kernel
theorem d_D_addAttribute_15 : decode prog_2_method_8_code 15 = .ok (.aaload, 1) := by decide +kernel
theorem d_D_addAttribute_16 : decode prog_2_method_8_code 16 = .ok (.astore_n 3, 1) := by decide +kernel
theorem d_D_addAttribute_17 : decode prog_2_method_8_code 17 = .ok (.aload_n 3, 1) := by decide +kernel
theorem d_D_addAttribute_18 : decode prog_2_method_8_code 18 = .ok (.iload_n 1, 1) := by decide +kernel
theorem d_D_addAttribute_19 : decode prog_2_method_8_code 19 = .ok (.iload_n 2, 1) := by decide +kernel
theorem d_D_addAttribute_20 : decode prog_2_method_8_code 20 = .ok (.invokevirtual 54, 3) := by decide +kernel
theorem d_D_addAttribute_23 : decode prog_2_method_8_code 23 = .ok (.aload_n 3, 1) := by decide +kernel
theorem d_D_addAttribute_24 : decode prog_2_method_8_code 24 = .ok (.getfield 47, 3) := by decide +kernel
theorem d_D_addAttribute_27 : decode prog_2_method_8_code 27 = .ok (.ireturn, 1) := by decide +kernel
abbrev M_N_addAttribute : vg_M := (⟨0, 0, 0, 0⟩, 3, prog_5_method_3_code, ⟨"PatternValidator$Node", "addAttribute", "(II)V"⟩, none, Cond.code ⟨"PatternValidator$Node", "addAttribute", "(II)V"⟩ prog_5_method_3_code 3 (none))
theorem d_N_addAttribute_0 : decode prog_5_method_3_code 0 = .ok (.aload_n 0, 1) := by decide +kernel
theorem d_N_addAttribute_1 : decode prog_5_method_3_code 1 = .ok (.getfield 9, 3) := by decide +kernel
theorem d_N_addAttribute_4 : decode prog_5_method_3_code 4 = .ok (.aload_n 0, 1) := by decide +kernel
theorem d_N_addAttribute_5 : decode prog_5_method_3_code 5 = .ok (.getfield 32, 3) := by decide +kernel
theorem d_N_addAttribute_8 : decode prog_5_method_3_code 8 = .ok (.iload_n 1, 1) := by decide +kernel
theorem d_N_addAttribute_9 : decode prog_5_method_3_code 9 = .ok (.iastore, 1) := by decide +kernel
theorem d_N_addAttribute_10 : decode prog_5_method_3_code 10 = .ok (.aload_n 0, 1) := by decide +kernel
theorem d_N_addAttribute_11 : decode prog_5_method_3_code 11 = .ok (.getfield 15, 3) := by decide +kernel
theorem d_N_addAttribute_14 : decode prog_5_method_3_code 14 = .ok (.aload_n 0, 1) := by decide +kernel
theorem d_N_addAttribute_15 : decode prog_5_method_3_code 15 = .ok (.getfield 32, 3) := by decide +kernel
theorem d_N_addAttribute_18 : decode prog_5_method_3_code 18 = .ok (.iload_n 2, 1) := by decide +kernel
theorem d_N_addAttribute_19 : decode prog_5_method_3_code 19 = .ok (.iastore, 1) := by decide +kernel
theorem d_N_addAttribute_20 : decode prog_5_method_3_code 20 = .ok (.aload_n 0, 1) := by decide +kernel
theorem d_N_addAttribute_21 : decode prog_5_method_3_code 21 = .ok (.dup, 1) := by decide +kernel
theorem d_N_addAttribute_22 : decode prog_5_method_3_code 22 = .ok (.getfield 32, 3) := by decide +kernel
theorem d_N_addAttribute_25 : decode prog_5_method_3_code 25 = .ok (.iconst 1, 1) := by decide +kernel
theorem d_N_addAttribute_26 : decode prog_5_method_3_code 26 = .ok (.iadd, 1) := by decide +kernel
theorem d_N_addAttribute_27 : decode prog_5_method_3_code 27 = .ok (.putfield 32, 3) := by decide +kernel
theorem d_N_addAttribute_30 : decode prog_5_method_3_code 30 = .ok (.return_, 1) := by decide +kernel
abbrev M_V_text : vg_M := (⟨8, 1, 6, 120⟩, 2, prog_1_method_6_code, ⟨"PatternValidator", "text", "(I)I"⟩, some .int, Cond.code ⟨"PatternValidator", "text", "(I)I"⟩ prog_1_method_6_code 2 (some .int))
theorem d_V_text_0 : decode prog_1_method_6_code 0 = .ok (.aload_n 0, 1) := by decide +kernel
theorem d_V_text_1 : decode prog_1_method_6_code 1 = .ok (.getfield 19, 3) := by decide +kernel
theorem d_V_text_4 : decode prog_1_method_6_code 4 = .ok (.invokevirtual 81, 3) := by decide +kernel
theorem d_V_text_7 : decode prog_1_method_6_code 7 = .ok (.ifCond .ne 11, 3) := by decide +kernel
theorem d_V_text_10 : decode prog_1_method_6_code 10 = .ok (.new 42, 3) := by decide +kernel
theorem d_V_text_13 : decode prog_1_method_6_code 13 = .ok (.dup, 1) := by decide +kernel
theorem d_V_text_14 : decode prog_1_method_6_code 14 = .ok (.invokespecial 44, 3) := by decide +kernel
theorem d_V_text_17 : decode prog_1_method_6_code 17 = .ok (.athrow, 1) := by decide +kernel
theorem d_V_text_18 : decode prog_1_method_6_code 18 = .ok (.aload_n 0, 1) := by decide +kernel
theorem d_V_text_19 : decode prog_1_method_6_code 19 = .ok (.getfield 19, 3) := by decide +kernel
theorem d_V_text_22 : decode prog_1_method_6_code 22 = .ok (.iload_n 1, 1) := by decide +kernel
theorem d_V_text_23 : decode prog_1_method_6_code 23 = .ok (.invokevirtual 84, 3) := by decide +kernel
theorem d_V_text_26 : decode prog_1_method_6_code 26 = .ok (.ireturn, 1) := by decide +kernel
abbrev M_D_addText : vg_M := (⟨1, 0, 0, 22⟩, 3, prog_2_method_10_code, ⟨"PatternValidator$Document", "addText", "(I)I"⟩, some .int, Cond.code ⟨"PatternValidator$Document", "addText", "(I)I"⟩ prog_2_method_10_code 3 (some .int))
theorem d_D_addText_0 : decode prog_2_method_10_code 0 = .ok (.aload_n 0, 1) := by decide +kernel
theorem d_D_addText_1 : decode prog_2_method_10_code 1 = .ok (.getfield 11, 3) := by decide +kernel
theorem d_D_addText_4 : decode prog_2_method_10_code 4 = .ok (.aload_n 0, 1) := by decide +kernel
theorem d_D_addText_5 : decode prog_2_method_10_code 5 = .ok (.getfield 17, 3) := by decide +kernel
theorem d_D_addText_8 : decode prog_2_method_10_code 8 = .ok (.aload_n 0, 1) := by decide +kernel
theorem d_D_addText_9 : decode prog_2_method_10_code 9 = .ok (.getfield 26, 3) := by decide +kernel
theorem d_D_addText_12 : decode prog_2_method_10_code 12 = .ok (.iconst 1, 1) := by decide +kernel
theorem d_D_addText_13 : decode prog_2_method_10_code 13 = .ok (.isub, 1) := by decide +kernel
theorem d_D_addText_14 : decode prog_2_method_10_code 14 = .ok (.iaload, 1) := by decide +kernel
theorem d_D_addText_15 : decode prog_2_method_10_code 15 = .ok (.aaload, 1) := by decide +kernel
theorem d_D_addText_16 : decode prog_2_method_10_code 16 = .ok (.astore_n 2, 1) := by decide +kernel
theorem d_D_addText_17 : decode prog_2_method_10_code 17 = .ok (.aload_n 2, 1) := by decide +kernel
theorem d_D_addText_18 : decode prog_2_method_10_code 18 = .ok (.iconst (-1), 1) := by decide +kernel
theorem d_D_addText_19 : decode prog_2_method_10_code 19 = .ok (.iload_n 1, 1) := by decide +kernel
theorem d_D_addText_20 : decode prog_2_method_10_code 20 = .ok (.invokevirtual 36, 3) := by decide +kernel
theorem d_D_addText_23 : decode prog_2_method_10_code 23 = .ok (.aload_n 2, 1) := by decide +kernel
theorem d_D_addText_24 : decode prog_2_method_10_code 24 = .ok (.getfield 44, 3) := by decide +kernel
theorem d_D_addText_27 : decode prog_2_method_10_code 27 = .ok (.ireturn, 1) := by decide +kernel
abbrev M_V_close : vg_M := (⟨8, 1, 6, 120⟩, 1, prog_1_method_7_code, ⟨"PatternValidator", "close", "()I"⟩, some .int, Cond.code ⟨"PatternValidator", "close", "()I"⟩ prog_1_method_7_code 1 (some .int))
theorem d_V_close_0 : decode prog_1_method_7_code 0 = .ok (.aload_n 0, 1) := by decide +kernel
theorem d_V_close_1 : decode prog_1_method_7_code 1 = .ok (.getfield 19, 3) := by decide +kernel
theorem d_V_close_4 : decode prog_1_method_7_code 4 = .ok (.invokevirtual 87, 3) := by decide +kernel
theorem d_V_close_7 : decode prog_1_method_7_code 7 = .ok (.iconst (-1), 1) := by decide +kernel
theorem d_V_close_8 : decode prog_1_method_7_code 8 = .ok (.if_icmp .ne 11, 3) := by decide +kernel
theorem d_V_close_11 : decode prog_1_method_7_code 11 = .ok (.new 42, 3) := by decide +kernel
theorem d_V_close_14 : decode prog_1_method_7_code 14 = .ok (.dup, 1) := by decide +kernel
theorem d_V_close_15 : decode prog_1_method_7_code 15 = .ok (.invokespecial 44, 3) := by decide +kernel
theorem d_V_close_18 : decode prog_1_method_7_code 18 = .ok (.athrow, 1) := by decide +kernel
theorem d_V_close_19 : decode prog_1_method_7_code 19 = .ok (.aload_n 0, 1) := by decide +kernel
theorem d_V_close_20 : decode prog_1_method_7_code 20 = .ok (.getfield 19, 3) := by decide +kernel
theorem d_V_close_23 : decode prog_1_method_7_code 23 = .ok (.invokevirtual 91, 3) := by decide +kernel
theorem d_V_close_26 : decode prog_1_method_7_code 26 = .ok (.ireturn, 1) := by decide +kernel
abbrev M_D_lastOpen : vg_M := (⟨0, 0, 0, 0⟩, 1, prog_2_method_3_code, ⟨"PatternValidator$Document", "lastOpen", "()I"⟩, some .int, Cond.code ⟨"PatternValidator$Document", "lastOpen", "()I"⟩ prog_2_method_3_code 1 (some .int))
theorem d_D_lastOpen_0 : decode prog_2_method_3_code 0 = .ok (.aload_n 0, 1) := by decide +kernel
theorem d_D_lastOpen_1 : decode prog_2_method_3_code 1 = .ok (.getfield 26, 3) := by decide +kernel
theorem d_D_lastOpen_4 : decode prog_2_method_3_code 4 = .ok (.ifCond .ne 7, 3) := by decide +kernel
theorem d_D_lastOpen_7 : decode prog_2_method_3_code 7 = .ok (.iconst (-1), 1) := by decide +kernel
theorem d_D_lastOpen_8 : decode prog_2_method_3_code 8 = .ok (.goto 14, 3) := by decide +kernel
theorem d_D_lastOpen_11 : decode prog_2_method_3_code 11 = .ok (.aload_n 0, 1) := by decide +kernel
theorem d_D_lastOpen_12 : decode prog_2_method_3_code 12 = .ok (.getfield 17, 3) := by decide +kernel
theorem d_D_lastOpen_15 : decode prog_2_method_3_code 15 = .ok (.aload_n 0, 1) := by decide +kernel
theorem d_D_lastOpen_16 : decode prog_2_method_3_code 16 = .ok (.getfield 26, 3) := by decide +kernel
theorem d_D_lastOpen_19 : decode prog_2_method_3_code 19 = .ok (.iconst 1, 1) := by decide +kernel
theorem d_D_lastOpen_20 : decode prog_2_method_3_code 20 = .ok (.isub, 1) := by decide +kernel
theorem d_D_lastOpen_21 : decode prog_2_method_3_code 21 = .ok (.iaload, 1) := by decide +kernel
theorem d_D_lastOpen_22 : decode prog_2_method_3_code 22 = .ok (.ireturn, 1) := by decide +kernel
abbrev M_D_endLast : vg_M := (⟨0, 0, 0, 0⟩, 1, prog_2_method_11_code, ⟨"PatternValidator$Document", "endLast", "()I"⟩, some .int, Cond.code ⟨"PatternValidator$Document", "endLast", "()I"⟩ prog_2_method_11_code 1 (some .int))
theorem d_D_endLast_0 : decode prog_2_method_11_code 0 = .ok (.aload_n 0, 1) := by decide +kernel
theorem d_D_endLast_1 : decode prog_2_method_11_code 1 = .ok (.dup, 1) := by decide +kernel
theorem d_D_endLast_2 : decode prog_2_method_11_code 2 = .ok (.getfield 26, 3) := by decide +kernel
theorem d_D_endLast_5 : decode prog_2_method_11_code 5 = .ok (.iconst 1, 1) := by decide +kernel
theorem d_D_endLast_6 : decode prog_2_method_11_code 6 = .ok (.isub, 1) := by decide +kernel
theorem d_D_endLast_7 : decode prog_2_method_11_code 7 = .ok (.putfield 26, 3) := by decide +kernel
theorem d_D_endLast_10 : decode prog_2_method_11_code 10 = .ok (.aload_n 0, 1) := by decide +kernel
theorem d_D_endLast_11 : decode prog_2_method_11_code 11 = .ok (.getfield 17, 3) := by decide +kernel
theorem d_D_endLast_14 : decode prog_2_method_11_code 14 = .ok (.aload_n 0, 1) := by decide +kernel
theorem d_D_endLast_15 : decode prog_2_method_11_code 15 = .ok (.getfield 26, 3) := by decide +kernel
theorem d_D_endLast_18 : decode prog_2_method_11_code 18 = .ok (.iaload, 1) := by decide +kernel
theorem d_D_endLast_19 : decode prog_2_method_11_code 19 = .ok (.ireturn, 1) := by decide +kernel
abbrev M_V_matches : vg_M := (⟨37, 1, 6, 851⟩, 3, prog_1_method_9_code, ⟨"PatternValidator", "matches", "(II)I"⟩, some .int, Cond.code ⟨"PatternValidator", "matches", "(II)I"⟩ prog_1_method_9_code 3 (some .int))
theorem d_V_matches_0 : decode prog_1_method_9_code 0 = .ok (.aload_n 0, 1) := by decide +kernel
theorem d_V_matches_1 : decode prog_1_method_9_code 1 = .ok (.getfield 10, 3) := by decide +kernel
theorem d_V_matches_4 : decode prog_1_method_9_code 4 = .ok (.iload_n 1, 1) := by decide +kernel
theorem d_V_matches_5 : decode prog_1_method_9_code 5 = .ok (.invokevirtual 49, 3) := by decide +kernel
theorem d_V_matches_8 : decode prog_1_method_9_code 8 = .ok (.ifCond .eq 14, 3) := by decide +kernel
theorem d_V_matches_11 : decode prog_1_method_9_code 11 = .ok (.aload_n 0, 1) := by decide +kernel
theorem d_V_matches_12 : decode prog_1_method_9_code 12 = .ok (.getfield 19, 3) := by decide +kernel
theorem d_V_matches_15 : decode prog_1_method_9_code 15 = .ok (.iload_n 2, 1) := by decide +kernel
theorem d_V_matches_16 : decode prog_1_method_9_code 16 = .ok (.invokevirtual 97, 3) := by decide +kernel
theorem d_V_matches_19 : decode prog_1_method_9_code 19 = .ok (.ifCond .ne 11, 3) := by decide +kernel
theorem d_V_matches_22 : decode prog_1_method_9_code 22 = .ok (.new 53, 3) := by decide +kernel
theorem d_V_matches_25 : decode prog_1_method_9_code 25 = .ok (.dup, 1) := by decide +kernel
theorem d_V_matches_26 : decode prog_1_method_9_code 26 = .ok (.invokespecial 55, 3) := by decide +kernel
theorem d_V_matches_29 : decode prog_1_method_9_code 29 = .ok (.athrow, 1) := by decide +kernel
theorem d_V_matches_30 : decode prog_1_method_9_code 30 = .ok (.aload_n 0, 1) := by decide +kernel
theorem d_V_matches_31 : decode prog_1_method_9_code 31 = .ok (.getfield 28, 3) := by decide +kernel
theorem d_V_matches_34 : decode prog_1_method_9_code 34 = .ok (.iload_n 1, 1) := by decide +kernel
theorem d_V_matches_35 : decode prog_1_method_9_code 35 = .ok (.iload_n 2, 1) := by decide +kernel
theorem d_V_matches_36 : decode prog_1_method_9_code 36 = .ok (.invokevirtual 98, 3) := by decide +kernel
theorem d_V_matches_39 : decode prog_1_method_9_code 39 = .ok (.aload_n 0, 1) := by decide +kernel
theorem d_V_matches_40 : decode prog_1_method_9_code 40 = .ok (.getfield 28, 3) := by decide +kernel
theorem d_V_matches_43 : decode prog_1_method_9_code 43 = .ok (.iload_n 1, 1) := by decide +kernel
theorem d_V_matches_44 : decode prog_1_method_9_code 44 = .ok (.iload_n 2, 1) := by decide +kernel
theorem d_V_matches_45 : decode prog_1_method_9_code 45 = .ok (.invokevirtual 102, 3) := by decide +kernel
theorem d_V_matches_48 : decode prog_1_method_9_code 48 = .ok (.ifCond .eq 7, 3) := by decide +kernel
theorem d_V_matches_51 : decode prog_1_method_9_code 51 = .ok (.iconst 1, 1) := by decide +kernel
theorem d_V_matches_52 : decode prog_1_method_9_code 52 = .ok (.goto 4, 3) := by decide +kernel
theorem d_V_matches_55 : decode prog_1_method_9_code 55 = .ok (.iconst 0, 1) := by decide +kernel
theorem d_V_matches_56 : decode prog_1_method_9_code 56 = .ok (.ireturn, 1) := by decide +kernel
abbrev M_D_has : vg_M := (⟨0, 0, 0, 0⟩, 2, prog_2_method_2_code, ⟨"PatternValidator$Document", "has", "(I)Z"⟩, some .boolean, Cond.code ⟨"PatternValidator$Document", "has", "(I)Z"⟩ prog_2_method_2_code 2 (some .boolean))
theorem d_D_has_0 : decode prog_2_method_2_code 0 = .ok (.iload_n 1, 1) := by decide +kernel
theorem d_D_has_1 : decode prog_2_method_2_code 1 = .ok (.ifCond .lt 15, 3) := by decide +kernel
theorem d_D_has_4 : decode prog_2_method_2_code 4 = .ok (.iload_n 1, 1) := by decide +kernel
theorem d_D_has_5 : decode prog_2_method_2_code 5 = .ok (.aload_n 0, 1) := by decide +kernel
theorem d_D_has_6 : decode prog_2_method_2_code 6 = .ok (.getfield 22, 3) := by decide +kernel
theorem d_D_has_9 : decode prog_2_method_2_code 9 = .ok (.if_icmp .ge 7, 3) := by decide +kernel
theorem d_D_has_12 : decode prog_2_method_2_code 12 = .ok (.iconst 1, 1) := by decide +kernel
theorem d_D_has_13 : decode prog_2_method_2_code 13 = .ok (.goto 4, 3) := by decide +kernel
theorem d_D_has_16 : decode prog_2_method_2_code 16 = .ok (.iconst 0, 1) := by decide +kernel
theorem d_D_has_17 : decode prog_2_method_2_code 17 = .ok (.ireturn, 1) := by decide +kernel
abbrev M_T_weighNodes : vg_M := (⟨36, 0, 0, 827⟩, 5, prog_4_method_2_code, ⟨"PatternValidator$Matcher", "weighNodes", "(II)V"⟩, none, Cond.code ⟨"PatternValidator$Matcher", "weighNodes", "(II)V"⟩ prog_4_method_2_code 5 (none))
theorem d_T_weighNodes_0 : decode prog_4_method_2_code 0 = .ok (.aload_n 0, 1) := by decide +kernel
theorem d_T_weighNodes_1 : decode prog_4_method_2_code 1 = .ok (.getfield 28, 3) := by decide +kernel
theorem d_T_weighNodes_4 : decode prog_4_method_2_code 4 = .ok (.iload_n 1, 1) := by decide +kernel
theorem d_T_weighNodes_5 : decode prog_4_method_2_code 5 = .ok (.invokevirtual 41, 3) := by decide +kernel
theorem d_T_weighNodes_8 : decode prog_4_method_2_code 8 = .ok (.aload_n 0, 1) := by decide +kernel
theorem d_T_weighNodes_9 : decode prog_4_method_2_code 9 = .ok (.getfield 32, 3) := by decide +kernel
theorem d_T_weighNodes_12 : decode prog_4_method_2_code 12 = .ok (.getfield 47, 3) := by decide +kernel
theorem d_T_weighNodes_15 : decode prog_4_method_2_code 15 = .ok (.iconst 1, 1) := by decide +kernel
theorem d_T_weighNodes_16 : decode prog_4_method_2_code 16 = .ok (.isub, 1) := by decide +kernel
theorem d_T_weighNodes_17 : decode prog_4_method_2_code 17 = .ok (.istore_n 3, 1) := by decide +kernel
theorem d_T_weighNodes_18 : decode prog_4_method_2_code 18 = .ok (.iload_n 3, 1) := by decide +kernel
theorem d_T_weighNodes_19 : decode prog_4_method_2_code 19 = .ok (.iload_n 2, 1) := by decide +kernel
theorem d_T_weighNodes_20 : decode prog_4_method_2_code 20 = .ok (.if_icmp .lt 32, 3) := by decide +kernel
theorem d_T_weighNodes_23 : decode prog_4_method_2_code 23 = .ok (.aload_n 0, 1) := by decide +kernel
theorem d_T_weighNodes_24 : decode prog_4_method_2_code 24 = .ok (.getfield 32, 3) := by decide +kernel
theorem d_T_weighNodes_27 : decode prog_4_method_2_code 27 = .ok (.getfield 53, 3) := by decide +kernel
theorem d_T_weighNodes_30 : decode prog_4_method_2_code 30 = .ok (.iload_n 3, 1) := by decide +kernel
theorem d_T_weighNodes_31 : decode prog_4_method_2_code 31 = .ok (.aaload, 1) := by decide +kernel
theorem d_T_weighNodes_32 : decode prog_4_method_2_code 32 = .ok (.astore 4, 2) := by decide +kernel
theorem d_T_weighNodes_34 : decode prog_4_method_2_code 34 = .ok (.aload_n 0, 1) := by decide +kernel
theorem d_T_weighNodes_35 : decode prog_4_method_2_code 35 = .ok (.aload 4, 2) := by decide +kernel
theorem d_T_weighNodes_37 : decode prog_4_method_2_code 37 = .ok (.invokevirtual 57, 3) := by decide +kernel
theorem d_T_weighNodes_40 : decode prog_4_method_2_code 40 = .ok (.aload_n 0, 1) := by decide +kernel
theorem d_T_weighNodes_41 : decode prog_4_method_2_code 41 = .ok (.aload 4, 2) := by decide +kernel
theorem d_T_weighNodes_43 : decode prog_4_method_2_code 43 = .ok (.invokevirtual 61, 3) := by decide +kernel
theorem d_T_weighNodes_46 : decode prog_4_method_2_code 46 = .ok (.iinc 3 (-1), 3) := by decide +kernel
theorem d_T_weighNodes_49 : decode prog_4_method_2_code 49 = .ok (.goto (-31), 3) := by decide +kernel
theorem d_T_weighNodes_52 : decode prog_4_method_2_code 52 = .ok (.return_, 1) := by decide +kernel
abbrev M_G_listAll : vg_M := (⟨35, 0, 0, 805⟩, 3, prog_3_method_12_code, ⟨"PatternValidator$Grammar", "listAll", "(I)V"⟩, none, Cond.code ⟨"PatternValidator$Grammar", "listAll", "(I)V"⟩ prog_3_method_12_code 3 (none))
theorem d_G_listAll_0 : decode prog_3_method_12_code 0 = .ok (.aload_n 0, 1) := by decide +kernel
theorem d_G_listAll_1 : decode prog_3_method_12_code 1 = .ok (.invokevirtual 54, 3) := by decide +kernel
theorem d_G_listAll_4 : decode prog_3_method_12_code 4 = .ok (.aload_n 0, 1) := by decide +kernel
theorem d_G_listAll_5 : decode prog_3_method_12_code 5 = .ok (.iload_n 1, 1) := by decide +kernel
theorem d_G_listAll_6 : decode prog_3_method_12_code 6 = .ok (.iconst 0, 1) := by decide +kernel
theorem d_G_listAll_7 : decode prog_3_method_12_code 7 = .ok (.invokevirtual 57, 3) := by decide +kernel
theorem d_G_listAll_10 : decode prog_3_method_12_code 10 = .ok (.iconst 0, 1) := by decide +kernel
theorem d_G_listAll_11 : decode prog_3_method_12_code 11 = .ok (.istore_n 2, 1) := by decide +kernel
theorem d_G_listAll_12 : decode prog_3_method_12_code 12 = .ok (.iload_n 2, 1) := by decide +kernel
theorem d_G_listAll_13 : decode prog_3_method_12_code 13 = .ok (.aload_n 0, 1) := by decide +kernel
theorem d_G_listAll_14 : decode prog_3_method_12_code 14 = .ok (.getfield 61, 3) := by decide +kernel
theorem d_G_listAll_17 : decode prog_3_method_12_code 17 = .ok (.if_icmp .ge 47, 3) := by decide +kernel
theorem d_G_listAll_20 : decode prog_3_method_12_code 20 = .ok (.iload_n 2, 1) := by decide +kernel
theorem d_G_listAll_21 : decode prog_3_method_12_code 21 = .ok (.bipush 40, 2) := by decide +kernel
theorem d_G_listAll_23 : decode prog_3_method_12_code 23 = .ok (.if_icmp .ge 41, 3) := by decide +kernel
theorem d_G_listAll_26 : decode prog_3_method_12_code 26 = .ok (.aload_n 0, 1) := by decide +kernel
theorem d_G_listAll_27 : decode prog_3_method_12_code 27 = .ok (.getfield 9, 3) := by decide +kernel
theorem d_G_listAll_30 : decode prog_3_method_12_code 30 = .ok (.aload_n 0, 1) := by decide +kernel
theorem d_G_listAll_31 : decode prog_3_method_12_code 31 = .ok (.getfield 27, 3) := by decide +kernel
theorem d_G_listAll_34 : decode prog_3_method_12_code 34 = .ok (.iload_n 2, 1) := by decide +kernel
theorem d_G_listAll_35 : decode prog_3_method_12_code 35 = .ok (.iaload, 1) := by decide +kernel
theorem d_G_listAll_36 : decode prog_3_method_12_code 36 = .ok (.iaload, 1) := by decide +kernel
theorem d_G_listAll_37 : decode prog_3_method_12_code 37 = .ok (.bipush 8, 2) := by decide +kernel
theorem d_G_listAll_39 : decode prog_3_method_12_code 39 = .ok (.if_icmp .ne 19, 3) := by decide +kernel
theorem d_G_listAll_42 : decode prog_3_method_12_code 42 = .ok (.aload_n 0, 1) := by decide +kernel
theorem d_G_listAll_43 : decode prog_3_method_12_code 43 = .ok (.aload_n 0, 1) := by decide +kernel
theorem d_G_listAll_44 : decode prog_3_method_12_code 44 = .ok (.getfield 18, 3) := by decide +kernel
theorem d_G_listAll_47 : decode prog_3_method_12_code 47 = .ok (.aload_n 0, 1) := by decide +kernel
theorem d_G_listAll_48 : decode prog_3_method_12_code 48 = .ok (.getfield 27, 3) := by decide +kernel
theorem d_G_listAll_51 : decode prog_3_method_12_code 51 = .ok (.iload_n 2, 1) := by decide +kernel
theorem d_G_listAll_52 : decode prog_3_method_12_code 52 = .ok (.iaload, 1) := by decide +kernel
theorem d_G_listAll_53 : decode prog_3_method_12_code 53 = .ok (.iaload, 1) := by decide +kernel
theorem d_G_listAll_54 : decode prog_3_method_12_code 54 = .ok (.iconst 0, 1) := by decide +kernel
theorem d_G_listAll_55 : decode prog_3_method_12_code 55 = .ok (.invokevirtual 57, 3) := by decide +kernel
theorem d_G_listAll_58 : decode prog_3_method_12_code 58 = .ok (.iinc 2 1, 3) := by decide +kernel
theorem d_G_listAll_61 : decode prog_3_method_12_code 61 = .ok (.goto (-49), 3) := by decide +kernel
theorem d_G_listAll_64 : decode prog_3_method_12_code 64 = .ok (.return_, 1) := by decide +kernel
abbrev M_T_weighValues : vg_M := (⟨4, 0, 0, 107⟩, 3, prog_4_method_7_code, ⟨"PatternValidator$Matcher", "weighValues", "(LPatternValidator$Node;)V"⟩, none, Cond.code ⟨"PatternValidator$Matcher", "weighValues", "(LPatternValidator$Node;)V"⟩ prog_4_method_7_code 3 (none))
theorem d_T_weighValues_0 : decode prog_4_method_7_code 0 = .ok (.iconst 0, 1) := by decide +kernel
theorem d_T_weighValues_1 : decode prog_4_method_7_code 1 = .ok (.istore_n 2, 1) := by decide +kernel
theorem d_T_weighValues_2 : decode prog_4_method_7_code 2 = .ok (.iload_n 2, 1) := by decide +kernel
theorem d_T_weighValues_3 : decode prog_4_method_7_code 3 = .ok (.aload_n 1, 1) := by decide +kernel
theorem d_T_weighValues_4 : decode prog_4_method_7_code 4 = .ok (.getfield 85, 3) := by decide +kernel
theorem d_T_weighValues_7 : decode prog_4_method_7_code 7 = .ok (.if_icmp .ge 52, 3) := by decide +kernel
theorem d_T_weighValues_10 : decode prog_4_method_7_code 10 = .ok (.aload_n 0, 1) := by decide +kernel
theorem d_T_weighValues_11 : decode prog_4_method_7_code 11 = .ok (.getfield 24, 3) := by decide +kernel
theorem d_T_weighValues_14 : decode prog_4_method_7_code 14 = .ok (.iconst 0, 1) := by decide +kernel
theorem d_T_weighValues_15 : decode prog_4_method_7_code 15 = .ok (.invokevirtual 64, 3) := by decide +kernel
theorem d_T_weighValues_18 : decode prog_4_method_7_code 18 = .ok (.aload_n 0, 1) := by decide +kernel
theorem d_T_weighValues_19 : decode prog_4_method_7_code 19 = .ok (.getfield 24, 3) := by decide +kernel
theorem d_T_weighValues_22 : decode prog_4_method_7_code 22 = .ok (.iconst (-1), 1) := by decide +kernel
theorem d_T_weighValues_23 : decode prog_4_method_7_code 23 = .ok (.aload_n 1, 1) := by decide +kernel
theorem d_T_weighValues_24 : decode prog_4_method_7_code 24 = .ok (.getfield 88, 3) := by decide +kernel
theorem d_T_weighValues_27 : decode prog_4_method_7_code 27 = .ok (.iload_n 2, 1) := by decide +kernel
theorem d_T_weighValues_28 : decode prog_4_method_7_code 28 = .ok (.iaload, 1) := by decide +kernel
theorem d_T_weighValues_29 : decode prog_4_method_7_code 29 = .ok (.invokevirtual 67, 3) := by decide +kernel
theorem d_T_weighValues_32 : decode prog_4_method_7_code 32 = .ok (.aload_n 0, 1) := by decide +kernel
theorem d_T_weighValues_33 : decode prog_4_method_7_code 33 = .ok (.aload_n 0, 1) := by decide +kernel
theorem d_T_weighValues_34 : decode prog_4_method_7_code 34 = .ok (.getfield 24, 3) := by decide +kernel
theorem d_T_weighValues_37 : decode prog_4_method_7_code 37 = .ok (.invokevirtual 61, 3) := by decide +kernel
theorem d_T_weighValues_40 : decode prog_4_method_7_code 40 = .ok (.aload_n 1, 1) := by decide +kernel
theorem d_T_weighValues_41 : decode prog_4_method_7_code 41 = .ok (.getfield 92, 3) := by decide +kernel
theorem d_T_weighValues_44 : decode prog_4_method_7_code 44 = .ok (.iload_n 2, 1) := by decide +kernel
theorem d_T_weighValues_45 : decode prog_4_method_7_code 45 = .ok (.aload_n 0, 1) := by decide +kernel
theorem d_T_weighValues_46 : decode prog_4_method_7_code 46 = .ok (.getfield 24, 3) := by decide +kernel
theorem d_T_weighValues_49 : decode prog_4_method_7_code 49 = .ok (.getfield 95, 3) := by decide +kernel
theorem d_T_weighValues_52 : decode prog_4_method_7_code 52 = .ok (.lastore, 1) := by decide +kernel
theorem d_T_weighValues_53 : decode prog_4_method_7_code 53 = .ok (.iinc 2 1, 3) := by decide +kernel
theorem d_T_weighValues_56 : decode prog_4_method_7_code 56 = .ok (.goto (-54), 3) := by decide +kernel
theorem d_T_weighValues_59 : decode prog_4_method_7_code 59 = .ok (.return_, 1) := by decide +kernel
abbrev M_T_weigh : vg_M := (⟨3, 0, 0, 81⟩, 7, prog_4_method_8_code, ⟨"PatternValidator$Matcher", "weigh", "(LPatternValidator$Node;)V"⟩, none, Cond.code ⟨"PatternValidator$Matcher", "weigh", "(LPatternValidator$Node;)V"⟩ prog_4_method_8_code 7 (none))
theorem d_T_weigh_0 : decode prog_4_method_8_code 0 = .ok (.aload_n 0, 1) := by decide +kernel
theorem d_T_weigh_1 : decode prog_4_method_8_code 1 = .ok (.iconst 1, 1) := by decide +kernel
theorem d_T_weigh_2 : decode prog_4_method_8_code 2 = .ok (.aload_n 1, 1) := by decide +kernel
theorem d_T_weigh_3 : decode prog_4_method_8_code 3 = .ok (.getfield 85, 3) := by decide +kernel
theorem d_T_weigh_6 : decode prog_4_method_8_code 6 = .ok (.ishl, 1) := by decide +kernel
theorem d_T_weigh_7 : decode prog_4_method_8_code 7 = .ok (.putfield 79, 3) := by decide +kernel
theorem d_T_weigh_10 : decode prog_4_method_8_code 10 = .ok (.iconst 1, 1) := by decide +kernel
theorem d_T_weigh_11 : decode prog_4_method_8_code 11 = .ok (.aload_n 1, 1) := by decide +kernel
theorem d_T_weigh_12 : decode prog_4_method_8_code 12 = .ok (.getfield 82, 3) := by decide +kernel
theorem d_T_weigh_15 : decode prog_4_method_8_code 15 = .ok (.ishl, 1) := by decide +kernel
theorem d_T_weigh_16 : decode prog_4_method_8_code 16 = .ok (.iconst 1, 1) := by decide +kernel
theorem d_T_weigh_17 : decode prog_4_method_8_code 17 = .ok (.isub, 1) := by decide +kernel
theorem d_T_weigh_18 : decode prog_4_method_8_code 18 = .ok (.istore_n 2, 1) := by decide +kernel
theorem d_T_weigh_19 : decode prog_4_method_8_code 19 = .ok (.lconst 0, 1) := by decide +kernel
theorem d_T_weigh_20 : decode prog_4_method_8_code 20 = .ok (.lstore_n 3, 1) := by decide +kernel
theorem d_T_weigh_21 : decode prog_4_method_8_code 21 = .ok (.iconst 0, 1) := by decide +kernel
theorem d_T_weigh_22 : decode prog_4_method_8_code 22 = .ok (.istore 5, 2) := by decide +kernel
theorem d_T_weigh_24 : decode prog_4_method_8_code 24 = .ok (.iload 5, 2) := by decide +kernel
theorem d_T_weigh_26 : decode prog_4_method_8_code 26 = .ok (.aload_n 0, 1) := by decide +kernel
theorem d_T_weigh_27 : decode prog_4_method_8_code 27 = .ok (.getfield 28, 3) := by decide +kernel
theorem d_T_weigh_30 : decode prog_4_method_8_code 30 = .ok (.getfield 99, 3) := by decide +kernel
theorem d_T_weigh_33 : decode prog_4_method_8_code 33 = .ok (.if_icmp .ge 61, 3) := by decide +kernel
theorem d_T_weigh_36 : decode prog_4_method_8_code 36 = .ok (.aload_n 0, 1) := by decide +kernel
theorem d_T_weigh_37 : decode prog_4_method_8_code 37 = .ok (.getfield 28, 3) := by decide +kernel
theorem d_T_weigh_40 : decode prog_4_method_8_code 40 = .ok (.getfield 102, 3) := by decide +kernel
theorem d_T_weigh_43 : decode prog_4_method_8_code 43 = .ok (.iload 5, 2) := by decide +kernel
theorem d_T_weigh_45 : decode prog_4_method_8_code 45 = .ok (.iaload, 1) := by decide +kernel
theorem d_T_weigh_46 : decode prog_4_method_8_code 46 = .ok (.istore 6, 2) := by decide +kernel
theorem d_T_weigh_48 : decode prog_4_method_8_code 48 = .ok (.aload_n 0, 1) := by decide +kernel
theorem d_T_weigh_49 : decode prog_4_method_8_code 49 = .ok (.iload 6, 2) := by decide +kernel
theorem d_T_weigh_51 : decode prog_4_method_8_code 51 = .ok (.aload_n 1, 1) := by decide +kernel
theorem d_T_weigh_52 : decode prog_4_method_8_code 52 = .ok (.invokevirtual 105, 3) := by decide +kernel
theorem d_T_weigh_55 : decode prog_4_method_8_code 55 = .ok (.aload_n 0, 1) := by decide +kernel
theorem d_T_weigh_56 : decode prog_4_method_8_code 56 = .ok (.getfield 18, 3) := by decide +kernel
theorem d_T_weigh_59 : decode prog_4_method_8_code 59 = .ok (.iload 6, 2) := by decide +kernel
theorem d_T_weigh_61 : decode prog_4_method_8_code 61 = .ok (.bipush 8, 2) := by decide +kernel
theorem d_T_weigh_63 : decode prog_4_method_8_code 63 = .ok (.imul, 1) := by decide +kernel
theorem d_T_weigh_64 : decode prog_4_method_8_code 64 = .ok (.aload_n 0, 1) := by decide +kernel
theorem d_T_weigh_65 : decode prog_4_method_8_code 65 = .ok (.getfield 79, 3) := by decide +kernel
theorem d_T_weigh_68 : decode prog_4_method_8_code 68 = .ok (.iadd, 1) := by decide +kernel
theorem d_T_weigh_69 : decode prog_4_method_8_code 69 = .ok (.iconst 1, 1) := by decide +kernel
theorem d_T_weigh_70 : decode prog_4_method_8_code 70 = .ok (.isub, 1) := by decide +kernel
theorem d_T_weigh_71 : decode prog_4_method_8_code 71 = .ok (.laload, 1) := by decide +kernel
theorem d_T_weigh_72 : decode prog_4_method_8_code 72 = .ok (.iload_n 2, 1) := by decide +kernel
theorem d_T_weigh_73 : decode prog_4_method_8_code 73 = .ok (.lushr, 1) := by decide +kernel
theorem d_T_weigh_74 : decode prog_4_method_8_code 74 = .ok (.lconst 1, 1) := by decide +kernel
theorem d_T_weigh_75 : decode prog_4_method_8_code 75 = .ok (.land, 1) := by decide +kernel
theorem d_T_weigh_76 : decode prog_4_method_8_code 76 = .ok (.lconst 0, 1) := by decide +kernel
theorem d_T_weigh_77 : decode prog_4_method_8_code 77 = .ok (.lcmp, 1) := by decide +kernel
theorem d_T_weigh_78 : decode prog_4_method_8_code 78 = .ok (.ifCond .eq 10, 3) := by decide +kernel
theorem d_T_weigh_81 : decode prog_4_method_8_code 81 = .ok (.lload_n 3, 1) := by decide +kernel
theorem d_T_weigh_82 : decode prog_4_method_8_code 82 = .ok (.lconst 1, 1) := by decide +kernel
theorem d_T_weigh_83 : decode prog_4_method_8_code 83 = .ok (.iload 6, 2) := by decide +kernel
theorem d_T_weigh_85 : decode prog_4_method_8_code 85 = .ok (.lshl, 1) := by decide +kernel
theorem d_T_weigh_86 : decode prog_4_method_8_code 86 = .ok (.lor, 1) := by decide +kernel
theorem d_T_weigh_87 : decode prog_4_method_8_code 87 = .ok (.lstore_n 3, 1) := by decide +kernel
theorem d_T_weigh_88 : decode prog_4_method_8_code 88 = .ok (.iinc 5 1, 3) := by decide +kernel
theorem d_T_weigh_91 : decode prog_4_method_8_code 91 = .ok (.goto (-67), 3) := by decide +kernel
theorem d_T_weigh_94 : decode prog_4_method_8_code 94 = .ok (.aload_n 1, 1) := by decide +kernel
theorem d_T_weigh_95 : decode prog_4_method_8_code 95 = .ok (.lload_n 3, 1) := by decide +kernel
theorem d_T_weigh_96 : decode prog_4_method_8_code 96 = .ok (.putfield 95, 3) := by decide +kernel
theorem d_T_weigh_99 : decode prog_4_method_8_code 99 = .ok (.return_, 1) := by decide +kernel
abbrev M_T_weighPattern : vg_M := (⟨2, 0, 0, 57⟩, 5, prog_4_method_9_code, ⟨"PatternValidator$Matcher", "weighPattern", "(ILPatternValidator$Node;)V"⟩, none, Cond.code ⟨"PatternValidator$Matcher", "weighPattern", "(ILPatternValidator$Node;)V"⟩ prog_4_method_9_code 5 (none))
theorem d_T_weighPattern_0 : decode prog_4_method_9_code 0 = .ok (.aload_n 0, 1) := by decide +kernel
theorem d_T_weighPattern_1 : decode prog_4_method_9_code 1 = .ok (.getfield 28, 3) := by decide +kernel
theorem d_T_weighPattern_4 : decode prog_4_method_9_code 4 = .ok (.getfield 109, 3) := by decide +kernel
theorem d_T_weighPattern_7 : decode prog_4_method_9_code 7 = .ok (.iload_n 1, 1) := by decide +kernel
theorem d_T_weighPattern_8 : decode prog_4_method_9_code 8 = .ok (.iaload, 1) := by decide +kernel
theorem d_T_weighPattern_9 : decode prog_4_method_9_code 9 = .ok (.istore_n 3, 1) := by decide +kernel
theorem d_T_weighPattern_10 : decode prog_4_method_9_code 10 = .ok (.aload_n 0, 1) := by decide +kernel
theorem d_T_weighPattern_11 : decode prog_4_method_9_code 11 = .ok (.getfield 28, 3) := by decide +kernel
theorem d_T_weighPattern_14 : decode prog_4_method_9_code 14 = .ok (.getfield 112, 3) := by decide +kernel
theorem d_T_weighPattern_17 : decode prog_4_method_9_code 17 = .ok (.iload_n 1, 1) := by decide +kernel
theorem d_T_weighPattern_18 : decode prog_4_method_9_code 18 = .ok (.iaload, 1) := by decide +kernel
theorem d_T_weighPattern_19 : decode prog_4_method_9_code 19 = .ok (.istore 4, 2) := by decide +kernel
theorem d_T_weighPattern_21 : decode prog_4_method_9_code 21 = .ok (.aload_n 0, 1) := by decide +kernel
theorem d_T_weighPattern_22 : decode prog_4_method_9_code 22 = .ok (.iload_n 1, 1) := by decide +kernel
theorem d_T_weighPattern_23 : decode prog_4_method_9_code 23 = .ok (.invokevirtual 115, 3) := by decide +kernel
theorem d_T_weighPattern_26 : decode prog_4_method_9_code 26 = .ok (.aload_n 0, 1) := by decide +kernel
theorem d_T_weighPattern_27 : decode prog_4_method_9_code 27 = .ok (.getfield 28, 3) := by decide +kernel
theorem d_T_weighPattern_30 : decode prog_4_method_9_code 30 = .ok (.getfield 118, 3) := by decide +kernel
theorem d_T_weighPattern_33 : decode prog_4_method_9_code 33 = .ok (.iload_n 1, 1) := by decide +kernel
theorem d_T_weighPattern_34 : decode prog_4_method_9_code 34 = .ok (.iaload, 1) := by decide +kernel
theorem d_T_weighPattern_35 : decode prog_4_method_9_code 35 = .ok (.tableswitch 232 0 10 #[57, 232, 70, 87, 107, 122, 137, 153, 173, 193, 202], 57) := by decide +kernel
theorem d_T_weighPattern_92 : decode prog_4_method_9_code 92 = .ok (.aload_n 0, 1) := by decide +kernel
theorem d_T_weighPattern_93 : decode prog_4_method_9_code 93 = .ok (.getfield 18, 3) := by decide +kernel
theorem d_T_weighPattern_96 : decode prog_4_method_9_code 96 = .ok (.iload_n 1, 1) := by decide +kernel
theorem d_T_weighPattern_97 : decode prog_4_method_9_code 97 = .ok (.bipush 8, 2) := by decide +kernel
theorem d_T_weighPattern_99 : decode prog_4_method_9_code 99 = .ok (.imul, 1) := by decide +kernel
theorem d_T_weighPattern_100 : decode prog_4_method_9_code 100 = .ok (.lconst 1, 1) := by decide +kernel
theorem d_T_weighPattern_101 : decode prog_4_method_9_code 101 = .ok (.lastore, 1) := by decide +kernel
theorem d_T_weighPattern_102 : decode prog_4_method_9_code 102 = .ok (.goto 165, 3) := by decide +kernel
theorem d_T_weighPattern_105 : decode prog_4_method_9_code 105 = .ok (.aload_n 0, 1) := by decide +kernel
theorem d_T_weighPattern_106 : decode prog_4_method_9_code 106 = .ok (.getfield 18, 3) := by decide +kernel
theorem d_T_weighPattern_109 : decode prog_4_method_9_code 109 = .ok (.iload_n 1, 1) := by decide +kernel
theorem d_T_weighPattern_110 : decode prog_4_method_9_code 110 = .ok (.bipush 8, 2) := by decide +kernel
theorem d_T_weighPattern_112 : decode prog_4_method_9_code 112 = .ok (.imul, 1) := by decide +kernel
theorem d_T_weighPattern_113 : decode prog_4_method_9_code 113 = .ok (.aload_n 0, 1) := by decide +kernel
theorem d_T_weighPattern_114 : decode prog_4_method_9_code 114 = .ok (.aload_n 2, 1) := by decide +kernel
theorem d_T_weighPattern_115 : decode prog_4_method_9_code 115 = .ok (.invokevirtual 121, 3) := by decide +kernel
theorem d_T_weighPattern_118 : decode prog_4_method_9_code 118 = .ok (.lastore, 1) := by decide +kernel
theorem d_T_weighPattern_119 : decode prog_4_method_9_code 119 = .ok (.goto 148, 3) := by decide +kernel
theorem d_T_weighPattern_122 : decode prog_4_method_9_code 122 = .ok (.aload_n 0, 1) := by decide +kernel
theorem d_T_weighPattern_123 : decode prog_4_method_9_code 123 = .ok (.getfield 18, 3) := by decide +kernel
theorem d_T_weighPattern_126 : decode prog_4_method_9_code 126 = .ok (.iload_n 1, 1) := by decide +kernel
theorem d_T_weighPattern_127 : decode prog_4_method_9_code 127 = .ok (.bipush 8, 2) := by decide +kernel
theorem d_T_weighPattern_129 : decode prog_4_method_9_code 129 = .ok (.imul, 1) := by decide +kernel
theorem d_T_weighPattern_130 : decode prog_4_method_9_code 130 = .ok (.aload_n 0, 1) := by decide +kernel
theorem d_T_weighPattern_131 : decode prog_4_method_9_code 131 = .ok (.aload_n 2, 1) := by decide +kernel
theorem d_T_weighPattern_132 : decode prog_4_method_9_code 132 = .ok (.iload_n 3, 1) := by decide +kernel
theorem d_T_weighPattern_133 : decode prog_4_method_9_code 133 = .ok (.iload 4, 2) := by decide +kernel
theorem d_T_weighPattern_135 : decode prog_4_method_9_code 135 = .ok (.invokevirtual 125, 3) := by decide +kernel
theorem d_T_weighPattern_138 : decode prog_4_method_9_code 138 = .ok (.lastore, 1) := by decide +kernel
theorem d_T_weighPattern_139 : decode prog_4_method_9_code 139 = .ok (.goto 128, 3) := by decide +kernel
theorem d_T_weighPattern_142 : decode prog_4_method_9_code 142 = .ok (.aload_n 0, 1) := by decide +kernel
theorem d_T_weighPattern_143 : decode prog_4_method_9_code 143 = .ok (.iload_n 1, 1) := by decide +kernel
theorem d_T_weighPattern_144 : decode prog_4_method_9_code 144 = .ok (.iload_n 3, 1) := by decide +kernel
theorem d_T_weighPattern_145 : decode prog_4_method_9_code 145 = .ok (.iload 4, 2) := by decide +kernel
theorem d_T_weighPattern_147 : decode prog_4_method_9_code 147 = .ok (.aload_n 0, 1) := by decide +kernel
theorem d_T_weighPattern_148 : decode prog_4_method_9_code 148 = .ok (.getfield 15, 3) := by decide +kernel
theorem d_T_weighPattern_151 : decode prog_4_method_9_code 151 = .ok (.invokevirtual 129, 3) := by decide +kernel
theorem d_T_weighPattern_154 : decode prog_4_method_9_code 154 = .ok (.goto 113, 3) := by decide +kernel
theorem d_T_weighPattern_157 : decode prog_4_method_9_code 157 = .ok (.aload_n 0, 1) := by decide +kernel
theorem d_T_weighPattern_158 : decode prog_4_method_9_code 158 = .ok (.iload_n 1, 1) := by decide +kernel
theorem d_T_weighPattern_159 : decode prog_4_method_9_code 159 = .ok (.iload_n 3, 1) := by decide +kernel
theorem d_T_weighPattern_160 : decode prog_4_method_9_code 160 = .ok (.iload 4, 2) := by decide +kernel
theorem d_T_weighPattern_162 : decode prog_4_method_9_code 162 = .ok (.aload_n 0, 1) := by decide +kernel
theorem d_T_weighPattern_163 : decode prog_4_method_9_code 163 = .ok (.getfield 11, 3) := by decide +kernel
theorem d_T_weighPattern_166 : decode prog_4_method_9_code 166 = .ok (.invokevirtual 129, 3) := by decide +kernel
theorem d_T_weighPattern_169 : decode prog_4_method_9_code 169 = .ok (.goto 98, 3) := by decide +kernel
theorem d_T_weighPattern_172 : decode prog_4_method_9_code 172 = .ok (.aload_n 0, 1) := by decide +kernel
theorem d_T_weighPattern_173 : decode prog_4_method_9_code 173 = .ok (.iload_n 1, 1) := by decide +kernel
theorem d_T_weighPattern_174 : decode prog_4_method_9_code 174 = .ok (.iload_n 3, 1) := by decide +kernel
theorem d_T_weighPattern_175 : decode prog_4_method_9_code 175 = .ok (.invokevirtual 133, 3) := by decide +kernel
theorem d_T_weighPattern_178 : decode prog_4_method_9_code 178 = .ok (.aload_n 0, 1) := by decide +kernel
theorem d_T_weighPattern_179 : decode prog_4_method_9_code 179 = .ok (.iload_n 1, 1) := by decide +kernel
theorem d_T_weighPattern_180 : decode prog_4_method_9_code 180 = .ok (.iload 4, 2) := by decide +kernel
theorem d_T_weighPattern_182 : decode prog_4_method_9_code 182 = .ok (.invokevirtual 133, 3) := by decide +kernel
theorem d_T_weighPattern_185 : decode prog_4_method_9_code 185 = .ok (.goto 82, 3) := by decide +kernel
theorem d_T_weighPattern_188 : decode prog_4_method_9_code 188 = .ok (.aload_n 0, 1) := by decide +kernel
theorem d_T_weighPattern_189 : decode prog_4_method_9_code 189 = .ok (.iload_n 1, 1) := by decide +kernel
theorem d_T_weighPattern_190 : decode prog_4_method_9_code 190 = .ok (.iload_n 3, 1) := by decide +kernel
theorem d_T_weighPattern_191 : decode prog_4_method_9_code 191 = .ok (.invokevirtual 133, 3) := by decide +kernel
theorem d_T_weighPattern_194 : decode prog_4_method_9_code 194 = .ok (.aload_n 0, 1) := by decide +kernel
theorem d_T_weighPattern_195 : decode prog_4_method_9_code 195 = .ok (.iload_n 1, 1) := by decide +kernel
theorem d_T_weighPattern_196 : decode prog_4_method_9_code 196 = .ok (.iload_n 1, 1) := by decide +kernel
theorem d_T_weighPattern_197 : decode prog_4_method_9_code 197 = .ok (.iload_n 3, 1) := by decide +kernel
theorem d_T_weighPattern_198 : decode prog_4_method_9_code 198 = .ok (.aload_n 0, 1) := by decide +kernel
theorem d_T_weighPattern_199 : decode prog_4_method_9_code 199 = .ok (.getfield 15, 3) := by decide +kernel
theorem d_T_weighPattern_202 : decode prog_4_method_9_code 202 = .ok (.invokevirtual 129, 3) := by decide +kernel
theorem d_T_weighPattern_205 : decode prog_4_method_9_code 205 = .ok (.goto 62, 3) := by decide +kernel
theorem d_T_weighPattern_208 : decode prog_4_method_9_code 208 = .ok (.aload_n 0, 1) := by decide +kernel
theorem d_T_weighPattern_209 : decode prog_4_method_9_code 209 = .ok (.getfield 18, 3) := by decide +kernel
theorem d_T_weighPattern_212 : decode prog_4_method_9_code 212 = .ok (.iload_n 1, 1) := by decide +kernel
theorem d_T_weighPattern_213 : decode prog_4_method_9_code 213 = .ok (.bipush 8, 2) := by decide +kernel
theorem d_T_weighPattern_215 : decode prog_4_method_9_code 215 = .ok (.imul, 1) := by decide +kernel
theorem d_T_weighPattern_216 : decode prog_4_method_9_code 216 = .ok (.aload_n 0, 1) := by decide +kernel
theorem d_T_weighPattern_217 : decode prog_4_method_9_code 217 = .ok (.aload_n 2, 1) := by decide +kernel
theorem d_T_weighPattern_218 : decode prog_4_method_9_code 218 = .ok (.iload_n 3, 1) := by decide +kernel
theorem d_T_weighPattern_219 : decode prog_4_method_9_code 219 = .ok (.iload 4, 2) := by decide +kernel
theorem d_T_weighPattern_221 : decode prog_4_method_9_code 221 = .ok (.invokevirtual 136, 3) := by decide +kernel
theorem d_T_weighPattern_224 : decode prog_4_method_9_code 224 = .ok (.lastore, 1) := by decide +kernel
theorem d_T_weighPattern_225 : decode prog_4_method_9_code 225 = .ok (.goto 42, 3) := by decide +kernel
theorem d_T_weighPattern_228 : decode prog_4_method_9_code 228 = .ok (.aload_n 0, 1) := by decide +kernel
theorem d_T_weighPattern_229 : decode prog_4_method_9_code 229 = .ok (.iload_n 1, 1) := by decide +kernel
theorem d_T_weighPattern_230 : decode prog_4_method_9_code 230 = .ok (.aload_n 2, 1) := by decide +kernel
theorem d_T_weighPattern_231 : decode prog_4_method_9_code 231 = .ok (.invokevirtual 139, 3) := by decide +kernel
theorem d_T_weighPattern_234 : decode prog_4_method_9_code 234 = .ok (.goto 33, 3) := by decide +kernel
theorem d_T_weighPattern_237 : decode prog_4_method_9_code 237 = .ok (.aload_n 0, 1) := by decide +kernel
theorem d_T_weighPattern_238 : decode prog_4_method_9_code 238 = .ok (.getfield 28, 3) := by decide +kernel
theorem d_T_weighPattern_241 : decode prog_4_method_9_code 241 = .ok (.getfield 142, 3) := by decide +kernel
theorem d_T_weighPattern_244 : decode prog_4_method_9_code 244 = .ok (.iload_n 3, 1) := by decide +kernel
theorem d_T_weighPattern_245 : decode prog_4_method_9_code 245 = .ok (.iaload, 1) := by decide +kernel
theorem d_T_weighPattern_246 : decode prog_4_method_9_code 246 = .ok (.iconst (-1), 1) := by decide +kernel
theorem d_T_weighPattern_247 : decode prog_4_method_9_code 247 = .ok (.if_icmp .eq 20, 3) := by decide +kernel
theorem d_T_weighPattern_250 : decode prog_4_method_9_code 250 = .ok (.aload_n 0, 1) := by decide +kernel
theorem d_T_weighPattern_251 : decode prog_4_method_9_code 251 = .ok (.iload_n 1, 1) := by decide +kernel
theorem d_T_weighPattern_252 : decode prog_4_method_9_code 252 = .ok (.aload_n 0, 1) := by decide +kernel
theorem d_T_weighPattern_253 : decode prog_4_method_9_code 253 = .ok (.getfield 28, 3) := by decide +kernel
theorem d_T_weighPattern_256 : decode prog_4_method_9_code 256 = .ok (.getfield 142, 3) := by decide +kernel
theorem d_T_weighPattern_259 : decode prog_4_method_9_code 259 = .ok (.iload_n 3, 1) := by decide +kernel
theorem d_T_weighPattern_260 : decode prog_4_method_9_code 260 = .ok (.iaload, 1) := by decide +kernel
theorem d_T_weighPattern_261 : decode prog_4_method_9_code 261 = .ok (.invokevirtual 133, 3) := by decide +kernel
theorem d_T_weighPattern_264 : decode prog_4_method_9_code 264 = .ok (.goto 3, 3) := by decide +kernel
theorem d_T_weighPattern_267 : decode prog_4_method_9_code 267 = .ok (.return_, 1) := by decide +kernel
abbrev M_T_wipe : vg_M := (⟨0, 0, 0, 0⟩, 3, prog_4_method_10_code, ⟨"PatternValidator$Matcher", "wipe", "(I)V"⟩, none, Cond.code ⟨"PatternValidator$Matcher", "wipe", "(I)V"⟩ prog_4_method_10_code 3 (none))
theorem d_T_wipe_0 : decode prog_4_method_10_code 0 = .ok (.iconst 0, 1) := by decide +kernel
theorem d_T_wipe_1 : decode prog_4_method_10_code 1 = .ok (.istore_n 2, 1) := by decide +kernel
theorem d_T_wipe_2 : decode prog_4_method_10_code 2 = .ok (.iload_n 2, 1) := by decide +kernel
theorem d_T_wipe_3 : decode prog_4_method_10_code 3 = .ok (.aload_n 0, 1) := by decide +kernel
theorem d_T_wipe_4 : decode prog_4_method_10_code 4 = .ok (.getfield 79, 3) := by decide +kernel
theorem d_T_wipe_7 : decode prog_4_method_10_code 7 = .ok (.if_icmp .ge 21, 3) := by decide +kernel
theorem d_T_wipe_10 : decode prog_4_method_10_code 10 = .ok (.aload_n 0, 1) := by decide +kernel
theorem d_T_wipe_11 : decode prog_4_method_10_code 11 = .ok (.getfield 18, 3) := by decide +kernel
theorem d_T_wipe_14 : decode prog_4_method_10_code 14 = .ok (.iload_n 1, 1) := by decide +kernel
theorem d_T_wipe_15 : decode prog_4_method_10_code 15 = .ok (.bipush 8, 2) := by decide +kernel
theorem d_T_wipe_17 : decode prog_4_method_10_code 17 = .ok (.imul, 1) := by decide +kernel
theorem d_T_wipe_18 : decode prog_4_method_10_code 18 = .ok (.iload_n 2, 1) := by decide +kernel
theorem d_T_wipe_19 : decode prog_4_method_10_code 19 = .ok (.iadd, 1) := by decide +kernel
theorem d_T_wipe_20 : decode prog_4_method_10_code 20 = .ok (.lconst 0, 1) := by decide +kernel
theorem d_T_wipe_21 : decode prog_4_method_10_code 21 = .ok (.lastore, 1) := by decide +kernel
theorem d_T_wipe_22 : decode prog_4_method_10_code 22 = .ok (.iinc 2 1, 3) := by decide +kernel
theorem d_T_wipe_25 : decode prog_4_method_10_code 25 = .ok (.goto (-23), 3) := by decide +kernel
theorem d_T_wipe_28 : decode prog_4_method_10_code 28 = .ok (.return_, 1) := by decide +kernel
abbrev M_T_rowsOfTexts : vg_M := (⟨0, 0, 0, 0⟩, 5, prog_4_method_12_code, ⟨"PatternValidator$Matcher", "rowsOfTexts", "(LPatternValidator$Node;)J"⟩, some .long, Cond.code ⟨"PatternValidator$Matcher", "rowsOfTexts", "(LPatternValidator$Node;)J"⟩ prog_4_method_12_code 5 (some .long))
theorem d_T_rowsOfTexts_0 : decode prog_4_method_12_code 0 = .ok (.lconst 1, 1) := by decide +kernel
theorem d_T_rowsOfTexts_1 : decode prog_4_method_12_code 1 = .ok (.lstore_n 2, 1) := by decide +kernel
theorem d_T_rowsOfTexts_2 : decode prog_4_method_12_code 2 = .ok (.iconst 0, 1) := by decide +kernel
theorem d_T_rowsOfTexts_3 : decode prog_4_method_12_code 3 = .ok (.istore 4, 2) := by decide +kernel
theorem d_T_rowsOfTexts_5 : decode prog_4_method_12_code 5 = .ok (.iload 4, 2) := by decide +kernel
theorem d_T_rowsOfTexts_7 : decode prog_4_method_12_code 7 = .ok (.aload_n 1, 1) := by decide +kernel
theorem d_T_rowsOfTexts_8 : decode prog_4_method_12_code 8 = .ok (.getfield 82, 3) := by decide +kernel
theorem d_T_rowsOfTexts_11 : decode prog_4_method_12_code 11 = .ok (.if_icmp .ge 29, 3) := by decide +kernel
theorem d_T_rowsOfTexts_14 : decode prog_4_method_12_code 14 = .ok (.aload_n 1, 1) := by decide +kernel
theorem d_T_rowsOfTexts_15 : decode prog_4_method_12_code 15 = .ok (.getfield 145, 3) := by decide +kernel
theorem d_T_rowsOfTexts_18 : decode prog_4_method_12_code 18 = .ok (.iload 4, 2) := by decide +kernel
theorem d_T_rowsOfTexts_20 : decode prog_4_method_12_code 20 = .ok (.iaload, 1) := by decide +kernel
theorem d_T_rowsOfTexts_21 : decode prog_4_method_12_code 21 = .ok (.iconst (-1), 1) := by decide +kernel
theorem d_T_rowsOfTexts_22 : decode prog_4_method_12_code 22 = .ok (.if_icmp .ne 12, 3) := by decide +kernel
theorem d_T_rowsOfTexts_25 : decode prog_4_method_12_code 25 = .ok (.lload_n 2, 1) := by decide +kernel
theorem d_T_rowsOfTexts_26 : decode prog_4_method_12_code 26 = .ok (.lload_n 2, 1) := by decide +kernel
theorem d_T_rowsOfTexts_27 : decode prog_4_method_12_code 27 = .ok (.iconst 1, 1) := by decide +kernel
theorem d_T_rowsOfTexts_28 : decode prog_4_method_12_code 28 = .ok (.iload 4, 2) := by decide +kernel
theorem d_T_rowsOfTexts_30 : decode prog_4_method_12_code 30 = .ok (.ishl, 1) := by decide +kernel
theorem d_T_rowsOfTexts_31 : decode prog_4_method_12_code 31 = .ok (.lshl, 1) := by decide +kernel
theorem d_T_rowsOfTexts_32 : decode prog_4_method_12_code 32 = .ok (.lor, 1) := by decide +kernel
theorem d_T_rowsOfTexts_33 : decode prog_4_method_12_code 33 = .ok (.lstore_n 2, 1) := by decide +kernel
theorem d_T_rowsOfTexts_34 : decode prog_4_method_12_code 34 = .ok (.iinc 4 1, 3) := by decide +kernel
theorem d_T_rowsOfTexts_37 : decode prog_4_method_12_code 37 = .ok (.goto (-32), 3) := by decide +kernel
theorem d_T_rowsOfTexts_40 : decode prog_4_method_12_code 40 = .ok (.lload_n 2, 1) := by decide +kernel
theorem d_T_rowsOfTexts_41 : decode prog_4_method_12_code 41 = .ok (.lreturn, 1) := by decide +kernel
abbrev M_T_rowsOfOneText : vg_M := (⟨0, 0, 0, 0⟩, 8, prog_4_method_13_code, ⟨"PatternValidator$Matcher", "rowsOfOneText", "(LPatternValidator$Node;II)J"⟩, some .long, Cond.code ⟨"PatternValidator$Matcher", "rowsOfOneText", "(LPatternValidator$Node;II)J"⟩ prog_4_method_13_code 8 (some .long))
theorem d_T_rowsOfOneText_0 : decode prog_4_method_13_code 0 = .ok (.lconst 0, 1) := by decide +kernel
theorem d_T_rowsOfOneText_1 : decode prog_4_method_13_code 1 = .ok (.lstore 4, 2) := by decide +kernel
theorem d_T_rowsOfOneText_3 : decode prog_4_method_13_code 3 = .ok (.iconst 0, 1) := by decide +kernel
theorem d_T_rowsOfOneText_4 : decode prog_4_method_13_code 4 = .ok (.istore 6, 2) := by decide +kernel
theorem d_T_rowsOfOneText_6 : decode prog_4_method_13_code 6 = .ok (.iload 6, 2) := by decide +kernel
theorem d_T_rowsOfOneText_8 : decode prog_4_method_13_code 8 = .ok (.aload_n 1, 1) := by decide +kernel
theorem d_T_rowsOfOneText_9 : decode prog_4_method_13_code 9 = .ok (.getfield 82, 3) := by decide +kernel
theorem d_T_rowsOfOneText_12 : decode prog_4_method_13_code 12 = .ok (.if_icmp .ge 52, 3) := by decide +kernel
theorem d_T_rowsOfOneText_15 : decode prog_4_method_13_code 15 = .ok (.aload_n 1, 1) := by decide +kernel
theorem d_T_rowsOfOneText_16 : decode prog_4_method_13_code 16 = .ok (.getfield 148, 3) := by decide +kernel
theorem d_T_rowsOfOneText_19 : decode prog_4_method_13_code 19 = .ok (.iload 6, 2) := by decide +kernel
theorem d_T_rowsOfOneText_21 : decode prog_4_method_13_code 21 = .ok (.iaload, 1) := by decide +kernel
theorem d_T_rowsOfOneText_22 : decode prog_4_method_13_code 22 = .ok (.istore 7, 2) := by decide +kernel
theorem d_T_rowsOfOneText_24 : decode prog_4_method_13_code 24 = .ok (.aload_n 1, 1) := by decide +kernel
theorem d_T_rowsOfOneText_25 : decode prog_4_method_13_code 25 = .ok (.getfield 145, 3) := by decide +kernel
theorem d_T_rowsOfOneText_28 : decode prog_4_method_13_code 28 = .ok (.iload 6, 2) := by decide +kernel
theorem d_T_rowsOfOneText_30 : decode prog_4_method_13_code 30 = .ok (.iaload, 1) := by decide +kernel
theorem d_T_rowsOfOneText_31 : decode prog_4_method_13_code 31 = .ok (.iconst (-1), 1) := by decide +kernel
theorem d_T_rowsOfOneText_32 : decode prog_4_method_13_code 32 = .ok (.if_icmp .ne 26, 3) := by decide +kernel
theorem d_T_rowsOfOneText_35 : decode prog_4_method_13_code 35 = .ok (.iload 7, 2) := by decide +kernel
theorem d_T_rowsOfOneText_37 : decode prog_4_method_13_code 37 = .ok (.iload_n 2, 1) := by decide +kernel
theorem d_T_rowsOfOneText_38 : decode prog_4_method_13_code 38 = .ok (.if_icmp .lt 20, 3) := by decide +kernel
theorem d_T_rowsOfOneText_41 : decode prog_4_method_13_code 41 = .ok (.iload 7, 2) := by decide +kernel
theorem d_T_rowsOfOneText_43 : decode prog_4_method_13_code 43 = .ok (.iload_n 3, 1) := by decide +kernel
theorem d_T_rowsOfOneText_44 : decode prog_4_method_13_code 44 = .ok (.if_icmp .gt 14, 3) := by decide +kernel
theorem d_T_rowsOfOneText_47 : decode prog_4_method_13_code 47 = .ok (.lload 4, 2) := by decide +kernel
theorem d_T_rowsOfOneText_49 : decode prog_4_method_13_code 49 = .ok (.lconst 1, 1) := by decide +kernel
theorem d_T_rowsOfOneText_50 : decode prog_4_method_13_code 50 = .ok (.iconst 1, 1) := by decide +kernel
theorem d_T_rowsOfOneText_51 : decode prog_4_method_13_code 51 = .ok (.iload 6, 2) := by decide +kernel
theorem d_T_rowsOfOneText_53 : decode prog_4_method_13_code 53 = .ok (.ishl, 1) := by decide +kernel
theorem d_T_rowsOfOneText_54 : decode prog_4_method_13_code 54 = .ok (.lshl, 1) := by decide +kernel
theorem d_T_rowsOfOneText_55 : decode prog_4_method_13_code 55 = .ok (.lor, 1) := by decide +kernel
theorem d_T_rowsOfOneText_56 : decode prog_4_method_13_code 56 = .ok (.lstore 4, 2) := by decide +kernel
theorem d_T_rowsOfOneText_58 : decode prog_4_method_13_code 58 = .ok (.iinc 6 1, 3) := by decide +kernel
theorem d_T_rowsOfOneText_61 : decode prog_4_method_13_code 61 = .ok (.goto (-55), 3) := by decide +kernel
theorem d_T_rowsOfOneText_64 : decode prog_4_method_13_code 64 = .ok (.lload 4, 2) := by decide +kernel
theorem d_T_rowsOfOneText_66 : decode prog_4_method_13_code 66 = .ok (.lreturn, 1) := by decide +kernel
abbrev M_T_join : vg_M := (⟨1, 0, 0, 27⟩, 11, prog_4_method_16_code, ⟨"PatternValidator$Matcher", "join", "(III[J)V"⟩, none, Cond.code ⟨"PatternValidator$Matcher", "join", "(III[J)V"⟩ prog_4_method_16_code 11 (none))
theorem d_T_join_0 : decode prog_4_method_16_code 0 = .ok (.iconst 0, 1) := by decide +kernel
theorem d_T_join_1 : decode prog_4_method_16_code 1 = .ok (.istore 5, 2) := by decide +kernel
theorem d_T_join_3 : decode prog_4_method_16_code 3 = .ok (.iload 5, 2) := by decide +kernel
theorem d_T_join_5 : decode prog_4_method_16_code 5 = .ok (.aload_n 0, 1) := by decide +kernel
theorem d_T_join_6 : decode prog_4_method_16_code 6 = .ok (.getfield 79, 3) := by decide +kernel
theorem d_T_join_9 : decode prog_4_method_16_code 9 = .ok (.if_icmp .ge 94, 3) := by decide +kernel
theorem d_T_join_12 : decode prog_4_method_16_code 12 = .ok (.iload_n 2, 1) := by decide +kernel
theorem d_T_join_13 : decode prog_4_method_16_code 13 = .ok (.bipush 8, 2) := by decide +kernel
theorem d_T_join_15 : decode prog_4_method_16_code 15 = .ok (.imul, 1) := by decide +kernel
theorem d_T_join_16 : decode prog_4_method_16_code 16 = .ok (.iload 5, 2) := by decide +kernel
theorem d_T_join_18 : decode prog_4_method_16_code 18 = .ok (.iadd, 1) := by decide +kernel
theorem d_T_join_19 : decode prog_4_method_16_code 19 = .ok (.istore 6, 2) := by decide +kernel
theorem d_T_join_21 : decode prog_4_method_16_code 21 = .ok (.aload_n 0, 1) := by decide +kernel
theorem d_T_join_22 : decode prog_4_method_16_code 22 = .ok (.getfield 18, 3) := by decide +kernel
theorem d_T_join_25 : decode prog_4_method_16_code 25 = .ok (.iload 6, 2) := by decide +kernel
theorem d_T_join_27 : decode prog_4_method_16_code 27 = .ok (.laload, 1) := by decide +kernel
theorem d_T_join_28 : decode prog_4_method_16_code 28 = .ok (.lstore 7, 2) := by decide +kernel
theorem d_T_join_30 : decode prog_4_method_16_code 30 = .ok (.iconst 0, 1) := by decide +kernel
theorem d_T_join_31 : decode prog_4_method_16_code 31 = .ok (.istore 9, 2) := by decide +kernel
theorem d_T_join_33 : decode prog_4_method_16_code 33 = .ok (.iload 9, 2) := by decide +kernel
theorem d_T_join_35 : decode prog_4_method_16_code 35 = .ok (.bipush 64, 2) := by decide +kernel
theorem d_T_join_37 : decode prog_4_method_16_code 37 = .ok (.if_icmp .ge 60, 3) := by decide +kernel
theorem d_T_join_40 : decode prog_4_method_16_code 40 = .ok (.lload 7, 2) := by decide +kernel
theorem d_T_join_42 : decode prog_4_method_16_code 42 = .ok (.lconst 0, 1) := by decide +kernel
theorem d_T_join_43 : decode prog_4_method_16_code 43 = .ok (.lcmp, 1) := by decide +kernel
theorem d_T_join_44 : decode prog_4_method_16_code 44 = .ok (.ifCond .eq 53, 3) := by decide +kernel
theorem d_T_join_47 : decode prog_4_method_16_code 47 = .ok (.lload 7, 2) := by decide +kernel
theorem d_T_join_49 : decode prog_4_method_16_code 49 = .ok (.lload 7, 2) := by decide +kernel
theorem d_T_join_51 : decode prog_4_method_16_code 51 = .ok (.lneg, 1) := by decide +kernel
theorem d_T_join_52 : decode prog_4_method_16_code 52 = .ok (.land, 1) := by decide +kernel
theorem d_T_join_53 : decode prog_4_method_16_code 53 = .ok (.lconst 1, 1) := by decide +kernel
theorem d_T_join_54 : decode prog_4_method_16_code 54 = .ok (.lsub, 1) := by decide +kernel
theorem d_T_join_55 : decode prog_4_method_16_code 55 = .ok (.invokestatic 157, 3) := by decide +kernel
theorem d_T_join_58 : decode prog_4_method_16_code 58 = .ok (.istore 10, 2) := by decide +kernel
theorem d_T_join_60 : decode prog_4_method_16_code 60 = .ok (.aload_n 0, 1) := by decide +kernel
theorem d_T_join_61 : decode prog_4_method_16_code 61 = .ok (.iload_n 1, 1) := by decide +kernel
theorem d_T_join_62 : decode prog_4_method_16_code 62 = .ok (.iload 5, 2) := by decide +kernel
theorem d_T_join_64 : decode prog_4_method_16_code 64 = .ok (.iload 10, 2) := by decide +kernel
theorem d_T_join_66 : decode prog_4_method_16_code 66 = .ok (.iload_n 3, 1) := by decide +kernel
theorem d_T_join_67 : decode prog_4_method_16_code 67 = .ok (.aload 4, 2) := by decide +kernel
theorem d_T_join_69 : decode prog_4_method_16_code 69 = .ok (.iload 10, 2) := by decide +kernel
theorem d_T_join_71 : decode prog_4_method_16_code 71 = .ok (.laload, 1) := by decide +kernel
theorem d_T_join_72 : decode prog_4_method_16_code 72 = .ok (.invokevirtual 163, 3) := by decide +kernel
theorem d_T_join_75 : decode prog_4_method_16_code 75 = .ok (.aload_n 0, 1) := by decide +kernel
theorem d_T_join_76 : decode prog_4_method_16_code 76 = .ok (.getfield 18, 3) := by decide +kernel
theorem d_T_join_79 : decode prog_4_method_16_code 79 = .ok (.iload 6, 2) := by decide +kernel
theorem d_T_join_81 : decode prog_4_method_16_code 81 = .ok (.laload, 1) := by decide +kernel
theorem d_T_join_82 : decode prog_4_method_16_code 82 = .ok (.ldc2_w 167, 3) := by decide +kernel
theorem d_T_join_85 : decode prog_4_method_16_code 85 = .ok (.iload 10, 2) := by decide +kernel
theorem d_T_join_87 : decode prog_4_method_16_code 87 = .ok (.lshl, 1) := by decide +kernel
theorem d_T_join_88 : decode prog_4_method_16_code 88 = .ok (.land, 1) := by decide +kernel
theorem d_T_join_89 : decode prog_4_method_16_code 89 = .ok (.lstore 7, 2) := by decide +kernel
theorem d_T_join_91 : decode prog_4_method_16_code 91 = .ok (.iinc 9 1, 3) := by decide +kernel
theorem d_T_join_94 : decode prog_4_method_16_code 94 = .ok (.goto (-61), 3) := by decide +kernel
theorem d_T_join_97 : decode prog_4_method_16_code 97 = .ok (.iinc 5 1, 3) := by decide +kernel
theorem d_T_join_100 : decode prog_4_method_16_code 100 = .ok (.goto (-97), 3) := by decide +kernel
theorem d_T_join_103 : decode prog_4_method_16_code 103 = .ok (.return_, 1) := by decide +kernel
abbrev M_J_bitCount : vg_M := (⟨0, 0, 0, 0⟩, 2, prog_11_method_50_code, ⟨"java/lang/Long", "bitCount", "(J)I"⟩, some .int, Cond.code ⟨"java/lang/Long", "bitCount", "(J)I"⟩ prog_11_method_50_code 2 (some .int))
theorem d_J_bitCount_0 : decode prog_11_method_50_code 0 = .ok (.lload_n 0, 1) := by decide +kernel
theorem d_J_bitCount_1 : decode prog_11_method_50_code 1 = .ok (.lload_n 0, 1) := by decide +kernel
theorem d_J_bitCount_2 : decode prog_11_method_50_code 2 = .ok (.iconst 1, 1) := by decide +kernel
theorem d_J_bitCount_3 : decode prog_11_method_50_code 3 = .ok (.lushr, 1) := by decide +kernel
theorem d_J_bitCount_4 : decode prog_11_method_50_code 4 = .ok (.ldc2_w 314, 3) := by decide +kernel
theorem d_J_bitCount_7 : decode prog_11_method_50_code 7 = .ok (.land, 1) := by decide +kernel
theorem d_J_bitCount_8 : decode prog_11_method_50_code 8 = .ok (.lsub, 1) := by decide +kernel
theorem d_J_bitCount_9 : decode prog_11_method_50_code 9 = .ok (.lstore_n 0, 1) := by decide +kernel
theorem d_J_bitCount_10 : decode prog_11_method_50_code 10 = .ok (.lload_n 0, 1) := by decide +kernel
theorem d_J_bitCount_11 : decode prog_11_method_50_code 11 = .ok (.ldc2_w 316, 3) := by decide +kernel
theorem d_J_bitCount_14 : decode prog_11_method_50_code 14 = .ok (.land, 1) := by decide +kernel
theorem d_J_bitCount_15 : decode prog_11_method_50_code 15 = .ok (.lload_n 0, 1) := by decide +kernel
theorem d_J_bitCount_16 : decode prog_11_method_50_code 16 = .ok (.iconst 2, 1) := by decide +kernel
theorem d_J_bitCount_17 : decode prog_11_method_50_code 17 = .ok (.lushr, 1) := by decide +kernel
theorem d_J_bitCount_18 : decode prog_11_method_50_code 18 = .ok (.ldc2_w 316, 3) := by decide +kernel
theorem d_J_bitCount_21 : decode prog_11_method_50_code 21 = .ok (.land, 1) := by decide +kernel
theorem d_J_bitCount_22 : decode prog_11_method_50_code 22 = .ok (.ladd, 1) := by decide +kernel
theorem d_J_bitCount_23 : decode prog_11_method_50_code 23 = .ok (.lstore_n 0, 1) := by decide +kernel
theorem d_J_bitCount_24 : decode prog_11_method_50_code 24 = .ok (.lload_n 0, 1) := by decide +kernel
theorem d_J_bitCount_25 : decode prog_11_method_50_code 25 = .ok (.lload_n 0, 1) := by decide +kernel
theorem d_J_bitCount_26 : decode prog_11_method_50_code 26 = .ok (.iconst 4, 1) := by decide +kernel
theorem d_J_bitCount_27 : decode prog_11_method_50_code 27 = .ok (.lushr, 1) := by decide +kernel
theorem d_J_bitCount_28 : decode prog_11_method_50_code 28 = .ok (.ladd, 1) := by decide +kernel
theorem d_J_bitCount_29 : decode prog_11_method_50_code 29 = .ok (.ldc2_w 318, 3) := by decide +kernel
theorem d_J_bitCount_32 : decode prog_11_method_50_code 32 = .ok (.land, 1) := by decide +kernel
theorem d_J_bitCount_33 : decode prog_11_method_50_code 33 = .ok (.lstore_n 0, 1) := by decide +kernel
theorem d_J_bitCount_34 : decode prog_11_method_50_code 34 = .ok (.lload_n 0, 1) := by decide +kernel
theorem d_J_bitCount_35 : decode prog_11_method_50_code 35 = .ok (.lload_n 0, 1) := by decide +kernel
theorem d_J_bitCount_36 : decode prog_11_method_50_code 36 = .ok (.bipush 8, 2) := by decide +kernel
theorem d_J_bitCount_38 : decode prog_11_method_50_code 38 = .ok (.lushr, 1) := by decide +kernel
theorem d_J_bitCount_39 : decode prog_11_method_50_code 39 = .ok (.ladd, 1) := by decide +kernel
theorem d_J_bitCount_40 : decode prog_11_method_50_code 40 = .ok (.lstore_n 0, 1) := by decide +kernel
theorem d_J_bitCount_41 : decode prog_11_method_50_code 41 = .ok (.lload_n 0, 1) := by decide +kernel
theorem d_J_bitCount_42 : decode prog_11_method_50_code 42 = .ok (.lload_n 0, 1) := by decide +kernel
theorem d_J_bitCount_43 : decode prog_11_method_50_code 43 = .ok (.bipush 16, 2) := by decide +kernel
theorem d_J_bitCount_45 : decode prog_11_method_50_code 45 = .ok (.lushr, 1) := by decide +kernel
theorem d_J_bitCount_46 : decode prog_11_method_50_code 46 = .ok (.ladd, 1) := by decide +kernel
theorem d_J_bitCount_47 : decode prog_11_method_50_code 47 = .ok (.lstore_n 0, 1) := by decide +kernel
theorem d_J_bitCount_48 : decode prog_11_method_50_code 48 = .ok (.lload_n 0, 1) := by decide +kernel
theorem d_J_bitCount_49 : decode prog_11_method_50_code 49 = .ok (.lload_n 0, 1) := by decide +kernel
theorem d_J_bitCount_50 : decode prog_11_method_50_code 50 = .ok (.bipush 32, 2) := by decide +kernel
theorem d_J_bitCount_52 : decode prog_11_method_50_code 52 = .ok (.lushr, 1) := by decide +kernel
theorem d_J_bitCount_53 : decode prog_11_method_50_code 53 = .ok (.ladd, 1) := by decide +kernel
theorem d_J_bitCount_54 : decode prog_11_method_50_code 54 = .ok (.lstore_n 0, 1) := by decide +kernel
theorem d_J_bitCount_55 : decode prog_11_method_50_code 55 = .ok (.lload_n 0, 1) := by decide +kernel
theorem d_J_bitCount_56 : decode prog_11_method_50_code 56 = .ok (.l2i, 1) := by decide +kernel
theorem d_J_bitCount_57 : decode prog_11_method_50_code 57 = .ok (.bipush 127, 2) := by decide +kernel
theorem d_J_bitCount_59 : decode prog_11_method_50_code 59 = .ok (.iand, 1) := by decide +kernel
theorem d_J_bitCount_60 : decode prog_11_method_50_code 60 = .ok (.ireturn, 1) := by decide +kernel
abbrev M_T_append : vg_M := (⟨0, 0, 0, 0⟩, 8, prog_4_method_17_code, ⟨"PatternValidator$Matcher", "append", "(IIIIJ)V"⟩, none, Cond.code ⟨"PatternValidator$Matcher", "append", "(IIIIJ)V"⟩ prog_4_method_17_code 8 (none))
theorem d_T_append_0 : decode prog_4_method_17_code 0 = .ok (.iconst 0, 1) := by decide +kernel
theorem d_T_append_1 : decode prog_4_method_17_code 1 = .ok (.istore 7, 2) := by decide +kernel
theorem d_T_append_3 : decode prog_4_method_17_code 3 = .ok (.iload 7, 2) := by decide +kernel
theorem d_T_append_5 : decode prog_4_method_17_code 5 = .ok (.aload_n 0, 1) := by decide +kernel
theorem d_T_append_6 : decode prog_4_method_17_code 6 = .ok (.getfield 79, 3) := by decide +kernel
theorem d_T_append_9 : decode prog_4_method_17_code 9 = .ok (.if_icmp .ge 51, 3) := by decide +kernel
theorem d_T_append_12 : decode prog_4_method_17_code 12 = .ok (.iload_n 2, 1) := by decide +kernel
theorem d_T_append_13 : decode prog_4_method_17_code 13 = .ok (.iload 7, 2) := by decide +kernel
theorem d_T_append_15 : decode prog_4_method_17_code 15 = .ok (.iand, 1) := by decide +kernel
theorem d_T_append_16 : decode prog_4_method_17_code 16 = .ok (.ifCond .ne 38, 3) := by decide +kernel
theorem d_T_append_19 : decode prog_4_method_17_code 19 = .ok (.aload_n 0, 1) := by decide +kernel
theorem d_T_append_20 : decode prog_4_method_17_code 20 = .ok (.getfield 18, 3) := by decide +kernel
theorem d_T_append_23 : decode prog_4_method_17_code 23 = .ok (.iload_n 1, 1) := by decide +kernel
theorem d_T_append_24 : decode prog_4_method_17_code 24 = .ok (.bipush 8, 2) := by decide +kernel
theorem d_T_append_26 : decode prog_4_method_17_code 26 = .ok (.imul, 1) := by decide +kernel
theorem d_T_append_27 : decode prog_4_method_17_code 27 = .ok (.iload_n 2, 1) := by decide +kernel
theorem d_T_append_28 : decode prog_4_method_17_code 28 = .ok (.iload 7, 2) := by decide +kernel
theorem d_T_append_30 : decode prog_4_method_17_code 30 = .ok (.ior, 1) := by decide +kernel
theorem d_T_append_31 : decode prog_4_method_17_code 31 = .ok (.iadd, 1) := by decide +kernel
theorem d_T_append_32 : decode prog_4_method_17_code 32 = .ok (.dup2, 1) := by decide +kernel
theorem d_T_append_33 : decode prog_4_method_17_code 33 = .ok (.laload, 1) := by decide +kernel
theorem d_T_append_34 : decode prog_4_method_17_code 34 = .ok (.aload_n 0, 1) := by decide +kernel
theorem d_T_append_35 : decode prog_4_method_17_code 35 = .ok (.getfield 18, 3) := by decide +kernel
theorem d_T_append_38 : decode prog_4_method_17_code 38 = .ok (.iload 4, 2) := by decide +kernel
theorem d_T_append_40 : decode prog_4_method_17_code 40 = .ok (.bipush 8, 2) := by decide +kernel
theorem d_T_append_42 : decode prog_4_method_17_code 42 = .ok (.imul, 1) := by decide +kernel
theorem d_T_append_43 : decode prog_4_method_17_code 43 = .ok (.iload 7, 2) := by decide +kernel
theorem d_T_append_45 : decode prog_4_method_17_code 45 = .ok (.iadd, 1) := by decide +kernel
theorem d_T_append_46 : decode prog_4_method_17_code 46 = .ok (.laload, 1) := by decide +kernel
theorem d_T_append_47 : decode prog_4_method_17_code 47 = .ok (.lload 5, 2) := by decide +kernel
theorem d_T_append_49 : decode prog_4_method_17_code 49 = .ok (.land, 1) := by decide +kernel
theorem d_T_append_50 : decode prog_4_method_17_code 50 = .ok (.iload_n 3, 1) := by decide +kernel
theorem d_T_append_51 : decode prog_4_method_17_code 51 = .ok (.lshl, 1) := by decide +kernel
theorem d_T_append_52 : decode prog_4_method_17_code 52 = .ok (.lor, 1) := by decide +kernel
theorem d_T_append_53 : decode prog_4_method_17_code 53 = .ok (.lastore, 1) := by decide +kernel
theorem d_T_append_54 : decode prog_4_method_17_code 54 = .ok (.iinc 7 1, 3) := by decide +kernel
theorem d_T_append_57 : decode prog_4_method_17_code 57 = .ok (.goto (-54), 3) := by decide +kernel
theorem d_T_append_60 : decode prog_4_method_17_code 60 = .ok (.return_, 1) := by decide +kernel
abbrev M_T_include : vg_M := (⟨0, 0, 0, 0⟩, 4, prog_4_method_11_code, ⟨"PatternValidator$Matcher", "include", "(II)V"⟩, none, Cond.code ⟨"PatternValidator$Matcher", "include", "(II)V"⟩ prog_4_method_11_code 4 (none))
theorem d_T_include_0 : decode prog_4_method_11_code 0 = .ok (.iconst 0, 1) := by decide +kernel
theorem d_T_include_1 : decode prog_4_method_11_code 1 = .ok (.istore_n 3, 1) := by decide +kernel
theorem d_T_include_2 : decode prog_4_method_11_code 2 = .ok (.iload_n 3, 1) := by decide +kernel
theorem d_T_include_3 : decode prog_4_method_11_code 3 = .ok (.aload_n 0, 1) := by decide +kernel
theorem d_T_include_4 : decode prog_4_method_11_code 4 = .ok (.getfield 79, 3) := by decide +kernel
theorem d_T_include_7 : decode prog_4_method_11_code 7 = .ok (.if_icmp .ge 34, 3) := by decide +kernel
theorem d_T_include_10 : decode prog_4_method_11_code 10 = .ok (.aload_n 0, 1) := by decide +kernel
theorem d_T_include_11 : decode prog_4_method_11_code 11 = .ok (.getfield 18, 3) := by decide +kernel
theorem d_T_include_14 : decode prog_4_method_11_code 14 = .ok (.iload_n 1, 1) := by decide +kernel
theorem d_T_include_15 : decode prog_4_method_11_code 15 = .ok (.bipush 8, 2) := by decide +kernel
theorem d_T_include_17 : decode prog_4_method_11_code 17 = .ok (.imul, 1) := by decide +kernel
theorem d_T_include_18 : decode prog_4_method_11_code 18 = .ok (.iload_n 3, 1) := by decide +kernel
theorem d_T_include_19 : decode prog_4_method_11_code 19 = .ok (.iadd, 1) := by decide +kernel
theorem d_T_include_20 : decode prog_4_method_11_code 20 = .ok (.dup2, 1) := by decide +kernel
theorem d_T_include_21 : decode prog_4_method_11_code 21 = .ok (.laload, 1) := by decide +kernel
theorem d_T_include_22 : decode prog_4_method_11_code 22 = .ok (.aload_n 0, 1) := by decide +kernel
theorem d_T_include_23 : decode prog_4_method_11_code 23 = .ok (.getfield 18, 3) := by decide +kernel
theorem d_T_include_26 : decode prog_4_method_11_code 26 = .ok (.iload_n 2, 1) := by decide +kernel
theorem d_T_include_27 : decode prog_4_method_11_code 27 = .ok (.bipush 8, 2) := by decide +kernel
theorem d_T_include_29 : decode prog_4_method_11_code 29 = .ok (.imul, 1) := by decide +kernel
theorem d_T_include_30 : decode prog_4_method_11_code 30 = .ok (.iload_n 3, 1) := by decide +kernel
theorem d_T_include_31 : decode prog_4_method_11_code 31 = .ok (.iadd, 1) := by decide +kernel
theorem d_T_include_32 : decode prog_4_method_11_code 32 = .ok (.laload, 1) := by decide +kernel
theorem d_T_include_33 : decode prog_4_method_11_code 33 = .ok (.lor, 1) := by decide +kernel
theorem d_T_include_34 : decode prog_4_method_11_code 34 = .ok (.lastore, 1) := by decide +kernel
theorem d_T_include_35 : decode prog_4_method_11_code 35 = .ok (.iinc 3 1, 3) := by decide +kernel
theorem d_T_include_38 : decode prog_4_method_11_code 38 = .ok (.goto (-36), 3) := by decide +kernel
theorem d_T_include_41 : decode prog_4_method_11_code 41 = .ok (.return_, 1) := by decide +kernel
abbrev M_T_rowsOfOneElement : vg_M := (⟨1, 0, 0, 21⟩, 8, prog_4_method_14_code, ⟨"PatternValidator$Matcher", "rowsOfOneElement", "(LPatternValidator$Node;II)J"⟩, some .long, Cond.code ⟨"PatternValidator$Matcher", "rowsOfOneElement", "(LPatternValidator$Node;II)J"⟩ prog_4_method_14_code 8 (some .long))
theorem d_T_rowsOfOneElement_0 : decode prog_4_method_14_code 0 = .ok (.lconst 0, 1) := by decide +kernel
theorem d_T_rowsOfOneElement_1 : decode prog_4_method_14_code 1 = .ok (.lstore 4, 2) := by decide +kernel
theorem d_T_rowsOfOneElement_3 : decode prog_4_method_14_code 3 = .ok (.iconst 0, 1) := by decide +kernel
theorem d_T_rowsOfOneElement_4 : decode prog_4_method_14_code 4 = .ok (.istore 6, 2) := by decide +kernel
theorem d_T_rowsOfOneElement_6 : decode prog_4_method_14_code 6 = .ok (.iload 6, 2) := by decide +kernel
theorem d_T_rowsOfOneElement_8 : decode prog_4_method_14_code 8 = .ok (.aload_n 1, 1) := by decide +kernel
theorem d_T_rowsOfOneElement_9 : decode prog_4_method_14_code 9 = .ok (.getfield 82, 3) := by decide +kernel
theorem d_T_rowsOfOneElement_12 : decode prog_4_method_14_code 12 = .ok (.if_icmp .ge 72, 3) := by decide +kernel
theorem d_T_rowsOfOneElement_15 : decode prog_4_method_14_code 15 = .ok (.aload_n 1, 1) := by decide +kernel
theorem d_T_rowsOfOneElement_16 : decode prog_4_method_14_code 16 = .ok (.getfield 145, 3) := by decide +kernel
theorem d_T_rowsOfOneElement_19 : decode prog_4_method_14_code 19 = .ok (.iload 6, 2) := by decide +kernel
theorem d_T_rowsOfOneElement_21 : decode prog_4_method_14_code 21 = .ok (.iaload, 1) := by decide +kernel
theorem d_T_rowsOfOneElement_22 : decode prog_4_method_14_code 22 = .ok (.iconst (-1), 1) := by decide +kernel
theorem d_T_rowsOfOneElement_23 : decode prog_4_method_14_code 23 = .ok (.if_icmp .eq 55, 3) := by decide +kernel
theorem d_T_rowsOfOneElement_26 : decode prog_4_method_14_code 26 = .ok (.aload_n 0, 1) := by decide +kernel
theorem d_T_rowsOfOneElement_27 : decode prog_4_method_14_code 27 = .ok (.getfield 32, 3) := by decide +kernel
theorem d_T_rowsOfOneElement_30 : decode prog_4_method_14_code 30 = .ok (.getfield 53, 3) := by decide +kernel
theorem d_T_rowsOfOneElement_33 : decode prog_4_method_14_code 33 = .ok (.aload_n 1, 1) := by decide +kernel
theorem d_T_rowsOfOneElement_34 : decode prog_4_method_14_code 34 = .ok (.getfield 145, 3) := by decide +kernel
theorem d_T_rowsOfOneElement_37 : decode prog_4_method_14_code 37 = .ok (.iload 6, 2) := by decide +kernel
theorem d_T_rowsOfOneElement_39 : decode prog_4_method_14_code 39 = .ok (.iaload, 1) := by decide +kernel
theorem d_T_rowsOfOneElement_40 : decode prog_4_method_14_code 40 = .ok (.aaload, 1) := by decide +kernel
theorem d_T_rowsOfOneElement_41 : decode prog_4_method_14_code 41 = .ok (.astore 7, 2) := by decide +kernel
theorem d_T_rowsOfOneElement_43 : decode prog_4_method_14_code 43 = .ok (.iload_n 2, 1) := by decide +kernel
theorem d_T_rowsOfOneElement_44 : decode prog_4_method_14_code 44 = .ok (.bipush 6, 2) := by decide +kernel
theorem d_T_rowsOfOneElement_46 : decode prog_4_method_14_code 46 = .ok (.if_icmp .eq 12, 3) := by decide +kernel
theorem d_T_rowsOfOneElement_49 : decode prog_4_method_14_code 49 = .ok (.iload_n 2, 1) := by decide +kernel
theorem d_T_rowsOfOneElement_50 : decode prog_4_method_14_code 50 = .ok (.aload 7, 2) := by decide +kernel
theorem d_T_rowsOfOneElement_52 : decode prog_4_method_14_code 52 = .ok (.getfield 151, 3) := by decide +kernel
theorem d_T_rowsOfOneElement_55 : decode prog_4_method_14_code 55 = .ok (.if_icmp .ne 23, 3) := by decide +kernel
theorem d_T_rowsOfOneElement_58 : decode prog_4_method_14_code 58 = .ok (.aload 7, 2) := by decide +kernel
theorem d_T_rowsOfOneElement_60 : decode prog_4_method_14_code 60 = .ok (.iload_n 3, 1) := by decide +kernel
theorem d_T_rowsOfOneElement_61 : decode prog_4_method_14_code 61 = .ok (.invokevirtual 71, 3) := by decide +kernel
theorem d_T_rowsOfOneElement_64 : decode prog_4_method_14_code 64 = .ok (.ifCond .eq 14, 3) := by decide +kernel
theorem d_T_rowsOfOneElement_67 : decode prog_4_method_14_code 67 = .ok (.lload 4, 2) := by decide +kernel
theorem d_T_rowsOfOneElement_69 : decode prog_4_method_14_code 69 = .ok (.lconst 1, 1) := by decide +kernel
theorem d_T_rowsOfOneElement_70 : decode prog_4_method_14_code 70 = .ok (.iconst 1, 1) := by decide +kernel
theorem d_T_rowsOfOneElement_71 : decode prog_4_method_14_code 71 = .ok (.iload 6, 2) := by decide +kernel
theorem d_T_rowsOfOneElement_73 : decode prog_4_method_14_code 73 = .ok (.ishl, 1) := by decide +kernel
theorem d_T_rowsOfOneElement_74 : decode prog_4_method_14_code 74 = .ok (.lshl, 1) := by decide +kernel
theorem d_T_rowsOfOneElement_75 : decode prog_4_method_14_code 75 = .ok (.lor, 1) := by decide +kernel
theorem d_T_rowsOfOneElement_76 : decode prog_4_method_14_code 76 = .ok (.lstore 4, 2) := by decide +kernel
theorem d_T_rowsOfOneElement_78 : decode prog_4_method_14_code 78 = .ok (.iinc 6 1, 3) := by decide +kernel
theorem d_T_rowsOfOneElement_81 : decode prog_4_method_14_code 81 = .ok (.goto (-75), 3) := by decide +kernel
theorem d_T_rowsOfOneElement_84 : decode prog_4_method_14_code 84 = .ok (.lload 4, 2) := by decide +kernel
theorem d_T_rowsOfOneElement_86 : decode prog_4_method_14_code 86 = .ok (.lreturn, 1) := by decide +kernel
abbrev M_N_suits : vg_M := (⟨0, 0, 0, 0⟩, 2, prog_5_method_6_code, ⟨"PatternValidator$Node", "suits", "(I)Z"⟩, some .boolean, Cond.code ⟨"PatternValidator$Node", "suits", "(I)Z"⟩ prog_5_method_6_code 2 (some .boolean))
theorem d_N_suits_0 : decode prog_5_method_6_code 0 = .ok (.aload_n 0, 1) := by decide +kernel
theorem d_N_suits_1 : decode prog_5_method_6_code 1 = .ok (.getfield 38, 3) := by decide +kernel
theorem d_N_suits_4 : decode prog_5_method_6_code 4 = .ok (.iload_n 1, 1) := by decide +kernel
theorem d_N_suits_5 : decode prog_5_method_6_code 5 = .ok (.lushr, 1) := by decide +kernel
theorem d_N_suits_6 : decode prog_5_method_6_code 6 = .ok (.lconst 1, 1) := by decide +kernel
theorem d_N_suits_7 : decode prog_5_method_6_code 7 = .ok (.land, 1) := by decide +kernel
theorem d_N_suits_8 : decode prog_5_method_6_code 8 = .ok (.lconst 0, 1) := by decide +kernel
theorem d_N_suits_9 : decode prog_5_method_6_code 9 = .ok (.lcmp, 1) := by decide +kernel
theorem d_N_suits_10 : decode prog_5_method_6_code 10 = .ok (.ifCond .eq 7, 3) := by decide +kernel
theorem d_N_suits_13 : decode prog_5_method_6_code 13 = .ok (.iconst 1, 1) := by decide +kernel
theorem d_N_suits_14 : decode prog_5_method_6_code 14 = .ok (.goto 4, 3) := by decide +kernel
theorem d_N_suits_17 : decode prog_5_method_6_code 17 = .ok (.iconst 0, 1) := by decide +kernel
theorem d_N_suits_18 : decode prog_5_method_6_code 18 = .ok (.ireturn, 1) := by decide +kernel
abbrev M_T_matchAttributes : vg_M := (⟨0, 0, 0, 0⟩, 7, prog_4_method_15_code, ⟨"PatternValidator$Matcher", "matchAttributes", "(ILPatternValidator$Node;)V"⟩, none, Cond.code ⟨"PatternValidator$Matcher", "matchAttributes", "(ILPatternValidator$Node;)V"⟩ prog_4_method_15_code 7 (none))
theorem d_T_matchAttributes_0 : decode prog_4_method_15_code 0 = .ok (.aload_n 0, 1) := by decide +kernel
theorem d_T_matchAttributes_1 : decode prog_4_method_15_code 1 = .ok (.getfield 28, 3) := by decide +kernel
theorem d_T_matchAttributes_4 : decode prog_4_method_15_code 4 = .ok (.getfield 109, 3) := by decide +kernel
theorem d_T_matchAttributes_7 : decode prog_4_method_15_code 7 = .ok (.iload_n 1, 1) := by decide +kernel
theorem d_T_matchAttributes_8 : decode prog_4_method_15_code 8 = .ok (.iaload, 1) := by decide +kernel
theorem d_T_matchAttributes_9 : decode prog_4_method_15_code 9 = .ok (.istore_n 3, 1) := by decide +kernel
theorem d_T_matchAttributes_10 : decode prog_4_method_15_code 10 = .ok (.aload_n 0, 1) := by decide +kernel
theorem d_T_matchAttributes_11 : decode prog_4_method_15_code 11 = .ok (.getfield 28, 3) := by decide +kernel
theorem d_T_matchAttributes_14 : decode prog_4_method_15_code 14 = .ok (.getfield 112, 3) := by decide +kernel
theorem d_T_matchAttributes_17 : decode prog_4_method_15_code 17 = .ok (.iload_n 1, 1) := by decide +kernel
theorem d_T_matchAttributes_18 : decode prog_4_method_15_code 18 = .ok (.iaload, 1) := by decide +kernel
theorem d_T_matchAttributes_19 : decode prog_4_method_15_code 19 = .ok (.istore 4, 2) := by decide +kernel
theorem d_T_matchAttributes_21 : decode prog_4_method_15_code 21 = .ok (.iconst 0, 1) := by decide +kernel
theorem d_T_matchAttributes_22 : decode prog_4_method_15_code 22 = .ok (.istore 5, 2) := by decide +kernel
theorem d_T_matchAttributes_24 : decode prog_4_method_15_code 24 = .ok (.iload 5, 2) := by decide +kernel
theorem d_T_matchAttributes_26 : decode prog_4_method_15_code 26 = .ok (.aload_n 2, 1) := by decide +kernel
theorem d_T_matchAttributes_27 : decode prog_4_method_15_code 27 = .ok (.getfield 85, 3) := by decide +kernel
theorem d_T_matchAttributes_30 : decode prog_4_method_15_code 30 = .ok (.if_icmp .ge 70, 3) := by decide +kernel
theorem d_T_matchAttributes_33 : decode prog_4_method_15_code 33 = .ok (.iload_n 3, 1) := by decide +kernel
theorem d_T_matchAttributes_34 : decode prog_4_method_15_code 34 = .ok (.bipush 6, 2) := by decide +kernel
theorem d_T_matchAttributes_36 : decode prog_4_method_15_code 36 = .ok (.if_icmp .eq 14, 3) := by decide +kernel
theorem d_T_matchAttributes_39 : decode prog_4_method_15_code 39 = .ok (.iload_n 3, 1) := by decide +kernel
theorem d_T_matchAttributes_40 : decode prog_4_method_15_code 40 = .ok (.aload_n 2, 1) := by decide +kernel
theorem d_T_matchAttributes_41 : decode prog_4_method_15_code 41 = .ok (.getfield 154, 3) := by decide +kernel
theorem d_T_matchAttributes_44 : decode prog_4_method_15_code 44 = .ok (.iload 5, 2) := by decide +kernel
theorem d_T_matchAttributes_46 : decode prog_4_method_15_code 46 = .ok (.iaload, 1) := by decide +kernel
theorem d_T_matchAttributes_47 : decode prog_4_method_15_code 47 = .ok (.if_icmp .ne 7, 3) := by decide +kernel
theorem d_T_matchAttributes_50 : decode prog_4_method_15_code 50 = .ok (.iconst 1, 1) := by decide +kernel
theorem d_T_matchAttributes_51 : decode prog_4_method_15_code 51 = .ok (.goto 4, 3) := by decide +kernel
theorem d_T_matchAttributes_54 : decode prog_4_method_15_code 54 = .ok (.iconst 0, 1) := by decide +kernel
theorem d_T_matchAttributes_55 : decode prog_4_method_15_code 55 = .ok (.istore 6, 2) := by decide +kernel
theorem d_T_matchAttributes_57 : decode prog_4_method_15_code 57 = .ok (.iload 6, 2) := by decide +kernel
theorem d_T_matchAttributes_59 : decode prog_4_method_15_code 59 = .ok (.ifCond .eq 35, 3) := by decide +kernel
theorem d_T_matchAttributes_62 : decode prog_4_method_15_code 62 = .ok (.aload_n 2, 1) := by decide +kernel
theorem d_T_matchAttributes_63 : decode prog_4_method_15_code 63 = .ok (.getfield 92, 3) := by decide +kernel
theorem d_T_matchAttributes_66 : decode prog_4_method_15_code 66 = .ok (.iload 5, 2) := by decide +kernel
theorem d_T_matchAttributes_68 : decode prog_4_method_15_code 68 = .ok (.laload, 1) := by decide +kernel
theorem d_T_matchAttributes_69 : decode prog_4_method_15_code 69 = .ok (.iload 4, 2) := by decide +kernel
theorem d_T_matchAttributes_71 : decode prog_4_method_15_code 71 = .ok (.lushr, 1) := by decide +kernel
theorem d_T_matchAttributes_72 : decode prog_4_method_15_code 72 = .ok (.lconst 1, 1) := by decide +kernel
theorem d_T_matchAttributes_73 : decode prog_4_method_15_code 73 = .ok (.land, 1) := by decide +kernel
theorem d_T_matchAttributes_74 : decode prog_4_method_15_code 74 = .ok (.lconst 0, 1) := by decide +kernel
theorem d_T_matchAttributes_75 : decode prog_4_method_15_code 75 = .ok (.lcmp, 1) := by decide +kernel
theorem d_T_matchAttributes_76 : decode prog_4_method_15_code 76 = .ok (.ifCond .eq 18, 3) := by decide +kernel
theorem d_T_matchAttributes_79 : decode prog_4_method_15_code 79 = .ok (.aload_n 0, 1) := by decide +kernel
theorem d_T_matchAttributes_80 : decode prog_4_method_15_code 80 = .ok (.getfield 18, 3) := by decide +kernel
theorem d_T_matchAttributes_83 : decode prog_4_method_15_code 83 = .ok (.iload_n 1, 1) := by decide +kernel
theorem d_T_matchAttributes_84 : decode prog_4_method_15_code 84 = .ok (.bipush 8, 2) := by decide +kernel
theorem d_T_matchAttributes_86 : decode prog_4_method_15_code 86 = .ok (.imul, 1) := by decide +kernel
theorem d_T_matchAttributes_87 : decode prog_4_method_15_code 87 = .ok (.iconst 1, 1) := by decide +kernel
theorem d_T_matchAttributes_88 : decode prog_4_method_15_code 88 = .ok (.iload 5, 2) := by decide +kernel
theorem d_T_matchAttributes_90 : decode prog_4_method_15_code 90 = .ok (.ishl, 1) := by decide +kernel
theorem d_T_matchAttributes_91 : decode prog_4_method_15_code 91 = .ok (.iadd, 1) := by decide +kernel
theorem d_T_matchAttributes_92 : decode prog_4_method_15_code 92 = .ok (.lconst 1, 1) := by decide +kernel
theorem d_T_matchAttributes_93 : decode prog_4_method_15_code 93 = .ok (.lastore, 1) := by decide +kernel
theorem d_T_matchAttributes_94 : decode prog_4_method_15_code 94 = .ok (.iinc 5 1, 3) := by decide +kernel
theorem d_T_matchAttributes_97 : decode prog_4_method_15_code 97 = .ok (.goto (-73), 3) := by decide +kernel
theorem d_T_matchAttributes_100 : decode prog_4_method_15_code 100 = .ok (.return_, 1) := by decide +kernel
abbrev M_T_suitsNode : vg_M := (⟨4, 0, 0, 107⟩, 3, prog_4_method_3_code, ⟨"PatternValidator$Matcher", "suitsNode", "(II)Z"⟩, some .boolean, Cond.code ⟨"PatternValidator$Matcher", "suitsNode", "(II)Z"⟩ prog_4_method_3_code 3 (some .boolean))
theorem d_T_suitsNode_0 : decode prog_4_method_3_code 0 = .ok (.aload_n 0, 1) := by decide +kernel
theorem d_T_suitsNode_1 : decode prog_4_method_3_code 1 = .ok (.getfield 24, 3) := by decide +kernel
theorem d_T_suitsNode_4 : decode prog_4_method_3_code 4 = .ok (.iconst 0, 1) := by decide +kernel
theorem d_T_suitsNode_5 : decode prog_4_method_3_code 5 = .ok (.invokevirtual 64, 3) := by decide +kernel
theorem d_T_suitsNode_8 : decode prog_4_method_3_code 8 = .ok (.aload_n 0, 1) := by decide +kernel
theorem d_T_suitsNode_9 : decode prog_4_method_3_code 9 = .ok (.getfield 24, 3) := by decide +kernel
theorem d_T_suitsNode_12 : decode prog_4_method_3_code 12 = .ok (.iload_n 2, 1) := by decide +kernel
theorem d_T_suitsNode_13 : decode prog_4_method_3_code 13 = .ok (.iconst 0, 1) := by decide +kernel
theorem d_T_suitsNode_14 : decode prog_4_method_3_code 14 = .ok (.invokevirtual 67, 3) := by decide +kernel
theorem d_T_suitsNode_17 : decode prog_4_method_3_code 17 = .ok (.aload_n 0, 1) := by decide +kernel
theorem d_T_suitsNode_18 : decode prog_4_method_3_code 18 = .ok (.aload_n 0, 1) := by decide +kernel
theorem d_T_suitsNode_19 : decode prog_4_method_3_code 19 = .ok (.getfield 24, 3) := by decide +kernel
theorem d_T_suitsNode_22 : decode prog_4_method_3_code 22 = .ok (.invokevirtual 61, 3) := by decide +kernel
theorem d_T_suitsNode_25 : decode prog_4_method_3_code 25 = .ok (.aload_n 0, 1) := by decide +kernel
theorem d_T_suitsNode_26 : decode prog_4_method_3_code 26 = .ok (.getfield 24, 3) := by decide +kernel
theorem d_T_suitsNode_29 : decode prog_4_method_3_code 29 = .ok (.iload_n 1, 1) := by decide +kernel
theorem d_T_suitsNode_30 : decode prog_4_method_3_code 30 = .ok (.invokevirtual 71, 3) := by decide +kernel
theorem d_T_suitsNode_33 : decode prog_4_method_3_code 33 = .ok (.ireturn, 1) := by decide +kernel
abbrev M_V_content : vg_M := (⟨37, 1, 6, 851⟩, 3, prog_1_method_10_code, ⟨"PatternValidator", "content", "(II)I"⟩, some .int, Cond.code ⟨"PatternValidator", "content", "(II)I"⟩ prog_1_method_10_code 3 (some .int))
theorem d_V_content_0 : decode prog_1_method_10_code 0 = .ok (.aload_n 0, 1) := by decide +kernel
theorem d_V_content_1 : decode prog_1_method_10_code 1 = .ok (.getfield 10, 3) := by decide +kernel
theorem d_V_content_4 : decode prog_1_method_10_code 4 = .ok (.iload_n 1, 1) := by decide +kernel
theorem d_V_content_5 : decode prog_1_method_10_code 5 = .ok (.invokevirtual 49, 3) := by decide +kernel
theorem d_V_content_8 : decode prog_1_method_10_code 8 = .ok (.ifCond .eq 14, 3) := by decide +kernel
theorem d_V_content_11 : decode prog_1_method_10_code 11 = .ok (.aload_n 0, 1) := by decide +kernel
theorem d_V_content_12 : decode prog_1_method_10_code 12 = .ok (.getfield 19, 3) := by decide +kernel
theorem d_V_content_15 : decode prog_1_method_10_code 15 = .ok (.iload_n 2, 1) := by decide +kernel
theorem d_V_content_16 : decode prog_1_method_10_code 16 = .ok (.invokevirtual 97, 3) := by decide +kernel
theorem d_V_content_19 : decode prog_1_method_10_code 19 = .ok (.ifCond .ne 11, 3) := by decide +kernel
theorem d_V_content_22 : decode prog_1_method_10_code 22 = .ok (.new 53, 3) := by decide +kernel
theorem d_V_content_25 : decode prog_1_method_10_code 25 = .ok (.dup, 1) := by decide +kernel
theorem d_V_content_26 : decode prog_1_method_10_code 26 = .ok (.invokespecial 55, 3) := by decide +kernel
theorem d_V_content_29 : decode prog_1_method_10_code 29 = .ok (.athrow, 1) := by decide +kernel
theorem d_V_content_30 : decode prog_1_method_10_code 30 = .ok (.aload_n 0, 1) := by decide +kernel
theorem d_V_content_31 : decode prog_1_method_10_code 31 = .ok (.getfield 28, 3) := by decide +kernel
theorem d_V_content_34 : decode prog_1_method_10_code 34 = .ok (.iload_n 1, 1) := by decide +kernel
theorem d_V_content_35 : decode prog_1_method_10_code 35 = .ok (.iload_n 2, 1) := by decide +kernel
theorem d_V_content_36 : decode prog_1_method_10_code 36 = .ok (.invokevirtual 98, 3) := by decide +kernel
theorem d_V_content_39 : decode prog_1_method_10_code 39 = .ok (.aload_n 0, 1) := by decide +kernel
theorem d_V_content_40 : decode prog_1_method_10_code 40 = .ok (.getfield 19, 3) := by decide +kernel
theorem d_V_content_43 : decode prog_1_method_10_code 43 = .ok (.getfield 105, 3) := by decide +kernel
theorem d_V_content_46 : decode prog_1_method_10_code 46 = .ok (.iload_n 2, 1) := by decide +kernel
theorem d_V_content_47 : decode prog_1_method_10_code 47 = .ok (.aaload, 1) := by decide +kernel
theorem d_V_content_48 : decode prog_1_method_10_code 48 = .ok (.iload_n 1, 1) := by decide +kernel
theorem d_V_content_49 : decode prog_1_method_10_code 49 = .ok (.invokevirtual 109, 3) := by decide +kernel
theorem d_V_content_52 : decode prog_1_method_10_code 52 = .ok (.ifCond .eq 7, 3) := by decide +kernel
theorem d_V_content_55 : decode prog_1_method_10_code 55 = .ok (.iconst 1, 1) := by decide +kernel
theorem d_V_content_56 : decode prog_1_method_10_code 56 = .ok (.goto 4, 3) := by decide +kernel
theorem d_V_content_59 : decode prog_1_method_10_code 59 = .ok (.iconst 0, 1) := by decide +kernel
theorem d_V_content_60 : decode prog_1_method_10_code 60 = .ok (.ireturn, 1) := by decide +kernel
abbrev M_V_longest : vg_M := (⟨37, 1, 6, 851⟩, 4, prog_1_method_11_code, ⟨"PatternValidator", "longest", "(II)I"⟩, some .int, Cond.code ⟨"PatternValidator", "longest", "(II)I"⟩ prog_1_method_11_code 4 (some .int))
theorem d_V_longest_0 : decode prog_1_method_11_code 0 = .ok (.aload_n 0, 1) := by decide +kernel
theorem d_V_longest_1 : decode prog_1_method_11_code 1 = .ok (.getfield 10, 3) := by decide +kernel
theorem d_V_longest_4 : decode prog_1_method_11_code 4 = .ok (.iload_n 1, 1) := by decide +kernel
theorem d_V_longest_5 : decode prog_1_method_11_code 5 = .ok (.invokevirtual 49, 3) := by decide +kernel
theorem d_V_longest_8 : decode prog_1_method_11_code 8 = .ok (.ifCond .eq 14, 3) := by decide +kernel
theorem d_V_longest_11 : decode prog_1_method_11_code 11 = .ok (.aload_n 0, 1) := by decide +kernel
theorem d_V_longest_12 : decode prog_1_method_11_code 12 = .ok (.getfield 19, 3) := by decide +kernel
theorem d_V_longest_15 : decode prog_1_method_11_code 15 = .ok (.iload_n 2, 1) := by decide +kernel
theorem d_V_longest_16 : decode prog_1_method_11_code 16 = .ok (.invokevirtual 97, 3) := by decide +kernel
theorem d_V_longest_19 : decode prog_1_method_11_code 19 = .ok (.ifCond .ne 11, 3) := by decide +kernel
theorem d_V_longest_22 : decode prog_1_method_11_code 22 = .ok (.new 53, 3) := by decide +kernel
theorem d_V_longest_25 : decode prog_1_method_11_code 25 = .ok (.dup, 1) := by decide +kernel
theorem d_V_longest_26 : decode prog_1_method_11_code 26 = .ok (.invokespecial 55, 3) := by decide +kernel
theorem d_V_longest_29 : decode prog_1_method_11_code 29 = .ok (.athrow, 1) := by decide +kernel
theorem d_V_longest_30 : decode prog_1_method_11_code 30 = .ok (.aload_n 0, 1) := by decide +kernel
theorem d_V_longest_31 : decode prog_1_method_11_code 31 = .ok (.getfield 28, 3) := by decide +kernel
theorem d_V_longest_34 : decode prog_1_method_11_code 34 = .ok (.iload_n 1, 1) := by decide +kernel
theorem d_V_longest_35 : decode prog_1_method_11_code 35 = .ok (.iload_n 2, 1) := by decide +kernel
theorem d_V_longest_36 : decode prog_1_method_11_code 36 = .ok (.invokevirtual 98, 3) := by decide +kernel
theorem d_V_longest_39 : decode prog_1_method_11_code 39 = .ok (.aload_n 0, 1) := by decide +kernel
theorem d_V_longest_40 : decode prog_1_method_11_code 40 = .ok (.getfield 28, 3) := by decide +kernel
theorem d_V_longest_43 : decode prog_1_method_11_code 43 = .ok (.iload_n 1, 1) := by decide +kernel
theorem d_V_longest_44 : decode prog_1_method_11_code 44 = .ok (.aload_n 0, 1) := by decide +kernel
theorem d_V_longest_45 : decode prog_1_method_11_code 45 = .ok (.getfield 19, 3) := by decide +kernel
theorem d_V_longest_48 : decode prog_1_method_11_code 48 = .ok (.getfield 105, 3) := by decide +kernel
theorem d_V_longest_51 : decode prog_1_method_11_code 51 = .ok (.iload_n 2, 1) := by decide +kernel
theorem d_V_longest_52 : decode prog_1_method_11_code 52 = .ok (.aaload, 1) := by decide +kernel
theorem d_V_longest_53 : decode prog_1_method_11_code 53 = .ok (.invokevirtual 114, 3) := by decide +kernel
theorem d_V_longest_56 : decode prog_1_method_11_code 56 = .ok (.istore_n 3, 1) := by decide +kernel
theorem d_V_longest_57 : decode prog_1_method_11_code 57 = .ok (.iload_n 3, 1) := by decide +kernel
theorem d_V_longest_58 : decode prog_1_method_11_code 58 = .ok (.iconst (-1), 1) := by decide +kernel
theorem d_V_longest_59 : decode prog_1_method_11_code 59 = .ok (.if_icmp .ne 11, 3) := by decide +kernel
theorem d_V_longest_62 : decode prog_1_method_11_code 62 = .ok (.new 60, 3) := by decide +kernel
theorem d_V_longest_65 : decode prog_1_method_11_code 65 = .ok (.dup, 1) := by decide +kernel
theorem d_V_longest_66 : decode prog_1_method_11_code 66 = .ok (.invokespecial 62, 3) := by decide +kernel
theorem d_V_longest_69 : decode prog_1_method_11_code 69 = .ok (.athrow, 1) := by decide +kernel
theorem d_V_longest_70 : decode prog_1_method_11_code 70 = .ok (.iload_n 3, 1) := by decide +kernel
theorem d_V_longest_71 : decode prog_1_method_11_code 71 = .ok (.ireturn, 1) := by decide +kernel
abbrev M_T_mostChildren : vg_M := (⟨0, 0, 0, 0⟩, 7, prog_4_method_5_code, ⟨"PatternValidator$Matcher", "mostChildren", "(ILPatternValidator$Node;)I"⟩, some .int, Cond.code ⟨"PatternValidator$Matcher", "mostChildren", "(ILPatternValidator$Node;)I"⟩ prog_4_method_5_code 7 (some .int))
theorem d_T_mostChildren_0 : decode prog_4_method_5_code 0 = .ok (.aload_n 0, 1) := by decide +kernel
theorem d_T_mostChildren_1 : decode prog_4_method_5_code 1 = .ok (.getfield 18, 3) := by decide +kernel
theorem d_T_mostChildren_4 : decode prog_4_method_5_code 4 = .ok (.iload_n 1, 1) := by decide +kernel
theorem d_T_mostChildren_5 : decode prog_4_method_5_code 5 = .ok (.bipush 8, 2) := by decide +kernel
theorem d_T_mostChildren_7 : decode prog_4_method_5_code 7 = .ok (.imul, 1) := by decide +kernel
theorem d_T_mostChildren_8 : decode prog_4_method_5_code 8 = .ok (.aload_n 0, 1) := by decide +kernel
theorem d_T_mostChildren_9 : decode prog_4_method_5_code 9 = .ok (.getfield 79, 3) := by decide +kernel
theorem d_T_mostChildren_12 : decode prog_4_method_5_code 12 = .ok (.iadd, 1) := by decide +kernel
theorem d_T_mostChildren_13 : decode prog_4_method_5_code 13 = .ok (.iconst 1, 1) := by decide +kernel
theorem d_T_mostChildren_14 : decode prog_4_method_5_code 14 = .ok (.isub, 1) := by decide +kernel
theorem d_T_mostChildren_15 : decode prog_4_method_5_code 15 = .ok (.laload, 1) := by decide +kernel
theorem d_T_mostChildren_16 : decode prog_4_method_5_code 16 = .ok (.lstore_n 3, 1) := by decide +kernel
theorem d_T_mostChildren_17 : decode prog_4_method_5_code 17 = .ok (.aload_n 2, 1) := by decide +kernel
theorem d_T_mostChildren_18 : decode prog_4_method_5_code 18 = .ok (.getfield 82, 3) := by decide +kernel
theorem d_T_mostChildren_21 : decode prog_4_method_5_code 21 = .ok (.istore 5, 2) := by decide +kernel
theorem d_T_mostChildren_23 : decode prog_4_method_5_code 23 = .ok (.iload 5, 2) := by decide +kernel
theorem d_T_mostChildren_25 : decode prog_4_method_5_code 25 = .ok (.ifCond .lt 31, 3) := by decide +kernel
theorem d_T_mostChildren_28 : decode prog_4_method_5_code 28 = .ok (.iconst 1, 1) := by decide +kernel
theorem d_T_mostChildren_29 : decode prog_4_method_5_code 29 = .ok (.iload 5, 2) := by decide +kernel
theorem d_T_mostChildren_31 : decode prog_4_method_5_code 31 = .ok (.ishl, 1) := by decide +kernel
theorem d_T_mostChildren_32 : decode prog_4_method_5_code 32 = .ok (.iconst 1, 1) := by decide +kernel
theorem d_T_mostChildren_33 : decode prog_4_method_5_code 33 = .ok (.isub, 1) := by decide +kernel
theorem d_T_mostChildren_34 : decode prog_4_method_5_code 34 = .ok (.istore 6, 2) := by decide +kernel
theorem d_T_mostChildren_36 : decode prog_4_method_5_code 36 = .ok (.lload_n 3, 1) := by decide +kernel
theorem d_T_mostChildren_37 : decode prog_4_method_5_code 37 = .ok (.iload 6, 2) := by decide +kernel
theorem d_T_mostChildren_39 : decode prog_4_method_5_code 39 = .ok (.lushr, 1) := by decide +kernel
theorem d_T_mostChildren_40 : decode prog_4_method_5_code 40 = .ok (.lconst 1, 1) := by decide +kernel
theorem d_T_mostChildren_41 : decode prog_4_method_5_code 41 = .ok (.land, 1) := by decide +kernel
theorem d_T_mostChildren_42 : decode prog_4_method_5_code 42 = .ok (.lconst 0, 1) := by decide +kernel
theorem d_T_mostChildren_43 : decode prog_4_method_5_code 43 = .ok (.lcmp, 1) := by decide +kernel
theorem d_T_mostChildren_44 : decode prog_4_method_5_code 44 = .ok (.ifCond .eq 6, 3) := by decide +kernel
theorem d_T_mostChildren_47 : decode prog_4_method_5_code 47 = .ok (.iload 5, 2) := by decide +kernel
theorem d_T_mostChildren_49 : decode prog_4_method_5_code 49 = .ok (.ireturn, 1) := by decide +kernel
theorem d_T_mostChildren_50 : decode prog_4_method_5_code 50 = .ok (.iinc 5 (-1), 3) := by decide +kernel
theorem d_T_mostChildren_53 : decode prog_4_method_5_code 53 = .ok (.goto (-30), 3) := by decide +kernel
theorem d_T_mostChildren_56 : decode prog_4_method_5_code 56 = .ok (.iconst (-1), 1) := by decide +kernel
theorem d_T_mostChildren_57 : decode prog_4_method_5_code 57 = .ok (.ireturn, 1) := by decide +kernel
abbrev M_V_find : vg_M := (⟨37, 1, 6, 851⟩, 3, prog_1_method_12_code, ⟨"PatternValidator", "find", "(I)I"⟩, some .int, Cond.code ⟨"PatternValidator", "find", "(I)I"⟩ prog_1_method_12_code 3 (some .int))
theorem d_V_find_0 : decode prog_1_method_12_code 0 = .ok (.aload_n 0, 1) := by decide +kernel
theorem d_V_find_1 : decode prog_1_method_12_code 1 = .ok (.getfield 10, 3) := by decide +kernel
theorem d_V_find_4 : decode prog_1_method_12_code 4 = .ok (.iload_n 1, 1) := by decide +kernel
theorem d_V_find_5 : decode prog_1_method_12_code 5 = .ok (.invokevirtual 49, 3) := by decide +kernel
theorem d_V_find_8 : decode prog_1_method_12_code 8 = .ok (.ifCond .ne 11, 3) := by decide +kernel
theorem d_V_find_11 : decode prog_1_method_12_code 11 = .ok (.new 53, 3) := by decide +kernel
theorem d_V_find_14 : decode prog_1_method_12_code 14 = .ok (.dup, 1) := by decide +kernel
theorem d_V_find_15 : decode prog_1_method_12_code 15 = .ok (.invokespecial 55, 3) := by decide +kernel
theorem d_V_find_18 : decode prog_1_method_12_code 18 = .ok (.athrow, 1) := by decide +kernel
theorem d_V_find_19 : decode prog_1_method_12_code 19 = .ok (.aload_n 0, 1) := by decide +kernel
theorem d_V_find_20 : decode prog_1_method_12_code 20 = .ok (.getfield 28, 3) := by decide +kernel
theorem d_V_find_23 : decode prog_1_method_12_code 23 = .ok (.iload_n 1, 1) := by decide +kernel
theorem d_V_find_24 : decode prog_1_method_12_code 24 = .ok (.iconst 0, 1) := by decide +kernel
theorem d_V_find_25 : decode prog_1_method_12_code 25 = .ok (.invokevirtual 98, 3) := by decide +kernel
theorem d_V_find_28 : decode prog_1_method_12_code 28 = .ok (.aload_n 0, 1) := by decide +kernel
theorem d_V_find_29 : decode prog_1_method_12_code 29 = .ok (.getfield 28, 3) := by decide +kernel
theorem d_V_find_32 : decode prog_1_method_12_code 32 = .ok (.iload_n 1, 1) := by decide +kernel
theorem d_V_find_33 : decode prog_1_method_12_code 33 = .ok (.invokevirtual 118, 3) := by decide +kernel
theorem d_V_find_36 : decode prog_1_method_12_code 36 = .ok (.istore_n 2, 1) := by decide +kernel
theorem d_V_find_37 : decode prog_1_method_12_code 37 = .ok (.iload_n 2, 1) := by decide +kernel
theorem d_V_find_38 : decode prog_1_method_12_code 38 = .ok (.iconst (-1), 1) := by decide +kernel
theorem d_V_find_39 : decode prog_1_method_12_code 39 = .ok (.if_icmp .ne 11, 3) := by decide +kernel
theorem d_V_find_42 : decode prog_1_method_12_code 42 = .ok (.new 60, 3) := by decide +kernel
theorem d_V_find_45 : decode prog_1_method_12_code 45 = .ok (.dup, 1) := by decide +kernel
theorem d_V_find_46 : decode prog_1_method_12_code 46 = .ok (.invokespecial 62, 3) := by decide +kernel
theorem d_V_find_49 : decode prog_1_method_12_code 49 = .ok (.athrow, 1) := by decide +kernel
theorem d_V_find_50 : decode prog_1_method_12_code 50 = .ok (.iload_n 2, 1) := by decide +kernel
theorem d_V_find_51 : decode prog_1_method_12_code 51 = .ok (.ireturn, 1) := by decide +kernel
abbrev M_T_leastNode : vg_M := (⟨5, 0, 0, 129⟩, 3, prog_4_method_4_code, ⟨"PatternValidator$Matcher", "leastNode", "(I)I"⟩, some .int, Cond.code ⟨"PatternValidator$Matcher", "leastNode", "(I)I"⟩ prog_4_method_4_code 3 (some .int))
theorem d_T_leastNode_0 : decode prog_4_method_4_code 0 = .ok (.iconst 0, 1) := by decide +kernel
theorem d_T_leastNode_1 : decode prog_4_method_4_code 1 = .ok (.istore_n 2, 1) := by decide +kernel
theorem d_T_leastNode_2 : decode prog_4_method_4_code 2 = .ok (.iload_n 2, 1) := by decide +kernel
theorem d_T_leastNode_3 : decode prog_4_method_4_code 3 = .ok (.aload_n 0, 1) := by decide +kernel
theorem d_T_leastNode_4 : decode prog_4_method_4_code 4 = .ok (.getfield 32, 3) := by decide +kernel
theorem d_T_leastNode_7 : decode prog_4_method_4_code 7 = .ok (.getfield 47, 3) := by decide +kernel
theorem d_T_leastNode_10 : decode prog_4_method_4_code 10 = .ok (.if_icmp .ge 20, 3) := by decide +kernel
theorem d_T_leastNode_13 : decode prog_4_method_4_code 13 = .ok (.aload_n 0, 1) := by decide +kernel
theorem d_T_leastNode_14 : decode prog_4_method_4_code 14 = .ok (.iload_n 1, 1) := by decide +kernel
theorem d_T_leastNode_15 : decode prog_4_method_4_code 15 = .ok (.iload_n 2, 1) := by decide +kernel
theorem d_T_leastNode_16 : decode prog_4_method_4_code 16 = .ok (.invokevirtual 75, 3) := by decide +kernel
theorem d_T_leastNode_19 : decode prog_4_method_4_code 19 = .ok (.ifCond .eq 5, 3) := by decide +kernel
theorem d_T_leastNode_22 : decode prog_4_method_4_code 22 = .ok (.iload_n 2, 1) := by decide +kernel
theorem d_T_leastNode_23 : decode prog_4_method_4_code 23 = .ok (.ireturn, 1) := by decide +kernel
theorem d_T_leastNode_24 : decode prog_4_method_4_code 24 = .ok (.iinc 2 1, 3) := by decide +kernel
theorem d_T_leastNode_27 : decode prog_4_method_4_code 27 = .ok (.goto (-25), 3) := by decide +kernel
theorem d_T_leastNode_30 : decode prog_4_method_4_code 30 = .ok (.iconst (-1), 1) := by decide +kernel
theorem d_T_leastNode_31 : decode prog_4_method_4_code 31 = .ok (.ireturn, 1) := by decide +kernel
abbrev M_V_nullable : vg_M := (⟨37, 1, 6, 848⟩, 2, prog_1_method_13_code, ⟨"PatternValidator", "nullable", "(I)I"⟩, some .int, Cond.code ⟨"PatternValidator", "nullable", "(I)I"⟩ prog_1_method_13_code 2 (some .int))
theorem d_V_nullable_0 : decode prog_1_method_13_code 0 = .ok (.aload_n 0, 1) := by decide +kernel
theorem d_V_nullable_1 : decode prog_1_method_13_code 1 = .ok (.getfield 10, 3) := by decide +kernel
theorem d_V_nullable_4 : decode prog_1_method_13_code 4 = .ok (.iload_n 1, 1) := by decide +kernel
theorem d_V_nullable_5 : decode prog_1_method_13_code 5 = .ok (.invokevirtual 49, 3) := by decide +kernel
theorem d_V_nullable_8 : decode prog_1_method_13_code 8 = .ok (.ifCond .ne 11, 3) := by decide +kernel
theorem d_V_nullable_11 : decode prog_1_method_13_code 11 = .ok (.new 53, 3) := by decide +kernel
theorem d_V_nullable_14 : decode prog_1_method_13_code 14 = .ok (.dup, 1) := by decide +kernel
theorem d_V_nullable_15 : decode prog_1_method_13_code 15 = .ok (.invokespecial 55, 3) := by decide +kernel
theorem d_V_nullable_18 : decode prog_1_method_13_code 18 = .ok (.athrow, 1) := by decide +kernel
theorem d_V_nullable_19 : decode prog_1_method_13_code 19 = .ok (.aload_n 0, 1) := by decide +kernel
theorem d_V_nullable_20 : decode prog_1_method_13_code 20 = .ok (.getfield 28, 3) := by decide +kernel
theorem d_V_nullable_23 : decode prog_1_method_13_code 23 = .ok (.iload_n 1, 1) := by decide +kernel
theorem d_V_nullable_24 : decode prog_1_method_13_code 24 = .ok (.invokevirtual 121, 3) := by decide +kernel
theorem d_V_nullable_27 : decode prog_1_method_13_code 27 = .ok (.ifCond .eq 7, 3) := by decide +kernel
theorem d_V_nullable_30 : decode prog_1_method_13_code 30 = .ok (.iconst 1, 1) := by decide +kernel
theorem d_V_nullable_31 : decode prog_1_method_13_code 31 = .ok (.goto 4, 3) := by decide +kernel
theorem d_V_nullable_34 : decode prog_1_method_13_code 34 = .ok (.iconst 0, 1) := by decide +kernel
theorem d_V_nullable_35 : decode prog_1_method_13_code 35 = .ok (.ireturn, 1) := by decide +kernel
abbrev M_T_suitsNothing : vg_M := (⟨36, 0, 0, 827⟩, 2, prog_4_method_6_code, ⟨"PatternValidator$Matcher", "suitsNothing", "(I)Z"⟩, some .boolean, Cond.code ⟨"PatternValidator$Matcher", "suitsNothing", "(I)Z"⟩ prog_4_method_6_code 2 (some .boolean))
theorem d_T_suitsNothing_0 : decode prog_4_method_6_code 0 = .ok (.aload_n 0, 1) := by decide +kernel
theorem d_T_suitsNothing_1 : decode prog_4_method_6_code 1 = .ok (.getfield 28, 3) := by decide +kernel
theorem d_T_suitsNothing_4 : decode prog_4_method_6_code 4 = .ok (.iload_n 1, 1) := by decide +kernel
theorem d_T_suitsNothing_5 : decode prog_4_method_6_code 5 = .ok (.invokevirtual 41, 3) := by decide +kernel
theorem d_T_suitsNothing_8 : decode prog_4_method_6_code 8 = .ok (.aload_n 0, 1) := by decide +kernel
theorem d_T_suitsNothing_9 : decode prog_4_method_6_code 9 = .ok (.getfield 24, 3) := by decide +kernel
theorem d_T_suitsNothing_12 : decode prog_4_method_6_code 12 = .ok (.iconst 0, 1) := by decide +kernel
theorem d_T_suitsNothing_13 : decode prog_4_method_6_code 13 = .ok (.invokevirtual 64, 3) := by decide +kernel
theorem d_T_suitsNothing_16 : decode prog_4_method_6_code 16 = .ok (.aload_n 0, 1) := by decide +kernel
theorem d_T_suitsNothing_17 : decode prog_4_method_6_code 17 = .ok (.aload_n 0, 1) := by decide +kernel
theorem d_T_suitsNothing_18 : decode prog_4_method_6_code 18 = .ok (.getfield 24, 3) := by decide +kernel
theorem d_T_suitsNothing_21 : decode prog_4_method_6_code 21 = .ok (.invokevirtual 61, 3) := by decide +kernel
theorem d_T_suitsNothing_24 : decode prog_4_method_6_code 24 = .ok (.aload_n 0, 1) := by decide +kernel
theorem d_T_suitsNothing_25 : decode prog_4_method_6_code 25 = .ok (.getfield 24, 3) := by decide +kernel
theorem d_T_suitsNothing_28 : decode prog_4_method_6_code 28 = .ok (.iload_n 1, 1) := by decide +kernel
theorem d_T_suitsNothing_29 : decode prog_4_method_6_code 29 = .ok (.invokevirtual 71, 3) := by decide +kernel
theorem d_T_suitsNothing_32 : decode prog_4_method_6_code 32 = .ok (.ireturn, 1) := by decide +kernel
abbrev M_V_count : vg_M := (⟨8, 1, 6, 120⟩, 2, prog_1_method_14_code, ⟨"PatternValidator", "count", "(I)I"⟩, some .int, Cond.code ⟨"PatternValidator", "count", "(I)I"⟩ prog_1_method_14_code 2 (some .int))
theorem d_V_count_0 : decode prog_1_method_14_code 0 = .ok (.iload_n 1, 1) := by decide +kernel
theorem d_V_count_1 : decode prog_1_method_14_code 1 = .ok (.tableswitch 87 0 5 #[39, 47, 55, 63, 71, 79], 39) := by decide +kernel
theorem d_V_count_40 : decode prog_1_method_14_code 40 = .ok (.aload_n 0, 1) := by decide +kernel
theorem d_V_count_41 : decode prog_1_method_14_code 41 = .ok (.getfield 10, 3) := by decide +kernel
theorem d_V_count_44 : decode prog_1_method_14_code 44 = .ok (.getfield 124, 3) := by decide +kernel
theorem d_V_count_47 : decode prog_1_method_14_code 47 = .ok (.ireturn, 1) := by decide +kernel
theorem d_V_count_48 : decode prog_1_method_14_code 48 = .ok (.aload_n 0, 1) := by decide +kernel
theorem d_V_count_49 : decode prog_1_method_14_code 49 = .ok (.getfield 10, 3) := by decide +kernel
theorem d_V_count_52 : decode prog_1_method_14_code 52 = .ok (.invokevirtual 128, 3) := by decide +kernel
theorem d_V_count_55 : decode prog_1_method_14_code 55 = .ok (.ireturn, 1) := by decide +kernel
theorem d_V_count_56 : decode prog_1_method_14_code 56 = .ok (.aload_n 0, 1) := by decide +kernel
theorem d_V_count_57 : decode prog_1_method_14_code 57 = .ok (.getfield 19, 3) := by decide +kernel
theorem d_V_count_60 : decode prog_1_method_14_code 60 = .ok (.getfield 131, 3) := by decide +kernel
theorem d_V_count_63 : decode prog_1_method_14_code 63 = .ok (.ireturn, 1) := by decide +kernel
theorem d_V_count_64 : decode prog_1_method_14_code 64 = .ok (.aload_n 0, 1) := by decide +kernel
theorem d_V_count_65 : decode prog_1_method_14_code 65 = .ok (.getfield 19, 3) := by decide +kernel
theorem d_V_count_68 : decode prog_1_method_14_code 68 = .ok (.getfield 134, 3) := by decide +kernel
theorem d_V_count_71 : decode prog_1_method_14_code 71 = .ok (.ireturn, 1) := by decide +kernel
theorem d_V_count_72 : decode prog_1_method_14_code 72 = .ok (.aload_n 0, 1) := by decide +kernel
theorem d_V_count_73 : decode prog_1_method_14_code 73 = .ok (.getfield 19, 3) := by decide +kernel
theorem d_V_count_76 : decode prog_1_method_14_code 76 = .ok (.invokevirtual 137, 3) := by decide +kernel
theorem d_V_count_79 : decode prog_1_method_14_code 79 = .ok (.ireturn, 1) := by decide +kernel
theorem d_V_count_80 : decode prog_1_method_14_code 80 = .ok (.aload_n 0, 1) := by decide +kernel
theorem d_V_count_81 : decode prog_1_method_14_code 81 = .ok (.getfield 19, 3) := by decide +kernel
theorem d_V_count_84 : decode prog_1_method_14_code 84 = .ok (.invokevirtual 87, 3) := by decide +kernel
theorem d_V_count_87 : decode prog_1_method_14_code 87 = .ok (.ireturn, 1) := by decide +kernel
theorem d_V_count_88 : decode prog_1_method_14_code 88 = .ok (.new 36, 3) := by decide +kernel
theorem d_V_count_91 : decode prog_1_method_14_code 91 = .ok (.dup, 1) := by decide +kernel
theorem d_V_count_92 : decode prog_1_method_14_code 92 = .ok (.invokespecial 38, 3) := by decide +kernel
theorem d_V_count_95 : decode prog_1_method_14_code 95 = .ok (.athrow, 1) := by decide +kernel
abbrev M_G_definitionsGiven : vg_M := (⟨0, 0, 0, 0⟩, 6, prog_3_method_10_code, ⟨"PatternValidator$Grammar", "definitionsGiven", "()I"⟩, some .int, Cond.code ⟨"PatternValidator$Grammar", "definitionsGiven", "()I"⟩ prog_3_method_10_code 6 (some .int))
theorem d_G_definitionsGiven_0 : decode prog_3_method_10_code 0 = .ok (.iconst 0, 1) := by decide +kernel
theorem d_G_definitionsGiven_1 : decode prog_3_method_10_code 1 = .ok (.istore_n 1, 1) := by decide +kernel
theorem d_G_definitionsGiven_2 : decode prog_3_method_10_code 2 = .ok (.aload_n 0, 1) := by decide +kernel
theorem d_G_definitionsGiven_3 : decode prog_3_method_10_code 3 = .ok (.getfield 24, 3) := by decide +kernel
theorem d_G_definitionsGiven_6 : decode prog_3_method_10_code 6 = .ok (.astore_n 2, 1) := by decide +kernel
theorem d_G_definitionsGiven_7 : decode prog_3_method_10_code 7 = .ok (.aload_n 2, 1) := by decide +kernel
theorem d_G_definitionsGiven_8 : decode prog_3_method_10_code 8 = .ok (.arraylength, 1) := by decide +kernel
theorem d_G_definitionsGiven_9 : decode prog_3_method_10_code 9 = .ok (.istore_n 3, 1) := by decide +kernel
theorem d_G_definitionsGiven_10 : decode prog_3_method_10_code 10 = .ok (.iconst 0, 1) := by decide +kernel
theorem d_G_definitionsGiven_11 : decode prog_3_method_10_code 11 = .ok (.istore 4, 2) := by decide +kernel
theorem d_G_definitionsGiven_13 : decode prog_3_method_10_code 13 = .ok (.iload 4, 2) := by decide +kernel
theorem d_G_definitionsGiven_15 : decode prog_3_method_10_code 15 = .ok (.iload_n 3, 1) := by decide +kernel
theorem d_G_definitionsGiven_16 : decode prog_3_method_10_code 16 = .ok (.if_icmp .ge 24, 3) := by decide +kernel
theorem d_G_definitionsGiven_19 : decode prog_3_method_10_code 19 = .ok (.aload_n 2, 1) := by decide +kernel
theorem d_G_definitionsGiven_20 : decode prog_3_method_10_code 20 = .ok (.iload 4, 2) := by decide +kernel
theorem d_G_definitionsGiven_22 : decode prog_3_method_10_code 22 = .ok (.iaload, 1) := by decide +kernel
theorem d_G_definitionsGiven_23 : decode prog_3_method_10_code 23 = .ok (.istore 5, 2) := by decide +kernel
theorem d_G_definitionsGiven_25 : decode prog_3_method_10_code 25 = .ok (.iload 5, 2) := by decide +kernel
theorem d_G_definitionsGiven_27 : decode prog_3_method_10_code 27 = .ok (.iconst (-1), 1) := by decide +kernel
theorem d_G_definitionsGiven_28 : decode prog_3_method_10_code 28 = .ok (.if_icmp .eq 6, 3) := by decide +kernel
theorem d_G_definitionsGiven_31 : decode prog_3_method_10_code 31 = .ok (.iinc 1 1, 3) := by decide +kernel
theorem d_G_definitionsGiven_34 : decode prog_3_method_10_code 34 = .ok (.iinc 4 1, 3) := by decide +kernel
theorem d_G_definitionsGiven_37 : decode prog_3_method_10_code 37 = .ok (.goto (-24), 3) := by decide +kernel
theorem d_G_definitionsGiven_40 : decode prog_3_method_10_code 40 = .ok (.iload_n 1, 1) := by decide +kernel
theorem d_G_definitionsGiven_41 : decode prog_3_method_10_code 41 = .ok (.ireturn, 1) := by decide +kernel
abbrev M_D_lastName : vg_M := (⟨0, 0, 0, 0⟩, 1, prog_2_method_4_code, ⟨"PatternValidator$Document", "lastName", "()I"⟩, some .int, Cond.code ⟨"PatternValidator$Document", "lastName", "()I"⟩ prog_2_method_4_code 1 (some .int))
theorem d_D_lastName_0 : decode prog_2_method_4_code 0 = .ok (.aload_n 0, 1) := by decide +kernel
theorem d_D_lastName_1 : decode prog_2_method_4_code 1 = .ok (.getfield 26, 3) := by decide +kernel
theorem d_D_lastName_4 : decode prog_2_method_4_code 4 = .ok (.ifCond .ne 7, 3) := by decide +kernel
theorem d_D_lastName_7 : decode prog_2_method_4_code 7 = .ok (.iconst (-1), 1) := by decide +kernel
theorem d_D_lastName_8 : decode prog_2_method_4_code 8 = .ok (.goto 22, 3) := by decide +kernel
theorem d_D_lastName_11 : decode prog_2_method_4_code 11 = .ok (.aload_n 0, 1) := by decide +kernel
theorem d_D_lastName_12 : decode prog_2_method_4_code 12 = .ok (.getfield 11, 3) := by decide +kernel
theorem d_D_lastName_15 : decode prog_2_method_4_code 15 = .ok (.aload_n 0, 1) := by decide +kernel
theorem d_D_lastName_16 : decode prog_2_method_4_code 16 = .ok (.getfield 17, 3) := by decide +kernel
theorem d_D_lastName_19 : decode prog_2_method_4_code 19 = .ok (.aload_n 0, 1) := by decide +kernel
theorem d_D_lastName_20 : decode prog_2_method_4_code 20 = .ok (.getfield 26, 3) := by decide +kernel
theorem d_D_lastName_23 : decode prog_2_method_4_code 23 = .ok (.iconst 1, 1) := by decide +kernel
theorem d_D_lastName_24 : decode prog_2_method_4_code 24 = .ok (.isub, 1) := by decide +kernel
theorem d_D_lastName_25 : decode prog_2_method_4_code 25 = .ok (.iaload, 1) := by decide +kernel
theorem d_D_lastName_26 : decode prog_2_method_4_code 26 = .ok (.aaload, 1) := by decide +kernel
theorem d_D_lastName_27 : decode prog_2_method_4_code 27 = .ok (.getfield 29, 3) := by decide +kernel
theorem d_D_lastName_30 : decode prog_2_method_4_code 30 = .ok (.ireturn, 1) := by decide +kernel
