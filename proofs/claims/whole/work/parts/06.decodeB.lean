abbrev M_R_init : vg_M := (⟨1, 18, 4132, 20⟩, 1, prog_7_method_1_code, ⟨"PatternValidatorModel", "<init>", "()V"⟩, none, Cond.code ⟨"PatternValidatorModel", "<init>", "()V"⟩ prog_7_method_1_code 1 (none))
theorem d_R_init_0 : decode prog_7_method_1_code 0 = .ok (.aload_n 0, 1) := by decide +kernel
theorem d_R_init_1 : decode prog_7_method_1_code 1 = .ok (.invokespecial 1, 3) := by decide +kernel
theorem d_R_init_4 : decode prog_7_method_1_code 4 = .ok (.aload_n 0, 1) := by decide +kernel
theorem d_R_init_5 : decode prog_7_method_1_code 5 = .ok (.bipush 40, 2) := by decide +kernel
theorem d_R_init_7 : decode prog_7_method_1_code 7 = .ok (.newarray .int, 2) := by decide +kernel
theorem d_R_init_9 : decode prog_7_method_1_code 9 = .ok (.putfield 7, 3) := by decide +kernel
theorem d_R_init_12 : decode prog_7_method_1_code 12 = .ok (.aload_n 0, 1) := by decide +kernel
theorem d_R_init_13 : decode prog_7_method_1_code 13 = .ok (.bipush 40, 2) := by decide +kernel
theorem d_R_init_15 : decode prog_7_method_1_code 15 = .ok (.newarray .int, 2) := by decide +kernel
theorem d_R_init_17 : decode prog_7_method_1_code 17 = .ok (.putfield 13, 3) := by decide +kernel
theorem d_R_init_20 : decode prog_7_method_1_code 20 = .ok (.aload_n 0, 1) := by decide +kernel
theorem d_R_init_21 : decode prog_7_method_1_code 21 = .ok (.bipush 40, 2) := by decide +kernel
theorem d_R_init_23 : decode prog_7_method_1_code 23 = .ok (.newarray .int, 2) := by decide +kernel
theorem d_R_init_25 : decode prog_7_method_1_code 25 = .ok (.putfield 16, 3) := by decide +kernel
theorem d_R_init_28 : decode prog_7_method_1_code 28 = .ok (.aload_n 0, 1) := by decide +kernel
theorem d_R_init_29 : decode prog_7_method_1_code 29 = .ok (.bipush 40, 2) := by decide +kernel
theorem d_R_init_31 : decode prog_7_method_1_code 31 = .ok (.newarray .int, 2) := by decide +kernel
theorem d_R_init_33 : decode prog_7_method_1_code 33 = .ok (.putfield 19, 3) := by decide +kernel
theorem d_R_init_36 : decode prog_7_method_1_code 36 = .ok (.aload_n 0, 1) := by decide +kernel
theorem d_R_init_37 : decode prog_7_method_1_code 37 = .ok (.iconst 4, 1) := by decide +kernel
theorem d_R_init_38 : decode prog_7_method_1_code 38 = .ok (.newarray .int, 2) := by decide +kernel
theorem d_R_init_40 : decode prog_7_method_1_code 40 = .ok (.dup, 1) := by decide +kernel
theorem d_R_init_41 : decode prog_7_method_1_code 41 = .ok (.iconst 0, 1) := by decide +kernel
theorem d_R_init_42 : decode prog_7_method_1_code 42 = .ok (.iconst (-1), 1) := by decide +kernel
theorem d_R_init_43 : decode prog_7_method_1_code 43 = .ok (.iastore, 1) := by decide +kernel
theorem d_R_init_44 : decode prog_7_method_1_code 44 = .ok (.dup, 1) := by decide +kernel
theorem d_R_init_45 : decode prog_7_method_1_code 45 = .ok (.iconst 1, 1) := by decide +kernel
theorem d_R_init_46 : decode prog_7_method_1_code 46 = .ok (.iconst (-1), 1) := by decide +kernel
theorem d_R_init_47 : decode prog_7_method_1_code 47 = .ok (.iastore, 1) := by decide +kernel
theorem d_R_init_48 : decode prog_7_method_1_code 48 = .ok (.dup, 1) := by decide +kernel
theorem d_R_init_49 : decode prog_7_method_1_code 49 = .ok (.iconst 2, 1) := by decide +kernel
theorem d_R_init_50 : decode prog_7_method_1_code 50 = .ok (.iconst (-1), 1) := by decide +kernel
theorem d_R_init_51 : decode prog_7_method_1_code 51 = .ok (.iastore, 1) := by decide +kernel
theorem d_R_init_52 : decode prog_7_method_1_code 52 = .ok (.dup, 1) := by decide +kernel
theorem d_R_init_53 : decode prog_7_method_1_code 53 = .ok (.iconst 3, 1) := by decide +kernel
theorem d_R_init_54 : decode prog_7_method_1_code 54 = .ok (.iconst (-1), 1) := by decide +kernel
theorem d_R_init_55 : decode prog_7_method_1_code 55 = .ok (.iastore, 1) := by decide +kernel
theorem d_R_init_56 : decode prog_7_method_1_code 56 = .ok (.putfield 22, 3) := by decide +kernel
theorem d_R_init_59 : decode prog_7_method_1_code 59 = .ok (.aload_n 0, 1) := by decide +kernel
theorem d_R_init_60 : decode prog_7_method_1_code 60 = .ok (.bipush 16, 2) := by decide +kernel
theorem d_R_init_62 : decode prog_7_method_1_code 62 = .ok (.newarray .int, 2) := by decide +kernel
theorem d_R_init_64 : decode prog_7_method_1_code 64 = .ok (.putfield 25, 3) := by decide +kernel
theorem d_R_init_67 : decode prog_7_method_1_code 67 = .ok (.aload_n 0, 1) := by decide +kernel
theorem d_R_init_68 : decode prog_7_method_1_code 68 = .ok (.bipush 16, 2) := by decide +kernel
theorem d_R_init_70 : decode prog_7_method_1_code 70 = .ok (.newarray .int, 2) := by decide +kernel
theorem d_R_init_72 : decode prog_7_method_1_code 72 = .ok (.putfield 28, 3) := by decide +kernel
theorem d_R_init_75 : decode prog_7_method_1_code 75 = .ok (.aload_n 0, 1) := by decide +kernel
theorem d_R_init_76 : decode prog_7_method_1_code 76 = .ok (.bipush 16, 2) := by decide +kernel
theorem d_R_init_78 : decode prog_7_method_1_code 78 = .ok (.newarray .int, 2) := by decide +kernel
theorem d_R_init_80 : decode prog_7_method_1_code 80 = .ok (.putfield 31, 3) := by decide +kernel
theorem d_R_init_83 : decode prog_7_method_1_code 83 = .ok (.aload_n 0, 1) := by decide +kernel
theorem d_R_init_84 : decode prog_7_method_1_code 84 = .ok (.bipush 96, 2) := by decide +kernel
theorem d_R_init_86 : decode prog_7_method_1_code 86 = .ok (.newarray .boolean, 2) := by decide +kernel
theorem d_R_init_88 : decode prog_7_method_1_code 88 = .ok (.putfield 34, 3) := by decide +kernel
theorem d_R_init_91 : decode prog_7_method_1_code 91 = .ok (.aload_n 0, 1) := by decide +kernel
theorem d_R_init_92 : decode prog_7_method_1_code 92 = .ok (.bipush 96, 2) := by decide +kernel
theorem d_R_init_94 : decode prog_7_method_1_code 94 = .ok (.newarray .int, 2) := by decide +kernel
theorem d_R_init_96 : decode prog_7_method_1_code 96 = .ok (.putfield 38, 3) := by decide +kernel
theorem d_R_init_99 : decode prog_7_method_1_code 99 = .ok (.aload_n 0, 1) := by decide +kernel
theorem d_R_init_100 : decode prog_7_method_1_code 100 = .ok (.bipush 96, 2) := by decide +kernel
theorem d_R_init_102 : decode prog_7_method_1_code 102 = .ok (.newarray .int, 2) := by decide +kernel
theorem d_R_init_104 : decode prog_7_method_1_code 104 = .ok (.putfield 41, 3) := by decide +kernel
theorem d_R_init_107 : decode prog_7_method_1_code 107 = .ok (.aload_n 0, 1) := by decide +kernel
theorem d_R_init_108 : decode prog_7_method_1_code 108 = .ok (.bipush 96, 2) := by decide +kernel
theorem d_R_init_110 : decode prog_7_method_1_code 110 = .ok (.newarray .int, 2) := by decide +kernel
theorem d_R_init_112 : decode prog_7_method_1_code 112 = .ok (.putfield 44, 3) := by decide +kernel
theorem d_R_init_115 : decode prog_7_method_1_code 115 = .ok (.aload_n 0, 1) := by decide +kernel
theorem d_R_init_116 : decode prog_7_method_1_code 116 = .ok (.bipush 16, 2) := by decide +kernel
theorem d_R_init_118 : decode prog_7_method_1_code 118 = .ok (.newarray .int, 2) := by decide +kernel
theorem d_R_init_120 : decode prog_7_method_1_code 120 = .ok (.putfield 47, 3) := by decide +kernel
theorem d_R_init_123 : decode prog_7_method_1_code 123 = .ok (.aload_n 0, 1) := by decide +kernel
theorem d_R_init_124 : decode prog_7_method_1_code 124 = .ok (.iconst (-1), 1) := by decide +kernel
theorem d_R_init_125 : decode prog_7_method_1_code 125 = .ok (.putfield 50, 3) := by decide +kernel
theorem d_R_init_128 : decode prog_7_method_1_code 128 = .ok (.aload_n 0, 1) := by decide +kernel
theorem d_R_init_129 : decode prog_7_method_1_code 129 = .ok (.sipush 2560, 3) := by decide +kernel
theorem d_R_init_132 : decode prog_7_method_1_code 132 = .ok (.newarray .long, 2) := by decide +kernel
theorem d_R_init_134 : decode prog_7_method_1_code 134 = .ok (.putfield 54, 3) := by decide +kernel
theorem d_R_init_137 : decode prog_7_method_1_code 137 = .ok (.aload_n 0, 1) := by decide +kernel
theorem d_R_init_138 : decode prog_7_method_1_code 138 = .ok (.sipush 640, 3) := by decide +kernel
theorem d_R_init_141 : decode prog_7_method_1_code 141 = .ok (.newarray .boolean, 2) := by decide +kernel
theorem d_R_init_143 : decode prog_7_method_1_code 143 = .ok (.putfield 58, 3) := by decide +kernel
theorem d_R_init_146 : decode prog_7_method_1_code 146 = .ok (.aload_n 0, 1) := by decide +kernel
theorem d_R_init_147 : decode prog_7_method_1_code 147 = .ok (.bipush 40, 2) := by decide +kernel
theorem d_R_init_149 : decode prog_7_method_1_code 149 = .ok (.newarray .boolean, 2) := by decide +kernel
theorem d_R_init_151 : decode prog_7_method_1_code 151 = .ok (.putfield 61, 3) := by decide +kernel
theorem d_R_init_154 : decode prog_7_method_1_code 154 = .ok (.aload_n 0, 1) := by decide +kernel
theorem d_R_init_155 : decode prog_7_method_1_code 155 = .ok (.bipush 40, 2) := by decide +kernel
theorem d_R_init_157 : decode prog_7_method_1_code 157 = .ok (.newarray .boolean, 2) := by decide +kernel
theorem d_R_init_159 : decode prog_7_method_1_code 159 = .ok (.putfield 64, 3) := by decide +kernel
theorem d_R_init_162 : decode prog_7_method_1_code 162 = .ok (.aload_n 0, 1) := by decide +kernel
theorem d_R_init_163 : decode prog_7_method_1_code 163 = .ok (.sipush 240, 3) := by decide +kernel
theorem d_R_init_166 : decode prog_7_method_1_code 166 = .ok (.newarray .boolean, 2) := by decide +kernel
theorem d_R_init_168 : decode prog_7_method_1_code 168 = .ok (.putfield 67, 3) := by decide +kernel
theorem d_R_init_171 : decode prog_7_method_1_code 171 = .ok (.return_, 1) := by decide +kernel
abbrev M_R_thrown : vg_M := (⟨0, 0, 0, 0⟩, 1, prog_7_method_2_code, ⟨"PatternValidatorModel", "thrown", "()I"⟩, some .int, Cond.code ⟨"PatternValidatorModel", "thrown", "()I"⟩ prog_7_method_2_code 1 (some .int))
theorem d_R_thrown_0 : decode prog_7_method_2_code 0 = .ok (.aload_n 0, 1) := by decide +kernel
theorem d_R_thrown_1 : decode prog_7_method_2_code 1 = .ok (.getfield 70, 3) := by decide +kernel
theorem d_R_thrown_4 : decode prog_7_method_2_code 4 = .ok (.ireturn, 1) := by decide +kernel
abbrev M_R_pattern : vg_M := (⟨3, 0, 0, 66⟩, 5, prog_7_method_7_code, ⟨"PatternValidatorModel", "pattern", "(III)I"⟩, some .int, Cond.code ⟨"PatternValidatorModel", "pattern", "(III)I"⟩ prog_7_method_7_code 5 (some .int))
theorem d_R_pattern_0 : decode prog_7_method_7_code 0 = .ok (.aload_n 0, 1) := by decide +kernel
theorem d_R_pattern_1 : decode prog_7_method_7_code 1 = .ok (.iconst 0, 1) := by decide +kernel
theorem d_R_pattern_2 : decode prog_7_method_7_code 2 = .ok (.putfield 70, 3) := by decide +kernel
theorem d_R_pattern_5 : decode prog_7_method_7_code 5 = .ok (.aload_n 0, 1) := by decide +kernel
theorem d_R_pattern_6 : decode prog_7_method_7_code 6 = .ok (.iload_n 1, 1) := by decide +kernel
theorem d_R_pattern_7 : decode prog_7_method_7_code 7 = .ok (.iload_n 2, 1) := by decide +kernel
theorem d_R_pattern_8 : decode prog_7_method_7_code 8 = .ok (.iload_n 3, 1) := by decide +kernel
theorem d_R_pattern_9 : decode prog_7_method_7_code 9 = .ok (.invokevirtual 84, 3) := by decide +kernel
theorem d_R_pattern_12 : decode prog_7_method_7_code 12 = .ok (.ifCond .ne 9, 3) := by decide +kernel
theorem d_R_pattern_15 : decode prog_7_method_7_code 15 = .ok (.aload_n 0, 1) := by decide +kernel
theorem d_R_pattern_16 : decode prog_7_method_7_code 16 = .ok (.iconst 1, 1) := by decide +kernel
theorem d_R_pattern_17 : decode prog_7_method_7_code 17 = .ok (.invokevirtual 87, 3) := by decide +kernel
theorem d_R_pattern_20 : decode prog_7_method_7_code 20 = .ok (.ireturn, 1) := by decide +kernel
theorem d_R_pattern_21 : decode prog_7_method_7_code 21 = .ok (.iconst 1, 1) := by decide +kernel
theorem d_R_pattern_22 : decode prog_7_method_7_code 22 = .ok (.istore 4, 2) := by decide +kernel
theorem d_R_pattern_24 : decode prog_7_method_7_code 24 = .ok (.iload_n 1, 1) := by decide +kernel
theorem d_R_pattern_25 : decode prog_7_method_7_code 25 = .ok (.iconst 4, 1) := by decide +kernel
theorem d_R_pattern_26 : decode prog_7_method_7_code 26 = .ok (.bipush 7, 2) := by decide +kernel
theorem d_R_pattern_28 : decode prog_7_method_7_code 28 = .ok (.invokestatic 76, 3) := by decide +kernel
theorem d_R_pattern_31 : decode prog_7_method_7_code 31 = .ok (.ifCond .eq 13, 3) := by decide +kernel
theorem d_R_pattern_34 : decode prog_7_method_7_code 34 = .ok (.aload_n 0, 1) := by decide +kernel
theorem d_R_pattern_35 : decode prog_7_method_7_code 35 = .ok (.getfield 19, 3) := by decide +kernel
theorem d_R_pattern_38 : decode prog_7_method_7_code 38 = .ok (.iload_n 2, 1) := by decide +kernel
theorem d_R_pattern_39 : decode prog_7_method_7_code 39 = .ok (.iaload, 1) := by decide +kernel
theorem d_R_pattern_40 : decode prog_7_method_7_code 40 = .ok (.iconst 1, 1) := by decide +kernel
theorem d_R_pattern_41 : decode prog_7_method_7_code 41 = .ok (.iadd, 1) := by decide +kernel
theorem d_R_pattern_42 : decode prog_7_method_7_code 42 = .ok (.istore 4, 2) := by decide +kernel
theorem d_R_pattern_44 : decode prog_7_method_7_code 44 = .ok (.iload_n 1, 1) := by decide +kernel
theorem d_R_pattern_45 : decode prog_7_method_7_code 45 = .ok (.bipush 8, 2) := by decide +kernel
theorem d_R_pattern_47 : decode prog_7_method_7_code 47 = .ok (.bipush 9, 2) := by decide +kernel
theorem d_R_pattern_49 : decode prog_7_method_7_code 49 = .ok (.invokestatic 76, 3) := by decide +kernel
theorem d_R_pattern_52 : decode prog_7_method_7_code 52 = .ok (.ifCond .ne 24, 3) := by decide +kernel
theorem d_R_pattern_55 : decode prog_7_method_7_code 55 = .ok (.iload_n 1, 1) := by decide +kernel
theorem d_R_pattern_56 : decode prog_7_method_7_code 56 = .ok (.iconst 4, 1) := by decide +kernel
theorem d_R_pattern_57 : decode prog_7_method_7_code 57 = .ok (.bipush 6, 2) := by decide +kernel
theorem d_R_pattern_59 : decode prog_7_method_7_code 59 = .ok (.invokestatic 76, 3) := by decide +kernel
theorem d_R_pattern_62 : decode prog_7_method_7_code 62 = .ok (.ifCond .eq 24, 3) := by decide +kernel
theorem d_R_pattern_65 : decode prog_7_method_7_code 65 = .ok (.aload_n 0, 1) := by decide +kernel
theorem d_R_pattern_66 : decode prog_7_method_7_code 66 = .ok (.getfield 19, 3) := by decide +kernel
theorem d_R_pattern_69 : decode prog_7_method_7_code 69 = .ok (.iload_n 3, 1) := by decide +kernel
theorem d_R_pattern_70 : decode prog_7_method_7_code 70 = .ok (.iaload, 1) := by decide +kernel
theorem d_R_pattern_71 : decode prog_7_method_7_code 71 = .ok (.iload 4, 2) := by decide +kernel
theorem d_R_pattern_73 : decode prog_7_method_7_code 73 = .ok (.if_icmp .lt 13, 3) := by decide +kernel
theorem d_R_pattern_76 : decode prog_7_method_7_code 76 = .ok (.aload_n 0, 1) := by decide +kernel
theorem d_R_pattern_77 : decode prog_7_method_7_code 77 = .ok (.getfield 19, 3) := by decide +kernel
theorem d_R_pattern_80 : decode prog_7_method_7_code 80 = .ok (.iload_n 3, 1) := by decide +kernel
theorem d_R_pattern_81 : decode prog_7_method_7_code 81 = .ok (.iaload, 1) := by decide +kernel
theorem d_R_pattern_82 : decode prog_7_method_7_code 82 = .ok (.iconst 1, 1) := by decide +kernel
theorem d_R_pattern_83 : decode prog_7_method_7_code 83 = .ok (.iadd, 1) := by decide +kernel
theorem d_R_pattern_84 : decode prog_7_method_7_code 84 = .ok (.istore 4, 2) := by decide +kernel
theorem d_R_pattern_86 : decode prog_7_method_7_code 86 = .ok (.aload_n 0, 1) := by decide +kernel
theorem d_R_pattern_87 : decode prog_7_method_7_code 87 = .ok (.getfield 73, 3) := by decide +kernel
theorem d_R_pattern_90 : decode prog_7_method_7_code 90 = .ok (.bipush 40, 2) := by decide +kernel
theorem d_R_pattern_92 : decode prog_7_method_7_code 92 = .ok (.if_icmp .eq 9, 3) := by decide +kernel
theorem d_R_pattern_95 : decode prog_7_method_7_code 95 = .ok (.iload 4, 2) := by decide +kernel
theorem d_R_pattern_97 : decode prog_7_method_7_code 97 = .ok (.iconst 5, 1) := by decide +kernel
theorem d_R_pattern_98 : decode prog_7_method_7_code 98 = .ok (.if_icmp .le 9, 3) := by decide +kernel
theorem d_R_pattern_101 : decode prog_7_method_7_code 101 = .ok (.aload_n 0, 1) := by decide +kernel
theorem d_R_pattern_102 : decode prog_7_method_7_code 102 = .ok (.iconst 2, 1) := by decide +kernel
theorem d_R_pattern_103 : decode prog_7_method_7_code 103 = .ok (.invokevirtual 87, 3) := by decide +kernel
theorem d_R_pattern_106 : decode prog_7_method_7_code 106 = .ok (.ireturn, 1) := by decide +kernel
theorem d_R_pattern_107 : decode prog_7_method_7_code 107 = .ok (.aload_n 0, 1) := by decide +kernel
theorem d_R_pattern_108 : decode prog_7_method_7_code 108 = .ok (.getfield 7, 3) := by decide +kernel
theorem d_R_pattern_111 : decode prog_7_method_7_code 111 = .ok (.aload_n 0, 1) := by decide +kernel
theorem d_R_pattern_112 : decode prog_7_method_7_code 112 = .ok (.getfield 73, 3) := by decide +kernel
theorem d_R_pattern_115 : decode prog_7_method_7_code 115 = .ok (.iload_n 1, 1) := by decide +kernel
theorem d_R_pattern_116 : decode prog_7_method_7_code 116 = .ok (.iastore, 1) := by decide +kernel
theorem d_R_pattern_117 : decode prog_7_method_7_code 117 = .ok (.aload_n 0, 1) := by decide +kernel
theorem d_R_pattern_118 : decode prog_7_method_7_code 118 = .ok (.getfield 13, 3) := by decide +kernel
theorem d_R_pattern_121 : decode prog_7_method_7_code 121 = .ok (.aload_n 0, 1) := by decide +kernel
theorem d_R_pattern_122 : decode prog_7_method_7_code 122 = .ok (.getfield 73, 3) := by decide +kernel
theorem d_R_pattern_125 : decode prog_7_method_7_code 125 = .ok (.iload_n 2, 1) := by decide +kernel
theorem d_R_pattern_126 : decode prog_7_method_7_code 126 = .ok (.iastore, 1) := by decide +kernel
theorem d_R_pattern_127 : decode prog_7_method_7_code 127 = .ok (.aload_n 0, 1) := by decide +kernel
theorem d_R_pattern_128 : decode prog_7_method_7_code 128 = .ok (.getfield 16, 3) := by decide +kernel
theorem d_R_pattern_131 : decode prog_7_method_7_code 131 = .ok (.aload_n 0, 1) := by decide +kernel
theorem d_R_pattern_132 : decode prog_7_method_7_code 132 = .ok (.getfield 73, 3) := by decide +kernel
theorem d_R_pattern_135 : decode prog_7_method_7_code 135 = .ok (.iload_n 3, 1) := by decide +kernel
theorem d_R_pattern_136 : decode prog_7_method_7_code 136 = .ok (.iastore, 1) := by decide +kernel
theorem d_R_pattern_137 : decode prog_7_method_7_code 137 = .ok (.aload_n 0, 1) := by decide +kernel
theorem d_R_pattern_138 : decode prog_7_method_7_code 138 = .ok (.getfield 19, 3) := by decide +kernel
theorem d_R_pattern_141 : decode prog_7_method_7_code 141 = .ok (.aload_n 0, 1) := by decide +kernel
theorem d_R_pattern_142 : decode prog_7_method_7_code 142 = .ok (.getfield 73, 3) := by decide +kernel
theorem d_R_pattern_145 : decode prog_7_method_7_code 145 = .ok (.iload 4, 2) := by decide +kernel
theorem d_R_pattern_147 : decode prog_7_method_7_code 147 = .ok (.iastore, 1) := by decide +kernel
theorem d_R_pattern_148 : decode prog_7_method_7_code 148 = .ok (.aload_n 0, 1) := by decide +kernel
theorem d_R_pattern_149 : decode prog_7_method_7_code 149 = .ok (.dup, 1) := by decide +kernel
theorem d_R_pattern_150 : decode prog_7_method_7_code 150 = .ok (.getfield 73, 3) := by decide +kernel
theorem d_R_pattern_153 : decode prog_7_method_7_code 153 = .ok (.iconst 1, 1) := by decide +kernel
theorem d_R_pattern_154 : decode prog_7_method_7_code 154 = .ok (.iadd, 1) := by decide +kernel
theorem d_R_pattern_155 : decode prog_7_method_7_code 155 = .ok (.putfield 73, 3) := by decide +kernel
theorem d_R_pattern_158 : decode prog_7_method_7_code 158 = .ok (.aload_n 0, 1) := by decide +kernel
theorem d_R_pattern_159 : decode prog_7_method_7_code 159 = .ok (.getfield 73, 3) := by decide +kernel
theorem d_R_pattern_162 : decode prog_7_method_7_code 162 = .ok (.iconst 1, 1) := by decide +kernel
theorem d_R_pattern_163 : decode prog_7_method_7_code 163 = .ok (.isub, 1) := by decide +kernel
theorem d_R_pattern_164 : decode prog_7_method_7_code 164 = .ok (.ireturn, 1) := by decide +kernel
abbrev M_R_fits : vg_M := (⟨2, 0, 0, 43⟩, 4, prog_7_method_6_code, ⟨"PatternValidatorModel", "fits", "(III)Z"⟩, some .boolean, Cond.code ⟨"PatternValidatorModel", "fits", "(III)Z"⟩ prog_7_method_6_code 4 (some .boolean))
theorem d_R_fits_0 : decode prog_7_method_6_code 0 = .ok (.iload_n 1, 1) := by decide +kernel
theorem d_R_fits_1 : decode prog_7_method_6_code 1 = .ok (.tableswitch 120 0 10 #[59, 59, 59, 59, 61, 61, 61, 83, 89, 89, 113], 59) := by decide +kernel
theorem d_R_fits_60 : decode prog_7_method_6_code 60 = .ok (.iconst 1, 1) := by decide +kernel
theorem d_R_fits_61 : decode prog_7_method_6_code 61 = .ok (.ireturn, 1) := by decide +kernel
theorem d_R_fits_62 : decode prog_7_method_6_code 62 = .ok (.aload_n 0, 1) := by decide +kernel
theorem d_R_fits_63 : decode prog_7_method_6_code 63 = .ok (.iload_n 2, 1) := by decide +kernel
theorem d_R_fits_64 : decode prog_7_method_6_code 64 = .ok (.invokevirtual 80, 3) := by decide +kernel
theorem d_R_fits_67 : decode prog_7_method_6_code 67 = .ok (.ifCond .eq 15, 3) := by decide +kernel
theorem d_R_fits_70 : decode prog_7_method_6_code 70 = .ok (.aload_n 0, 1) := by decide +kernel
theorem d_R_fits_71 : decode prog_7_method_6_code 71 = .ok (.iload_n 3, 1) := by decide +kernel
theorem d_R_fits_72 : decode prog_7_method_6_code 72 = .ok (.invokevirtual 80, 3) := by decide +kernel
theorem d_R_fits_75 : decode prog_7_method_6_code 75 = .ok (.ifCond .eq 7, 3) := by decide +kernel
theorem d_R_fits_78 : decode prog_7_method_6_code 78 = .ok (.iconst 1, 1) := by decide +kernel
theorem d_R_fits_79 : decode prog_7_method_6_code 79 = .ok (.goto 4, 3) := by decide +kernel
theorem d_R_fits_82 : decode prog_7_method_6_code 82 = .ok (.iconst 0, 1) := by decide +kernel
theorem d_R_fits_83 : decode prog_7_method_6_code 83 = .ok (.ireturn, 1) := by decide +kernel
theorem d_R_fits_84 : decode prog_7_method_6_code 84 = .ok (.aload_n 0, 1) := by decide +kernel
theorem d_R_fits_85 : decode prog_7_method_6_code 85 = .ok (.iload_n 2, 1) := by decide +kernel
theorem d_R_fits_86 : decode prog_7_method_6_code 86 = .ok (.invokevirtual 80, 3) := by decide +kernel
theorem d_R_fits_89 : decode prog_7_method_6_code 89 = .ok (.ireturn, 1) := by decide +kernel
theorem d_R_fits_90 : decode prog_7_method_6_code 90 = .ok (.iload_n 2, 1) := by decide +kernel
theorem d_R_fits_91 : decode prog_7_method_6_code 91 = .ok (.iconst 0, 1) := by decide +kernel
theorem d_R_fits_92 : decode prog_7_method_6_code 92 = .ok (.bipush 6, 2) := by decide +kernel
theorem d_R_fits_94 : decode prog_7_method_6_code 94 = .ok (.invokestatic 76, 3) := by decide +kernel
theorem d_R_fits_97 : decode prog_7_method_6_code 97 = .ok (.ifCond .eq 15, 3) := by decide +kernel
theorem d_R_fits_100 : decode prog_7_method_6_code 100 = .ok (.aload_n 0, 1) := by decide +kernel
theorem d_R_fits_101 : decode prog_7_method_6_code 101 = .ok (.iload_n 3, 1) := by decide +kernel
theorem d_R_fits_102 : decode prog_7_method_6_code 102 = .ok (.invokevirtual 80, 3) := by decide +kernel
theorem d_R_fits_105 : decode prog_7_method_6_code 105 = .ok (.ifCond .eq 7, 3) := by decide +kernel
theorem d_R_fits_108 : decode prog_7_method_6_code 108 = .ok (.iconst 1, 1) := by decide +kernel
theorem d_R_fits_109 : decode prog_7_method_6_code 109 = .ok (.goto 4, 3) := by decide +kernel
theorem d_R_fits_112 : decode prog_7_method_6_code 112 = .ok (.iconst 0, 1) := by decide +kernel
theorem d_R_fits_113 : decode prog_7_method_6_code 113 = .ok (.ireturn, 1) := by decide +kernel
theorem d_R_fits_114 : decode prog_7_method_6_code 114 = .ok (.iload_n 2, 1) := by decide +kernel
theorem d_R_fits_115 : decode prog_7_method_6_code 115 = .ok (.iconst 0, 1) := by decide +kernel
theorem d_R_fits_116 : decode prog_7_method_6_code 116 = .ok (.iconst 3, 1) := by decide +kernel
theorem d_R_fits_117 : decode prog_7_method_6_code 117 = .ok (.invokestatic 76, 3) := by decide +kernel
theorem d_R_fits_120 : decode prog_7_method_6_code 120 = .ok (.ireturn, 1) := by decide +kernel
theorem d_R_fits_121 : decode prog_7_method_6_code 121 = .ok (.iconst 0, 1) := by decide +kernel
theorem d_R_fits_122 : decode prog_7_method_6_code 122 = .ok (.ireturn, 1) := by decide +kernel
abbrev M_R_made : vg_M := (⟨1, 0, 0, 22⟩, 2, prog_7_method_5_code, ⟨"PatternValidatorModel", "made", "(I)Z"⟩, some .boolean, Cond.code ⟨"PatternValidatorModel", "made", "(I)Z"⟩ prog_7_method_5_code 2 (some .boolean))
theorem d_R_made_0 : decode prog_7_method_5_code 0 = .ok (.iload_n 1, 1) := by decide +kernel
theorem d_R_made_1 : decode prog_7_method_5_code 1 = .ok (.iconst 0, 1) := by decide +kernel
theorem d_R_made_2 : decode prog_7_method_5_code 2 = .ok (.aload_n 0, 1) := by decide +kernel
theorem d_R_made_3 : decode prog_7_method_5_code 3 = .ok (.getfield 73, 3) := by decide +kernel
theorem d_R_made_6 : decode prog_7_method_5_code 6 = .ok (.iconst 1, 1) := by decide +kernel
theorem d_R_made_7 : decode prog_7_method_5_code 7 = .ok (.isub, 1) := by decide +kernel
theorem d_R_made_8 : decode prog_7_method_5_code 8 = .ok (.invokestatic 76, 3) := by decide +kernel
theorem d_R_made_11 : decode prog_7_method_5_code 11 = .ok (.ireturn, 1) := by decide +kernel
abbrev M_R_in : vg_M := (⟨0, 0, 0, 0⟩, 3, prog_7_method_4_code, ⟨"PatternValidatorModel", "in", "(III)Z"⟩, some .boolean, Cond.code ⟨"PatternValidatorModel", "in", "(III)Z"⟩ prog_7_method_4_code 3 (some .boolean))
theorem d_R_in_0 : decode prog_7_method_4_code 0 = .ok (.iload_n 0, 1) := by decide +kernel
theorem d_R_in_1 : decode prog_7_method_4_code 1 = .ok (.iload_n 1, 1) := by decide +kernel
theorem d_R_in_2 : decode prog_7_method_4_code 2 = .ok (.if_icmp .lt 12, 3) := by decide +kernel
theorem d_R_in_5 : decode prog_7_method_4_code 5 = .ok (.iload_n 0, 1) := by decide +kernel
theorem d_R_in_6 : decode prog_7_method_4_code 6 = .ok (.iload_n 2, 1) := by decide +kernel
theorem d_R_in_7 : decode prog_7_method_4_code 7 = .ok (.if_icmp .gt 7, 3) := by decide +kernel
theorem d_R_in_10 : decode prog_7_method_4_code 10 = .ok (.iconst 1, 1) := by decide +kernel
theorem d_R_in_11 : decode prog_7_method_4_code 11 = .ok (.goto 4, 3) := by decide +kernel
theorem d_R_in_14 : decode prog_7_method_4_code 14 = .ok (.iconst 0, 1) := by decide +kernel
theorem d_R_in_15 : decode prog_7_method_4_code 15 = .ok (.ireturn, 1) := by decide +kernel
abbrev M_R_raise : vg_M := (⟨0, 0, 0, 0⟩, 2, prog_7_method_3_code, ⟨"PatternValidatorModel", "raise", "(I)I"⟩, some .int, Cond.code ⟨"PatternValidatorModel", "raise", "(I)I"⟩ prog_7_method_3_code 2 (some .int))
theorem d_R_raise_0 : decode prog_7_method_3_code 0 = .ok (.aload_n 0, 1) := by decide +kernel
theorem d_R_raise_1 : decode prog_7_method_3_code 1 = .ok (.iload_n 1, 1) := by decide +kernel
theorem d_R_raise_2 : decode prog_7_method_3_code 2 = .ok (.putfield 70, 3) := by decide +kernel
theorem d_R_raise_5 : decode prog_7_method_3_code 5 = .ok (.iconst 0, 1) := by decide +kernel
theorem d_R_raise_6 : decode prog_7_method_3_code 6 = .ok (.ireturn, 1) := by decide +kernel
abbrev M_R_define : vg_M := (⟨2, 0, 0, 47⟩, 4, prog_7_method_9_code, ⟨"PatternValidatorModel", "define", "(II)I"⟩, some .int, Cond.code ⟨"PatternValidatorModel", "define", "(II)I"⟩ prog_7_method_9_code 4 (some .int))
theorem d_R_define_0 : decode prog_7_method_9_code 0 = .ok (.aload_n 0, 1) := by decide +kernel
theorem d_R_define_1 : decode prog_7_method_9_code 1 = .ok (.iconst 0, 1) := by decide +kernel
theorem d_R_define_2 : decode prog_7_method_9_code 2 = .ok (.putfield 70, 3) := by decide +kernel
theorem d_R_define_5 : decode prog_7_method_9_code 5 = .ok (.iload_n 1, 1) := by decide +kernel
theorem d_R_define_6 : decode prog_7_method_9_code 6 = .ok (.iconst 0, 1) := by decide +kernel
theorem d_R_define_7 : decode prog_7_method_9_code 7 = .ok (.iconst 3, 1) := by decide +kernel
theorem d_R_define_8 : decode prog_7_method_9_code 8 = .ok (.invokestatic 76, 3) := by decide +kernel
theorem d_R_define_11 : decode prog_7_method_9_code 11 = .ok (.ifCond .ne 9, 3) := by decide +kernel
theorem d_R_define_14 : decode prog_7_method_9_code 14 = .ok (.aload_n 0, 1) := by decide +kernel
theorem d_R_define_15 : decode prog_7_method_9_code 15 = .ok (.iconst 1, 1) := by decide +kernel
theorem d_R_define_16 : decode prog_7_method_9_code 16 = .ok (.invokevirtual 87, 3) := by decide +kernel
theorem d_R_define_19 : decode prog_7_method_9_code 19 = .ok (.ireturn, 1) := by decide +kernel
theorem d_R_define_20 : decode prog_7_method_9_code 20 = .ok (.aload_n 0, 1) := by decide +kernel
theorem d_R_define_21 : decode prog_7_method_9_code 21 = .ok (.iload_n 2, 1) := by decide +kernel
theorem d_R_define_22 : decode prog_7_method_9_code 22 = .ok (.invokevirtual 80, 3) := by decide +kernel
theorem d_R_define_25 : decode prog_7_method_9_code 25 = .ok (.ifCond .ne 9, 3) := by decide +kernel
theorem d_R_define_28 : decode prog_7_method_9_code 28 = .ok (.aload_n 0, 1) := by decide +kernel
theorem d_R_define_29 : decode prog_7_method_9_code 29 = .ok (.iconst 2, 1) := by decide +kernel
theorem d_R_define_30 : decode prog_7_method_9_code 30 = .ok (.invokevirtual 87, 3) := by decide +kernel
theorem d_R_define_33 : decode prog_7_method_9_code 33 = .ok (.ireturn, 1) := by decide +kernel
theorem d_R_define_34 : decode prog_7_method_9_code 34 = .ok (.aload_n 0, 1) := by decide +kernel
theorem d_R_define_35 : decode prog_7_method_9_code 35 = .ok (.iload_n 2, 1) := by decide +kernel
theorem d_R_define_36 : decode prog_7_method_9_code 36 = .ok (.iload_n 1, 1) := by decide +kernel
theorem d_R_define_37 : decode prog_7_method_9_code 37 = .ok (.invokevirtual 91, 3) := by decide +kernel
theorem d_R_define_40 : decode prog_7_method_9_code 40 = .ok (.ifCond .eq 9, 3) := by decide +kernel
theorem d_R_define_43 : decode prog_7_method_9_code 43 = .ok (.aload_n 0, 1) := by decide +kernel
theorem d_R_define_44 : decode prog_7_method_9_code 44 = .ok (.iconst 3, 1) := by decide +kernel
theorem d_R_define_45 : decode prog_7_method_9_code 45 = .ok (.invokevirtual 87, 3) := by decide +kernel
theorem d_R_define_48 : decode prog_7_method_9_code 48 = .ok (.ireturn, 1) := by decide +kernel
theorem d_R_define_49 : decode prog_7_method_9_code 49 = .ok (.aload_n 0, 1) := by decide +kernel
theorem d_R_define_50 : decode prog_7_method_9_code 50 = .ok (.getfield 22, 3) := by decide +kernel
theorem d_R_define_53 : decode prog_7_method_9_code 53 = .ok (.iload_n 1, 1) := by decide +kernel
theorem d_R_define_54 : decode prog_7_method_9_code 54 = .ok (.iaload, 1) := by decide +kernel
theorem d_R_define_55 : decode prog_7_method_9_code 55 = .ok (.ifCond .lt 7, 3) := by decide +kernel
theorem d_R_define_58 : decode prog_7_method_9_code 58 = .ok (.iconst 1, 1) := by decide +kernel
theorem d_R_define_59 : decode prog_7_method_9_code 59 = .ok (.goto 4, 3) := by decide +kernel
theorem d_R_define_62 : decode prog_7_method_9_code 62 = .ok (.iconst 0, 1) := by decide +kernel
theorem d_R_define_63 : decode prog_7_method_9_code 63 = .ok (.istore_n 3, 1) := by decide +kernel
theorem d_R_define_64 : decode prog_7_method_9_code 64 = .ok (.aload_n 0, 1) := by decide +kernel
theorem d_R_define_65 : decode prog_7_method_9_code 65 = .ok (.getfield 22, 3) := by decide +kernel
theorem d_R_define_68 : decode prog_7_method_9_code 68 = .ok (.iload_n 1, 1) := by decide +kernel
theorem d_R_define_69 : decode prog_7_method_9_code 69 = .ok (.iload_n 2, 1) := by decide +kernel
theorem d_R_define_70 : decode prog_7_method_9_code 70 = .ok (.iastore, 1) := by decide +kernel
theorem d_R_define_71 : decode prog_7_method_9_code 71 = .ok (.iload_n 3, 1) := by decide +kernel
theorem d_R_define_72 : decode prog_7_method_9_code 72 = .ok (.ifCond .eq 7, 3) := by decide +kernel
theorem d_R_define_75 : decode prog_7_method_9_code 75 = .ok (.iconst 0, 1) := by decide +kernel
theorem d_R_define_76 : decode prog_7_method_9_code 76 = .ok (.goto 4, 3) := by decide +kernel
theorem d_R_define_79 : decode prog_7_method_9_code 79 = .ok (.iconst 1, 1) := by decide +kernel
theorem d_R_define_80 : decode prog_7_method_9_code 80 = .ok (.ireturn, 1) := by decide +kernel
abbrev M_R_comes : vg_M := (⟨1, 0, 0, 22⟩, 6, prog_7_method_8_code, ⟨"PatternValidatorModel", "comes", "(II)Z"⟩, some .boolean, Cond.code ⟨"PatternValidatorModel", "comes", "(II)Z"⟩ prog_7_method_8_code 6 (some .boolean))
theorem d_R_comes_0 : decode prog_7_method_8_code 0 = .ok (.iconst 0, 1) := by decide +kernel
theorem d_R_comes_1 : decode prog_7_method_8_code 1 = .ok (.istore_n 3, 1) := by decide +kernel
theorem d_R_comes_2 : decode prog_7_method_8_code 2 = .ok (.iload_n 3, 1) := by decide +kernel
theorem d_R_comes_3 : decode prog_7_method_8_code 3 = .ok (.bipush 40, 2) := by decide +kernel
theorem d_R_comes_5 : decode prog_7_method_8_code 5 = .ok (.if_icmp .ge 16, 3) := by decide +kernel
theorem d_R_comes_8 : decode prog_7_method_8_code 8 = .ok (.aload_n 0, 1) := by decide +kernel
theorem d_R_comes_9 : decode prog_7_method_8_code 9 = .ok (.getfield 64, 3) := by decide +kernel
theorem d_R_comes_12 : decode prog_7_method_8_code 12 = .ok (.iload_n 3, 1) := by decide +kernel
theorem d_R_comes_13 : decode prog_7_method_8_code 13 = .ok (.iconst 0, 1) := by decide +kernel
theorem d_R_comes_14 : decode prog_7_method_8_code 14 = .ok (.bastore, 1) := by decide +kernel
theorem d_R_comes_15 : decode prog_7_method_8_code 15 = .ok (.iinc 3 1, 3) := by decide +kernel
theorem d_R_comes_18 : decode prog_7_method_8_code 18 = .ok (.goto (-16), 3) := by decide +kernel
theorem d_R_comes_21 : decode prog_7_method_8_code 21 = .ok (.iconst 0, 1) := by decide +kernel
theorem d_R_comes_22 : decode prog_7_method_8_code 22 = .ok (.istore_n 3, 1) := by decide +kernel
theorem d_R_comes_23 : decode prog_7_method_8_code 23 = .ok (.iload_n 3, 1) := by decide +kernel
theorem d_R_comes_24 : decode prog_7_method_8_code 24 = .ok (.bipush 42, 2) := by decide +kernel
theorem d_R_comes_26 : decode prog_7_method_8_code 26 = .ok (.if_icmp .ge 206, 3) := by decide +kernel
theorem d_R_comes_29 : decode prog_7_method_8_code 29 = .ok (.iconst 0, 1) := by decide +kernel
theorem d_R_comes_30 : decode prog_7_method_8_code 30 = .ok (.istore 4, 2) := by decide +kernel
theorem d_R_comes_32 : decode prog_7_method_8_code 32 = .ok (.iload 4, 2) := by decide +kernel
theorem d_R_comes_34 : decode prog_7_method_8_code 34 = .ok (.aload_n 0, 1) := by decide +kernel
theorem d_R_comes_35 : decode prog_7_method_8_code 35 = .ok (.getfield 73, 3) := by decide +kernel
theorem d_R_comes_38 : decode prog_7_method_8_code 38 = .ok (.if_icmp .ge 188, 3) := by decide +kernel
theorem d_R_comes_41 : decode prog_7_method_8_code 41 = .ok (.aload_n 0, 1) := by decide +kernel
theorem d_R_comes_42 : decode prog_7_method_8_code 42 = .ok (.getfield 7, 3) := by decide +kernel
theorem d_R_comes_45 : decode prog_7_method_8_code 45 = .ok (.iload 4, 2) := by decide +kernel
theorem d_R_comes_47 : decode prog_7_method_8_code 47 = .ok (.iaload, 1) := by decide +kernel
theorem d_R_comes_48 : decode prog_7_method_8_code 48 = .ok (.istore 5, 2) := by decide +kernel
theorem d_R_comes_50 : decode prog_7_method_8_code 50 = .ok (.iload 5, 2) := by decide +kernel
theorem d_R_comes_52 : decode prog_7_method_8_code 52 = .ok (.bipush 10, 2) := by decide +kernel
theorem d_R_comes_54 : decode prog_7_method_8_code 54 = .ok (.if_icmp .ne 61, 3) := by decide +kernel
theorem d_R_comes_57 : decode prog_7_method_8_code 57 = .ok (.aload_n 0, 1) := by decide +kernel
theorem d_R_comes_58 : decode prog_7_method_8_code 58 = .ok (.getfield 64, 3) := by decide +kernel
theorem d_R_comes_61 : decode prog_7_method_8_code 61 = .ok (.iload 4, 2) := by decide +kernel
theorem d_R_comes_63 : decode prog_7_method_8_code 63 = .ok (.aload_n 0, 1) := by decide +kernel
theorem d_R_comes_64 : decode prog_7_method_8_code 64 = .ok (.getfield 13, 3) := by decide +kernel
theorem d_R_comes_67 : decode prog_7_method_8_code 67 = .ok (.iload 4, 2) := by decide +kernel
theorem d_R_comes_69 : decode prog_7_method_8_code 69 = .ok (.iaload, 1) := by decide +kernel
theorem d_R_comes_70 : decode prog_7_method_8_code 70 = .ok (.iload_n 2, 1) := by decide +kernel
theorem d_R_comes_71 : decode prog_7_method_8_code 71 = .ok (.if_icmp .eq 38, 3) := by decide +kernel
theorem d_R_comes_74 : decode prog_7_method_8_code 74 = .ok (.aload_n 0, 1) := by decide +kernel
theorem d_R_comes_75 : decode prog_7_method_8_code 75 = .ok (.getfield 22, 3) := by decide +kernel
theorem d_R_comes_78 : decode prog_7_method_8_code 78 = .ok (.aload_n 0, 1) := by decide +kernel
theorem d_R_comes_79 : decode prog_7_method_8_code 79 = .ok (.getfield 13, 3) := by decide +kernel
theorem d_R_comes_82 : decode prog_7_method_8_code 82 = .ok (.iload 4, 2) := by decide +kernel
theorem d_R_comes_84 : decode prog_7_method_8_code 84 = .ok (.iaload, 1) := by decide +kernel
theorem d_R_comes_85 : decode prog_7_method_8_code 85 = .ok (.iaload, 1) := by decide +kernel
theorem d_R_comes_86 : decode prog_7_method_8_code 86 = .ok (.ifCond .lt 27, 3) := by decide +kernel
theorem d_R_comes_89 : decode prog_7_method_8_code 89 = .ok (.aload_n 0, 1) := by decide +kernel
theorem d_R_comes_90 : decode prog_7_method_8_code 90 = .ok (.getfield 64, 3) := by decide +kernel
theorem d_R_comes_93 : decode prog_7_method_8_code 93 = .ok (.aload_n 0, 1) := by decide +kernel
theorem d_R_comes_94 : decode prog_7_method_8_code 94 = .ok (.getfield 22, 3) := by decide +kernel
theorem d_R_comes_97 : decode prog_7_method_8_code 97 = .ok (.aload_n 0, 1) := by decide +kernel
theorem d_R_comes_98 : decode prog_7_method_8_code 98 = .ok (.getfield 13, 3) := by decide +kernel
theorem d_R_comes_101 : decode prog_7_method_8_code 101 = .ok (.iload 4, 2) := by decide +kernel
theorem d_R_comes_103 : decode prog_7_method_8_code 103 = .ok (.iaload, 1) := by decide +kernel
theorem d_R_comes_104 : decode prog_7_method_8_code 104 = .ok (.iaload, 1) := by decide +kernel
theorem d_R_comes_105 : decode prog_7_method_8_code 105 = .ok (.baload, 1) := by decide +kernel
theorem d_R_comes_106 : decode prog_7_method_8_code 106 = .ok (.ifCond .eq 7, 3) := by decide +kernel
theorem d_R_comes_109 : decode prog_7_method_8_code 109 = .ok (.iconst 1, 1) := by decide +kernel
theorem d_R_comes_110 : decode prog_7_method_8_code 110 = .ok (.goto 4, 3) := by decide +kernel
theorem d_R_comes_113 : decode prog_7_method_8_code 113 = .ok (.iconst 0, 1) := by decide +kernel
theorem d_R_comes_114 : decode prog_7_method_8_code 114 = .ok (.bastore, 1) := by decide +kernel
theorem d_R_comes_115 : decode prog_7_method_8_code 115 = .ok (.iload 5, 2) := by decide +kernel
theorem d_R_comes_117 : decode prog_7_method_8_code 117 = .ok (.iconst 4, 1) := by decide +kernel
theorem d_R_comes_118 : decode prog_7_method_8_code 118 = .ok (.bipush 6, 2) := by decide +kernel
theorem d_R_comes_120 : decode prog_7_method_8_code 120 = .ok (.invokestatic 76, 3) := by decide +kernel
theorem d_R_comes_123 : decode prog_7_method_8_code 123 = .ok (.ifCond .eq 45, 3) := by decide +kernel
theorem d_R_comes_126 : decode prog_7_method_8_code 126 = .ok (.aload_n 0, 1) := by decide +kernel
theorem d_R_comes_127 : decode prog_7_method_8_code 127 = .ok (.getfield 64, 3) := by decide +kernel
theorem d_R_comes_130 : decode prog_7_method_8_code 130 = .ok (.iload 4, 2) := by decide +kernel
theorem d_R_comes_132 : decode prog_7_method_8_code 132 = .ok (.aload_n 0, 1) := by decide +kernel
theorem d_R_comes_133 : decode prog_7_method_8_code 133 = .ok (.getfield 64, 3) := by decide +kernel
theorem d_R_comes_136 : decode prog_7_method_8_code 136 = .ok (.aload_n 0, 1) := by decide +kernel
theorem d_R_comes_137 : decode prog_7_method_8_code 137 = .ok (.getfield 13, 3) := by decide +kernel
theorem d_R_comes_140 : decode prog_7_method_8_code 140 = .ok (.iload 4, 2) := by decide +kernel
theorem d_R_comes_142 : decode prog_7_method_8_code 142 = .ok (.iaload, 1) := by decide +kernel
theorem d_R_comes_143 : decode prog_7_method_8_code 143 = .ok (.baload, 1) := by decide +kernel
theorem d_R_comes_144 : decode prog_7_method_8_code 144 = .ok (.ifCond .ne 18, 3) := by decide +kernel
theorem d_R_comes_147 : decode prog_7_method_8_code 147 = .ok (.aload_n 0, 1) := by decide +kernel
theorem d_R_comes_148 : decode prog_7_method_8_code 148 = .ok (.getfield 64, 3) := by decide +kernel
theorem d_R_comes_151 : decode prog_7_method_8_code 151 = .ok (.aload_n 0, 1) := by decide +kernel
theorem d_R_comes_152 : decode prog_7_method_8_code 152 = .ok (.getfield 16, 3) := by decide +kernel
theorem d_R_comes_155 : decode prog_7_method_8_code 155 = .ok (.iload 4, 2) := by decide +kernel
theorem d_R_comes_157 : decode prog_7_method_8_code 157 = .ok (.iaload, 1) := by decide +kernel
theorem d_R_comes_158 : decode prog_7_method_8_code 158 = .ok (.baload, 1) := by decide +kernel
theorem d_R_comes_159 : decode prog_7_method_8_code 159 = .ok (.ifCond .eq 7, 3) := by decide +kernel
theorem d_R_comes_162 : decode prog_7_method_8_code 162 = .ok (.iconst 1, 1) := by decide +kernel
theorem d_R_comes_163 : decode prog_7_method_8_code 163 = .ok (.goto 4, 3) := by decide +kernel
theorem d_R_comes_166 : decode prog_7_method_8_code 166 = .ok (.iconst 0, 1) := by decide +kernel
theorem d_R_comes_167 : decode prog_7_method_8_code 167 = .ok (.bastore, 1) := by decide +kernel
theorem d_R_comes_168 : decode prog_7_method_8_code 168 = .ok (.iload 5, 2) := by decide +kernel
theorem d_R_comes_170 : decode prog_7_method_8_code 170 = .ok (.bipush 7, 2) := by decide +kernel
theorem d_R_comes_172 : decode prog_7_method_8_code 172 = .ok (.if_icmp .ne 22, 3) := by decide +kernel
theorem d_R_comes_175 : decode prog_7_method_8_code 175 = .ok (.aload_n 0, 1) := by decide +kernel
theorem d_R_comes_176 : decode prog_7_method_8_code 176 = .ok (.getfield 64, 3) := by decide +kernel
theorem d_R_comes_179 : decode prog_7_method_8_code 179 = .ok (.iload 4, 2) := by decide +kernel
theorem d_R_comes_181 : decode prog_7_method_8_code 181 = .ok (.aload_n 0, 1) := by decide +kernel
theorem d_R_comes_182 : decode prog_7_method_8_code 182 = .ok (.getfield 64, 3) := by decide +kernel
theorem d_R_comes_185 : decode prog_7_method_8_code 185 = .ok (.aload_n 0, 1) := by decide +kernel
theorem d_R_comes_186 : decode prog_7_method_8_code 186 = .ok (.getfield 13, 3) := by decide +kernel
theorem d_R_comes_189 : decode prog_7_method_8_code 189 = .ok (.iload 4, 2) := by decide +kernel
theorem d_R_comes_191 : decode prog_7_method_8_code 191 = .ok (.iaload, 1) := by decide +kernel
theorem d_R_comes_192 : decode prog_7_method_8_code 192 = .ok (.baload, 1) := by decide +kernel
theorem d_R_comes_193 : decode prog_7_method_8_code 193 = .ok (.bastore, 1) := by decide +kernel
theorem d_R_comes_194 : decode prog_7_method_8_code 194 = .ok (.iload 5, 2) := by decide +kernel
theorem d_R_comes_196 : decode prog_7_method_8_code 196 = .ok (.bipush 9, 2) := by decide +kernel
theorem d_R_comes_198 : decode prog_7_method_8_code 198 = .ok (.if_icmp .ne 22, 3) := by decide +kernel
theorem d_R_comes_201 : decode prog_7_method_8_code 201 = .ok (.aload_n 0, 1) := by decide +kernel
theorem d_R_comes_202 : decode prog_7_method_8_code 202 = .ok (.getfield 64, 3) := by decide +kernel
theorem d_R_comes_205 : decode prog_7_method_8_code 205 = .ok (.iload 4, 2) := by decide +kernel
theorem d_R_comes_207 : decode prog_7_method_8_code 207 = .ok (.aload_n 0, 1) := by decide +kernel
theorem d_R_comes_208 : decode prog_7_method_8_code 208 = .ok (.getfield 64, 3) := by decide +kernel
theorem d_R_comes_211 : decode prog_7_method_8_code 211 = .ok (.aload_n 0, 1) := by decide +kernel
theorem d_R_comes_212 : decode prog_7_method_8_code 212 = .ok (.getfield 16, 3) := by decide +kernel
theorem d_R_comes_215 : decode prog_7_method_8_code 215 = .ok (.iload 4, 2) := by decide +kernel
theorem d_R_comes_217 : decode prog_7_method_8_code 217 = .ok (.iaload, 1) := by decide +kernel
theorem d_R_comes_218 : decode prog_7_method_8_code 218 = .ok (.baload, 1) := by decide +kernel
theorem d_R_comes_219 : decode prog_7_method_8_code 219 = .ok (.bastore, 1) := by decide +kernel
theorem d_R_comes_220 : decode prog_7_method_8_code 220 = .ok (.iinc 4 1, 3) := by decide +kernel
theorem d_R_comes_223 : decode prog_7_method_8_code 223 = .ok (.goto (-191), 3) := by decide +kernel
theorem d_R_comes_226 : decode prog_7_method_8_code 226 = .ok (.iinc 3 1, 3) := by decide +kernel
theorem d_R_comes_229 : decode prog_7_method_8_code 229 = .ok (.goto (-206), 3) := by decide +kernel
theorem d_R_comes_232 : decode prog_7_method_8_code 232 = .ok (.aload_n 0, 1) := by decide +kernel
theorem d_R_comes_233 : decode prog_7_method_8_code 233 = .ok (.getfield 64, 3) := by decide +kernel
theorem d_R_comes_236 : decode prog_7_method_8_code 236 = .ok (.iload_n 1, 1) := by decide +kernel
theorem d_R_comes_237 : decode prog_7_method_8_code 237 = .ok (.baload, 1) := by decide +kernel
theorem d_R_comes_238 : decode prog_7_method_8_code 238 = .ok (.ireturn, 1) := by decide +kernel
abbrev M_R_open : vg_M := (⟨1, 0, 0, 22⟩, 4, prog_7_method_10_code, ⟨"PatternValidatorModel", "open", "(I)I"⟩, some .int, Cond.code ⟨"PatternValidatorModel", "open", "(I)I"⟩ prog_7_method_10_code 4 (some .int))
theorem d_R_open_0 : decode prog_7_method_10_code 0 = .ok (.aload_n 0, 1) := by decide +kernel
theorem d_R_open_1 : decode prog_7_method_10_code 1 = .ok (.iconst 0, 1) := by decide +kernel
theorem d_R_open_2 : decode prog_7_method_10_code 2 = .ok (.putfield 70, 3) := by decide +kernel
theorem d_R_open_5 : decode prog_7_method_10_code 5 = .ok (.iload_n 1, 1) := by decide +kernel
theorem d_R_open_6 : decode prog_7_method_10_code 6 = .ok (.iconst 0, 1) := by decide +kernel
theorem d_R_open_7 : decode prog_7_method_10_code 7 = .ok (.iconst 5, 1) := by decide +kernel
theorem d_R_open_8 : decode prog_7_method_10_code 8 = .ok (.invokestatic 76, 3) := by decide +kernel
theorem d_R_open_11 : decode prog_7_method_10_code 11 = .ok (.ifCond .ne 9, 3) := by decide +kernel
theorem d_R_open_14 : decode prog_7_method_10_code 14 = .ok (.aload_n 0, 1) := by decide +kernel
theorem d_R_open_15 : decode prog_7_method_10_code 15 = .ok (.iconst 1, 1) := by decide +kernel
theorem d_R_open_16 : decode prog_7_method_10_code 16 = .ok (.invokevirtual 87, 3) := by decide +kernel
theorem d_R_open_19 : decode prog_7_method_10_code 19 = .ok (.ireturn, 1) := by decide +kernel
theorem d_R_open_20 : decode prog_7_method_10_code 20 = .ok (.aload_n 0, 1) := by decide +kernel
theorem d_R_open_21 : decode prog_7_method_10_code 21 = .ok (.getfield 95, 3) := by decide +kernel
theorem d_R_open_24 : decode prog_7_method_10_code 24 = .ok (.ifCond .le 10, 3) := by decide +kernel
theorem d_R_open_27 : decode prog_7_method_10_code 27 = .ok (.aload_n 0, 1) := by decide +kernel
theorem d_R_open_28 : decode prog_7_method_10_code 28 = .ok (.getfield 50, 3) := by decide +kernel
theorem d_R_open_31 : decode prog_7_method_10_code 31 = .ok (.ifCond .lt 12, 3) := by decide +kernel
theorem d_R_open_34 : decode prog_7_method_10_code 34 = .ok (.aload_n 0, 1) := by decide +kernel
theorem d_R_open_35 : decode prog_7_method_10_code 35 = .ok (.getfield 95, 3) := by decide +kernel
theorem d_R_open_38 : decode prog_7_method_10_code 38 = .ok (.bipush 16, 2) := by decide +kernel
theorem d_R_open_40 : decode prog_7_method_10_code 40 = .ok (.if_icmp .ne 9, 3) := by decide +kernel
theorem d_R_open_43 : decode prog_7_method_10_code 43 = .ok (.aload_n 0, 1) := by decide +kernel
theorem d_R_open_44 : decode prog_7_method_10_code 44 = .ok (.iconst 2, 1) := by decide +kernel
theorem d_R_open_45 : decode prog_7_method_10_code 45 = .ok (.invokevirtual 87, 3) := by decide +kernel
theorem d_R_open_48 : decode prog_7_method_10_code 48 = .ok (.ireturn, 1) := by decide +kernel
theorem d_R_open_49 : decode prog_7_method_10_code 49 = .ok (.aload_n 0, 1) := by decide +kernel
theorem d_R_open_50 : decode prog_7_method_10_code 50 = .ok (.getfield 50, 3) := by decide +kernel
theorem d_R_open_53 : decode prog_7_method_10_code 53 = .ok (.ifCond .lt 36, 3) := by decide +kernel
theorem d_R_open_56 : decode prog_7_method_10_code 56 = .ok (.aload_n 0, 1) := by decide +kernel
theorem d_R_open_57 : decode prog_7_method_10_code 57 = .ok (.getfield 31, 3) := by decide +kernel
theorem d_R_open_60 : decode prog_7_method_10_code 60 = .ok (.aload_n 0, 1) := by decide +kernel
theorem d_R_open_61 : decode prog_7_method_10_code 61 = .ok (.getfield 50, 3) := by decide +kernel
theorem d_R_open_64 : decode prog_7_method_10_code 64 = .ok (.iaload, 1) := by decide +kernel
theorem d_R_open_65 : decode prog_7_method_10_code 65 = .ok (.iconst 4, 1) := by decide +kernel
theorem d_R_open_66 : decode prog_7_method_10_code 66 = .ok (.if_icmp .eq 17, 3) := by decide +kernel
theorem d_R_open_69 : decode prog_7_method_10_code 69 = .ok (.aload_n 0, 1) := by decide +kernel
theorem d_R_open_70 : decode prog_7_method_10_code 70 = .ok (.getfield 47, 3) := by decide +kernel
theorem d_R_open_73 : decode prog_7_method_10_code 73 = .ok (.aload_n 0, 1) := by decide +kernel
theorem d_R_open_74 : decode prog_7_method_10_code 74 = .ok (.getfield 50, 3) := by decide +kernel
theorem d_R_open_77 : decode prog_7_method_10_code 77 = .ok (.iaload, 1) := by decide +kernel
theorem d_R_open_78 : decode prog_7_method_10_code 78 = .ok (.bipush 6, 2) := by decide +kernel
theorem d_R_open_80 : decode prog_7_method_10_code 80 = .ok (.if_icmp .ne 9, 3) := by decide +kernel
theorem d_R_open_83 : decode prog_7_method_10_code 83 = .ok (.aload_n 0, 1) := by decide +kernel
theorem d_R_open_84 : decode prog_7_method_10_code 84 = .ok (.iconst 2, 1) := by decide +kernel
theorem d_R_open_85 : decode prog_7_method_10_code 85 = .ok (.invokevirtual 87, 3) := by decide +kernel
theorem d_R_open_88 : decode prog_7_method_10_code 88 = .ok (.ireturn, 1) := by decide +kernel
theorem d_R_open_89 : decode prog_7_method_10_code 89 = .ok (.aload_n 0, 1) := by decide +kernel
theorem d_R_open_90 : decode prog_7_method_10_code 90 = .ok (.getfield 95, 3) := by decide +kernel
theorem d_R_open_93 : decode prog_7_method_10_code 93 = .ok (.istore_n 2, 1) := by decide +kernel
theorem d_R_open_94 : decode prog_7_method_10_code 94 = .ok (.aload_n 0, 1) := by decide +kernel
theorem d_R_open_95 : decode prog_7_method_10_code 95 = .ok (.dup, 1) := by decide +kernel
theorem d_R_open_96 : decode prog_7_method_10_code 96 = .ok (.getfield 95, 3) := by decide +kernel
theorem d_R_open_99 : decode prog_7_method_10_code 99 = .ok (.iconst 1, 1) := by decide +kernel
theorem d_R_open_100 : decode prog_7_method_10_code 100 = .ok (.iadd, 1) := by decide +kernel
theorem d_R_open_101 : decode prog_7_method_10_code 101 = .ok (.putfield 95, 3) := by decide +kernel
theorem d_R_open_104 : decode prog_7_method_10_code 104 = .ok (.aload_n 0, 1) := by decide +kernel
theorem d_R_open_105 : decode prog_7_method_10_code 105 = .ok (.getfield 25, 3) := by decide +kernel
theorem d_R_open_108 : decode prog_7_method_10_code 108 = .ok (.iload_n 2, 1) := by decide +kernel
theorem d_R_open_109 : decode prog_7_method_10_code 109 = .ok (.iload_n 1, 1) := by decide +kernel
theorem d_R_open_110 : decode prog_7_method_10_code 110 = .ok (.iastore, 1) := by decide +kernel
theorem d_R_open_111 : decode prog_7_method_10_code 111 = .ok (.aload_n 0, 1) := by decide +kernel
theorem d_R_open_112 : decode prog_7_method_10_code 112 = .ok (.getfield 28, 3) := by decide +kernel
theorem d_R_open_115 : decode prog_7_method_10_code 115 = .ok (.iload_n 2, 1) := by decide +kernel
theorem d_R_open_116 : decode prog_7_method_10_code 116 = .ok (.aload_n 0, 1) := by decide +kernel
theorem d_R_open_117 : decode prog_7_method_10_code 117 = .ok (.getfield 50, 3) := by decide +kernel
theorem d_R_open_120 : decode prog_7_method_10_code 120 = .ok (.iastore, 1) := by decide +kernel
theorem d_R_open_121 : decode prog_7_method_10_code 121 = .ok (.aload_n 0, 1) := by decide +kernel
theorem d_R_open_122 : decode prog_7_method_10_code 122 = .ok (.getfield 31, 3) := by decide +kernel
theorem d_R_open_125 : decode prog_7_method_10_code 125 = .ok (.iload_n 2, 1) := by decide +kernel
theorem d_R_open_126 : decode prog_7_method_10_code 126 = .ok (.aload_n 0, 1) := by decide +kernel
theorem d_R_open_127 : decode prog_7_method_10_code 127 = .ok (.getfield 50, 3) := by decide +kernel
theorem d_R_open_130 : decode prog_7_method_10_code 130 = .ok (.ifCond .ge 7, 3) := by decide +kernel
theorem d_R_open_133 : decode prog_7_method_10_code 133 = .ok (.iconst 1, 1) := by decide +kernel
theorem d_R_open_134 : decode prog_7_method_10_code 134 = .ok (.goto 14, 3) := by decide +kernel
theorem d_R_open_137 : decode prog_7_method_10_code 137 = .ok (.aload_n 0, 1) := by decide +kernel
theorem d_R_open_138 : decode prog_7_method_10_code 138 = .ok (.getfield 31, 3) := by decide +kernel
theorem d_R_open_141 : decode prog_7_method_10_code 141 = .ok (.aload_n 0, 1) := by decide +kernel
theorem d_R_open_142 : decode prog_7_method_10_code 142 = .ok (.getfield 50, 3) := by decide +kernel
theorem d_R_open_145 : decode prog_7_method_10_code 145 = .ok (.iaload, 1) := by decide +kernel
theorem d_R_open_146 : decode prog_7_method_10_code 146 = .ok (.iconst 1, 1) := by decide +kernel
theorem d_R_open_147 : decode prog_7_method_10_code 147 = .ok (.iadd, 1) := by decide +kernel
theorem d_R_open_148 : decode prog_7_method_10_code 148 = .ok (.iastore, 1) := by decide +kernel
theorem d_R_open_149 : decode prog_7_method_10_code 149 = .ok (.aload_n 0, 1) := by decide +kernel
theorem d_R_open_150 : decode prog_7_method_10_code 150 = .ok (.getfield 47, 3) := by decide +kernel
theorem d_R_open_153 : decode prog_7_method_10_code 153 = .ok (.iload_n 2, 1) := by decide +kernel
theorem d_R_open_154 : decode prog_7_method_10_code 154 = .ok (.iconst 0, 1) := by decide +kernel
theorem d_R_open_155 : decode prog_7_method_10_code 155 = .ok (.iastore, 1) := by decide +kernel
theorem d_R_open_156 : decode prog_7_method_10_code 156 = .ok (.bipush 6, 2) := by decide +kernel
theorem d_R_open_158 : decode prog_7_method_10_code 158 = .ok (.iload_n 2, 1) := by decide +kernel
theorem d_R_open_159 : decode prog_7_method_10_code 159 = .ok (.imul, 1) := by decide +kernel
theorem d_R_open_160 : decode prog_7_method_10_code 160 = .ok (.istore_n 3, 1) := by decide +kernel
theorem d_R_open_161 : decode prog_7_method_10_code 161 = .ok (.iload_n 3, 1) := by decide +kernel
theorem d_R_open_162 : decode prog_7_method_10_code 162 = .ok (.bipush 6, 2) := by decide +kernel
theorem d_R_open_164 : decode prog_7_method_10_code 164 = .ok (.iload_n 2, 1) := by decide +kernel
theorem d_R_open_165 : decode prog_7_method_10_code 165 = .ok (.imul, 1) := by decide +kernel
theorem d_R_open_166 : decode prog_7_method_10_code 166 = .ok (.bipush 6, 2) := by decide +kernel
theorem d_R_open_168 : decode prog_7_method_10_code 168 = .ok (.iadd, 1) := by decide +kernel
theorem d_R_open_169 : decode prog_7_method_10_code 169 = .ok (.if_icmp .ge 16, 3) := by decide +kernel
theorem d_R_open_172 : decode prog_7_method_10_code 172 = .ok (.aload_n 0, 1) := by decide +kernel
theorem d_R_open_173 : decode prog_7_method_10_code 173 = .ok (.getfield 34, 3) := by decide +kernel
theorem d_R_open_176 : decode prog_7_method_10_code 176 = .ok (.iload_n 3, 1) := by decide +kernel
theorem d_R_open_177 : decode prog_7_method_10_code 177 = .ok (.iconst 0, 1) := by decide +kernel
theorem d_R_open_178 : decode prog_7_method_10_code 178 = .ok (.bastore, 1) := by decide +kernel
theorem d_R_open_179 : decode prog_7_method_10_code 179 = .ok (.iinc 3 1, 3) := by decide +kernel
theorem d_R_open_182 : decode prog_7_method_10_code 182 = .ok (.goto (-21), 3) := by decide +kernel
theorem d_R_open_185 : decode prog_7_method_10_code 185 = .ok (.aload_n 0, 1) := by decide +kernel
theorem d_R_open_186 : decode prog_7_method_10_code 186 = .ok (.getfield 50, 3) := by decide +kernel
theorem d_R_open_189 : decode prog_7_method_10_code 189 = .ok (.ifCond .lt 39, 3) := by decide +kernel
theorem d_R_open_192 : decode prog_7_method_10_code 192 = .ok (.aload_n 0, 1) := by decide +kernel
theorem d_R_open_193 : decode prog_7_method_10_code 193 = .ok (.getfield 41, 3) := by decide +kernel
theorem d_R_open_196 : decode prog_7_method_10_code 196 = .ok (.bipush 6, 2) := by decide +kernel
theorem d_R_open_198 : decode prog_7_method_10_code 198 = .ok (.aload_n 0, 1) := by decide +kernel
theorem d_R_open_199 : decode prog_7_method_10_code 199 = .ok (.getfield 50, 3) := by decide +kernel
theorem d_R_open_202 : decode prog_7_method_10_code 202 = .ok (.imul, 1) := by decide +kernel
theorem d_R_open_203 : decode prog_7_method_10_code 203 = .ok (.aload_n 0, 1) := by decide +kernel
theorem d_R_open_204 : decode prog_7_method_10_code 204 = .ok (.getfield 47, 3) := by decide +kernel
theorem d_R_open_207 : decode prog_7_method_10_code 207 = .ok (.aload_n 0, 1) := by decide +kernel
theorem d_R_open_208 : decode prog_7_method_10_code 208 = .ok (.getfield 50, 3) := by decide +kernel
theorem d_R_open_211 : decode prog_7_method_10_code 211 = .ok (.iaload, 1) := by decide +kernel
theorem d_R_open_212 : decode prog_7_method_10_code 212 = .ok (.iadd, 1) := by decide +kernel
theorem d_R_open_213 : decode prog_7_method_10_code 213 = .ok (.iload_n 2, 1) := by decide +kernel
theorem d_R_open_214 : decode prog_7_method_10_code 214 = .ok (.iastore, 1) := by decide +kernel
theorem d_R_open_215 : decode prog_7_method_10_code 215 = .ok (.aload_n 0, 1) := by decide +kernel
theorem d_R_open_216 : decode prog_7_method_10_code 216 = .ok (.getfield 47, 3) := by decide +kernel
theorem d_R_open_219 : decode prog_7_method_10_code 219 = .ok (.aload_n 0, 1) := by decide +kernel
theorem d_R_open_220 : decode prog_7_method_10_code 220 = .ok (.getfield 50, 3) := by decide +kernel
theorem d_R_open_223 : decode prog_7_method_10_code 223 = .ok (.dup2, 1) := by decide +kernel
theorem d_R_open_224 : decode prog_7_method_10_code 224 = .ok (.iaload, 1) := by decide +kernel
theorem d_R_open_225 : decode prog_7_method_10_code 225 = .ok (.iconst 1, 1) := by decide +kernel
theorem d_R_open_226 : decode prog_7_method_10_code 226 = .ok (.iadd, 1) := by decide +kernel
theorem d_R_open_227 : decode prog_7_method_10_code 227 = .ok (.iastore, 1) := by decide +kernel
theorem d_R_open_228 : decode prog_7_method_10_code 228 = .ok (.aload_n 0, 1) := by decide +kernel
theorem d_R_open_229 : decode prog_7_method_10_code 229 = .ok (.iload_n 2, 1) := by decide +kernel
theorem d_R_open_230 : decode prog_7_method_10_code 230 = .ok (.putfield 50, 3) := by decide +kernel
theorem d_R_open_233 : decode prog_7_method_10_code 233 = .ok (.iload_n 2, 1) := by decide +kernel
theorem d_R_open_234 : decode prog_7_method_10_code 234 = .ok (.ireturn, 1) := by decide +kernel
abbrev M_R_attribute : vg_M := (⟨1, 0, 0, 22⟩, 5, prog_7_method_11_code, ⟨"PatternValidatorModel", "attribute", "(II)I"⟩, some .int, Cond.code ⟨"PatternValidatorModel", "attribute", "(II)I"⟩ prog_7_method_11_code 5 (some .int))
theorem d_R_attribute_0 : decode prog_7_method_11_code 0 = .ok (.aload_n 0, 1) := by decide +kernel
theorem d_R_attribute_1 : decode prog_7_method_11_code 1 = .ok (.iconst 0, 1) := by decide +kernel
theorem d_R_attribute_2 : decode prog_7_method_11_code 2 = .ok (.putfield 70, 3) := by decide +kernel
theorem d_R_attribute_5 : decode prog_7_method_11_code 5 = .ok (.iload_n 1, 1) := by decide +kernel
theorem d_R_attribute_6 : decode prog_7_method_11_code 6 = .ok (.iconst 0, 1) := by decide +kernel
theorem d_R_attribute_7 : decode prog_7_method_11_code 7 = .ok (.iconst 5, 1) := by decide +kernel
theorem d_R_attribute_8 : decode prog_7_method_11_code 8 = .ok (.invokestatic 76, 3) := by decide +kernel
theorem d_R_attribute_11 : decode prog_7_method_11_code 11 = .ok (.ifCond .ne 9, 3) := by decide +kernel
theorem d_R_attribute_14 : decode prog_7_method_11_code 14 = .ok (.aload_n 0, 1) := by decide +kernel
theorem d_R_attribute_15 : decode prog_7_method_11_code 15 = .ok (.iconst 1, 1) := by decide +kernel
theorem d_R_attribute_16 : decode prog_7_method_11_code 16 = .ok (.invokevirtual 87, 3) := by decide +kernel
theorem d_R_attribute_19 : decode prog_7_method_11_code 19 = .ok (.ireturn, 1) := by decide +kernel
theorem d_R_attribute_20 : decode prog_7_method_11_code 20 = .ok (.aload_n 0, 1) := by decide +kernel
theorem d_R_attribute_21 : decode prog_7_method_11_code 21 = .ok (.getfield 50, 3) := by decide +kernel
theorem d_R_attribute_24 : decode prog_7_method_11_code 24 = .ok (.ifCond .lt 32, 3) := by decide +kernel
theorem d_R_attribute_27 : decode prog_7_method_11_code 27 = .ok (.aload_n 0, 1) := by decide +kernel
theorem d_R_attribute_28 : decode prog_7_method_11_code 28 = .ok (.getfield 47, 3) := by decide +kernel
theorem d_R_attribute_31 : decode prog_7_method_11_code 31 = .ok (.aload_n 0, 1) := by decide +kernel
theorem d_R_attribute_32 : decode prog_7_method_11_code 32 = .ok (.getfield 50, 3) := by decide +kernel
theorem d_R_attribute_35 : decode prog_7_method_11_code 35 = .ok (.iaload, 1) := by decide +kernel
theorem d_R_attribute_36 : decode prog_7_method_11_code 36 = .ok (.ifCond .gt 20, 3) := by decide +kernel
theorem d_R_attribute_39 : decode prog_7_method_11_code 39 = .ok (.aload_n 0, 1) := by decide +kernel
theorem d_R_attribute_40 : decode prog_7_method_11_code 40 = .ok (.getfield 34, 3) := by decide +kernel
theorem d_R_attribute_43 : decode prog_7_method_11_code 43 = .ok (.bipush 6, 2) := by decide +kernel
theorem d_R_attribute_45 : decode prog_7_method_11_code 45 = .ok (.aload_n 0, 1) := by decide +kernel
theorem d_R_attribute_46 : decode prog_7_method_11_code 46 = .ok (.getfield 50, 3) := by decide +kernel
theorem d_R_attribute_49 : decode prog_7_method_11_code 49 = .ok (.imul, 1) := by decide +kernel
theorem d_R_attribute_50 : decode prog_7_method_11_code 50 = .ok (.iload_n 1, 1) := by decide +kernel
theorem d_R_attribute_51 : decode prog_7_method_11_code 51 = .ok (.iadd, 1) := by decide +kernel
theorem d_R_attribute_52 : decode prog_7_method_11_code 52 = .ok (.baload, 1) := by decide +kernel
theorem d_R_attribute_53 : decode prog_7_method_11_code 53 = .ok (.ifCond .eq 9, 3) := by decide +kernel
theorem d_R_attribute_56 : decode prog_7_method_11_code 56 = .ok (.aload_n 0, 1) := by decide +kernel
theorem d_R_attribute_57 : decode prog_7_method_11_code 57 = .ok (.iconst 2, 1) := by decide +kernel
theorem d_R_attribute_58 : decode prog_7_method_11_code 58 = .ok (.invokevirtual 87, 3) := by decide +kernel
theorem d_R_attribute_61 : decode prog_7_method_11_code 61 = .ok (.ireturn, 1) := by decide +kernel
theorem d_R_attribute_62 : decode prog_7_method_11_code 62 = .ok (.iconst 1, 1) := by decide +kernel
theorem d_R_attribute_63 : decode prog_7_method_11_code 63 = .ok (.istore_n 3, 1) := by decide +kernel
theorem d_R_attribute_64 : decode prog_7_method_11_code 64 = .ok (.bipush 6, 2) := by decide +kernel
theorem d_R_attribute_66 : decode prog_7_method_11_code 66 = .ok (.aload_n 0, 1) := by decide +kernel
theorem d_R_attribute_67 : decode prog_7_method_11_code 67 = .ok (.getfield 50, 3) := by decide +kernel
theorem d_R_attribute_70 : decode prog_7_method_11_code 70 = .ok (.imul, 1) := by decide +kernel
theorem d_R_attribute_71 : decode prog_7_method_11_code 71 = .ok (.istore 4, 2) := by decide +kernel
theorem d_R_attribute_73 : decode prog_7_method_11_code 73 = .ok (.iload 4, 2) := by decide +kernel
theorem d_R_attribute_75 : decode prog_7_method_11_code 75 = .ok (.bipush 6, 2) := by decide +kernel
theorem d_R_attribute_77 : decode prog_7_method_11_code 77 = .ok (.aload_n 0, 1) := by decide +kernel
theorem d_R_attribute_78 : decode prog_7_method_11_code 78 = .ok (.getfield 50, 3) := by decide +kernel
theorem d_R_attribute_81 : decode prog_7_method_11_code 81 = .ok (.imul, 1) := by decide +kernel
theorem d_R_attribute_82 : decode prog_7_method_11_code 82 = .ok (.bipush 6, 2) := by decide +kernel
theorem d_R_attribute_84 : decode prog_7_method_11_code 84 = .ok (.iadd, 1) := by decide +kernel
theorem d_R_attribute_85 : decode prog_7_method_11_code 85 = .ok (.if_icmp .ge 22, 3) := by decide +kernel
theorem d_R_attribute_88 : decode prog_7_method_11_code 88 = .ok (.aload_n 0, 1) := by decide +kernel
theorem d_R_attribute_89 : decode prog_7_method_11_code 89 = .ok (.getfield 34, 3) := by decide +kernel
theorem d_R_attribute_92 : decode prog_7_method_11_code 92 = .ok (.iload 4, 2) := by decide +kernel
theorem d_R_attribute_94 : decode prog_7_method_11_code 94 = .ok (.baload, 1) := by decide +kernel
theorem d_R_attribute_95 : decode prog_7_method_11_code 95 = .ok (.ifCond .eq 6, 3) := by decide +kernel
theorem d_R_attribute_98 : decode prog_7_method_11_code 98 = .ok (.iinc 3 1, 3) := by decide +kernel
theorem d_R_attribute_101 : decode prog_7_method_11_code 101 = .ok (.iinc 4 1, 3) := by decide +kernel
theorem d_R_attribute_104 : decode prog_7_method_11_code 104 = .ok (.goto (-31), 3) := by decide +kernel
theorem d_R_attribute_107 : decode prog_7_method_11_code 107 = .ok (.iload_n 3, 1) := by decide +kernel
theorem d_R_attribute_108 : decode prog_7_method_11_code 108 = .ok (.iconst 3, 1) := by decide +kernel
theorem d_R_attribute_109 : decode prog_7_method_11_code 109 = .ok (.if_icmp .le 9, 3) := by decide +kernel
theorem d_R_attribute_112 : decode prog_7_method_11_code 112 = .ok (.aload_n 0, 1) := by decide +kernel
theorem d_R_attribute_113 : decode prog_7_method_11_code 113 = .ok (.iconst 2, 1) := by decide +kernel
theorem d_R_attribute_114 : decode prog_7_method_11_code 114 = .ok (.invokevirtual 87, 3) := by decide +kernel
theorem d_R_attribute_117 : decode prog_7_method_11_code 117 = .ok (.ireturn, 1) := by decide +kernel
theorem d_R_attribute_118 : decode prog_7_method_11_code 118 = .ok (.aload_n 0, 1) := by decide +kernel
theorem d_R_attribute_119 : decode prog_7_method_11_code 119 = .ok (.getfield 34, 3) := by decide +kernel
theorem d_R_attribute_122 : decode prog_7_method_11_code 122 = .ok (.bipush 6, 2) := by decide +kernel
theorem d_R_attribute_124 : decode prog_7_method_11_code 124 = .ok (.aload_n 0, 1) := by decide +kernel
theorem d_R_attribute_125 : decode prog_7_method_11_code 125 = .ok (.getfield 50, 3) := by decide +kernel
theorem d_R_attribute_128 : decode prog_7_method_11_code 128 = .ok (.imul, 1) := by decide +kernel
theorem d_R_attribute_129 : decode prog_7_method_11_code 129 = .ok (.iload_n 1, 1) := by decide +kernel
theorem d_R_attribute_130 : decode prog_7_method_11_code 130 = .ok (.iadd, 1) := by decide +kernel
theorem d_R_attribute_131 : decode prog_7_method_11_code 131 = .ok (.iconst 1, 1) := by decide +kernel
theorem d_R_attribute_132 : decode prog_7_method_11_code 132 = .ok (.bastore, 1) := by decide +kernel
theorem d_R_attribute_133 : decode prog_7_method_11_code 133 = .ok (.aload_n 0, 1) := by decide +kernel
theorem d_R_attribute_134 : decode prog_7_method_11_code 134 = .ok (.getfield 38, 3) := by decide +kernel
theorem d_R_attribute_137 : decode prog_7_method_11_code 137 = .ok (.bipush 6, 2) := by decide +kernel
theorem d_R_attribute_139 : decode prog_7_method_11_code 139 = .ok (.aload_n 0, 1) := by decide +kernel
theorem d_R_attribute_140 : decode prog_7_method_11_code 140 = .ok (.getfield 50, 3) := by decide +kernel
theorem d_R_attribute_143 : decode prog_7_method_11_code 143 = .ok (.imul, 1) := by decide +kernel
theorem d_R_attribute_144 : decode prog_7_method_11_code 144 = .ok (.iload_n 1, 1) := by decide +kernel
theorem d_R_attribute_145 : decode prog_7_method_11_code 145 = .ok (.iadd, 1) := by decide +kernel
theorem d_R_attribute_146 : decode prog_7_method_11_code 146 = .ok (.iload_n 2, 1) := by decide +kernel
theorem d_R_attribute_147 : decode prog_7_method_11_code 147 = .ok (.iastore, 1) := by decide +kernel
theorem d_R_attribute_148 : decode prog_7_method_11_code 148 = .ok (.iload_n 3, 1) := by decide +kernel
theorem d_R_attribute_149 : decode prog_7_method_11_code 149 = .ok (.ireturn, 1) := by decide +kernel
abbrev M_R_text : vg_M := (⟨1, 0, 0, 21⟩, 3, prog_7_method_12_code, ⟨"PatternValidatorModel", "text", "(I)I"⟩, some .int, Cond.code ⟨"PatternValidatorModel", "text", "(I)I"⟩ prog_7_method_12_code 3 (some .int))
theorem d_R_text_0 : decode prog_7_method_12_code 0 = .ok (.aload_n 0, 1) := by decide +kernel
theorem d_R_text_1 : decode prog_7_method_12_code 1 = .ok (.iconst 0, 1) := by decide +kernel
theorem d_R_text_2 : decode prog_7_method_12_code 2 = .ok (.putfield 70, 3) := by decide +kernel
theorem d_R_text_5 : decode prog_7_method_12_code 5 = .ok (.aload_n 0, 1) := by decide +kernel
theorem d_R_text_6 : decode prog_7_method_12_code 6 = .ok (.getfield 50, 3) := by decide +kernel
theorem d_R_text_9 : decode prog_7_method_12_code 9 = .ok (.ifCond .lt 17, 3) := by decide +kernel
theorem d_R_text_12 : decode prog_7_method_12_code 12 = .ok (.aload_n 0, 1) := by decide +kernel
theorem d_R_text_13 : decode prog_7_method_12_code 13 = .ok (.getfield 47, 3) := by decide +kernel
theorem d_R_text_16 : decode prog_7_method_12_code 16 = .ok (.aload_n 0, 1) := by decide +kernel
theorem d_R_text_17 : decode prog_7_method_12_code 17 = .ok (.getfield 50, 3) := by decide +kernel
theorem d_R_text_20 : decode prog_7_method_12_code 20 = .ok (.iaload, 1) := by decide +kernel
theorem d_R_text_21 : decode prog_7_method_12_code 21 = .ok (.bipush 6, 2) := by decide +kernel
theorem d_R_text_23 : decode prog_7_method_12_code 23 = .ok (.if_icmp .ne 9, 3) := by decide +kernel
theorem d_R_text_26 : decode prog_7_method_12_code 26 = .ok (.aload_n 0, 1) := by decide +kernel
theorem d_R_text_27 : decode prog_7_method_12_code 27 = .ok (.iconst 1, 1) := by decide +kernel
theorem d_R_text_28 : decode prog_7_method_12_code 28 = .ok (.invokevirtual 87, 3) := by decide +kernel
theorem d_R_text_31 : decode prog_7_method_12_code 31 = .ok (.ireturn, 1) := by decide +kernel
theorem d_R_text_32 : decode prog_7_method_12_code 32 = .ok (.bipush 6, 2) := by decide +kernel
theorem d_R_text_34 : decode prog_7_method_12_code 34 = .ok (.aload_n 0, 1) := by decide +kernel
theorem d_R_text_35 : decode prog_7_method_12_code 35 = .ok (.getfield 50, 3) := by decide +kernel
theorem d_R_text_38 : decode prog_7_method_12_code 38 = .ok (.imul, 1) := by decide +kernel
theorem d_R_text_39 : decode prog_7_method_12_code 39 = .ok (.aload_n 0, 1) := by decide +kernel
theorem d_R_text_40 : decode prog_7_method_12_code 40 = .ok (.getfield 47, 3) := by decide +kernel
theorem d_R_text_43 : decode prog_7_method_12_code 43 = .ok (.aload_n 0, 1) := by decide +kernel
theorem d_R_text_44 : decode prog_7_method_12_code 44 = .ok (.getfield 50, 3) := by decide +kernel
theorem d_R_text_47 : decode prog_7_method_12_code 47 = .ok (.iaload, 1) := by decide +kernel
theorem d_R_text_48 : decode prog_7_method_12_code 48 = .ok (.iadd, 1) := by decide +kernel
theorem d_R_text_49 : decode prog_7_method_12_code 49 = .ok (.istore_n 2, 1) := by decide +kernel
theorem d_R_text_50 : decode prog_7_method_12_code 50 = .ok (.aload_n 0, 1) := by decide +kernel
theorem d_R_text_51 : decode prog_7_method_12_code 51 = .ok (.getfield 41, 3) := by decide +kernel
theorem d_R_text_54 : decode prog_7_method_12_code 54 = .ok (.iload_n 2, 1) := by decide +kernel
theorem d_R_text_55 : decode prog_7_method_12_code 55 = .ok (.iconst (-1), 1) := by decide +kernel
theorem d_R_text_56 : decode prog_7_method_12_code 56 = .ok (.iastore, 1) := by decide +kernel
theorem d_R_text_57 : decode prog_7_method_12_code 57 = .ok (.aload_n 0, 1) := by decide +kernel
theorem d_R_text_58 : decode prog_7_method_12_code 58 = .ok (.getfield 44, 3) := by decide +kernel
theorem d_R_text_61 : decode prog_7_method_12_code 61 = .ok (.iload_n 2, 1) := by decide +kernel
theorem d_R_text_62 : decode prog_7_method_12_code 62 = .ok (.iload_n 1, 1) := by decide +kernel
theorem d_R_text_63 : decode prog_7_method_12_code 63 = .ok (.iastore, 1) := by decide +kernel
theorem d_R_text_64 : decode prog_7_method_12_code 64 = .ok (.aload_n 0, 1) := by decide +kernel
theorem d_R_text_65 : decode prog_7_method_12_code 65 = .ok (.getfield 47, 3) := by decide +kernel
theorem d_R_text_68 : decode prog_7_method_12_code 68 = .ok (.aload_n 0, 1) := by decide +kernel
theorem d_R_text_69 : decode prog_7_method_12_code 69 = .ok (.getfield 50, 3) := by decide +kernel
theorem d_R_text_72 : decode prog_7_method_12_code 72 = .ok (.dup2, 1) := by decide +kernel
theorem d_R_text_73 : decode prog_7_method_12_code 73 = .ok (.iaload, 1) := by decide +kernel
theorem d_R_text_74 : decode prog_7_method_12_code 74 = .ok (.iconst 1, 1) := by decide +kernel
theorem d_R_text_75 : decode prog_7_method_12_code 75 = .ok (.iadd, 1) := by decide +kernel
theorem d_R_text_76 : decode prog_7_method_12_code 76 = .ok (.iastore, 1) := by decide +kernel
theorem d_R_text_77 : decode prog_7_method_12_code 77 = .ok (.aload_n 0, 1) := by decide +kernel
theorem d_R_text_78 : decode prog_7_method_12_code 78 = .ok (.getfield 47, 3) := by decide +kernel
theorem d_R_text_81 : decode prog_7_method_12_code 81 = .ok (.aload_n 0, 1) := by decide +kernel
theorem d_R_text_82 : decode prog_7_method_12_code 82 = .ok (.getfield 50, 3) := by decide +kernel
theorem d_R_text_85 : decode prog_7_method_12_code 85 = .ok (.iaload, 1) := by decide +kernel
theorem d_R_text_86 : decode prog_7_method_12_code 86 = .ok (.ireturn, 1) := by decide +kernel
abbrev M_R_close : vg_M := (⟨1, 0, 0, 21⟩, 2, prog_7_method_13_code, ⟨"PatternValidatorModel", "close", "()I"⟩, some .int, Cond.code ⟨"PatternValidatorModel", "close", "()I"⟩ prog_7_method_13_code 2 (some .int))
theorem d_R_close_0 : decode prog_7_method_13_code 0 = .ok (.aload_n 0, 1) := by decide +kernel
theorem d_R_close_1 : decode prog_7_method_13_code 1 = .ok (.iconst 0, 1) := by decide +kernel
theorem d_R_close_2 : decode prog_7_method_13_code 2 = .ok (.putfield 70, 3) := by decide +kernel
theorem d_R_close_5 : decode prog_7_method_13_code 5 = .ok (.aload_n 0, 1) := by decide +kernel
theorem d_R_close_6 : decode prog_7_method_13_code 6 = .ok (.getfield 50, 3) := by decide +kernel
theorem d_R_close_9 : decode prog_7_method_13_code 9 = .ok (.ifCond .ge 9, 3) := by decide +kernel
theorem d_R_close_12 : decode prog_7_method_13_code 12 = .ok (.aload_n 0, 1) := by decide +kernel
theorem d_R_close_13 : decode prog_7_method_13_code 13 = .ok (.iconst 1, 1) := by decide +kernel
theorem d_R_close_14 : decode prog_7_method_13_code 14 = .ok (.invokevirtual 87, 3) := by decide +kernel
theorem d_R_close_17 : decode prog_7_method_13_code 17 = .ok (.ireturn, 1) := by decide +kernel
theorem d_R_close_18 : decode prog_7_method_13_code 18 = .ok (.aload_n 0, 1) := by decide +kernel
theorem d_R_close_19 : decode prog_7_method_13_code 19 = .ok (.getfield 50, 3) := by decide +kernel
theorem d_R_close_22 : decode prog_7_method_13_code 22 = .ok (.istore_n 1, 1) := by decide +kernel
theorem d_R_close_23 : decode prog_7_method_13_code 23 = .ok (.aload_n 0, 1) := by decide +kernel
theorem d_R_close_24 : decode prog_7_method_13_code 24 = .ok (.aload_n 0, 1) := by decide +kernel
theorem d_R_close_25 : decode prog_7_method_13_code 25 = .ok (.getfield 28, 3) := by decide +kernel
theorem d_R_close_28 : decode prog_7_method_13_code 28 = .ok (.aload_n 0, 1) := by decide +kernel
theorem d_R_close_29 : decode prog_7_method_13_code 29 = .ok (.getfield 50, 3) := by decide +kernel
theorem d_R_close_32 : decode prog_7_method_13_code 32 = .ok (.iaload, 1) := by decide +kernel
theorem d_R_close_33 : decode prog_7_method_13_code 33 = .ok (.putfield 50, 3) := by decide +kernel
theorem d_R_close_36 : decode prog_7_method_13_code 36 = .ok (.iload_n 1, 1) := by decide +kernel
theorem d_R_close_37 : decode prog_7_method_13_code 37 = .ok (.ireturn, 1) := by decide +kernel
abbrev M_R_clear : vg_M := (⟨0, 0, 0, 0⟩, 2, prog_7_method_14_code, ⟨"PatternValidatorModel", "clear", "()I"⟩, some .int, Cond.code ⟨"PatternValidatorModel", "clear", "()I"⟩ prog_7_method_14_code 2 (some .int))
theorem d_R_clear_0 : decode prog_7_method_14_code 0 = .ok (.aload_n 0, 1) := by decide +kernel
theorem d_R_clear_1 : decode prog_7_method_14_code 1 = .ok (.iconst 0, 1) := by decide +kernel
theorem d_R_clear_2 : decode prog_7_method_14_code 2 = .ok (.putfield 70, 3) := by decide +kernel
theorem d_R_clear_5 : decode prog_7_method_14_code 5 = .ok (.aload_n 0, 1) := by decide +kernel
theorem d_R_clear_6 : decode prog_7_method_14_code 6 = .ok (.getfield 95, 3) := by decide +kernel
theorem d_R_clear_9 : decode prog_7_method_14_code 9 = .ok (.istore_n 1, 1) := by decide +kernel
theorem d_R_clear_10 : decode prog_7_method_14_code 10 = .ok (.aload_n 0, 1) := by decide +kernel
theorem d_R_clear_11 : decode prog_7_method_14_code 11 = .ok (.iconst 0, 1) := by decide +kernel
theorem d_R_clear_12 : decode prog_7_method_14_code 12 = .ok (.putfield 95, 3) := by decide +kernel
theorem d_R_clear_15 : decode prog_7_method_14_code 15 = .ok (.aload_n 0, 1) := by decide +kernel
theorem d_R_clear_16 : decode prog_7_method_14_code 16 = .ok (.iconst (-1), 1) := by decide +kernel
theorem d_R_clear_17 : decode prog_7_method_14_code 17 = .ok (.putfield 50, 3) := by decide +kernel
theorem d_R_clear_20 : decode prog_7_method_14_code 20 = .ok (.iload_n 1, 1) := by decide +kernel
theorem d_R_clear_21 : decode prog_7_method_14_code 21 = .ok (.ireturn, 1) := by decide +kernel
abbrev M_R_matches : vg_M := (⟨6, 0, 0, 145⟩, 3, prog_7_method_28_code, ⟨"PatternValidatorModel", "matches", "(II)I"⟩, some .int, Cond.code ⟨"PatternValidatorModel", "matches", "(II)I"⟩ prog_7_method_28_code 3 (some .int))
theorem d_R_matches_0 : decode prog_7_method_28_code 0 = .ok (.aload_n 0, 1) := by decide +kernel
theorem d_R_matches_1 : decode prog_7_method_28_code 1 = .ok (.iconst 0, 1) := by decide +kernel
theorem d_R_matches_2 : decode prog_7_method_28_code 2 = .ok (.putfield 70, 3) := by decide +kernel
theorem d_R_matches_5 : decode prog_7_method_28_code 5 = .ok (.aload_n 0, 1) := by decide +kernel
theorem d_R_matches_6 : decode prog_7_method_28_code 6 = .ok (.iload_n 1, 1) := by decide +kernel
theorem d_R_matches_7 : decode prog_7_method_28_code 7 = .ok (.iload_n 2, 1) := by decide +kernel
theorem d_R_matches_8 : decode prog_7_method_28_code 8 = .ok (.invokevirtual 140, 3) := by decide +kernel
theorem d_R_matches_11 : decode prog_7_method_28_code 11 = .ok (.ifCond .ne 9, 3) := by decide +kernel
theorem d_R_matches_14 : decode prog_7_method_28_code 14 = .ok (.aload_n 0, 1) := by decide +kernel
theorem d_R_matches_15 : decode prog_7_method_28_code 15 = .ok (.iconst 1, 1) := by decide +kernel
theorem d_R_matches_16 : decode prog_7_method_28_code 16 = .ok (.invokevirtual 87, 3) := by decide +kernel
theorem d_R_matches_19 : decode prog_7_method_28_code 19 = .ok (.ireturn, 1) := by decide +kernel
theorem d_R_matches_20 : decode prog_7_method_28_code 20 = .ok (.aload_n 0, 1) := by decide +kernel
theorem d_R_matches_21 : decode prog_7_method_28_code 21 = .ok (.iload_n 2, 1) := by decide +kernel
theorem d_R_matches_22 : decode prog_7_method_28_code 22 = .ok (.invokevirtual 143, 3) := by decide +kernel
theorem d_R_matches_25 : decode prog_7_method_28_code 25 = .ok (.aload_n 0, 1) := by decide +kernel
theorem d_R_matches_26 : decode prog_7_method_28_code 26 = .ok (.iload_n 2, 1) := by decide +kernel
theorem d_R_matches_27 : decode prog_7_method_28_code 27 = .ok (.iconst 0, 1) := by decide +kernel
theorem d_R_matches_28 : decode prog_7_method_28_code 28 = .ok (.invokevirtual 122, 3) := by decide +kernel
theorem d_R_matches_31 : decode prog_7_method_28_code 31 = .ok (.aload_n 0, 1) := by decide +kernel
theorem d_R_matches_32 : decode prog_7_method_28_code 32 = .ok (.getfield 64, 3) := by decide +kernel
theorem d_R_matches_35 : decode prog_7_method_28_code 35 = .ok (.iload_n 1, 1) := by decide +kernel
theorem d_R_matches_36 : decode prog_7_method_28_code 36 = .ok (.baload, 1) := by decide +kernel
theorem d_R_matches_37 : decode prog_7_method_28_code 37 = .ok (.ifCond .eq 7, 3) := by decide +kernel
theorem d_R_matches_40 : decode prog_7_method_28_code 40 = .ok (.iconst 1, 1) := by decide +kernel
theorem d_R_matches_41 : decode prog_7_method_28_code 41 = .ok (.goto 4, 3) := by decide +kernel
theorem d_R_matches_44 : decode prog_7_method_28_code 44 = .ok (.iconst 0, 1) := by decide +kernel
theorem d_R_matches_45 : decode prog_7_method_28_code 45 = .ok (.ireturn, 1) := by decide +kernel
abbrev M_R_known : vg_M := (⟨2, 0, 0, 43⟩, 3, prog_7_method_27_code, ⟨"PatternValidatorModel", "known", "(II)Z"⟩, some .boolean, Cond.code ⟨"PatternValidatorModel", "known", "(II)Z"⟩ prog_7_method_27_code 3 (some .boolean))
theorem d_R_known_0 : decode prog_7_method_27_code 0 = .ok (.aload_n 0, 1) := by decide +kernel
theorem d_R_known_1 : decode prog_7_method_27_code 1 = .ok (.iload_n 1, 1) := by decide +kernel
theorem d_R_known_2 : decode prog_7_method_27_code 2 = .ok (.invokevirtual 80, 3) := by decide +kernel
theorem d_R_known_5 : decode prog_7_method_27_code 5 = .ok (.ifCond .eq 21, 3) := by decide +kernel
theorem d_R_known_8 : decode prog_7_method_27_code 8 = .ok (.iload_n 2, 1) := by decide +kernel
theorem d_R_known_9 : decode prog_7_method_27_code 9 = .ok (.iconst 0, 1) := by decide +kernel
theorem d_R_known_10 : decode prog_7_method_27_code 10 = .ok (.aload_n 0, 1) := by decide +kernel
theorem d_R_known_11 : decode prog_7_method_27_code 11 = .ok (.getfield 95, 3) := by decide +kernel
theorem d_R_known_14 : decode prog_7_method_27_code 14 = .ok (.iconst 1, 1) := by decide +kernel
theorem d_R_known_15 : decode prog_7_method_27_code 15 = .ok (.isub, 1) := by decide +kernel
theorem d_R_known_16 : decode prog_7_method_27_code 16 = .ok (.invokestatic 76, 3) := by decide +kernel
theorem d_R_known_19 : decode prog_7_method_27_code 19 = .ok (.ifCond .eq 7, 3) := by decide +kernel
theorem d_R_known_22 : decode prog_7_method_27_code 22 = .ok (.iconst 1, 1) := by decide +kernel
theorem d_R_known_23 : decode prog_7_method_27_code 23 = .ok (.goto 4, 3) := by decide +kernel
theorem d_R_known_26 : decode prog_7_method_27_code 26 = .ok (.iconst 0, 1) := by decide +kernel
theorem d_R_known_27 : decode prog_7_method_27_code 27 = .ok (.ireturn, 1) := by decide +kernel
abbrev M_R_work : vg_M := (⟨5, 0, 0, 123⟩, 3, prog_7_method_26_code, ⟨"PatternValidatorModel", "work", "(I)V"⟩, none, Cond.code ⟨"PatternValidatorModel", "work", "(I)V"⟩ prog_7_method_26_code 3 (none))
theorem d_R_work_0 : decode prog_7_method_26_code 0 = .ok (.aload_n 0, 1) := by decide +kernel
theorem d_R_work_1 : decode prog_7_method_26_code 1 = .ok (.invokevirtual 133, 3) := by decide +kernel
theorem d_R_work_4 : decode prog_7_method_26_code 4 = .ok (.aload_n 0, 1) := by decide +kernel
theorem d_R_work_5 : decode prog_7_method_26_code 5 = .ok (.getfield 95, 3) := by decide +kernel
theorem d_R_work_8 : decode prog_7_method_26_code 8 = .ok (.iconst 1, 1) := by decide +kernel
theorem d_R_work_9 : decode prog_7_method_26_code 9 = .ok (.isub, 1) := by decide +kernel
theorem d_R_work_10 : decode prog_7_method_26_code 10 = .ok (.istore_n 2, 1) := by decide +kernel
theorem d_R_work_11 : decode prog_7_method_26_code 11 = .ok (.iload_n 2, 1) := by decide +kernel
theorem d_R_work_12 : decode prog_7_method_26_code 12 = .ok (.iload_n 1, 1) := by decide +kernel
theorem d_R_work_13 : decode prog_7_method_26_code 13 = .ok (.if_icmp .lt 14, 3) := by decide +kernel
theorem d_R_work_16 : decode prog_7_method_26_code 16 = .ok (.aload_n 0, 1) := by decide +kernel
theorem d_R_work_17 : decode prog_7_method_26_code 17 = .ok (.iload_n 2, 1) := by decide +kernel
theorem d_R_work_18 : decode prog_7_method_26_code 18 = .ok (.invokevirtual 136, 3) := by decide +kernel
theorem d_R_work_21 : decode prog_7_method_26_code 21 = .ok (.iinc 2 (-1), 3) := by decide +kernel
theorem d_R_work_24 : decode prog_7_method_26_code 24 = .ok (.goto (-13), 3) := by decide +kernel
theorem d_R_work_27 : decode prog_7_method_26_code 27 = .ok (.return_, 1) := by decide +kernel
abbrev M_R_findNone : vg_M := (⟨0, 0, 0, 0⟩, 5, prog_7_method_15_code, ⟨"PatternValidatorModel", "findNone", "()V"⟩, none, Cond.code ⟨"PatternValidatorModel", "findNone", "()V"⟩ prog_7_method_15_code 5 (none))
theorem d_R_findNone_0 : decode prog_7_method_15_code 0 = .ok (.iconst 0, 1) := by decide +kernel
theorem d_R_findNone_1 : decode prog_7_method_15_code 1 = .ok (.istore_n 1, 1) := by decide +kernel
theorem d_R_findNone_2 : decode prog_7_method_15_code 2 = .ok (.iload_n 1, 1) := by decide +kernel
theorem d_R_findNone_3 : decode prog_7_method_15_code 3 = .ok (.bipush 40, 2) := by decide +kernel
theorem d_R_findNone_5 : decode prog_7_method_15_code 5 = .ok (.if_icmp .ge 16, 3) := by decide +kernel
theorem d_R_findNone_8 : decode prog_7_method_15_code 8 = .ok (.aload_n 0, 1) := by decide +kernel
theorem d_R_findNone_9 : decode prog_7_method_15_code 9 = .ok (.getfield 61, 3) := by decide +kernel
theorem d_R_findNone_12 : decode prog_7_method_15_code 12 = .ok (.iload_n 1, 1) := by decide +kernel
theorem d_R_findNone_13 : decode prog_7_method_15_code 13 = .ok (.iconst 0, 1) := by decide +kernel
theorem d_R_findNone_14 : decode prog_7_method_15_code 14 = .ok (.bastore, 1) := by decide +kernel
theorem d_R_findNone_15 : decode prog_7_method_15_code 15 = .ok (.iinc 1 1, 3) := by decide +kernel
theorem d_R_findNone_18 : decode prog_7_method_15_code 18 = .ok (.goto (-16), 3) := by decide +kernel
theorem d_R_findNone_21 : decode prog_7_method_15_code 21 = .ok (.iconst 0, 1) := by decide +kernel
theorem d_R_findNone_22 : decode prog_7_method_15_code 22 = .ok (.istore_n 1, 1) := by decide +kernel
theorem d_R_findNone_23 : decode prog_7_method_15_code 23 = .ok (.iload_n 1, 1) := by decide +kernel
theorem d_R_findNone_24 : decode prog_7_method_15_code 24 = .ok (.bipush 42, 2) := by decide +kernel
theorem d_R_findNone_26 : decode prog_7_method_15_code 26 = .ok (.if_icmp .ge 241, 3) := by decide +kernel
theorem d_R_findNone_29 : decode prog_7_method_15_code 29 = .ok (.iconst 0, 1) := by decide +kernel
theorem d_R_findNone_30 : decode prog_7_method_15_code 30 = .ok (.istore_n 2, 1) := by decide +kernel
theorem d_R_findNone_31 : decode prog_7_method_15_code 31 = .ok (.iload_n 2, 1) := by decide +kernel
theorem d_R_findNone_32 : decode prog_7_method_15_code 32 = .ok (.aload_n 0, 1) := by decide +kernel
theorem d_R_findNone_33 : decode prog_7_method_15_code 33 = .ok (.getfield 73, 3) := by decide +kernel
theorem d_R_findNone_36 : decode prog_7_method_15_code 36 = .ok (.if_icmp .ge 225, 3) := by decide +kernel
theorem d_R_findNone_39 : decode prog_7_method_15_code 39 = .ok (.aload_n 0, 1) := by decide +kernel
theorem d_R_findNone_40 : decode prog_7_method_15_code 40 = .ok (.getfield 13, 3) := by decide +kernel
theorem d_R_findNone_43 : decode prog_7_method_15_code 43 = .ok (.iload_n 2, 1) := by decide +kernel
theorem d_R_findNone_44 : decode prog_7_method_15_code 44 = .ok (.iaload, 1) := by decide +kernel
theorem d_R_findNone_45 : decode prog_7_method_15_code 45 = .ok (.istore_n 3, 1) := by decide +kernel
theorem d_R_findNone_46 : decode prog_7_method_15_code 46 = .ok (.aload_n 0, 1) := by decide +kernel
theorem d_R_findNone_47 : decode prog_7_method_15_code 47 = .ok (.getfield 16, 3) := by decide +kernel
theorem d_R_findNone_50 : decode prog_7_method_15_code 50 = .ok (.iload_n 2, 1) := by decide +kernel
theorem d_R_findNone_51 : decode prog_7_method_15_code 51 = .ok (.iaload, 1) := by decide +kernel
theorem d_R_findNone_52 : decode prog_7_method_15_code 52 = .ok (.istore 4, 2) := by decide +kernel
theorem d_R_findNone_54 : decode prog_7_method_15_code 54 = .ok (.aload_n 0, 1) := by decide +kernel
theorem d_R_findNone_55 : decode prog_7_method_15_code 55 = .ok (.getfield 7, 3) := by decide +kernel
theorem d_R_findNone_58 : decode prog_7_method_15_code 58 = .ok (.iload_n 2, 1) := by decide +kernel
theorem d_R_findNone_59 : decode prog_7_method_15_code 59 = .ok (.iaload, 1) := by decide +kernel
theorem d_R_findNone_60 : decode prog_7_method_15_code 60 = .ok (.tableswitch 188 0 10 #[60, 188, 60, 188, 70, 70, 103, 136, 188, 188, 151], 60) := by decide +kernel
theorem d_R_findNone_120 : decode prog_7_method_15_code 120 = .ok (.aload_n 0, 1) := by decide +kernel
theorem d_R_findNone_121 : decode prog_7_method_15_code 121 = .ok (.getfield 61, 3) := by decide +kernel
theorem d_R_findNone_124 : decode prog_7_method_15_code 124 = .ok (.iload_n 2, 1) := by decide +kernel
theorem d_R_findNone_125 : decode prog_7_method_15_code 125 = .ok (.iconst 1, 1) := by decide +kernel
theorem d_R_findNone_126 : decode prog_7_method_15_code 126 = .ok (.bastore, 1) := by decide +kernel
theorem d_R_findNone_127 : decode prog_7_method_15_code 127 = .ok (.goto 128, 3) := by decide +kernel
theorem d_R_findNone_130 : decode prog_7_method_15_code 130 = .ok (.aload_n 0, 1) := by decide +kernel
theorem d_R_findNone_131 : decode prog_7_method_15_code 131 = .ok (.getfield 61, 3) := by decide +kernel
theorem d_R_findNone_134 : decode prog_7_method_15_code 134 = .ok (.iload_n 2, 1) := by decide +kernel
theorem d_R_findNone_135 : decode prog_7_method_15_code 135 = .ok (.aload_n 0, 1) := by decide +kernel
theorem d_R_findNone_136 : decode prog_7_method_15_code 136 = .ok (.getfield 61, 3) := by decide +kernel
theorem d_R_findNone_139 : decode prog_7_method_15_code 139 = .ok (.iload_n 3, 1) := by decide +kernel
theorem d_R_findNone_140 : decode prog_7_method_15_code 140 = .ok (.baload, 1) := by decide +kernel
theorem d_R_findNone_141 : decode prog_7_method_15_code 141 = .ok (.ifCond .eq 17, 3) := by decide +kernel
theorem d_R_findNone_144 : decode prog_7_method_15_code 144 = .ok (.aload_n 0, 1) := by decide +kernel
theorem d_R_findNone_145 : decode prog_7_method_15_code 145 = .ok (.getfield 61, 3) := by decide +kernel
theorem d_R_findNone_148 : decode prog_7_method_15_code 148 = .ok (.iload 4, 2) := by decide +kernel
theorem d_R_findNone_150 : decode prog_7_method_15_code 150 = .ok (.baload, 1) := by decide +kernel
theorem d_R_findNone_151 : decode prog_7_method_15_code 151 = .ok (.ifCond .eq 7, 3) := by decide +kernel
theorem d_R_findNone_154 : decode prog_7_method_15_code 154 = .ok (.iconst 1, 1) := by decide +kernel
theorem d_R_findNone_155 : decode prog_7_method_15_code 155 = .ok (.goto 4, 3) := by decide +kernel
theorem d_R_findNone_158 : decode prog_7_method_15_code 158 = .ok (.iconst 0, 1) := by decide +kernel
theorem d_R_findNone_159 : decode prog_7_method_15_code 159 = .ok (.bastore, 1) := by decide +kernel
theorem d_R_findNone_160 : decode prog_7_method_15_code 160 = .ok (.goto 95, 3) := by decide +kernel
theorem d_R_findNone_163 : decode prog_7_method_15_code 163 = .ok (.aload_n 0, 1) := by decide +kernel
theorem d_R_findNone_164 : decode prog_7_method_15_code 164 = .ok (.getfield 61, 3) := by decide +kernel
theorem d_R_findNone_167 : decode prog_7_method_15_code 167 = .ok (.iload_n 2, 1) := by decide +kernel
theorem d_R_findNone_168 : decode prog_7_method_15_code 168 = .ok (.aload_n 0, 1) := by decide +kernel
theorem d_R_findNone_169 : decode prog_7_method_15_code 169 = .ok (.getfield 61, 3) := by decide +kernel
theorem d_R_findNone_172 : decode prog_7_method_15_code 172 = .ok (.iload_n 3, 1) := by decide +kernel
theorem d_R_findNone_173 : decode prog_7_method_15_code 173 = .ok (.baload, 1) := by decide +kernel
theorem d_R_findNone_174 : decode prog_7_method_15_code 174 = .ok (.ifCond .ne 13, 3) := by decide +kernel
theorem d_R_findNone_177 : decode prog_7_method_15_code 177 = .ok (.aload_n 0, 1) := by decide +kernel
theorem d_R_findNone_178 : decode prog_7_method_15_code 178 = .ok (.getfield 61, 3) := by decide +kernel
theorem d_R_findNone_181 : decode prog_7_method_15_code 181 = .ok (.iload 4, 2) := by decide +kernel
theorem d_R_findNone_183 : decode prog_7_method_15_code 183 = .ok (.baload, 1) := by decide +kernel
theorem d_R_findNone_184 : decode prog_7_method_15_code 184 = .ok (.ifCond .eq 7, 3) := by decide +kernel
theorem d_R_findNone_187 : decode prog_7_method_15_code 187 = .ok (.iconst 1, 1) := by decide +kernel
theorem d_R_findNone_188 : decode prog_7_method_15_code 188 = .ok (.goto 4, 3) := by decide +kernel
theorem d_R_findNone_191 : decode prog_7_method_15_code 191 = .ok (.iconst 0, 1) := by decide +kernel
theorem d_R_findNone_192 : decode prog_7_method_15_code 192 = .ok (.bastore, 1) := by decide +kernel
theorem d_R_findNone_193 : decode prog_7_method_15_code 193 = .ok (.goto 62, 3) := by decide +kernel
theorem d_R_findNone_196 : decode prog_7_method_15_code 196 = .ok (.aload_n 0, 1) := by decide +kernel
theorem d_R_findNone_197 : decode prog_7_method_15_code 197 = .ok (.getfield 61, 3) := by decide +kernel
theorem d_R_findNone_200 : decode prog_7_method_15_code 200 = .ok (.iload_n 2, 1) := by decide +kernel
theorem d_R_findNone_201 : decode prog_7_method_15_code 201 = .ok (.aload_n 0, 1) := by decide +kernel
theorem d_R_findNone_202 : decode prog_7_method_15_code 202 = .ok (.getfield 61, 3) := by decide +kernel
theorem d_R_findNone_205 : decode prog_7_method_15_code 205 = .ok (.iload_n 3, 1) := by decide +kernel
theorem d_R_findNone_206 : decode prog_7_method_15_code 206 = .ok (.baload, 1) := by decide +kernel
theorem d_R_findNone_207 : decode prog_7_method_15_code 207 = .ok (.bastore, 1) := by decide +kernel
theorem d_R_findNone_208 : decode prog_7_method_15_code 208 = .ok (.goto 47, 3) := by decide +kernel
theorem d_R_findNone_211 : decode prog_7_method_15_code 211 = .ok (.aload_n 0, 1) := by decide +kernel
theorem d_R_findNone_212 : decode prog_7_method_15_code 212 = .ok (.getfield 61, 3) := by decide +kernel
theorem d_R_findNone_215 : decode prog_7_method_15_code 215 = .ok (.iload_n 2, 1) := by decide +kernel
theorem d_R_findNone_216 : decode prog_7_method_15_code 216 = .ok (.aload_n 0, 1) := by decide +kernel
theorem d_R_findNone_217 : decode prog_7_method_15_code 217 = .ok (.getfield 22, 3) := by decide +kernel
theorem d_R_findNone_220 : decode prog_7_method_15_code 220 = .ok (.iload_n 3, 1) := by decide +kernel
theorem d_R_findNone_221 : decode prog_7_method_15_code 221 = .ok (.iaload, 1) := by decide +kernel
theorem d_R_findNone_222 : decode prog_7_method_15_code 222 = .ok (.ifCond .lt 21, 3) := by decide +kernel
theorem d_R_findNone_225 : decode prog_7_method_15_code 225 = .ok (.aload_n 0, 1) := by decide +kernel
theorem d_R_findNone_226 : decode prog_7_method_15_code 226 = .ok (.getfield 61, 3) := by decide +kernel
theorem d_R_findNone_229 : decode prog_7_method_15_code 229 = .ok (.aload_n 0, 1) := by decide +kernel
theorem d_R_findNone_230 : decode prog_7_method_15_code 230 = .ok (.getfield 22, 3) := by decide +kernel
theorem d_R_findNone_233 : decode prog_7_method_15_code 233 = .ok (.iload_n 3, 1) := by decide +kernel
theorem d_R_findNone_234 : decode prog_7_method_15_code 234 = .ok (.iaload, 1) := by decide +kernel
theorem d_R_findNone_235 : decode prog_7_method_15_code 235 = .ok (.baload, 1) := by decide +kernel
theorem d_R_findNone_236 : decode prog_7_method_15_code 236 = .ok (.ifCond .eq 7, 3) := by decide +kernel
theorem d_R_findNone_239 : decode prog_7_method_15_code 239 = .ok (.iconst 1, 1) := by decide +kernel
theorem d_R_findNone_240 : decode prog_7_method_15_code 240 = .ok (.goto 4, 3) := by decide +kernel
theorem d_R_findNone_243 : decode prog_7_method_15_code 243 = .ok (.iconst 0, 1) := by decide +kernel
theorem d_R_findNone_244 : decode prog_7_method_15_code 244 = .ok (.bastore, 1) := by decide +kernel
theorem d_R_findNone_245 : decode prog_7_method_15_code 245 = .ok (.goto 10, 3) := by decide +kernel
theorem d_R_findNone_248 : decode prog_7_method_15_code 248 = .ok (.aload_n 0, 1) := by decide +kernel
theorem d_R_findNone_249 : decode prog_7_method_15_code 249 = .ok (.getfield 61, 3) := by decide +kernel
theorem d_R_findNone_252 : decode prog_7_method_15_code 252 = .ok (.iload_n 2, 1) := by decide +kernel
theorem d_R_findNone_253 : decode prog_7_method_15_code 253 = .ok (.iconst 0, 1) := by decide +kernel
theorem d_R_findNone_254 : decode prog_7_method_15_code 254 = .ok (.bastore, 1) := by decide +kernel
theorem d_R_findNone_255 : decode prog_7_method_15_code 255 = .ok (.iinc 2 1, 3) := by decide +kernel
theorem d_R_findNone_258 : decode prog_7_method_15_code 258 = .ok (.goto (-227), 3) := by decide +kernel
theorem d_R_findNone_261 : decode prog_7_method_15_code 261 = .ok (.iinc 1 1, 3) := by decide +kernel
theorem d_R_findNone_264 : decode prog_7_method_15_code 264 = .ok (.goto (-241), 3) := by decide +kernel
theorem d_R_findNone_267 : decode prog_7_method_15_code 267 = .ok (.return_, 1) := by decide +kernel
abbrev M_R_fill : vg_M := (⟨4, 0, 0, 97⟩, 7, prog_7_method_25_code, ⟨"PatternValidatorModel", "fill", "(I)V"⟩, none, Cond.code ⟨"PatternValidatorModel", "fill", "(I)V"⟩ prog_7_method_25_code 7 (none))
theorem d_R_fill_0 : decode prog_7_method_25_code 0 = .ok (.aload_n 0, 1) := by decide +kernel
theorem d_R_fill_1 : decode prog_7_method_25_code 1 = .ok (.iload_n 1, 1) := by decide +kernel
theorem d_R_fill_2 : decode prog_7_method_25_code 2 = .ok (.invokevirtual 119, 3) := by decide +kernel
theorem d_R_fill_5 : decode prog_7_method_25_code 5 = .ok (.istore_n 2, 1) := by decide +kernel
theorem d_R_fill_6 : decode prog_7_method_25_code 6 = .ok (.iconst 1, 1) := by decide +kernel
theorem d_R_fill_7 : decode prog_7_method_25_code 7 = .ok (.aload_n 0, 1) := by decide +kernel
theorem d_R_fill_8 : decode prog_7_method_25_code 8 = .ok (.getfield 47, 3) := by decide +kernel
theorem d_R_fill_11 : decode prog_7_method_25_code 11 = .ok (.iload_n 1, 1) := by decide +kernel
theorem d_R_fill_12 : decode prog_7_method_25_code 12 = .ok (.iaload, 1) := by decide +kernel
theorem d_R_fill_13 : decode prog_7_method_25_code 13 = .ok (.ishl, 1) := by decide +kernel
theorem d_R_fill_14 : decode prog_7_method_25_code 14 = .ok (.iconst 1, 1) := by decide +kernel
theorem d_R_fill_15 : decode prog_7_method_25_code 15 = .ok (.isub, 1) := by decide +kernel
theorem d_R_fill_16 : decode prog_7_method_25_code 16 = .ok (.istore_n 3, 1) := by decide +kernel
theorem d_R_fill_17 : decode prog_7_method_25_code 17 = .ok (.iconst 0, 1) := by decide +kernel
theorem d_R_fill_18 : decode prog_7_method_25_code 18 = .ok (.istore 4, 2) := by decide +kernel
theorem d_R_fill_20 : decode prog_7_method_25_code 20 = .ok (.iload 4, 2) := by decide +kernel
theorem d_R_fill_22 : decode prog_7_method_25_code 22 = .ok (.bipush 6, 2) := by decide +kernel
theorem d_R_fill_24 : decode prog_7_method_25_code 24 = .ok (.if_icmp .ge 82, 3) := by decide +kernel
theorem d_R_fill_27 : decode prog_7_method_25_code 27 = .ok (.aload_n 0, 1) := by decide +kernel
theorem d_R_fill_28 : decode prog_7_method_25_code 28 = .ok (.getfield 34, 3) := by decide +kernel
theorem d_R_fill_31 : decode prog_7_method_25_code 31 = .ok (.bipush 6, 2) := by decide +kernel
theorem d_R_fill_33 : decode prog_7_method_25_code 33 = .ok (.iload_n 1, 1) := by decide +kernel
theorem d_R_fill_34 : decode prog_7_method_25_code 34 = .ok (.imul, 1) := by decide +kernel
theorem d_R_fill_35 : decode prog_7_method_25_code 35 = .ok (.iload 4, 2) := by decide +kernel
theorem d_R_fill_37 : decode prog_7_method_25_code 37 = .ok (.iadd, 1) := by decide +kernel
theorem d_R_fill_38 : decode prog_7_method_25_code 38 = .ok (.baload, 1) := by decide +kernel
theorem d_R_fill_39 : decode prog_7_method_25_code 39 = .ok (.ifCond .ne 6, 3) := by decide +kernel
theorem d_R_fill_42 : decode prog_7_method_25_code 42 = .ok (.goto 58, 3) := by decide +kernel
theorem d_R_fill_45 : decode prog_7_method_25_code 45 = .ok (.aload_n 0, 1) := by decide +kernel
theorem d_R_fill_46 : decode prog_7_method_25_code 46 = .ok (.iconst (-1), 1) := by decide +kernel
theorem d_R_fill_47 : decode prog_7_method_25_code 47 = .ok (.aload_n 0, 1) := by decide +kernel
theorem d_R_fill_48 : decode prog_7_method_25_code 48 = .ok (.getfield 38, 3) := by decide +kernel
theorem d_R_fill_51 : decode prog_7_method_25_code 51 = .ok (.bipush 6, 2) := by decide +kernel
theorem d_R_fill_53 : decode prog_7_method_25_code 53 = .ok (.iload_n 1, 1) := by decide +kernel
theorem d_R_fill_54 : decode prog_7_method_25_code 54 = .ok (.imul, 1) := by decide +kernel
theorem d_R_fill_55 : decode prog_7_method_25_code 55 = .ok (.iload 4, 2) := by decide +kernel
theorem d_R_fill_57 : decode prog_7_method_25_code 57 = .ok (.iadd, 1) := by decide +kernel
theorem d_R_fill_58 : decode prog_7_method_25_code 58 = .ok (.iaload, 1) := by decide +kernel
theorem d_R_fill_59 : decode prog_7_method_25_code 59 = .ok (.invokevirtual 122, 3) := by decide +kernel
theorem d_R_fill_62 : decode prog_7_method_25_code 62 = .ok (.iconst 0, 1) := by decide +kernel
theorem d_R_fill_63 : decode prog_7_method_25_code 63 = .ok (.istore 5, 2) := by decide +kernel
theorem d_R_fill_65 : decode prog_7_method_25_code 65 = .ok (.iload 5, 2) := by decide +kernel
theorem d_R_fill_67 : decode prog_7_method_25_code 67 = .ok (.aload_n 0, 1) := by decide +kernel
theorem d_R_fill_68 : decode prog_7_method_25_code 68 = .ok (.getfield 73, 3) := by decide +kernel
theorem d_R_fill_71 : decode prog_7_method_25_code 71 = .ok (.if_icmp .ge 29, 3) := by decide +kernel
theorem d_R_fill_74 : decode prog_7_method_25_code 74 = .ok (.aload_n 0, 1) := by decide +kernel
theorem d_R_fill_75 : decode prog_7_method_25_code 75 = .ok (.getfield 67, 3) := by decide +kernel
theorem d_R_fill_78 : decode prog_7_method_25_code 78 = .ok (.bipush 40, 2) := by decide +kernel
theorem d_R_fill_80 : decode prog_7_method_25_code 80 = .ok (.iload 4, 2) := by decide +kernel
theorem d_R_fill_82 : decode prog_7_method_25_code 82 = .ok (.imul, 1) := by decide +kernel
theorem d_R_fill_83 : decode prog_7_method_25_code 83 = .ok (.iload 5, 2) := by decide +kernel
theorem d_R_fill_85 : decode prog_7_method_25_code 85 = .ok (.iadd, 1) := by decide +kernel
theorem d_R_fill_86 : decode prog_7_method_25_code 86 = .ok (.aload_n 0, 1) := by decide +kernel
theorem d_R_fill_87 : decode prog_7_method_25_code 87 = .ok (.getfield 64, 3) := by decide +kernel
theorem d_R_fill_90 : decode prog_7_method_25_code 90 = .ok (.iload 5, 2) := by decide +kernel
theorem d_R_fill_92 : decode prog_7_method_25_code 92 = .ok (.baload, 1) := by decide +kernel
theorem d_R_fill_93 : decode prog_7_method_25_code 93 = .ok (.bastore, 1) := by decide +kernel
theorem d_R_fill_94 : decode prog_7_method_25_code 94 = .ok (.iinc 5 1, 3) := by decide +kernel
theorem d_R_fill_97 : decode prog_7_method_25_code 97 = .ok (.goto (-32), 3) := by decide +kernel
theorem d_R_fill_100 : decode prog_7_method_25_code 100 = .ok (.iinc 4 1, 3) := by decide +kernel
theorem d_R_fill_103 : decode prog_7_method_25_code 103 = .ok (.goto (-83), 3) := by decide +kernel
theorem d_R_fill_106 : decode prog_7_method_25_code 106 = .ok (.iconst 0, 1) := by decide +kernel
theorem d_R_fill_107 : decode prog_7_method_25_code 107 = .ok (.istore 4, 2) := by decide +kernel
theorem d_R_fill_109 : decode prog_7_method_25_code 109 = .ok (.iload 4, 2) := by decide +kernel
theorem d_R_fill_111 : decode prog_7_method_25_code 111 = .ok (.sipush 2560, 3) := by decide +kernel
theorem d_R_fill_114 : decode prog_7_method_25_code 114 = .ok (.if_icmp .ge 17, 3) := by decide +kernel
theorem d_R_fill_117 : decode prog_7_method_25_code 117 = .ok (.aload_n 0, 1) := by decide +kernel
theorem d_R_fill_118 : decode prog_7_method_25_code 118 = .ok (.getfield 54, 3) := by decide +kernel
theorem d_R_fill_121 : decode prog_7_method_25_code 121 = .ok (.iload 4, 2) := by decide +kernel
theorem d_R_fill_123 : decode prog_7_method_25_code 123 = .ok (.lconst 0, 1) := by decide +kernel
theorem d_R_fill_124 : decode prog_7_method_25_code 124 = .ok (.lastore, 1) := by decide +kernel
theorem d_R_fill_125 : decode prog_7_method_25_code 125 = .ok (.iinc 4 1, 3) := by decide +kernel
theorem d_R_fill_128 : decode prog_7_method_25_code 128 = .ok (.goto (-19), 3) := by decide +kernel
theorem d_R_fill_131 : decode prog_7_method_25_code 131 = .ok (.aload_n 0, 1) := by decide +kernel
theorem d_R_fill_132 : decode prog_7_method_25_code 132 = .ok (.iconst 1, 1) := by decide +kernel
theorem d_R_fill_133 : decode prog_7_method_25_code 133 = .ok (.putfield 101, 3) := by decide +kernel
theorem d_R_fill_136 : decode prog_7_method_25_code 136 = .ok (.aload_n 0, 1) := by decide +kernel
theorem d_R_fill_137 : decode prog_7_method_25_code 137 = .ok (.getfield 101, 3) := by decide +kernel
theorem d_R_fill_140 : decode prog_7_method_25_code 140 = .ok (.ifCond .eq 108, 3) := by decide +kernel
theorem d_R_fill_143 : decode prog_7_method_25_code 143 = .ok (.aload_n 0, 1) := by decide +kernel
theorem d_R_fill_144 : decode prog_7_method_25_code 144 = .ok (.iconst 0, 1) := by decide +kernel
theorem d_R_fill_145 : decode prog_7_method_25_code 145 = .ok (.putfield 101, 3) := by decide +kernel
theorem d_R_fill_148 : decode prog_7_method_25_code 148 = .ok (.iconst 0, 1) := by decide +kernel
theorem d_R_fill_149 : decode prog_7_method_25_code 149 = .ok (.istore 4, 2) := by decide +kernel
theorem d_R_fill_151 : decode prog_7_method_25_code 151 = .ok (.iload 4, 2) := by decide +kernel
theorem d_R_fill_153 : decode prog_7_method_25_code 153 = .ok (.aload_n 0, 1) := by decide +kernel
theorem d_R_fill_154 : decode prog_7_method_25_code 154 = .ok (.getfield 73, 3) := by decide +kernel
theorem d_R_fill_157 : decode prog_7_method_25_code 157 = .ok (.if_icmp .ge 88, 3) := by decide +kernel
theorem d_R_fill_160 : decode prog_7_method_25_code 160 = .ok (.iload_n 2, 1) := by decide +kernel
theorem d_R_fill_161 : decode prog_7_method_25_code 161 = .ok (.istore 5, 2) := by decide +kernel
theorem d_R_fill_163 : decode prog_7_method_25_code 163 = .ok (.iload 5, 2) := by decide +kernel
theorem d_R_fill_165 : decode prog_7_method_25_code 165 = .ok (.ifCond .lt 74, 3) := by decide +kernel
theorem d_R_fill_168 : decode prog_7_method_25_code 168 = .ok (.iload_n 3, 1) := by decide +kernel
theorem d_R_fill_169 : decode prog_7_method_25_code 169 = .ok (.istore 6, 2) := by decide +kernel
theorem d_R_fill_171 : decode prog_7_method_25_code 171 = .ok (.iload 6, 2) := by decide +kernel
theorem d_R_fill_173 : decode prog_7_method_25_code 173 = .ok (.ifCond .lt 46, 3) := by decide +kernel
theorem d_R_fill_176 : decode prog_7_method_25_code 176 = .ok (.aload_n 0, 1) := by decide +kernel
theorem d_R_fill_177 : decode prog_7_method_25_code 177 = .ok (.iload 4, 2) := by decide +kernel
theorem d_R_fill_179 : decode prog_7_method_25_code 179 = .ok (.iload 5, 2) := by decide +kernel
theorem d_R_fill_181 : decode prog_7_method_25_code 181 = .ok (.iload 6, 2) := by decide +kernel
theorem d_R_fill_183 : decode prog_7_method_25_code 183 = .ok (.invokevirtual 112, 3) := by decide +kernel
theorem d_R_fill_186 : decode prog_7_method_25_code 186 = .ok (.ifCond .ne 27, 3) := by decide +kernel
theorem d_R_fill_189 : decode prog_7_method_25_code 189 = .ok (.aload_n 0, 1) := by decide +kernel
theorem d_R_fill_190 : decode prog_7_method_25_code 190 = .ok (.iload 4, 2) := by decide +kernel
theorem d_R_fill_192 : decode prog_7_method_25_code 192 = .ok (.iload_n 1, 1) := by decide +kernel
theorem d_R_fill_193 : decode prog_7_method_25_code 193 = .ok (.iload 5, 2) := by decide +kernel
theorem d_R_fill_195 : decode prog_7_method_25_code 195 = .ok (.iload 6, 2) := by decide +kernel
theorem d_R_fill_197 : decode prog_7_method_25_code 197 = .ok (.invokevirtual 126, 3) := by decide +kernel
theorem d_R_fill_200 : decode prog_7_method_25_code 200 = .ok (.ifCond .eq 13, 3) := by decide +kernel
theorem d_R_fill_203 : decode prog_7_method_25_code 203 = .ok (.aload_n 0, 1) := by decide +kernel
theorem d_R_fill_204 : decode prog_7_method_25_code 204 = .ok (.iload 4, 2) := by decide +kernel
theorem d_R_fill_206 : decode prog_7_method_25_code 206 = .ok (.iload 5, 2) := by decide +kernel
theorem d_R_fill_208 : decode prog_7_method_25_code 208 = .ok (.iload 6, 2) := by decide +kernel
theorem d_R_fill_210 : decode prog_7_method_25_code 210 = .ok (.invokevirtual 129, 3) := by decide +kernel
theorem d_R_fill_213 : decode prog_7_method_25_code 213 = .ok (.iinc 6 (-1), 3) := by decide +kernel
theorem d_R_fill_216 : decode prog_7_method_25_code 216 = .ok (.goto (-45), 3) := by decide +kernel
theorem d_R_fill_219 : decode prog_7_method_25_code 219 = .ok (.iload 5, 2) := by decide +kernel
theorem d_R_fill_221 : decode prog_7_method_25_code 221 = .ok (.ifCond .ne 7, 3) := by decide +kernel
theorem d_R_fill_224 : decode prog_7_method_25_code 224 = .ok (.iconst (-1), 1) := by decide +kernel
theorem d_R_fill_225 : decode prog_7_method_25_code 225 = .ok (.goto 9, 3) := by decide +kernel
theorem d_R_fill_228 : decode prog_7_method_25_code 228 = .ok (.iload 5, 2) := by decide +kernel
theorem d_R_fill_230 : decode prog_7_method_25_code 230 = .ok (.iconst 1, 1) := by decide +kernel
theorem d_R_fill_231 : decode prog_7_method_25_code 231 = .ok (.isub, 1) := by decide +kernel
theorem d_R_fill_232 : decode prog_7_method_25_code 232 = .ok (.iload_n 2, 1) := by decide +kernel
theorem d_R_fill_233 : decode prog_7_method_25_code 233 = .ok (.iand, 1) := by decide +kernel
theorem d_R_fill_234 : decode prog_7_method_25_code 234 = .ok (.istore 5, 2) := by decide +kernel
theorem d_R_fill_236 : decode prog_7_method_25_code 236 = .ok (.goto (-73), 3) := by decide +kernel
theorem d_R_fill_239 : decode prog_7_method_25_code 239 = .ok (.iinc 4 1, 3) := by decide +kernel
theorem d_R_fill_242 : decode prog_7_method_25_code 242 = .ok (.goto (-91), 3) := by decide +kernel
theorem d_R_fill_245 : decode prog_7_method_25_code 245 = .ok (.goto (-109), 3) := by decide +kernel
theorem d_R_fill_248 : decode prog_7_method_25_code 248 = .ok (.iconst 0, 1) := by decide +kernel
theorem d_R_fill_249 : decode prog_7_method_25_code 249 = .ok (.istore 4, 2) := by decide +kernel
theorem d_R_fill_251 : decode prog_7_method_25_code 251 = .ok (.iload 4, 2) := by decide +kernel
theorem d_R_fill_253 : decode prog_7_method_25_code 253 = .ok (.aload_n 0, 1) := by decide +kernel
theorem d_R_fill_254 : decode prog_7_method_25_code 254 = .ok (.getfield 73, 3) := by decide +kernel
theorem d_R_fill_257 : decode prog_7_method_25_code 257 = .ok (.if_icmp .ge 29, 3) := by decide +kernel
theorem d_R_fill_260 : decode prog_7_method_25_code 260 = .ok (.aload_n 0, 1) := by decide +kernel
theorem d_R_fill_261 : decode prog_7_method_25_code 261 = .ok (.getfield 58, 3) := by decide +kernel
theorem d_R_fill_264 : decode prog_7_method_25_code 264 = .ok (.bipush 40, 2) := by decide +kernel
theorem d_R_fill_266 : decode prog_7_method_25_code 266 = .ok (.iload_n 1, 1) := by decide +kernel
theorem d_R_fill_267 : decode prog_7_method_25_code 267 = .ok (.imul, 1) := by decide +kernel
theorem d_R_fill_268 : decode prog_7_method_25_code 268 = .ok (.iload 4, 2) := by decide +kernel
theorem d_R_fill_270 : decode prog_7_method_25_code 270 = .ok (.iadd, 1) := by decide +kernel
theorem d_R_fill_271 : decode prog_7_method_25_code 271 = .ok (.aload_n 0, 1) := by decide +kernel
theorem d_R_fill_272 : decode prog_7_method_25_code 272 = .ok (.iload 4, 2) := by decide +kernel
theorem d_R_fill_274 : decode prog_7_method_25_code 274 = .ok (.iload_n 2, 1) := by decide +kernel
theorem d_R_fill_275 : decode prog_7_method_25_code 275 = .ok (.iload_n 3, 1) := by decide +kernel
theorem d_R_fill_276 : decode prog_7_method_25_code 276 = .ok (.invokevirtual 112, 3) := by decide +kernel
theorem d_R_fill_279 : decode prog_7_method_25_code 279 = .ok (.bastore, 1) := by decide +kernel
theorem d_R_fill_280 : decode prog_7_method_25_code 280 = .ok (.iinc 4 1, 3) := by decide +kernel
theorem d_R_fill_283 : decode prog_7_method_25_code 283 = .ok (.goto (-32), 3) := by decide +kernel
theorem d_R_fill_286 : decode prog_7_method_25_code 286 = .ok (.return_, 1) := by decide +kernel
abbrev M_R_attributes : vg_M := (⟨0, 0, 0, 0⟩, 4, prog_7_method_24_code, ⟨"PatternValidatorModel", "attributes", "(I)I"⟩, some .int, Cond.code ⟨"PatternValidatorModel", "attributes", "(I)I"⟩ prog_7_method_24_code 4 (some .int))
theorem d_R_attributes_0 : decode prog_7_method_24_code 0 = .ok (.iconst 0, 1) := by decide +kernel
theorem d_R_attributes_1 : decode prog_7_method_24_code 1 = .ok (.istore_n 2, 1) := by decide +kernel
theorem d_R_attributes_2 : decode prog_7_method_24_code 2 = .ok (.iconst 0, 1) := by decide +kernel
theorem d_R_attributes_3 : decode prog_7_method_24_code 3 = .ok (.istore_n 3, 1) := by decide +kernel
theorem d_R_attributes_4 : decode prog_7_method_24_code 4 = .ok (.iload_n 3, 1) := by decide +kernel
theorem d_R_attributes_5 : decode prog_7_method_24_code 5 = .ok (.bipush 6, 2) := by decide +kernel
theorem d_R_attributes_7 : decode prog_7_method_24_code 7 = .ok (.if_icmp .ge 29, 3) := by decide +kernel
theorem d_R_attributes_10 : decode prog_7_method_24_code 10 = .ok (.aload_n 0, 1) := by decide +kernel
theorem d_R_attributes_11 : decode prog_7_method_24_code 11 = .ok (.getfield 34, 3) := by decide +kernel
theorem d_R_attributes_14 : decode prog_7_method_24_code 14 = .ok (.bipush 6, 2) := by decide +kernel
theorem d_R_attributes_16 : decode prog_7_method_24_code 16 = .ok (.iload_n 1, 1) := by decide +kernel
theorem d_R_attributes_17 : decode prog_7_method_24_code 17 = .ok (.imul, 1) := by decide +kernel
theorem d_R_attributes_18 : decode prog_7_method_24_code 18 = .ok (.iload_n 3, 1) := by decide +kernel
theorem d_R_attributes_19 : decode prog_7_method_24_code 19 = .ok (.iadd, 1) := by decide +kernel
theorem d_R_attributes_20 : decode prog_7_method_24_code 20 = .ok (.baload, 1) := by decide +kernel
theorem d_R_attributes_21 : decode prog_7_method_24_code 21 = .ok (.ifCond .eq 9, 3) := by decide +kernel
theorem d_R_attributes_24 : decode prog_7_method_24_code 24 = .ok (.iload_n 2, 1) := by decide +kernel
theorem d_R_attributes_25 : decode prog_7_method_24_code 25 = .ok (.iconst 1, 1) := by decide +kernel
theorem d_R_attributes_26 : decode prog_7_method_24_code 26 = .ok (.iload_n 3, 1) := by decide +kernel
theorem d_R_attributes_27 : decode prog_7_method_24_code 27 = .ok (.ishl, 1) := by decide +kernel
theorem d_R_attributes_28 : decode prog_7_method_24_code 28 = .ok (.ior, 1) := by decide +kernel
theorem d_R_attributes_29 : decode prog_7_method_24_code 29 = .ok (.istore_n 2, 1) := by decide +kernel
theorem d_R_attributes_30 : decode prog_7_method_24_code 30 = .ok (.iinc 3 1, 3) := by decide +kernel
theorem d_R_attributes_33 : decode prog_7_method_24_code 33 = .ok (.goto (-29), 3) := by decide +kernel
theorem d_R_attributes_36 : decode prog_7_method_24_code 36 = .ok (.iload_n 2, 1) := by decide +kernel
theorem d_R_attributes_37 : decode prog_7_method_24_code 37 = .ok (.ireturn, 1) := by decide +kernel
abbrev M_R_findSingle : vg_M := (⟨2, 0, 0, 45⟩, 7, prog_7_method_17_code, ⟨"PatternValidatorModel", "findSingle", "(II)V"⟩, none, Cond.code ⟨"PatternValidatorModel", "findSingle", "(II)V"⟩ prog_7_method_17_code 7 (none))
theorem d_R_findSingle_0 : decode prog_7_method_17_code 0 = .ok (.iconst 0, 1) := by decide +kernel
theorem d_R_findSingle_1 : decode prog_7_method_17_code 1 = .ok (.istore_n 3, 1) := by decide +kernel
theorem d_R_findSingle_2 : decode prog_7_method_17_code 2 = .ok (.iload_n 3, 1) := by decide +kernel
theorem d_R_findSingle_3 : decode prog_7_method_17_code 3 = .ok (.bipush 40, 2) := by decide +kernel
theorem d_R_findSingle_5 : decode prog_7_method_17_code 5 = .ok (.if_icmp .ge 16, 3) := by decide +kernel
theorem d_R_findSingle_8 : decode prog_7_method_17_code 8 = .ok (.aload_n 0, 1) := by decide +kernel
theorem d_R_findSingle_9 : decode prog_7_method_17_code 9 = .ok (.getfield 64, 3) := by decide +kernel
theorem d_R_findSingle_12 : decode prog_7_method_17_code 12 = .ok (.iload_n 3, 1) := by decide +kernel
theorem d_R_findSingle_13 : decode prog_7_method_17_code 13 = .ok (.iconst 0, 1) := by decide +kernel
theorem d_R_findSingle_14 : decode prog_7_method_17_code 14 = .ok (.bastore, 1) := by decide +kernel
theorem d_R_findSingle_15 : decode prog_7_method_17_code 15 = .ok (.iinc 3 1, 3) := by decide +kernel
theorem d_R_findSingle_18 : decode prog_7_method_17_code 18 = .ok (.goto (-16), 3) := by decide +kernel
theorem d_R_findSingle_21 : decode prog_7_method_17_code 21 = .ok (.iconst 0, 1) := by decide +kernel
theorem d_R_findSingle_22 : decode prog_7_method_17_code 22 = .ok (.istore_n 3, 1) := by decide +kernel
theorem d_R_findSingle_23 : decode prog_7_method_17_code 23 = .ok (.iload_n 3, 1) := by decide +kernel
theorem d_R_findSingle_24 : decode prog_7_method_17_code 24 = .ok (.bipush 42, 2) := by decide +kernel
theorem d_R_findSingle_26 : decode prog_7_method_17_code 26 = .ok (.if_icmp .ge 256, 3) := by decide +kernel
theorem d_R_findSingle_29 : decode prog_7_method_17_code 29 = .ok (.iconst 0, 1) := by decide +kernel
theorem d_R_findSingle_30 : decode prog_7_method_17_code 30 = .ok (.istore 4, 2) := by decide +kernel
theorem d_R_findSingle_32 : decode prog_7_method_17_code 32 = .ok (.iload 4, 2) := by decide +kernel
theorem d_R_findSingle_34 : decode prog_7_method_17_code 34 = .ok (.aload_n 0, 1) := by decide +kernel
theorem d_R_findSingle_35 : decode prog_7_method_17_code 35 = .ok (.getfield 73, 3) := by decide +kernel
theorem d_R_findSingle_38 : decode prog_7_method_17_code 38 = .ok (.if_icmp .ge 238, 3) := by decide +kernel
theorem d_R_findSingle_41 : decode prog_7_method_17_code 41 = .ok (.aload_n 0, 1) := by decide +kernel
theorem d_R_findSingle_42 : decode prog_7_method_17_code 42 = .ok (.getfield 13, 3) := by decide +kernel
theorem d_R_findSingle_45 : decode prog_7_method_17_code 45 = .ok (.iload 4, 2) := by decide +kernel
theorem d_R_findSingle_47 : decode prog_7_method_17_code 47 = .ok (.iaload, 1) := by decide +kernel
theorem d_R_findSingle_48 : decode prog_7_method_17_code 48 = .ok (.istore 5, 2) := by decide +kernel
theorem d_R_findSingle_50 : decode prog_7_method_17_code 50 = .ok (.aload_n 0, 1) := by decide +kernel
theorem d_R_findSingle_51 : decode prog_7_method_17_code 51 = .ok (.getfield 16, 3) := by decide +kernel
theorem d_R_findSingle_54 : decode prog_7_method_17_code 54 = .ok (.iload 4, 2) := by decide +kernel
theorem d_R_findSingle_56 : decode prog_7_method_17_code 56 = .ok (.iaload, 1) := by decide +kernel
theorem d_R_findSingle_57 : decode prog_7_method_17_code 57 = .ok (.istore 6, 2) := by decide +kernel
theorem d_R_findSingle_59 : decode prog_7_method_17_code 59 = .ok (.aload_n 0, 1) := by decide +kernel
theorem d_R_findSingle_60 : decode prog_7_method_17_code 60 = .ok (.getfield 7, 3) := by decide +kernel
theorem d_R_findSingle_63 : decode prog_7_method_17_code 63 = .ok (.iload 4, 2) := by decide +kernel
theorem d_R_findSingle_65 : decode prog_7_method_17_code 65 = .ok (.iaload, 1) := by decide +kernel
theorem d_R_findSingle_66 : decode prog_7_method_17_code 66 = .ok (.tableswitch 189 4 10 #[42, 42, 97, 132, 189, 189, 149], 42) := by decide +kernel
theorem d_R_findSingle_108 : decode prog_7_method_17_code 108 = .ok (.aload_n 0, 1) := by decide +kernel
theorem d_R_findSingle_109 : decode prog_7_method_17_code 109 = .ok (.getfield 64, 3) := by decide +kernel
theorem d_R_findSingle_112 : decode prog_7_method_17_code 112 = .ok (.iload 4, 2) := by decide +kernel
theorem d_R_findSingle_114 : decode prog_7_method_17_code 114 = .ok (.aload_n 0, 1) := by decide +kernel
theorem d_R_findSingle_115 : decode prog_7_method_17_code 115 = .ok (.getfield 64, 3) := by decide +kernel
theorem d_R_findSingle_118 : decode prog_7_method_17_code 118 = .ok (.iload 5, 2) := by decide +kernel
theorem d_R_findSingle_120 : decode prog_7_method_17_code 120 = .ok (.baload, 1) := by decide +kernel
theorem d_R_findSingle_121 : decode prog_7_method_17_code 121 = .ok (.ifCond .eq 13, 3) := by decide +kernel
theorem d_R_findSingle_124 : decode prog_7_method_17_code 124 = .ok (.aload_n 0, 1) := by decide +kernel
theorem d_R_findSingle_125 : decode prog_7_method_17_code 125 = .ok (.getfield 61, 3) := by decide +kernel
theorem d_R_findSingle_128 : decode prog_7_method_17_code 128 = .ok (.iload 6, 2) := by decide +kernel
theorem d_R_findSingle_130 : decode prog_7_method_17_code 130 = .ok (.baload, 1) := by decide +kernel
theorem d_R_findSingle_131 : decode prog_7_method_17_code 131 = .ok (.ifCond .ne 23, 3) := by decide +kernel
theorem d_R_findSingle_134 : decode prog_7_method_17_code 134 = .ok (.aload_n 0, 1) := by decide +kernel
theorem d_R_findSingle_135 : decode prog_7_method_17_code 135 = .ok (.getfield 61, 3) := by decide +kernel
theorem d_R_findSingle_138 : decode prog_7_method_17_code 138 = .ok (.iload 5, 2) := by decide +kernel
theorem d_R_findSingle_140 : decode prog_7_method_17_code 140 = .ok (.baload, 1) := by decide +kernel
theorem d_R_findSingle_141 : decode prog_7_method_17_code 141 = .ok (.ifCond .eq 17, 3) := by decide +kernel
theorem d_R_findSingle_144 : decode prog_7_method_17_code 144 = .ok (.aload_n 0, 1) := by decide +kernel
theorem d_R_findSingle_145 : decode prog_7_method_17_code 145 = .ok (.getfield 64, 3) := by decide +kernel
theorem d_R_findSingle_148 : decode prog_7_method_17_code 148 = .ok (.iload 6, 2) := by decide +kernel
theorem d_R_findSingle_150 : decode prog_7_method_17_code 150 = .ok (.baload, 1) := by decide +kernel
theorem d_R_findSingle_151 : decode prog_7_method_17_code 151 = .ok (.ifCond .eq 7, 3) := by decide +kernel
theorem d_R_findSingle_154 : decode prog_7_method_17_code 154 = .ok (.iconst 1, 1) := by decide +kernel
theorem d_R_findSingle_155 : decode prog_7_method_17_code 155 = .ok (.goto 4, 3) := by decide +kernel
theorem d_R_findSingle_158 : decode prog_7_method_17_code 158 = .ok (.iconst 0, 1) := by decide +kernel
theorem d_R_findSingle_159 : decode prog_7_method_17_code 159 = .ok (.bastore, 1) := by decide +kernel
theorem d_R_findSingle_160 : decode prog_7_method_17_code 160 = .ok (.goto 110, 3) := by decide +kernel
theorem d_R_findSingle_163 : decode prog_7_method_17_code 163 = .ok (.aload_n 0, 1) := by decide +kernel
theorem d_R_findSingle_164 : decode prog_7_method_17_code 164 = .ok (.getfield 64, 3) := by decide +kernel
theorem d_R_findSingle_167 : decode prog_7_method_17_code 167 = .ok (.iload 4, 2) := by decide +kernel
theorem d_R_findSingle_169 : decode prog_7_method_17_code 169 = .ok (.aload_n 0, 1) := by decide +kernel
theorem d_R_findSingle_170 : decode prog_7_method_17_code 170 = .ok (.getfield 64, 3) := by decide +kernel
theorem d_R_findSingle_173 : decode prog_7_method_17_code 173 = .ok (.iload 5, 2) := by decide +kernel
theorem d_R_findSingle_175 : decode prog_7_method_17_code 175 = .ok (.baload, 1) := by decide +kernel
theorem d_R_findSingle_176 : decode prog_7_method_17_code 176 = .ok (.ifCond .ne 13, 3) := by decide +kernel
theorem d_R_findSingle_179 : decode prog_7_method_17_code 179 = .ok (.aload_n 0, 1) := by decide +kernel
theorem d_R_findSingle_180 : decode prog_7_method_17_code 180 = .ok (.getfield 64, 3) := by decide +kernel
theorem d_R_findSingle_183 : decode prog_7_method_17_code 183 = .ok (.iload 6, 2) := by decide +kernel
theorem d_R_findSingle_185 : decode prog_7_method_17_code 185 = .ok (.baload, 1) := by decide +kernel
theorem d_R_findSingle_186 : decode prog_7_method_17_code 186 = .ok (.ifCond .eq 7, 3) := by decide +kernel
theorem d_R_findSingle_189 : decode prog_7_method_17_code 189 = .ok (.iconst 1, 1) := by decide +kernel
theorem d_R_findSingle_190 : decode prog_7_method_17_code 190 = .ok (.goto 4, 3) := by decide +kernel
theorem d_R_findSingle_193 : decode prog_7_method_17_code 193 = .ok (.iconst 0, 1) := by decide +kernel
theorem d_R_findSingle_194 : decode prog_7_method_17_code 194 = .ok (.bastore, 1) := by decide +kernel
theorem d_R_findSingle_195 : decode prog_7_method_17_code 195 = .ok (.goto 75, 3) := by decide +kernel
theorem d_R_findSingle_198 : decode prog_7_method_17_code 198 = .ok (.aload_n 0, 1) := by decide +kernel
theorem d_R_findSingle_199 : decode prog_7_method_17_code 199 = .ok (.getfield 64, 3) := by decide +kernel
theorem d_R_findSingle_202 : decode prog_7_method_17_code 202 = .ok (.iload 4, 2) := by decide +kernel
theorem d_R_findSingle_204 : decode prog_7_method_17_code 204 = .ok (.aload_n 0, 1) := by decide +kernel
theorem d_R_findSingle_205 : decode prog_7_method_17_code 205 = .ok (.getfield 64, 3) := by decide +kernel
theorem d_R_findSingle_208 : decode prog_7_method_17_code 208 = .ok (.iload 5, 2) := by decide +kernel
theorem d_R_findSingle_210 : decode prog_7_method_17_code 210 = .ok (.baload, 1) := by decide +kernel
theorem d_R_findSingle_211 : decode prog_7_method_17_code 211 = .ok (.bastore, 1) := by decide +kernel
theorem d_R_findSingle_212 : decode prog_7_method_17_code 212 = .ok (.goto 58, 3) := by decide +kernel
theorem d_R_findSingle_215 : decode prog_7_method_17_code 215 = .ok (.aload_n 0, 1) := by decide +kernel
theorem d_R_findSingle_216 : decode prog_7_method_17_code 216 = .ok (.getfield 64, 3) := by decide +kernel
theorem d_R_findSingle_219 : decode prog_7_method_17_code 219 = .ok (.iload 4, 2) := by decide +kernel
theorem d_R_findSingle_221 : decode prog_7_method_17_code 221 = .ok (.aload_n 0, 1) := by decide +kernel
theorem d_R_findSingle_222 : decode prog_7_method_17_code 222 = .ok (.getfield 22, 3) := by decide +kernel
theorem d_R_findSingle_225 : decode prog_7_method_17_code 225 = .ok (.iload 5, 2) := by decide +kernel
theorem d_R_findSingle_227 : decode prog_7_method_17_code 227 = .ok (.iaload, 1) := by decide +kernel
theorem d_R_findSingle_228 : decode prog_7_method_17_code 228 = .ok (.ifCond .lt 22, 3) := by decide +kernel
theorem d_R_findSingle_231 : decode prog_7_method_17_code 231 = .ok (.aload_n 0, 1) := by decide +kernel
theorem d_R_findSingle_232 : decode prog_7_method_17_code 232 = .ok (.getfield 64, 3) := by decide +kernel
theorem d_R_findSingle_235 : decode prog_7_method_17_code 235 = .ok (.aload_n 0, 1) := by decide +kernel
theorem d_R_findSingle_236 : decode prog_7_method_17_code 236 = .ok (.getfield 22, 3) := by decide +kernel
theorem d_R_findSingle_239 : decode prog_7_method_17_code 239 = .ok (.iload 5, 2) := by decide +kernel
theorem d_R_findSingle_241 : decode prog_7_method_17_code 241 = .ok (.iaload, 1) := by decide +kernel
theorem d_R_findSingle_242 : decode prog_7_method_17_code 242 = .ok (.baload, 1) := by decide +kernel
theorem d_R_findSingle_243 : decode prog_7_method_17_code 243 = .ok (.ifCond .eq 7, 3) := by decide +kernel
theorem d_R_findSingle_246 : decode prog_7_method_17_code 246 = .ok (.iconst 1, 1) := by decide +kernel
theorem d_R_findSingle_247 : decode prog_7_method_17_code 247 = .ok (.goto 4, 3) := by decide +kernel
theorem d_R_findSingle_250 : decode prog_7_method_17_code 250 = .ok (.iconst 0, 1) := by decide +kernel
theorem d_R_findSingle_251 : decode prog_7_method_17_code 251 = .ok (.bastore, 1) := by decide +kernel
theorem d_R_findSingle_252 : decode prog_7_method_17_code 252 = .ok (.goto 18, 3) := by decide +kernel
theorem d_R_findSingle_255 : decode prog_7_method_17_code 255 = .ok (.aload_n 0, 1) := by decide +kernel
theorem d_R_findSingle_256 : decode prog_7_method_17_code 256 = .ok (.getfield 64, 3) := by decide +kernel
theorem d_R_findSingle_259 : decode prog_7_method_17_code 259 = .ok (.iload 4, 2) := by decide +kernel
theorem d_R_findSingle_261 : decode prog_7_method_17_code 261 = .ok (.aload_n 0, 1) := by decide +kernel
theorem d_R_findSingle_262 : decode prog_7_method_17_code 262 = .ok (.iload 4, 2) := by decide +kernel
theorem d_R_findSingle_264 : decode prog_7_method_17_code 264 = .ok (.iload_n 1, 1) := by decide +kernel
theorem d_R_findSingle_265 : decode prog_7_method_17_code 265 = .ok (.iload_n 2, 1) := by decide +kernel
theorem d_R_findSingle_266 : decode prog_7_method_17_code 266 = .ok (.invokevirtual 98, 3) := by decide +kernel
theorem d_R_findSingle_269 : decode prog_7_method_17_code 269 = .ok (.bastore, 1) := by decide +kernel
theorem d_R_findSingle_270 : decode prog_7_method_17_code 270 = .ok (.iinc 4 1, 3) := by decide +kernel
theorem d_R_findSingle_273 : decode prog_7_method_17_code 273 = .ok (.goto (-241), 3) := by decide +kernel
theorem d_R_findSingle_276 : decode prog_7_method_17_code 276 = .ok (.iinc 3 1, 3) := by decide +kernel
theorem d_R_findSingle_279 : decode prog_7_method_17_code 279 = .ok (.goto (-256), 3) := by decide +kernel
theorem d_R_findSingle_282 : decode prog_7_method_17_code 282 = .ok (.return_, 1) := by decide +kernel
abbrev M_R_one : vg_M := (⟨1, 0, 0, 22⟩, 4, prog_7_method_16_code, ⟨"PatternValidatorModel", "one", "(III)Z"⟩, some .boolean, Cond.code ⟨"PatternValidatorModel", "one", "(III)Z"⟩ prog_7_method_16_code 4 (some .boolean))
theorem d_R_one_0 : decode prog_7_method_16_code 0 = .ok (.aload_n 0, 1) := by decide +kernel
theorem d_R_one_1 : decode prog_7_method_16_code 1 = .ok (.getfield 7, 3) := by decide +kernel
theorem d_R_one_4 : decode prog_7_method_16_code 4 = .ok (.iload_n 1, 1) := by decide +kernel
theorem d_R_one_5 : decode prog_7_method_16_code 5 = .ok (.iaload, 1) := by decide +kernel
theorem d_R_one_6 : decode prog_7_method_16_code 6 = .ok (.iconst 2, 1) := by decide +kernel
theorem d_R_one_7 : decode prog_7_method_16_code 7 = .ok (.if_icmp .ne 13, 3) := by decide +kernel
theorem d_R_one_10 : decode prog_7_method_16_code 10 = .ok (.iload_n 2, 1) := by decide +kernel
theorem d_R_one_11 : decode prog_7_method_16_code 11 = .ok (.ifCond .ge 7, 3) := by decide +kernel
theorem d_R_one_14 : decode prog_7_method_16_code 14 = .ok (.iconst 1, 1) := by decide +kernel
theorem d_R_one_15 : decode prog_7_method_16_code 15 = .ok (.goto 4, 3) := by decide +kernel
theorem d_R_one_18 : decode prog_7_method_16_code 18 = .ok (.iconst 0, 1) := by decide +kernel
theorem d_R_one_19 : decode prog_7_method_16_code 19 = .ok (.ireturn, 1) := by decide +kernel
theorem d_R_one_20 : decode prog_7_method_16_code 20 = .ok (.aload_n 0, 1) := by decide +kernel
theorem d_R_one_21 : decode prog_7_method_16_code 21 = .ok (.getfield 7, 3) := by decide +kernel
theorem d_R_one_24 : decode prog_7_method_16_code 24 = .ok (.iload_n 1, 1) := by decide +kernel
theorem d_R_one_25 : decode prog_7_method_16_code 25 = .ok (.iaload, 1) := by decide +kernel
theorem d_R_one_26 : decode prog_7_method_16_code 26 = .ok (.iconst 3, 1) := by decide +kernel
theorem d_R_one_27 : decode prog_7_method_16_code 27 = .ok (.if_icmp .ne 32, 3) := by decide +kernel
theorem d_R_one_30 : decode prog_7_method_16_code 30 = .ok (.iload_n 2, 1) := by decide +kernel
theorem d_R_one_31 : decode prog_7_method_16_code 31 = .ok (.ifCond .ge 26, 3) := by decide +kernel
theorem d_R_one_34 : decode prog_7_method_16_code 34 = .ok (.iload_n 3, 1) := by decide +kernel
theorem d_R_one_35 : decode prog_7_method_16_code 35 = .ok (.aload_n 0, 1) := by decide +kernel
theorem d_R_one_36 : decode prog_7_method_16_code 36 = .ok (.getfield 13, 3) := by decide +kernel
theorem d_R_one_39 : decode prog_7_method_16_code 39 = .ok (.iload_n 1, 1) := by decide +kernel
theorem d_R_one_40 : decode prog_7_method_16_code 40 = .ok (.iaload, 1) := by decide +kernel
theorem d_R_one_41 : decode prog_7_method_16_code 41 = .ok (.aload_n 0, 1) := by decide +kernel
theorem d_R_one_42 : decode prog_7_method_16_code 42 = .ok (.getfield 16, 3) := by decide +kernel
theorem d_R_one_45 : decode prog_7_method_16_code 45 = .ok (.iload_n 1, 1) := by decide +kernel
theorem d_R_one_46 : decode prog_7_method_16_code 46 = .ok (.iaload, 1) := by decide +kernel
theorem d_R_one_47 : decode prog_7_method_16_code 47 = .ok (.invokestatic 76, 3) := by decide +kernel
theorem d_R_one_50 : decode prog_7_method_16_code 50 = .ok (.ifCond .eq 7, 3) := by decide +kernel
theorem d_R_one_53 : decode prog_7_method_16_code 53 = .ok (.iconst 1, 1) := by decide +kernel
theorem d_R_one_54 : decode prog_7_method_16_code 54 = .ok (.goto 4, 3) := by decide +kernel
theorem d_R_one_57 : decode prog_7_method_16_code 57 = .ok (.iconst 0, 1) := by decide +kernel
theorem d_R_one_58 : decode prog_7_method_16_code 58 = .ok (.ireturn, 1) := by decide +kernel
theorem d_R_one_59 : decode prog_7_method_16_code 59 = .ok (.aload_n 0, 1) := by decide +kernel
theorem d_R_one_60 : decode prog_7_method_16_code 60 = .ok (.getfield 7, 3) := by decide +kernel
theorem d_R_one_63 : decode prog_7_method_16_code 63 = .ok (.iload_n 1, 1) := by decide +kernel
theorem d_R_one_64 : decode prog_7_method_16_code 64 = .ok (.iaload, 1) := by decide +kernel
theorem d_R_one_65 : decode prog_7_method_16_code 65 = .ok (.bipush 8, 2) := by decide +kernel
theorem d_R_one_67 : decode prog_7_method_16_code 67 = .ok (.if_icmp .ne 56, 3) := by decide +kernel
theorem d_R_one_70 : decode prog_7_method_16_code 70 = .ok (.iload_n 2, 1) := by decide +kernel
theorem d_R_one_71 : decode prog_7_method_16_code 71 = .ok (.ifCond .lt 52, 3) := by decide +kernel
theorem d_R_one_74 : decode prog_7_method_16_code 74 = .ok (.aload_n 0, 1) := by decide +kernel
theorem d_R_one_75 : decode prog_7_method_16_code 75 = .ok (.getfield 13, 3) := by decide +kernel
theorem d_R_one_78 : decode prog_7_method_16_code 78 = .ok (.iload_n 1, 1) := by decide +kernel
theorem d_R_one_79 : decode prog_7_method_16_code 79 = .ok (.iaload, 1) := by decide +kernel
theorem d_R_one_80 : decode prog_7_method_16_code 80 = .ok (.bipush 6, 2) := by decide +kernel
theorem d_R_one_82 : decode prog_7_method_16_code 82 = .ok (.if_icmp .eq 18, 3) := by decide +kernel
theorem d_R_one_85 : decode prog_7_method_16_code 85 = .ok (.aload_n 0, 1) := by decide +kernel
theorem d_R_one_86 : decode prog_7_method_16_code 86 = .ok (.getfield 13, 3) := by decide +kernel
theorem d_R_one_89 : decode prog_7_method_16_code 89 = .ok (.iload_n 1, 1) := by decide +kernel
theorem d_R_one_90 : decode prog_7_method_16_code 90 = .ok (.iaload, 1) := by decide +kernel
theorem d_R_one_91 : decode prog_7_method_16_code 91 = .ok (.aload_n 0, 1) := by decide +kernel
theorem d_R_one_92 : decode prog_7_method_16_code 92 = .ok (.getfield 25, 3) := by decide +kernel
theorem d_R_one_95 : decode prog_7_method_16_code 95 = .ok (.iload_n 2, 1) := by decide +kernel
theorem d_R_one_96 : decode prog_7_method_16_code 96 = .ok (.iaload, 1) := by decide +kernel
theorem d_R_one_97 : decode prog_7_method_16_code 97 = .ok (.if_icmp .ne 26, 3) := by decide +kernel
theorem d_R_one_100 : decode prog_7_method_16_code 100 = .ok (.aload_n 0, 1) := by decide +kernel
theorem d_R_one_101 : decode prog_7_method_16_code 101 = .ok (.getfield 58, 3) := by decide +kernel
theorem d_R_one_104 : decode prog_7_method_16_code 104 = .ok (.bipush 40, 2) := by decide +kernel
theorem d_R_one_106 : decode prog_7_method_16_code 106 = .ok (.iload_n 2, 1) := by decide +kernel
theorem d_R_one_107 : decode prog_7_method_16_code 107 = .ok (.imul, 1) := by decide +kernel
theorem d_R_one_108 : decode prog_7_method_16_code 108 = .ok (.aload_n 0, 1) := by decide +kernel
theorem d_R_one_109 : decode prog_7_method_16_code 109 = .ok (.getfield 16, 3) := by decide +kernel
theorem d_R_one_112 : decode prog_7_method_16_code 112 = .ok (.iload_n 1, 1) := by decide +kernel
theorem d_R_one_113 : decode prog_7_method_16_code 113 = .ok (.iaload, 1) := by decide +kernel
theorem d_R_one_114 : decode prog_7_method_16_code 114 = .ok (.iadd, 1) := by decide +kernel
theorem d_R_one_115 : decode prog_7_method_16_code 115 = .ok (.baload, 1) := by decide +kernel
theorem d_R_one_116 : decode prog_7_method_16_code 116 = .ok (.ifCond .eq 7, 3) := by decide +kernel
theorem d_R_one_119 : decode prog_7_method_16_code 119 = .ok (.iconst 1, 1) := by decide +kernel
theorem d_R_one_120 : decode prog_7_method_16_code 120 = .ok (.goto 4, 3) := by decide +kernel
theorem d_R_one_123 : decode prog_7_method_16_code 123 = .ok (.iconst 0, 1) := by decide +kernel
theorem d_R_one_124 : decode prog_7_method_16_code 124 = .ok (.ireturn, 1) := by decide +kernel
abbrev M_R_matched : vg_M := (⟨0, 0, 0, 0⟩, 4, prog_7_method_18_code, ⟨"PatternValidatorModel", "matched", "(III)Z"⟩, some .boolean, Cond.code ⟨"PatternValidatorModel", "matched", "(III)Z"⟩ prog_7_method_18_code 4 (some .boolean))
theorem d_R_matched_0 : decode prog_7_method_18_code 0 = .ok (.aload_n 0, 1) := by decide +kernel
theorem d_R_matched_1 : decode prog_7_method_18_code 1 = .ok (.getfield 54, 3) := by decide +kernel
theorem d_R_matched_4 : decode prog_7_method_18_code 4 = .ok (.bipush 64, 2) := by decide +kernel
theorem d_R_matched_6 : decode prog_7_method_18_code 6 = .ok (.iload_n 1, 1) := by decide +kernel
theorem d_R_matched_7 : decode prog_7_method_18_code 7 = .ok (.imul, 1) := by decide +kernel
theorem d_R_matched_8 : decode prog_7_method_18_code 8 = .ok (.iload_n 2, 1) := by decide +kernel
theorem d_R_matched_9 : decode prog_7_method_18_code 9 = .ok (.iadd, 1) := by decide +kernel
theorem d_R_matched_10 : decode prog_7_method_18_code 10 = .ok (.laload, 1) := by decide +kernel
theorem d_R_matched_11 : decode prog_7_method_18_code 11 = .ok (.iload_n 3, 1) := by decide +kernel
theorem d_R_matched_12 : decode prog_7_method_18_code 12 = .ok (.lshr, 1) := by decide +kernel
theorem d_R_matched_13 : decode prog_7_method_18_code 13 = .ok (.lconst 1, 1) := by decide +kernel
theorem d_R_matched_14 : decode prog_7_method_18_code 14 = .ok (.land, 1) := by decide +kernel
theorem d_R_matched_15 : decode prog_7_method_18_code 15 = .ok (.lconst 0, 1) := by decide +kernel
theorem d_R_matched_16 : decode prog_7_method_18_code 16 = .ok (.lcmp, 1) := by decide +kernel
theorem d_R_matched_17 : decode prog_7_method_18_code 17 = .ok (.ifCond .eq 7, 3) := by decide +kernel
theorem d_R_matched_20 : decode prog_7_method_18_code 20 = .ok (.iconst 1, 1) := by decide +kernel
theorem d_R_matched_21 : decode prog_7_method_18_code 21 = .ok (.goto 4, 3) := by decide +kernel
theorem d_R_matched_24 : decode prog_7_method_18_code 24 = .ok (.iconst 0, 1) := by decide +kernel
theorem d_R_matched_25 : decode prog_7_method_18_code 25 = .ok (.ireturn, 1) := by decide +kernel
abbrev M_R_worked : vg_M := (⟨3, 0, 0, 71⟩, 7, prog_7_method_23_code, ⟨"PatternValidatorModel", "worked", "(IIII)Z"⟩, some .boolean, Cond.code ⟨"PatternValidatorModel", "worked", "(IIII)Z"⟩ prog_7_method_23_code 7 (some .boolean))
theorem d_R_worked_0 : decode prog_7_method_23_code 0 = .ok (.aload_n 0, 1) := by decide +kernel
theorem d_R_worked_1 : decode prog_7_method_23_code 1 = .ok (.getfield 13, 3) := by decide +kernel
theorem d_R_worked_4 : decode prog_7_method_23_code 4 = .ok (.iload_n 1, 1) := by decide +kernel
theorem d_R_worked_5 : decode prog_7_method_23_code 5 = .ok (.iaload, 1) := by decide +kernel
theorem d_R_worked_6 : decode prog_7_method_23_code 6 = .ok (.istore 5, 2) := by decide +kernel
theorem d_R_worked_8 : decode prog_7_method_23_code 8 = .ok (.aload_n 0, 1) := by decide +kernel
theorem d_R_worked_9 : decode prog_7_method_23_code 9 = .ok (.getfield 16, 3) := by decide +kernel
theorem d_R_worked_12 : decode prog_7_method_23_code 12 = .ok (.iload_n 1, 1) := by decide +kernel
theorem d_R_worked_13 : decode prog_7_method_23_code 13 = .ok (.iaload, 1) := by decide +kernel
theorem d_R_worked_14 : decode prog_7_method_23_code 14 = .ok (.istore 6, 2) := by decide +kernel
theorem d_R_worked_16 : decode prog_7_method_23_code 16 = .ok (.aload_n 0, 1) := by decide +kernel
theorem d_R_worked_17 : decode prog_7_method_23_code 17 = .ok (.getfield 7, 3) := by decide +kernel
theorem d_R_worked_20 : decode prog_7_method_23_code 20 = .ok (.iload_n 1, 1) := by decide +kernel
theorem d_R_worked_21 : decode prog_7_method_23_code 21 = .ok (.iaload, 1) := by decide +kernel
theorem d_R_worked_22 : decode prog_7_method_23_code 22 = .ok (.tableswitch 163 4 10 #[42, 55, 68, 98, 163, 163, 130], 42) := by decide +kernel
theorem d_R_worked_64 : decode prog_7_method_23_code 64 = .ok (.aload_n 0, 1) := by decide +kernel
theorem d_R_worked_65 : decode prog_7_method_23_code 65 = .ok (.iload 5, 2) := by decide +kernel
theorem d_R_worked_67 : decode prog_7_method_23_code 67 = .ok (.iload 6, 2) := by decide +kernel
theorem d_R_worked_69 : decode prog_7_method_23_code 69 = .ok (.iload_n 3, 1) := by decide +kernel
theorem d_R_worked_70 : decode prog_7_method_23_code 70 = .ok (.iload 4, 2) := by decide +kernel
theorem d_R_worked_72 : decode prog_7_method_23_code 72 = .ok (.iconst 1, 1) := by decide +kernel
theorem d_R_worked_73 : decode prog_7_method_23_code 73 = .ok (.invokevirtual 108, 3) := by decide +kernel
theorem d_R_worked_76 : decode prog_7_method_23_code 76 = .ok (.ireturn, 1) := by decide +kernel
theorem d_R_worked_77 : decode prog_7_method_23_code 77 = .ok (.aload_n 0, 1) := by decide +kernel
theorem d_R_worked_78 : decode prog_7_method_23_code 78 = .ok (.iload 5, 2) := by decide +kernel
theorem d_R_worked_80 : decode prog_7_method_23_code 80 = .ok (.iload 6, 2) := by decide +kernel
theorem d_R_worked_82 : decode prog_7_method_23_code 82 = .ok (.iload_n 3, 1) := by decide +kernel
theorem d_R_worked_83 : decode prog_7_method_23_code 83 = .ok (.iload 4, 2) := by decide +kernel
theorem d_R_worked_85 : decode prog_7_method_23_code 85 = .ok (.iconst 0, 1) := by decide +kernel
theorem d_R_worked_86 : decode prog_7_method_23_code 86 = .ok (.invokevirtual 108, 3) := by decide +kernel
theorem d_R_worked_89 : decode prog_7_method_23_code 89 = .ok (.ireturn, 1) := by decide +kernel
theorem d_R_worked_90 : decode prog_7_method_23_code 90 = .ok (.aload_n 0, 1) := by decide +kernel
theorem d_R_worked_91 : decode prog_7_method_23_code 91 = .ok (.iload 5, 2) := by decide +kernel
theorem d_R_worked_93 : decode prog_7_method_23_code 93 = .ok (.iload_n 3, 1) := by decide +kernel
theorem d_R_worked_94 : decode prog_7_method_23_code 94 = .ok (.iload 4, 2) := by decide +kernel
theorem d_R_worked_96 : decode prog_7_method_23_code 96 = .ok (.invokevirtual 112, 3) := by decide +kernel
theorem d_R_worked_99 : decode prog_7_method_23_code 99 = .ok (.ifCond .ne 15, 3) := by decide +kernel
theorem d_R_worked_102 : decode prog_7_method_23_code 102 = .ok (.aload_n 0, 1) := by decide +kernel
theorem d_R_worked_103 : decode prog_7_method_23_code 103 = .ok (.iload 6, 2) := by decide +kernel
theorem d_R_worked_105 : decode prog_7_method_23_code 105 = .ok (.iload_n 3, 1) := by decide +kernel
theorem d_R_worked_106 : decode prog_7_method_23_code 106 = .ok (.iload 4, 2) := by decide +kernel
theorem d_R_worked_108 : decode prog_7_method_23_code 108 = .ok (.invokevirtual 112, 3) := by decide +kernel
theorem d_R_worked_111 : decode prog_7_method_23_code 111 = .ok (.ifCond .eq 7, 3) := by decide +kernel
theorem d_R_worked_114 : decode prog_7_method_23_code 114 = .ok (.iconst 1, 1) := by decide +kernel
theorem d_R_worked_115 : decode prog_7_method_23_code 115 = .ok (.goto 4, 3) := by decide +kernel
theorem d_R_worked_118 : decode prog_7_method_23_code 118 = .ok (.iconst 0, 1) := by decide +kernel
theorem d_R_worked_119 : decode prog_7_method_23_code 119 = .ok (.ireturn, 1) := by decide +kernel
theorem d_R_worked_120 : decode prog_7_method_23_code 120 = .ok (.aload_n 0, 1) := by decide +kernel
theorem d_R_worked_121 : decode prog_7_method_23_code 121 = .ok (.iload 5, 2) := by decide +kernel
theorem d_R_worked_123 : decode prog_7_method_23_code 123 = .ok (.iload_n 3, 1) := by decide +kernel
theorem d_R_worked_124 : decode prog_7_method_23_code 124 = .ok (.iload 4, 2) := by decide +kernel
theorem d_R_worked_126 : decode prog_7_method_23_code 126 = .ok (.invokevirtual 112, 3) := by decide +kernel
theorem d_R_worked_129 : decode prog_7_method_23_code 129 = .ok (.ifCond .ne 17, 3) := by decide +kernel
theorem d_R_worked_132 : decode prog_7_method_23_code 132 = .ok (.aload_n 0, 1) := by decide +kernel
theorem d_R_worked_133 : decode prog_7_method_23_code 133 = .ok (.iload 5, 2) := by decide +kernel
theorem d_R_worked_135 : decode prog_7_method_23_code 135 = .ok (.iload_n 1, 1) := by decide +kernel
theorem d_R_worked_136 : decode prog_7_method_23_code 136 = .ok (.iload_n 3, 1) := by decide +kernel
theorem d_R_worked_137 : decode prog_7_method_23_code 137 = .ok (.iload 4, 2) := by decide +kernel
theorem d_R_worked_139 : decode prog_7_method_23_code 139 = .ok (.iconst 1, 1) := by decide +kernel
theorem d_R_worked_140 : decode prog_7_method_23_code 140 = .ok (.invokevirtual 108, 3) := by decide +kernel
theorem d_R_worked_143 : decode prog_7_method_23_code 143 = .ok (.ifCond .eq 7, 3) := by decide +kernel
theorem d_R_worked_146 : decode prog_7_method_23_code 146 = .ok (.iconst 1, 1) := by decide +kernel
theorem d_R_worked_147 : decode prog_7_method_23_code 147 = .ok (.goto 4, 3) := by decide +kernel
theorem d_R_worked_150 : decode prog_7_method_23_code 150 = .ok (.iconst 0, 1) := by decide +kernel
theorem d_R_worked_151 : decode prog_7_method_23_code 151 = .ok (.ireturn, 1) := by decide +kernel
theorem d_R_worked_152 : decode prog_7_method_23_code 152 = .ok (.aload_n 0, 1) := by decide +kernel
theorem d_R_worked_153 : decode prog_7_method_23_code 153 = .ok (.getfield 22, 3) := by decide +kernel
theorem d_R_worked_156 : decode prog_7_method_23_code 156 = .ok (.iload 5, 2) := by decide +kernel
theorem d_R_worked_158 : decode prog_7_method_23_code 158 = .ok (.iaload, 1) := by decide +kernel
theorem d_R_worked_159 : decode prog_7_method_23_code 159 = .ok (.ifCond .lt 24, 3) := by decide +kernel
theorem d_R_worked_162 : decode prog_7_method_23_code 162 = .ok (.aload_n 0, 1) := by decide +kernel
theorem d_R_worked_163 : decode prog_7_method_23_code 163 = .ok (.aload_n 0, 1) := by decide +kernel
theorem d_R_worked_164 : decode prog_7_method_23_code 164 = .ok (.getfield 22, 3) := by decide +kernel
theorem d_R_worked_167 : decode prog_7_method_23_code 167 = .ok (.iload 5, 2) := by decide +kernel
theorem d_R_worked_169 : decode prog_7_method_23_code 169 = .ok (.iaload, 1) := by decide +kernel
theorem d_R_worked_170 : decode prog_7_method_23_code 170 = .ok (.iload_n 3, 1) := by decide +kernel
theorem d_R_worked_171 : decode prog_7_method_23_code 171 = .ok (.iload 4, 2) := by decide +kernel
theorem d_R_worked_173 : decode prog_7_method_23_code 173 = .ok (.invokevirtual 112, 3) := by decide +kernel
theorem d_R_worked_176 : decode prog_7_method_23_code 176 = .ok (.ifCond .eq 7, 3) := by decide +kernel
theorem d_R_worked_179 : decode prog_7_method_23_code 179 = .ok (.iconst 1, 1) := by decide +kernel
theorem d_R_worked_180 : decode prog_7_method_23_code 180 = .ok (.goto 4, 3) := by decide +kernel
theorem d_R_worked_183 : decode prog_7_method_23_code 183 = .ok (.iconst 0, 1) := by decide +kernel
theorem d_R_worked_184 : decode prog_7_method_23_code 184 = .ok (.ireturn, 1) := by decide +kernel
theorem d_R_worked_185 : decode prog_7_method_23_code 185 = .ok (.aload_n 0, 1) := by decide +kernel
theorem d_R_worked_186 : decode prog_7_method_23_code 186 = .ok (.iload_n 1, 1) := by decide +kernel
theorem d_R_worked_187 : decode prog_7_method_23_code 187 = .ok (.iload_n 2, 1) := by decide +kernel
theorem d_R_worked_188 : decode prog_7_method_23_code 188 = .ok (.iload_n 3, 1) := by decide +kernel
theorem d_R_worked_189 : decode prog_7_method_23_code 189 = .ok (.iload 4, 2) := by decide +kernel
theorem d_R_worked_191 : decode prog_7_method_23_code 191 = .ok (.invokevirtual 115, 3) := by decide +kernel
theorem d_R_worked_194 : decode prog_7_method_23_code 194 = .ok (.ireturn, 1) := by decide +kernel
abbrev M_R_parted : vg_M := (⟨1, 0, 0, 22⟩, 13, prog_7_method_20_code, ⟨"PatternValidatorModel", "parted", "(IIIIZ)Z"⟩, some .boolean, Cond.code ⟨"PatternValidatorModel", "parted", "(IIIIZ)Z"⟩ prog_7_method_20_code 13 (some .boolean))
theorem d_R_parted_0 : decode prog_7_method_20_code 0 = .ok (.iload_n 3, 1) := by decide +kernel
theorem d_R_parted_1 : decode prog_7_method_20_code 1 = .ok (.istore 6, 2) := by decide +kernel
theorem d_R_parted_3 : decode prog_7_method_20_code 3 = .ok (.iload 6, 2) := by decide +kernel
theorem d_R_parted_5 : decode prog_7_method_20_code 5 = .ok (.ifCond .lt 159, 3) := by decide +kernel
theorem d_R_parted_8 : decode prog_7_method_20_code 8 = .ok (.aload_n 0, 1) := by decide +kernel
theorem d_R_parted_9 : decode prog_7_method_20_code 9 = .ok (.getfield 54, 3) := by decide +kernel
theorem d_R_parted_12 : decode prog_7_method_20_code 12 = .ok (.bipush 64, 2) := by decide +kernel
theorem d_R_parted_14 : decode prog_7_method_20_code 14 = .ok (.iload_n 1, 1) := by decide +kernel
theorem d_R_parted_15 : decode prog_7_method_20_code 15 = .ok (.imul, 1) := by decide +kernel
theorem d_R_parted_16 : decode prog_7_method_20_code 16 = .ok (.iload 6, 2) := by decide +kernel
theorem d_R_parted_18 : decode prog_7_method_20_code 18 = .ok (.iadd, 1) := by decide +kernel
theorem d_R_parted_19 : decode prog_7_method_20_code 19 = .ok (.laload, 1) := by decide +kernel
theorem d_R_parted_20 : decode prog_7_method_20_code 20 = .ok (.lstore 7, 2) := by decide +kernel
theorem d_R_parted_22 : decode prog_7_method_20_code 22 = .ok (.aload_n 0, 1) := by decide +kernel
theorem d_R_parted_23 : decode prog_7_method_20_code 23 = .ok (.getfield 54, 3) := by decide +kernel
theorem d_R_parted_26 : decode prog_7_method_20_code 26 = .ok (.bipush 64, 2) := by decide +kernel
theorem d_R_parted_28 : decode prog_7_method_20_code 28 = .ok (.iload_n 2, 1) := by decide +kernel
theorem d_R_parted_29 : decode prog_7_method_20_code 29 = .ok (.imul, 1) := by decide +kernel
theorem d_R_parted_30 : decode prog_7_method_20_code 30 = .ok (.iload_n 3, 1) := by decide +kernel
theorem d_R_parted_31 : decode prog_7_method_20_code 31 = .ok (.iadd, 1) := by decide +kernel
theorem d_R_parted_32 : decode prog_7_method_20_code 32 = .ok (.iload 6, 2) := by decide +kernel
theorem d_R_parted_34 : decode prog_7_method_20_code 34 = .ok (.isub, 1) := by decide +kernel
theorem d_R_parted_35 : decode prog_7_method_20_code 35 = .ok (.laload, 1) := by decide +kernel
theorem d_R_parted_36 : decode prog_7_method_20_code 36 = .ok (.lstore 9, 2) := by decide +kernel
theorem d_R_parted_38 : decode prog_7_method_20_code 38 = .ok (.lload 7, 2) := by decide +kernel
theorem d_R_parted_40 : decode prog_7_method_20_code 40 = .ok (.lconst 0, 1) := by decide +kernel
theorem d_R_parted_41 : decode prog_7_method_20_code 41 = .ok (.lcmp, 1) := by decide +kernel
theorem d_R_parted_42 : decode prog_7_method_20_code 42 = .ok (.ifCond .eq 102, 3) := by decide +kernel
theorem d_R_parted_45 : decode prog_7_method_20_code 45 = .ok (.lload 9, 2) := by decide +kernel
theorem d_R_parted_47 : decode prog_7_method_20_code 47 = .ok (.lconst 0, 1) := by decide +kernel
theorem d_R_parted_48 : decode prog_7_method_20_code 48 = .ok (.lcmp, 1) := by decide +kernel
theorem d_R_parted_49 : decode prog_7_method_20_code 49 = .ok (.ifCond .ne 6, 3) := by decide +kernel
theorem d_R_parted_52 : decode prog_7_method_20_code 52 = .ok (.goto 92, 3) := by decide +kernel
theorem d_R_parted_55 : decode prog_7_method_20_code 55 = .ok (.iload 4, 2) := by decide +kernel
theorem d_R_parted_57 : decode prog_7_method_20_code 57 = .ok (.istore 11, 2) := by decide +kernel
theorem d_R_parted_59 : decode prog_7_method_20_code 59 = .ok (.iload 11, 2) := by decide +kernel
theorem d_R_parted_61 : decode prog_7_method_20_code 61 = .ok (.ifCond .lt 83, 3) := by decide +kernel
theorem d_R_parted_64 : decode prog_7_method_20_code 64 = .ok (.iload 5, 2) := by decide +kernel
theorem d_R_parted_66 : decode prog_7_method_20_code 66 = .ok (.ifCond .eq 16, 3) := by decide +kernel
theorem d_R_parted_69 : decode prog_7_method_20_code 69 = .ok (.iload 11, 2) := by decide +kernel
theorem d_R_parted_71 : decode prog_7_method_20_code 71 = .ok (.iload 4, 2) := by decide +kernel
theorem d_R_parted_73 : decode prog_7_method_20_code 73 = .ok (.iload 11, 2) := by decide +kernel
theorem d_R_parted_75 : decode prog_7_method_20_code 75 = .ok (.invokestatic 105, 3) := by decide +kernel
theorem d_R_parted_78 : decode prog_7_method_20_code 78 = .ok (.iand, 1) := by decide +kernel
theorem d_R_parted_79 : decode prog_7_method_20_code 79 = .ok (.if_icmp .ne 7, 3) := by decide +kernel
theorem d_R_parted_82 : decode prog_7_method_20_code 82 = .ok (.iconst 1, 1) := by decide +kernel
theorem d_R_parted_83 : decode prog_7_method_20_code 83 = .ok (.goto 4, 3) := by decide +kernel
theorem d_R_parted_86 : decode prog_7_method_20_code 86 = .ok (.iconst 0, 1) := by decide +kernel
theorem d_R_parted_87 : decode prog_7_method_20_code 87 = .ok (.istore 12, 2) := by decide +kernel
theorem d_R_parted_89 : decode prog_7_method_20_code 89 = .ok (.iload 12, 2) := by decide +kernel
theorem d_R_parted_91 : decode prog_7_method_20_code 91 = .ok (.ifCond .eq 32, 3) := by decide +kernel
theorem d_R_parted_94 : decode prog_7_method_20_code 94 = .ok (.lload 7, 2) := by decide +kernel
theorem d_R_parted_96 : decode prog_7_method_20_code 96 = .ok (.iload 11, 2) := by decide +kernel
theorem d_R_parted_98 : decode prog_7_method_20_code 98 = .ok (.lshr, 1) := by decide +kernel
theorem d_R_parted_99 : decode prog_7_method_20_code 99 = .ok (.lconst 1, 1) := by decide +kernel
theorem d_R_parted_100 : decode prog_7_method_20_code 100 = .ok (.land, 1) := by decide +kernel
theorem d_R_parted_101 : decode prog_7_method_20_code 101 = .ok (.lconst 0, 1) := by decide +kernel
theorem d_R_parted_102 : decode prog_7_method_20_code 102 = .ok (.lcmp, 1) := by decide +kernel
theorem d_R_parted_103 : decode prog_7_method_20_code 103 = .ok (.ifCond .eq 20, 3) := by decide +kernel
theorem d_R_parted_106 : decode prog_7_method_20_code 106 = .ok (.lload 9, 2) := by decide +kernel
theorem d_R_parted_108 : decode prog_7_method_20_code 108 = .ok (.iload 4, 2) := by decide +kernel
theorem d_R_parted_110 : decode prog_7_method_20_code 110 = .ok (.iload 11, 2) := by decide +kernel
theorem d_R_parted_112 : decode prog_7_method_20_code 112 = .ok (.isub, 1) := by decide +kernel
theorem d_R_parted_113 : decode prog_7_method_20_code 113 = .ok (.lshr, 1) := by decide +kernel
theorem d_R_parted_114 : decode prog_7_method_20_code 114 = .ok (.lconst 1, 1) := by decide +kernel
theorem d_R_parted_115 : decode prog_7_method_20_code 115 = .ok (.land, 1) := by decide +kernel
theorem d_R_parted_116 : decode prog_7_method_20_code 116 = .ok (.lconst 0, 1) := by decide +kernel
theorem d_R_parted_117 : decode prog_7_method_20_code 117 = .ok (.lcmp, 1) := by decide +kernel
theorem d_R_parted_118 : decode prog_7_method_20_code 118 = .ok (.ifCond .eq 5, 3) := by decide +kernel
theorem d_R_parted_121 : decode prog_7_method_20_code 121 = .ok (.iconst 1, 1) := by decide +kernel
theorem d_R_parted_122 : decode prog_7_method_20_code 122 = .ok (.ireturn, 1) := by decide +kernel
theorem d_R_parted_123 : decode prog_7_method_20_code 123 = .ok (.iload 11, 2) := by decide +kernel
theorem d_R_parted_125 : decode prog_7_method_20_code 125 = .ok (.ifCond .ne 7, 3) := by decide +kernel
theorem d_R_parted_128 : decode prog_7_method_20_code 128 = .ok (.iconst (-1), 1) := by decide +kernel
theorem d_R_parted_129 : decode prog_7_method_20_code 129 = .ok (.goto 10, 3) := by decide +kernel
theorem d_R_parted_132 : decode prog_7_method_20_code 132 = .ok (.iload 11, 2) := by decide +kernel
theorem d_R_parted_134 : decode prog_7_method_20_code 134 = .ok (.iconst 1, 1) := by decide +kernel
theorem d_R_parted_135 : decode prog_7_method_20_code 135 = .ok (.isub, 1) := by decide +kernel
theorem d_R_parted_136 : decode prog_7_method_20_code 136 = .ok (.iload 4, 2) := by decide +kernel
theorem d_R_parted_138 : decode prog_7_method_20_code 138 = .ok (.iand, 1) := by decide +kernel
theorem d_R_parted_139 : decode prog_7_method_20_code 139 = .ok (.istore 11, 2) := by decide +kernel
theorem d_R_parted_141 : decode prog_7_method_20_code 141 = .ok (.goto (-82), 3) := by decide +kernel
theorem d_R_parted_144 : decode prog_7_method_20_code 144 = .ok (.iload 6, 2) := by decide +kernel
theorem d_R_parted_146 : decode prog_7_method_20_code 146 = .ok (.ifCond .ne 7, 3) := by decide +kernel
theorem d_R_parted_149 : decode prog_7_method_20_code 149 = .ok (.iconst (-1), 1) := by decide +kernel
theorem d_R_parted_150 : decode prog_7_method_20_code 150 = .ok (.goto 9, 3) := by decide +kernel
theorem d_R_parted_153 : decode prog_7_method_20_code 153 = .ok (.iload 6, 2) := by decide +kernel
theorem d_R_parted_155 : decode prog_7_method_20_code 155 = .ok (.iconst 1, 1) := by decide +kernel
theorem d_R_parted_156 : decode prog_7_method_20_code 156 = .ok (.isub, 1) := by decide +kernel
theorem d_R_parted_157 : decode prog_7_method_20_code 157 = .ok (.iload_n 3, 1) := by decide +kernel
theorem d_R_parted_158 : decode prog_7_method_20_code 158 = .ok (.iand, 1) := by decide +kernel
theorem d_R_parted_159 : decode prog_7_method_20_code 159 = .ok (.istore 6, 2) := by decide +kernel
theorem d_R_parted_161 : decode prog_7_method_20_code 161 = .ok (.goto (-158), 3) := by decide +kernel
theorem d_R_parted_164 : decode prog_7_method_20_code 164 = .ok (.iconst 0, 1) := by decide +kernel
theorem d_R_parted_165 : decode prog_7_method_20_code 165 = .ok (.ireturn, 1) := by decide +kernel
abbrev M_R_ends : vg_M := (⟨0, 0, 0, 0⟩, 3, prog_7_method_21_code, ⟨"PatternValidatorModel", "ends", "(I)I"⟩, some .int, Cond.code ⟨"PatternValidatorModel", "ends", "(I)I"⟩ prog_7_method_21_code 3 (some .int))
theorem d_R_ends_0 : decode prog_7_method_21_code 0 = .ok (.iconst 0, 1) := by decide +kernel
theorem d_R_ends_1 : decode prog_7_method_21_code 1 = .ok (.istore_n 1, 1) := by decide +kernel
theorem d_R_ends_2 : decode prog_7_method_21_code 2 = .ok (.iload_n 0, 1) := by decide +kernel
theorem d_R_ends_3 : decode prog_7_method_21_code 3 = .ok (.istore_n 2, 1) := by decide +kernel
theorem d_R_ends_4 : decode prog_7_method_21_code 4 = .ok (.iload_n 2, 1) := by decide +kernel
theorem d_R_ends_5 : decode prog_7_method_21_code 5 = .ok (.ifCond .le 14, 3) := by decide +kernel
theorem d_R_ends_8 : decode prog_7_method_21_code 8 = .ok (.iload_n 1, 1) := by decide +kernel
theorem d_R_ends_9 : decode prog_7_method_21_code 9 = .ok (.iload_n 2, 1) := by decide +kernel
theorem d_R_ends_10 : decode prog_7_method_21_code 10 = .ok (.ior, 1) := by decide +kernel
theorem d_R_ends_11 : decode prog_7_method_21_code 11 = .ok (.istore_n 1, 1) := by decide +kernel
theorem d_R_ends_12 : decode prog_7_method_21_code 12 = .ok (.iload_n 2, 1) := by decide +kernel
theorem d_R_ends_13 : decode prog_7_method_21_code 13 = .ok (.iconst 1, 1) := by decide +kernel
theorem d_R_ends_14 : decode prog_7_method_21_code 14 = .ok (.ishr, 1) := by decide +kernel
theorem d_R_ends_15 : decode prog_7_method_21_code 15 = .ok (.istore_n 2, 1) := by decide +kernel
theorem d_R_ends_16 : decode prog_7_method_21_code 16 = .ok (.goto (-12), 3) := by decide +kernel
theorem d_R_ends_19 : decode prog_7_method_21_code 19 = .ok (.iload_n 1, 1) := by decide +kernel
theorem d_R_ends_20 : decode prog_7_method_21_code 20 = .ok (.ireturn, 1) := by decide +kernel
abbrev M_R_plain : vg_M := (⟨2, 0, 0, 45⟩, 7, prog_7_method_22_code, ⟨"PatternValidatorModel", "plain", "(IIII)Z"⟩, some .boolean, Cond.code ⟨"PatternValidatorModel", "plain", "(IIII)Z"⟩ prog_7_method_22_code 7 (some .boolean))
theorem d_R_plain_0 : decode prog_7_method_22_code 0 = .ok (.iconst 0, 1) := by decide +kernel
theorem d_R_plain_1 : decode prog_7_method_22_code 1 = .ok (.istore 5, 2) := by decide +kernel
theorem d_R_plain_3 : decode prog_7_method_22_code 3 = .ok (.aload_n 0, 1) := by decide +kernel
theorem d_R_plain_4 : decode prog_7_method_22_code 4 = .ok (.getfield 7, 3) := by decide +kernel
theorem d_R_plain_7 : decode prog_7_method_22_code 7 = .ok (.iload_n 1, 1) := by decide +kernel
theorem d_R_plain_8 : decode prog_7_method_22_code 8 = .ok (.iaload, 1) := by decide +kernel
theorem d_R_plain_9 : decode prog_7_method_22_code 9 = .ok (.tableswitch 272 0 9 #[55, 272, 70, 123, 272, 272, 272, 272, 123, 190], 55) := by decide +kernel
theorem d_R_plain_64 : decode prog_7_method_22_code 64 = .ok (.iload_n 3, 1) := by decide +kernel
theorem d_R_plain_65 : decode prog_7_method_22_code 65 = .ok (.ifCond .ne 12, 3) := by decide +kernel
theorem d_R_plain_68 : decode prog_7_method_22_code 68 = .ok (.iload 4, 2) := by decide +kernel
theorem d_R_plain_70 : decode prog_7_method_22_code 70 = .ok (.ifCond .ne 7, 3) := by decide +kernel
theorem d_R_plain_73 : decode prog_7_method_22_code 73 = .ok (.iconst 1, 1) := by decide +kernel
theorem d_R_plain_74 : decode prog_7_method_22_code 74 = .ok (.goto 4, 3) := by decide +kernel
theorem d_R_plain_77 : decode prog_7_method_22_code 77 = .ok (.iconst 0, 1) := by decide +kernel
theorem d_R_plain_78 : decode prog_7_method_22_code 78 = .ok (.ireturn, 1) := by decide +kernel
theorem d_R_plain_79 : decode prog_7_method_22_code 79 = .ok (.iconst 0, 1) := by decide +kernel
theorem d_R_plain_80 : decode prog_7_method_22_code 80 = .ok (.istore 6, 2) := by decide +kernel
theorem d_R_plain_82 : decode prog_7_method_22_code 82 = .ok (.iload 6, 2) := by decide +kernel
theorem d_R_plain_84 : decode prog_7_method_22_code 84 = .ok (.bipush 6, 2) := by decide +kernel
theorem d_R_plain_86 : decode prog_7_method_22_code 86 = .ok (.if_icmp .ge 36, 3) := by decide +kernel
theorem d_R_plain_89 : decode prog_7_method_22_code 89 = .ok (.iload 4, 2) := by decide +kernel
theorem d_R_plain_91 : decode prog_7_method_22_code 91 = .ok (.iload 6, 2) := by decide +kernel
theorem d_R_plain_93 : decode prog_7_method_22_code 93 = .ok (.ishr, 1) := by decide +kernel
theorem d_R_plain_94 : decode prog_7_method_22_code 94 = .ok (.iconst 1, 1) := by decide +kernel
theorem d_R_plain_95 : decode prog_7_method_22_code 95 = .ok (.iand, 1) := by decide +kernel
theorem d_R_plain_96 : decode prog_7_method_22_code 96 = .ok (.ifCond .eq 20, 3) := by decide +kernel
theorem d_R_plain_99 : decode prog_7_method_22_code 99 = .ok (.aload_n 0, 1) := by decide +kernel
theorem d_R_plain_100 : decode prog_7_method_22_code 100 = .ok (.getfield 41, 3) := by decide +kernel
theorem d_R_plain_103 : decode prog_7_method_22_code 103 = .ok (.bipush 6, 2) := by decide +kernel
theorem d_R_plain_105 : decode prog_7_method_22_code 105 = .ok (.iload_n 2, 1) := by decide +kernel
theorem d_R_plain_106 : decode prog_7_method_22_code 106 = .ok (.imul, 1) := by decide +kernel
theorem d_R_plain_107 : decode prog_7_method_22_code 107 = .ok (.iload 6, 2) := by decide +kernel
theorem d_R_plain_109 : decode prog_7_method_22_code 109 = .ok (.iadd, 1) := by decide +kernel
theorem d_R_plain_110 : decode prog_7_method_22_code 110 = .ok (.iaload, 1) := by decide +kernel
theorem d_R_plain_111 : decode prog_7_method_22_code 111 = .ok (.ifCond .lt 5, 3) := by decide +kernel
theorem d_R_plain_114 : decode prog_7_method_22_code 114 = .ok (.iconst 0, 1) := by decide +kernel
theorem d_R_plain_115 : decode prog_7_method_22_code 115 = .ok (.ireturn, 1) := by decide +kernel
theorem d_R_plain_116 : decode prog_7_method_22_code 116 = .ok (.iinc 6 1, 3) := by decide +kernel
theorem d_R_plain_119 : decode prog_7_method_22_code 119 = .ok (.goto (-37), 3) := by decide +kernel
theorem d_R_plain_122 : decode prog_7_method_22_code 122 = .ok (.iload_n 3, 1) := by decide +kernel
theorem d_R_plain_123 : decode prog_7_method_22_code 123 = .ok (.ifCond .ne 7, 3) := by decide +kernel
theorem d_R_plain_126 : decode prog_7_method_22_code 126 = .ok (.iconst 1, 1) := by decide +kernel
theorem d_R_plain_127 : decode prog_7_method_22_code 127 = .ok (.goto 4, 3) := by decide +kernel
theorem d_R_plain_130 : decode prog_7_method_22_code 130 = .ok (.iconst 0, 1) := by decide +kernel
theorem d_R_plain_131 : decode prog_7_method_22_code 131 = .ok (.ireturn, 1) := by decide +kernel
theorem d_R_plain_132 : decode prog_7_method_22_code 132 = .ok (.iload_n 3, 1) := by decide +kernel
theorem d_R_plain_133 : decode prog_7_method_22_code 133 = .ok (.ifCond .ne 18, 3) := by decide +kernel
theorem d_R_plain_136 : decode prog_7_method_22_code 136 = .ok (.iload 4, 2) := by decide +kernel
theorem d_R_plain_138 : decode prog_7_method_22_code 138 = .ok (.ifCond .eq 13, 3) := by decide +kernel
theorem d_R_plain_141 : decode prog_7_method_22_code 141 = .ok (.iload 4, 2) := by decide +kernel
theorem d_R_plain_143 : decode prog_7_method_22_code 143 = .ok (.iload 4, 2) := by decide +kernel
theorem d_R_plain_145 : decode prog_7_method_22_code 145 = .ok (.iconst 1, 1) := by decide +kernel
theorem d_R_plain_146 : decode prog_7_method_22_code 146 = .ok (.isub, 1) := by decide +kernel
theorem d_R_plain_147 : decode prog_7_method_22_code 147 = .ok (.iand, 1) := by decide +kernel
theorem d_R_plain_148 : decode prog_7_method_22_code 148 = .ok (.ifCond .eq 5, 3) := by decide +kernel
theorem d_R_plain_151 : decode prog_7_method_22_code 151 = .ok (.iconst 0, 1) := by decide +kernel
theorem d_R_plain_152 : decode prog_7_method_22_code 152 = .ok (.ireturn, 1) := by decide +kernel
theorem d_R_plain_153 : decode prog_7_method_22_code 153 = .ok (.iload 4, 2) := by decide +kernel
theorem d_R_plain_155 : decode prog_7_method_22_code 155 = .ok (.iload 5, 2) := by decide +kernel
theorem d_R_plain_157 : decode prog_7_method_22_code 157 = .ok (.ishr, 1) := by decide +kernel
theorem d_R_plain_158 : decode prog_7_method_22_code 158 = .ok (.iconst 1, 1) := by decide +kernel
theorem d_R_plain_159 : decode prog_7_method_22_code 159 = .ok (.iand, 1) := by decide +kernel
theorem d_R_plain_160 : decode prog_7_method_22_code 160 = .ok (.ifCond .ne 9, 3) := by decide +kernel
theorem d_R_plain_163 : decode prog_7_method_22_code 163 = .ok (.iinc 5 1, 3) := by decide +kernel
theorem d_R_plain_166 : decode prog_7_method_22_code 166 = .ok (.goto (-13), 3) := by decide +kernel
theorem d_R_plain_169 : decode prog_7_method_22_code 169 = .ok (.aload_n 0, 1) := by decide +kernel
theorem d_R_plain_170 : decode prog_7_method_22_code 170 = .ok (.iload_n 1, 1) := by decide +kernel
theorem d_R_plain_171 : decode prog_7_method_22_code 171 = .ok (.aload_n 0, 1) := by decide +kernel
theorem d_R_plain_172 : decode prog_7_method_22_code 172 = .ok (.getfield 41, 3) := by decide +kernel
theorem d_R_plain_175 : decode prog_7_method_22_code 175 = .ok (.bipush 6, 2) := by decide +kernel
theorem d_R_plain_177 : decode prog_7_method_22_code 177 = .ok (.iload_n 2, 1) := by decide +kernel
theorem d_R_plain_178 : decode prog_7_method_22_code 178 = .ok (.imul, 1) := by decide +kernel
theorem d_R_plain_179 : decode prog_7_method_22_code 179 = .ok (.iload 5, 2) := by decide +kernel
theorem d_R_plain_181 : decode prog_7_method_22_code 181 = .ok (.iadd, 1) := by decide +kernel
theorem d_R_plain_182 : decode prog_7_method_22_code 182 = .ok (.iaload, 1) := by decide +kernel
theorem d_R_plain_183 : decode prog_7_method_22_code 183 = .ok (.aload_n 0, 1) := by decide +kernel
theorem d_R_plain_184 : decode prog_7_method_22_code 184 = .ok (.getfield 44, 3) := by decide +kernel
theorem d_R_plain_187 : decode prog_7_method_22_code 187 = .ok (.bipush 6, 2) := by decide +kernel
theorem d_R_plain_189 : decode prog_7_method_22_code 189 = .ok (.iload_n 2, 1) := by decide +kernel
theorem d_R_plain_190 : decode prog_7_method_22_code 190 = .ok (.imul, 1) := by decide +kernel
theorem d_R_plain_191 : decode prog_7_method_22_code 191 = .ok (.iload 5, 2) := by decide +kernel
theorem d_R_plain_193 : decode prog_7_method_22_code 193 = .ok (.iadd, 1) := by decide +kernel
theorem d_R_plain_194 : decode prog_7_method_22_code 194 = .ok (.iaload, 1) := by decide +kernel
theorem d_R_plain_195 : decode prog_7_method_22_code 195 = .ok (.invokevirtual 98, 3) := by decide +kernel
theorem d_R_plain_198 : decode prog_7_method_22_code 198 = .ok (.ireturn, 1) := by decide +kernel
theorem d_R_plain_199 : decode prog_7_method_22_code 199 = .ok (.iload 4, 2) := by decide +kernel
theorem d_R_plain_201 : decode prog_7_method_22_code 201 = .ok (.ifCond .ne 15, 3) := by decide +kernel
theorem d_R_plain_204 : decode prog_7_method_22_code 204 = .ok (.iload_n 3, 1) := by decide +kernel
theorem d_R_plain_205 : decode prog_7_method_22_code 205 = .ok (.ifCond .eq 11, 3) := by decide +kernel
theorem d_R_plain_208 : decode prog_7_method_22_code 208 = .ok (.iload_n 3, 1) := by decide +kernel
theorem d_R_plain_209 : decode prog_7_method_22_code 209 = .ok (.iload_n 3, 1) := by decide +kernel
theorem d_R_plain_210 : decode prog_7_method_22_code 210 = .ok (.iconst 1, 1) := by decide +kernel
theorem d_R_plain_211 : decode prog_7_method_22_code 211 = .ok (.isub, 1) := by decide +kernel
theorem d_R_plain_212 : decode prog_7_method_22_code 212 = .ok (.iand, 1) := by decide +kernel
theorem d_R_plain_213 : decode prog_7_method_22_code 213 = .ok (.ifCond .eq 5, 3) := by decide +kernel
theorem d_R_plain_216 : decode prog_7_method_22_code 216 = .ok (.iconst 0, 1) := by decide +kernel
theorem d_R_plain_217 : decode prog_7_method_22_code 217 = .ok (.ireturn, 1) := by decide +kernel
theorem d_R_plain_218 : decode prog_7_method_22_code 218 = .ok (.iload_n 3, 1) := by decide +kernel
theorem d_R_plain_219 : decode prog_7_method_22_code 219 = .ok (.iload 5, 2) := by decide +kernel
theorem d_R_plain_221 : decode prog_7_method_22_code 221 = .ok (.ishr, 1) := by decide +kernel
theorem d_R_plain_222 : decode prog_7_method_22_code 222 = .ok (.iconst 1, 1) := by decide +kernel
theorem d_R_plain_223 : decode prog_7_method_22_code 223 = .ok (.iand, 1) := by decide +kernel
theorem d_R_plain_224 : decode prog_7_method_22_code 224 = .ok (.ifCond .ne 9, 3) := by decide +kernel
theorem d_R_plain_227 : decode prog_7_method_22_code 227 = .ok (.iinc 5 1, 3) := by decide +kernel
theorem d_R_plain_230 : decode prog_7_method_22_code 230 = .ok (.goto (-12), 3) := by decide +kernel
theorem d_R_plain_233 : decode prog_7_method_22_code 233 = .ok (.aload_n 0, 1) := by decide +kernel
theorem d_R_plain_234 : decode prog_7_method_22_code 234 = .ok (.getfield 13, 3) := by decide +kernel
theorem d_R_plain_237 : decode prog_7_method_22_code 237 = .ok (.iload_n 1, 1) := by decide +kernel
theorem d_R_plain_238 : decode prog_7_method_22_code 238 = .ok (.iaload, 1) := by decide +kernel
theorem d_R_plain_239 : decode prog_7_method_22_code 239 = .ok (.bipush 6, 2) := by decide +kernel
theorem d_R_plain_241 : decode prog_7_method_22_code 241 = .ok (.if_icmp .eq 14, 3) := by decide +kernel
theorem d_R_plain_244 : decode prog_7_method_22_code 244 = .ok (.aload_n 0, 1) := by decide +kernel
theorem d_R_plain_245 : decode prog_7_method_22_code 245 = .ok (.getfield 13, 3) := by decide +kernel
theorem d_R_plain_248 : decode prog_7_method_22_code 248 = .ok (.iload_n 1, 1) := by decide +kernel
theorem d_R_plain_249 : decode prog_7_method_22_code 249 = .ok (.iaload, 1) := by decide +kernel
theorem d_R_plain_250 : decode prog_7_method_22_code 250 = .ok (.iload 5, 2) := by decide +kernel
theorem d_R_plain_252 : decode prog_7_method_22_code 252 = .ok (.if_icmp .ne 27, 3) := by decide +kernel
theorem d_R_plain_255 : decode prog_7_method_22_code 255 = .ok (.aload_n 0, 1) := by decide +kernel
theorem d_R_plain_256 : decode prog_7_method_22_code 256 = .ok (.getfield 67, 3) := by decide +kernel
theorem d_R_plain_259 : decode prog_7_method_22_code 259 = .ok (.bipush 40, 2) := by decide +kernel
theorem d_R_plain_261 : decode prog_7_method_22_code 261 = .ok (.iload 5, 2) := by decide +kernel
theorem d_R_plain_263 : decode prog_7_method_22_code 263 = .ok (.imul, 1) := by decide +kernel
theorem d_R_plain_264 : decode prog_7_method_22_code 264 = .ok (.aload_n 0, 1) := by decide +kernel
theorem d_R_plain_265 : decode prog_7_method_22_code 265 = .ok (.getfield 16, 3) := by decide +kernel
theorem d_R_plain_268 : decode prog_7_method_22_code 268 = .ok (.iload_n 1, 1) := by decide +kernel
theorem d_R_plain_269 : decode prog_7_method_22_code 269 = .ok (.iaload, 1) := by decide +kernel
theorem d_R_plain_270 : decode prog_7_method_22_code 270 = .ok (.iadd, 1) := by decide +kernel
theorem d_R_plain_271 : decode prog_7_method_22_code 271 = .ok (.baload, 1) := by decide +kernel
theorem d_R_plain_272 : decode prog_7_method_22_code 272 = .ok (.ifCond .eq 7, 3) := by decide +kernel
theorem d_R_plain_275 : decode prog_7_method_22_code 275 = .ok (.iconst 1, 1) := by decide +kernel
theorem d_R_plain_276 : decode prog_7_method_22_code 276 = .ok (.goto 4, 3) := by decide +kernel
theorem d_R_plain_279 : decode prog_7_method_22_code 279 = .ok (.iconst 0, 1) := by decide +kernel
theorem d_R_plain_280 : decode prog_7_method_22_code 280 = .ok (.ireturn, 1) := by decide +kernel
theorem d_R_plain_281 : decode prog_7_method_22_code 281 = .ok (.iconst 0, 1) := by decide +kernel
theorem d_R_plain_282 : decode prog_7_method_22_code 282 = .ok (.ireturn, 1) := by decide +kernel
abbrev M_R_say : vg_M := (⟨0, 0, 0, 0⟩, 6, prog_7_method_19_code, ⟨"PatternValidatorModel", "say", "(III)V"⟩, none, Cond.code ⟨"PatternValidatorModel", "say", "(III)V"⟩ prog_7_method_19_code 6 (none))
theorem d_R_say_0 : decode prog_7_method_19_code 0 = .ok (.lconst 1, 1) := by decide +kernel
theorem d_R_say_1 : decode prog_7_method_19_code 1 = .ok (.iload_n 3, 1) := by decide +kernel
theorem d_R_say_2 : decode prog_7_method_19_code 2 = .ok (.lshl, 1) := by decide +kernel
theorem d_R_say_3 : decode prog_7_method_19_code 3 = .ok (.lstore 4, 2) := by decide +kernel
theorem d_R_say_5 : decode prog_7_method_19_code 5 = .ok (.aload_n 0, 1) := by decide +kernel
theorem d_R_say_6 : decode prog_7_method_19_code 6 = .ok (.getfield 54, 3) := by decide +kernel
theorem d_R_say_9 : decode prog_7_method_19_code 9 = .ok (.bipush 64, 2) := by decide +kernel
theorem d_R_say_11 : decode prog_7_method_19_code 11 = .ok (.iload_n 1, 1) := by decide +kernel
theorem d_R_say_12 : decode prog_7_method_19_code 12 = .ok (.imul, 1) := by decide +kernel
theorem d_R_say_13 : decode prog_7_method_19_code 13 = .ok (.iload_n 2, 1) := by decide +kernel
theorem d_R_say_14 : decode prog_7_method_19_code 14 = .ok (.iadd, 1) := by decide +kernel
theorem d_R_say_15 : decode prog_7_method_19_code 15 = .ok (.laload, 1) := by decide +kernel
theorem d_R_say_16 : decode prog_7_method_19_code 16 = .ok (.lload 4, 2) := by decide +kernel
theorem d_R_say_18 : decode prog_7_method_19_code 18 = .ok (.land, 1) := by decide +kernel
theorem d_R_say_19 : decode prog_7_method_19_code 19 = .ok (.lconst 0, 1) := by decide +kernel
theorem d_R_say_20 : decode prog_7_method_19_code 20 = .ok (.lcmp, 1) := by decide +kernel
theorem d_R_say_21 : decode prog_7_method_19_code 21 = .ok (.ifCond .eq 4, 3) := by decide +kernel
theorem d_R_say_24 : decode prog_7_method_19_code 24 = .ok (.return_, 1) := by decide +kernel
theorem d_R_say_25 : decode prog_7_method_19_code 25 = .ok (.aload_n 0, 1) := by decide +kernel
theorem d_R_say_26 : decode prog_7_method_19_code 26 = .ok (.getfield 54, 3) := by decide +kernel
theorem d_R_say_29 : decode prog_7_method_19_code 29 = .ok (.bipush 64, 2) := by decide +kernel
theorem d_R_say_31 : decode prog_7_method_19_code 31 = .ok (.iload_n 1, 1) := by decide +kernel
theorem d_R_say_32 : decode prog_7_method_19_code 32 = .ok (.imul, 1) := by decide +kernel
theorem d_R_say_33 : decode prog_7_method_19_code 33 = .ok (.iload_n 2, 1) := by decide +kernel
theorem d_R_say_34 : decode prog_7_method_19_code 34 = .ok (.iadd, 1) := by decide +kernel
theorem d_R_say_35 : decode prog_7_method_19_code 35 = .ok (.dup2, 1) := by decide +kernel
theorem d_R_say_36 : decode prog_7_method_19_code 36 = .ok (.laload, 1) := by decide +kernel
theorem d_R_say_37 : decode prog_7_method_19_code 37 = .ok (.lload 4, 2) := by decide +kernel
theorem d_R_say_39 : decode prog_7_method_19_code 39 = .ok (.lor, 1) := by decide +kernel
theorem d_R_say_40 : decode prog_7_method_19_code 40 = .ok (.lastore, 1) := by decide +kernel
theorem d_R_say_41 : decode prog_7_method_19_code 41 = .ok (.aload_n 0, 1) := by decide +kernel
theorem d_R_say_42 : decode prog_7_method_19_code 42 = .ok (.iconst 1, 1) := by decide +kernel
theorem d_R_say_43 : decode prog_7_method_19_code 43 = .ok (.putfield 101, 3) := by decide +kernel
theorem d_R_say_46 : decode prog_7_method_19_code 46 = .ok (.return_, 1) := by decide +kernel
abbrev M_R_content : vg_M := (⟨6, 0, 0, 145⟩, 3, prog_7_method_29_code, ⟨"PatternValidatorModel", "content", "(II)I"⟩, some .int, Cond.code ⟨"PatternValidatorModel", "content", "(II)I"⟩ prog_7_method_29_code 3 (some .int))
theorem d_R_content_0 : decode prog_7_method_29_code 0 = .ok (.aload_n 0, 1) := by decide +kernel
theorem d_R_content_1 : decode prog_7_method_29_code 1 = .ok (.iconst 0, 1) := by decide +kernel
theorem d_R_content_2 : decode prog_7_method_29_code 2 = .ok (.putfield 70, 3) := by decide +kernel
theorem d_R_content_5 : decode prog_7_method_29_code 5 = .ok (.aload_n 0, 1) := by decide +kernel
theorem d_R_content_6 : decode prog_7_method_29_code 6 = .ok (.iload_n 1, 1) := by decide +kernel
theorem d_R_content_7 : decode prog_7_method_29_code 7 = .ok (.iload_n 2, 1) := by decide +kernel
theorem d_R_content_8 : decode prog_7_method_29_code 8 = .ok (.invokevirtual 140, 3) := by decide +kernel
theorem d_R_content_11 : decode prog_7_method_29_code 11 = .ok (.ifCond .ne 9, 3) := by decide +kernel
theorem d_R_content_14 : decode prog_7_method_29_code 14 = .ok (.aload_n 0, 1) := by decide +kernel
theorem d_R_content_15 : decode prog_7_method_29_code 15 = .ok (.iconst 1, 1) := by decide +kernel
theorem d_R_content_16 : decode prog_7_method_29_code 16 = .ok (.invokevirtual 87, 3) := by decide +kernel
theorem d_R_content_19 : decode prog_7_method_29_code 19 = .ok (.ireturn, 1) := by decide +kernel
theorem d_R_content_20 : decode prog_7_method_29_code 20 = .ok (.aload_n 0, 1) := by decide +kernel
theorem d_R_content_21 : decode prog_7_method_29_code 21 = .ok (.iload_n 2, 1) := by decide +kernel
theorem d_R_content_22 : decode prog_7_method_29_code 22 = .ok (.invokevirtual 143, 3) := by decide +kernel
theorem d_R_content_25 : decode prog_7_method_29_code 25 = .ok (.aload_n 0, 1) := by decide +kernel
theorem d_R_content_26 : decode prog_7_method_29_code 26 = .ok (.getfield 58, 3) := by decide +kernel
theorem d_R_content_29 : decode prog_7_method_29_code 29 = .ok (.bipush 40, 2) := by decide +kernel
theorem d_R_content_31 : decode prog_7_method_29_code 31 = .ok (.iload_n 2, 1) := by decide +kernel
theorem d_R_content_32 : decode prog_7_method_29_code 32 = .ok (.imul, 1) := by decide +kernel
theorem d_R_content_33 : decode prog_7_method_29_code 33 = .ok (.iload_n 1, 1) := by decide +kernel
theorem d_R_content_34 : decode prog_7_method_29_code 34 = .ok (.iadd, 1) := by decide +kernel
theorem d_R_content_35 : decode prog_7_method_29_code 35 = .ok (.baload, 1) := by decide +kernel
theorem d_R_content_36 : decode prog_7_method_29_code 36 = .ok (.ifCond .eq 7, 3) := by decide +kernel
theorem d_R_content_39 : decode prog_7_method_29_code 39 = .ok (.iconst 1, 1) := by decide +kernel
theorem d_R_content_40 : decode prog_7_method_29_code 40 = .ok (.goto 4, 3) := by decide +kernel
theorem d_R_content_43 : decode prog_7_method_29_code 43 = .ok (.iconst 0, 1) := by decide +kernel
theorem d_R_content_44 : decode prog_7_method_29_code 44 = .ok (.ireturn, 1) := by decide +kernel
abbrev M_R_longest : vg_M := (⟨6, 0, 0, 145⟩, 5, prog_7_method_30_code, ⟨"PatternValidatorModel", "longest", "(II)I"⟩, some .int, Cond.code ⟨"PatternValidatorModel", "longest", "(II)I"⟩ prog_7_method_30_code 5 (some .int))
theorem d_R_longest_0 : decode prog_7_method_30_code 0 = .ok (.aload_n 0, 1) := by decide +kernel
theorem d_R_longest_1 : decode prog_7_method_30_code 1 = .ok (.iconst 0, 1) := by decide +kernel
theorem d_R_longest_2 : decode prog_7_method_30_code 2 = .ok (.putfield 70, 3) := by decide +kernel
theorem d_R_longest_5 : decode prog_7_method_30_code 5 = .ok (.aload_n 0, 1) := by decide +kernel
theorem d_R_longest_6 : decode prog_7_method_30_code 6 = .ok (.iload_n 1, 1) := by decide +kernel
theorem d_R_longest_7 : decode prog_7_method_30_code 7 = .ok (.iload_n 2, 1) := by decide +kernel
theorem d_R_longest_8 : decode prog_7_method_30_code 8 = .ok (.invokevirtual 140, 3) := by decide +kernel
theorem d_R_longest_11 : decode prog_7_method_30_code 11 = .ok (.ifCond .ne 9, 3) := by decide +kernel
theorem d_R_longest_14 : decode prog_7_method_30_code 14 = .ok (.aload_n 0, 1) := by decide +kernel
theorem d_R_longest_15 : decode prog_7_method_30_code 15 = .ok (.iconst 1, 1) := by decide +kernel
theorem d_R_longest_16 : decode prog_7_method_30_code 16 = .ok (.invokevirtual 87, 3) := by decide +kernel
theorem d_R_longest_19 : decode prog_7_method_30_code 19 = .ok (.ireturn, 1) := by decide +kernel
theorem d_R_longest_20 : decode prog_7_method_30_code 20 = .ok (.aload_n 0, 1) := by decide +kernel
theorem d_R_longest_21 : decode prog_7_method_30_code 21 = .ok (.iload_n 2, 1) := by decide +kernel
theorem d_R_longest_22 : decode prog_7_method_30_code 22 = .ok (.invokevirtual 143, 3) := by decide +kernel
theorem d_R_longest_25 : decode prog_7_method_30_code 25 = .ok (.aload_n 0, 1) := by decide +kernel
theorem d_R_longest_26 : decode prog_7_method_30_code 26 = .ok (.iload_n 2, 1) := by decide +kernel
theorem d_R_longest_27 : decode prog_7_method_30_code 27 = .ok (.invokevirtual 119, 3) := by decide +kernel
theorem d_R_longest_30 : decode prog_7_method_30_code 30 = .ok (.istore_n 3, 1) := by decide +kernel
theorem d_R_longest_31 : decode prog_7_method_30_code 31 = .ok (.aload_n 0, 1) := by decide +kernel
theorem d_R_longest_32 : decode prog_7_method_30_code 32 = .ok (.getfield 47, 3) := by decide +kernel
theorem d_R_longest_35 : decode prog_7_method_30_code 35 = .ok (.iload_n 2, 1) := by decide +kernel
theorem d_R_longest_36 : decode prog_7_method_30_code 36 = .ok (.iaload, 1) := by decide +kernel
theorem d_R_longest_37 : decode prog_7_method_30_code 37 = .ok (.istore 4, 2) := by decide +kernel
theorem d_R_longest_39 : decode prog_7_method_30_code 39 = .ok (.iload 4, 2) := by decide +kernel
theorem d_R_longest_41 : decode prog_7_method_30_code 41 = .ok (.ifCond .lt 27, 3) := by decide +kernel
theorem d_R_longest_44 : decode prog_7_method_30_code 44 = .ok (.aload_n 0, 1) := by decide +kernel
theorem d_R_longest_45 : decode prog_7_method_30_code 45 = .ok (.iload_n 1, 1) := by decide +kernel
theorem d_R_longest_46 : decode prog_7_method_30_code 46 = .ok (.iload_n 3, 1) := by decide +kernel
theorem d_R_longest_47 : decode prog_7_method_30_code 47 = .ok (.iconst 1, 1) := by decide +kernel
theorem d_R_longest_48 : decode prog_7_method_30_code 48 = .ok (.iload 4, 2) := by decide +kernel
theorem d_R_longest_50 : decode prog_7_method_30_code 50 = .ok (.ishl, 1) := by decide +kernel
theorem d_R_longest_51 : decode prog_7_method_30_code 51 = .ok (.iconst 1, 1) := by decide +kernel
theorem d_R_longest_52 : decode prog_7_method_30_code 52 = .ok (.isub, 1) := by decide +kernel
theorem d_R_longest_53 : decode prog_7_method_30_code 53 = .ok (.invokevirtual 112, 3) := by decide +kernel
theorem d_R_longest_56 : decode prog_7_method_30_code 56 = .ok (.ifCond .eq 6, 3) := by decide +kernel
theorem d_R_longest_59 : decode prog_7_method_30_code 59 = .ok (.iload 4, 2) := by decide +kernel
theorem d_R_longest_61 : decode prog_7_method_30_code 61 = .ok (.ireturn, 1) := by decide +kernel
theorem d_R_longest_62 : decode prog_7_method_30_code 62 = .ok (.iinc 4 (-1), 3) := by decide +kernel
theorem d_R_longest_65 : decode prog_7_method_30_code 65 = .ok (.goto (-26), 3) := by decide +kernel
theorem d_R_longest_68 : decode prog_7_method_30_code 68 = .ok (.aload_n 0, 1) := by decide +kernel
theorem d_R_longest_69 : decode prog_7_method_30_code 69 = .ok (.iconst 2, 1) := by decide +kernel
theorem d_R_longest_70 : decode prog_7_method_30_code 70 = .ok (.invokevirtual 87, 3) := by decide +kernel
theorem d_R_longest_73 : decode prog_7_method_30_code 73 = .ok (.ireturn, 1) := by decide +kernel
abbrev M_R_find : vg_M := (⟨6, 0, 0, 145⟩, 3, prog_7_method_31_code, ⟨"PatternValidatorModel", "find", "(I)I"⟩, some .int, Cond.code ⟨"PatternValidatorModel", "find", "(I)I"⟩ prog_7_method_31_code 3 (some .int))
theorem d_R_find_0 : decode prog_7_method_31_code 0 = .ok (.aload_n 0, 1) := by decide +kernel
theorem d_R_find_1 : decode prog_7_method_31_code 1 = .ok (.iconst 0, 1) := by decide +kernel
theorem d_R_find_2 : decode prog_7_method_31_code 2 = .ok (.putfield 70, 3) := by decide +kernel
theorem d_R_find_5 : decode prog_7_method_31_code 5 = .ok (.aload_n 0, 1) := by decide +kernel
theorem d_R_find_6 : decode prog_7_method_31_code 6 = .ok (.iload_n 1, 1) := by decide +kernel
theorem d_R_find_7 : decode prog_7_method_31_code 7 = .ok (.invokevirtual 80, 3) := by decide +kernel
theorem d_R_find_10 : decode prog_7_method_31_code 10 = .ok (.ifCond .ne 9, 3) := by decide +kernel
theorem d_R_find_13 : decode prog_7_method_31_code 13 = .ok (.aload_n 0, 1) := by decide +kernel
theorem d_R_find_14 : decode prog_7_method_31_code 14 = .ok (.iconst 1, 1) := by decide +kernel
theorem d_R_find_15 : decode prog_7_method_31_code 15 = .ok (.invokevirtual 87, 3) := by decide +kernel
theorem d_R_find_18 : decode prog_7_method_31_code 18 = .ok (.ireturn, 1) := by decide +kernel
theorem d_R_find_19 : decode prog_7_method_31_code 19 = .ok (.aload_n 0, 1) := by decide +kernel
theorem d_R_find_20 : decode prog_7_method_31_code 20 = .ok (.iconst 0, 1) := by decide +kernel
theorem d_R_find_21 : decode prog_7_method_31_code 21 = .ok (.invokevirtual 143, 3) := by decide +kernel
theorem d_R_find_24 : decode prog_7_method_31_code 24 = .ok (.iconst 0, 1) := by decide +kernel
theorem d_R_find_25 : decode prog_7_method_31_code 25 = .ok (.istore_n 2, 1) := by decide +kernel
theorem d_R_find_26 : decode prog_7_method_31_code 26 = .ok (.iload_n 2, 1) := by decide +kernel
theorem d_R_find_27 : decode prog_7_method_31_code 27 = .ok (.aload_n 0, 1) := by decide +kernel
theorem d_R_find_28 : decode prog_7_method_31_code 28 = .ok (.getfield 95, 3) := by decide +kernel
theorem d_R_find_31 : decode prog_7_method_31_code 31 = .ok (.if_icmp .ge 26, 3) := by decide +kernel
theorem d_R_find_34 : decode prog_7_method_31_code 34 = .ok (.aload_n 0, 1) := by decide +kernel
theorem d_R_find_35 : decode prog_7_method_31_code 35 = .ok (.iload_n 2, 1) := by decide +kernel
theorem d_R_find_36 : decode prog_7_method_31_code 36 = .ok (.iconst 0, 1) := by decide +kernel
theorem d_R_find_37 : decode prog_7_method_31_code 37 = .ok (.invokevirtual 122, 3) := by decide +kernel
theorem d_R_find_40 : decode prog_7_method_31_code 40 = .ok (.aload_n 0, 1) := by decide +kernel
theorem d_R_find_41 : decode prog_7_method_31_code 41 = .ok (.getfield 64, 3) := by decide +kernel
theorem d_R_find_44 : decode prog_7_method_31_code 44 = .ok (.iload_n 1, 1) := by decide +kernel
theorem d_R_find_45 : decode prog_7_method_31_code 45 = .ok (.baload, 1) := by decide +kernel
theorem d_R_find_46 : decode prog_7_method_31_code 46 = .ok (.ifCond .eq 5, 3) := by decide +kernel
theorem d_R_find_49 : decode prog_7_method_31_code 49 = .ok (.iload_n 2, 1) := by decide +kernel
theorem d_R_find_50 : decode prog_7_method_31_code 50 = .ok (.ireturn, 1) := by decide +kernel
theorem d_R_find_51 : decode prog_7_method_31_code 51 = .ok (.iinc 2 1, 3) := by decide +kernel
theorem d_R_find_54 : decode prog_7_method_31_code 54 = .ok (.goto (-28), 3) := by decide +kernel
theorem d_R_find_57 : decode prog_7_method_31_code 57 = .ok (.aload_n 0, 1) := by decide +kernel
theorem d_R_find_58 : decode prog_7_method_31_code 58 = .ok (.iconst 2, 1) := by decide +kernel
theorem d_R_find_59 : decode prog_7_method_31_code 59 = .ok (.invokevirtual 87, 3) := by decide +kernel
theorem d_R_find_62 : decode prog_7_method_31_code 62 = .ok (.ireturn, 1) := by decide +kernel
abbrev M_R_nullable : vg_M := (⟨2, 0, 0, 43⟩, 2, prog_7_method_32_code, ⟨"PatternValidatorModel", "nullable", "(I)I"⟩, some .int, Cond.code ⟨"PatternValidatorModel", "nullable", "(I)I"⟩ prog_7_method_32_code 2 (some .int))
theorem d_R_nullable_0 : decode prog_7_method_32_code 0 = .ok (.aload_n 0, 1) := by decide +kernel
theorem d_R_nullable_1 : decode prog_7_method_32_code 1 = .ok (.iconst 0, 1) := by decide +kernel
theorem d_R_nullable_2 : decode prog_7_method_32_code 2 = .ok (.putfield 70, 3) := by decide +kernel
theorem d_R_nullable_5 : decode prog_7_method_32_code 5 = .ok (.aload_n 0, 1) := by decide +kernel
theorem d_R_nullable_6 : decode prog_7_method_32_code 6 = .ok (.iload_n 1, 1) := by decide +kernel
theorem d_R_nullable_7 : decode prog_7_method_32_code 7 = .ok (.invokevirtual 80, 3) := by decide +kernel
theorem d_R_nullable_10 : decode prog_7_method_32_code 10 = .ok (.ifCond .ne 9, 3) := by decide +kernel
theorem d_R_nullable_13 : decode prog_7_method_32_code 13 = .ok (.aload_n 0, 1) := by decide +kernel
theorem d_R_nullable_14 : decode prog_7_method_32_code 14 = .ok (.iconst 1, 1) := by decide +kernel
theorem d_R_nullable_15 : decode prog_7_method_32_code 15 = .ok (.invokevirtual 87, 3) := by decide +kernel
theorem d_R_nullable_18 : decode prog_7_method_32_code 18 = .ok (.ireturn, 1) := by decide +kernel
theorem d_R_nullable_19 : decode prog_7_method_32_code 19 = .ok (.aload_n 0, 1) := by decide +kernel
theorem d_R_nullable_20 : decode prog_7_method_32_code 20 = .ok (.invokevirtual 133, 3) := by decide +kernel
theorem d_R_nullable_23 : decode prog_7_method_32_code 23 = .ok (.aload_n 0, 1) := by decide +kernel
theorem d_R_nullable_24 : decode prog_7_method_32_code 24 = .ok (.getfield 61, 3) := by decide +kernel
theorem d_R_nullable_27 : decode prog_7_method_32_code 27 = .ok (.iload_n 1, 1) := by decide +kernel
theorem d_R_nullable_28 : decode prog_7_method_32_code 28 = .ok (.baload, 1) := by decide +kernel
theorem d_R_nullable_29 : decode prog_7_method_32_code 29 = .ok (.ifCond .eq 7, 3) := by decide +kernel
theorem d_R_nullable_32 : decode prog_7_method_32_code 32 = .ok (.iconst 1, 1) := by decide +kernel
theorem d_R_nullable_33 : decode prog_7_method_32_code 33 = .ok (.goto 4, 3) := by decide +kernel
theorem d_R_nullable_36 : decode prog_7_method_32_code 36 = .ok (.iconst 0, 1) := by decide +kernel
theorem d_R_nullable_37 : decode prog_7_method_32_code 37 = .ok (.ireturn, 1) := by decide +kernel
abbrev M_R_count : vg_M := (⟨1, 0, 0, 21⟩, 4, prog_7_method_33_code, ⟨"PatternValidatorModel", "count", "(I)I"⟩, some .int, Cond.code ⟨"PatternValidatorModel", "count", "(I)I"⟩ prog_7_method_33_code 4 (some .int))
theorem d_R_count_0 : decode prog_7_method_33_code 0 = .ok (.aload_n 0, 1) := by decide +kernel
theorem d_R_count_1 : decode prog_7_method_33_code 1 = .ok (.iconst 0, 1) := by decide +kernel
theorem d_R_count_2 : decode prog_7_method_33_code 2 = .ok (.putfield 70, 3) := by decide +kernel
theorem d_R_count_5 : decode prog_7_method_33_code 5 = .ok (.iconst 0, 1) := by decide +kernel
theorem d_R_count_6 : decode prog_7_method_33_code 6 = .ok (.istore_n 2, 1) := by decide +kernel
theorem d_R_count_7 : decode prog_7_method_33_code 7 = .ok (.iload_n 1, 1) := by decide +kernel
theorem d_R_count_8 : decode prog_7_method_33_code 8 = .ok (.tableswitch 127 0 5 #[40, 45, 72, 77, 101, 122], 40) := by decide +kernel
theorem d_R_count_48 : decode prog_7_method_33_code 48 = .ok (.aload_n 0, 1) := by decide +kernel
theorem d_R_count_49 : decode prog_7_method_33_code 49 = .ok (.getfield 73, 3) := by decide +kernel
theorem d_R_count_52 : decode prog_7_method_33_code 52 = .ok (.ireturn, 1) := by decide +kernel
theorem d_R_count_53 : decode prog_7_method_33_code 53 = .ok (.iconst 0, 1) := by decide +kernel
theorem d_R_count_54 : decode prog_7_method_33_code 54 = .ok (.istore_n 3, 1) := by decide +kernel
theorem d_R_count_55 : decode prog_7_method_33_code 55 = .ok (.iload_n 3, 1) := by decide +kernel
theorem d_R_count_56 : decode prog_7_method_33_code 56 = .ok (.iconst 4, 1) := by decide +kernel
theorem d_R_count_57 : decode prog_7_method_33_code 57 = .ok (.if_icmp .ge 21, 3) := by decide +kernel
theorem d_R_count_60 : decode prog_7_method_33_code 60 = .ok (.aload_n 0, 1) := by decide +kernel
theorem d_R_count_61 : decode prog_7_method_33_code 61 = .ok (.getfield 22, 3) := by decide +kernel
theorem d_R_count_64 : decode prog_7_method_33_code 64 = .ok (.iload_n 3, 1) := by decide +kernel
theorem d_R_count_65 : decode prog_7_method_33_code 65 = .ok (.iaload, 1) := by decide +kernel
theorem d_R_count_66 : decode prog_7_method_33_code 66 = .ok (.ifCond .lt 6, 3) := by decide +kernel
theorem d_R_count_69 : decode prog_7_method_33_code 69 = .ok (.iinc 2 1, 3) := by decide +kernel
theorem d_R_count_72 : decode prog_7_method_33_code 72 = .ok (.iinc 3 1, 3) := by decide +kernel
theorem d_R_count_75 : decode prog_7_method_33_code 75 = .ok (.goto (-20), 3) := by decide +kernel
theorem d_R_count_78 : decode prog_7_method_33_code 78 = .ok (.iload_n 2, 1) := by decide +kernel
theorem d_R_count_79 : decode prog_7_method_33_code 79 = .ok (.ireturn, 1) := by decide +kernel
theorem d_R_count_80 : decode prog_7_method_33_code 80 = .ok (.aload_n 0, 1) := by decide +kernel
theorem d_R_count_81 : decode prog_7_method_33_code 81 = .ok (.getfield 95, 3) := by decide +kernel
theorem d_R_count_84 : decode prog_7_method_33_code 84 = .ok (.ireturn, 1) := by decide +kernel
theorem d_R_count_85 : decode prog_7_method_33_code 85 = .ok (.aload_n 0, 1) := by decide +kernel
theorem d_R_count_86 : decode prog_7_method_33_code 86 = .ok (.getfield 50, 3) := by decide +kernel
theorem d_R_count_89 : decode prog_7_method_33_code 89 = .ok (.istore_n 3, 1) := by decide +kernel
theorem d_R_count_90 : decode prog_7_method_33_code 90 = .ok (.iload_n 3, 1) := by decide +kernel
theorem d_R_count_91 : decode prog_7_method_33_code 91 = .ok (.ifCond .lt 16, 3) := by decide +kernel
theorem d_R_count_94 : decode prog_7_method_33_code 94 = .ok (.iinc 2 1, 3) := by decide +kernel
theorem d_R_count_97 : decode prog_7_method_33_code 97 = .ok (.aload_n 0, 1) := by decide +kernel
theorem d_R_count_98 : decode prog_7_method_33_code 98 = .ok (.getfield 28, 3) := by decide +kernel
theorem d_R_count_101 : decode prog_7_method_33_code 101 = .ok (.iload_n 3, 1) := by decide +kernel
theorem d_R_count_102 : decode prog_7_method_33_code 102 = .ok (.iaload, 1) := by decide +kernel
theorem d_R_count_103 : decode prog_7_method_33_code 103 = .ok (.istore_n 3, 1) := by decide +kernel
theorem d_R_count_104 : decode prog_7_method_33_code 104 = .ok (.goto (-14), 3) := by decide +kernel
theorem d_R_count_107 : decode prog_7_method_33_code 107 = .ok (.iload_n 2, 1) := by decide +kernel
theorem d_R_count_108 : decode prog_7_method_33_code 108 = .ok (.ireturn, 1) := by decide +kernel
theorem d_R_count_109 : decode prog_7_method_33_code 109 = .ok (.aload_n 0, 1) := by decide +kernel
theorem d_R_count_110 : decode prog_7_method_33_code 110 = .ok (.getfield 50, 3) := by decide +kernel
theorem d_R_count_113 : decode prog_7_method_33_code 113 = .ok (.ifCond .ge 7, 3) := by decide +kernel
theorem d_R_count_116 : decode prog_7_method_33_code 116 = .ok (.iconst (-1), 1) := by decide +kernel
theorem d_R_count_117 : decode prog_7_method_33_code 117 = .ok (.goto 12, 3) := by decide +kernel
theorem d_R_count_120 : decode prog_7_method_33_code 120 = .ok (.aload_n 0, 1) := by decide +kernel
theorem d_R_count_121 : decode prog_7_method_33_code 121 = .ok (.getfield 25, 3) := by decide +kernel
theorem d_R_count_124 : decode prog_7_method_33_code 124 = .ok (.aload_n 0, 1) := by decide +kernel
theorem d_R_count_125 : decode prog_7_method_33_code 125 = .ok (.getfield 50, 3) := by decide +kernel
theorem d_R_count_128 : decode prog_7_method_33_code 128 = .ok (.iaload, 1) := by decide +kernel
theorem d_R_count_129 : decode prog_7_method_33_code 129 = .ok (.ireturn, 1) := by decide +kernel
theorem d_R_count_130 : decode prog_7_method_33_code 130 = .ok (.aload_n 0, 1) := by decide +kernel
theorem d_R_count_131 : decode prog_7_method_33_code 131 = .ok (.getfield 50, 3) := by decide +kernel
theorem d_R_count_134 : decode prog_7_method_33_code 134 = .ok (.ireturn, 1) := by decide +kernel
theorem d_R_count_135 : decode prog_7_method_33_code 135 = .ok (.aload_n 0, 1) := by decide +kernel
theorem d_R_count_136 : decode prog_7_method_33_code 136 = .ok (.iconst 1, 1) := by decide +kernel
theorem d_R_count_137 : decode prog_7_method_33_code 137 = .ok (.invokevirtual 87, 3) := by decide +kernel
theorem d_R_count_140 : decode prog_7_method_33_code 140 = .ok (.ireturn, 1) := by decide +kernel
