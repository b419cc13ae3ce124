abbrev M_L_pattern : vg_M := (⟨9, 1, 6, 143⟩, 6, method_3_code, ⟨"PatternValidatorLaw", "pattern", "(LPatternValidator;III[J)I"⟩, some .int, Cond.codeWith ⟨"PatternValidatorLaw", "pattern", "(LPatternValidator;III[J)I"⟩ method_3_code 6 (some .int) [((0 : Nat), (12 : Nat), (15 : Nat), (13 : Nat)), ((0 : Nat), (12 : Nat), (19 : Nat), (15 : Nat))])
theorem d_L_pattern_0 : decode method_3_code 0 = .ok (.aload 4, 2) := by decide +kernel
theorem d_L_pattern_2 : decode method_3_code 2 = .ok (.iconst 0, 1) := by decide +kernel
theorem d_L_pattern_3 : decode method_3_code 3 = .ok (.aload_n 0, 1) := by decide +kernel
theorem d_L_pattern_4 : decode method_3_code 4 = .ok (.iload_n 1, 1) := by decide +kernel
theorem d_L_pattern_5 : decode method_3_code 5 = .ok (.iload_n 2, 1) := by decide +kernel
theorem d_L_pattern_6 : decode method_3_code 6 = .ok (.iload_n 3, 1) := by decide +kernel
theorem d_L_pattern_7 : decode method_3_code 7 = .ok (.invokevirtual 7, 3) := by decide +kernel
theorem d_L_pattern_10 : decode method_3_code 10 = .ok (.i2l, 1) := by decide +kernel
theorem d_L_pattern_11 : decode method_3_code 11 = .ok (.lastore, 1) := by decide +kernel
theorem d_L_pattern_12 : decode method_3_code 12 = .ok (.goto 11, 3) := by decide +kernel
theorem d_L_pattern_15 : decode method_3_code 15 = .ok (.astore 5, 2) := by decide +kernel
theorem d_L_pattern_17 : decode method_3_code 17 = .ok (.iconst 1, 1) := by decide +kernel
theorem d_L_pattern_18 : decode method_3_code 18 = .ok (.ireturn, 1) := by decide +kernel
theorem d_L_pattern_19 : decode method_3_code 19 = .ok (.astore 5, 2) := by decide +kernel
theorem d_L_pattern_21 : decode method_3_code 21 = .ok (.iconst 2, 1) := by decide +kernel
theorem d_L_pattern_22 : decode method_3_code 22 = .ok (.ireturn, 1) := by decide +kernel
theorem d_L_pattern_23 : decode method_3_code 23 = .ok (.iconst 0, 1) := by decide +kernel
theorem d_L_pattern_24 : decode method_3_code 24 = .ok (.ireturn, 1) := by decide +kernel
abbrev M_L_define : vg_M := (⟨37, 1, 6, 850⟩, 5, method_4_code, ⟨"PatternValidatorLaw", "define", "(LPatternValidator;II[J)I"⟩, some .int, Cond.codeWith ⟨"PatternValidatorLaw", "define", "(LPatternValidator;II[J)I"⟩ method_4_code 5 (some .int) [((0 : Nat), (10 : Nat), (13 : Nat), (13 : Nat)), ((0 : Nat), (10 : Nat), (17 : Nat), (21 : Nat)), ((0 : Nat), (10 : Nat), (21 : Nat), (23 : Nat))])
theorem d_L_define_0 : decode method_4_code 0 = .ok (.aload_n 3, 1) := by decide +kernel
theorem d_L_define_1 : decode method_4_code 1 = .ok (.iconst 0, 1) := by decide +kernel
theorem d_L_define_2 : decode method_4_code 2 = .ok (.aload_n 0, 1) := by decide +kernel
theorem d_L_define_3 : decode method_4_code 3 = .ok (.iload_n 1, 1) := by decide +kernel
theorem d_L_define_4 : decode method_4_code 4 = .ok (.iload_n 2, 1) := by decide +kernel
theorem d_L_define_5 : decode method_4_code 5 = .ok (.invokevirtual 17, 3) := by decide +kernel
theorem d_L_define_8 : decode method_4_code 8 = .ok (.i2l, 1) := by decide +kernel
theorem d_L_define_9 : decode method_4_code 9 = .ok (.lastore, 1) := by decide +kernel
theorem d_L_define_10 : decode method_4_code 10 = .ok (.goto 15, 3) := by decide +kernel
theorem d_L_define_13 : decode method_4_code 13 = .ok (.astore 4, 2) := by decide +kernel
theorem d_L_define_15 : decode method_4_code 15 = .ok (.iconst 1, 1) := by decide +kernel
theorem d_L_define_16 : decode method_4_code 16 = .ok (.ireturn, 1) := by decide +kernel
theorem d_L_define_17 : decode method_4_code 17 = .ok (.astore 4, 2) := by decide +kernel
theorem d_L_define_19 : decode method_4_code 19 = .ok (.iconst 2, 1) := by decide +kernel
theorem d_L_define_20 : decode method_4_code 20 = .ok (.ireturn, 1) := by decide +kernel
theorem d_L_define_21 : decode method_4_code 21 = .ok (.astore 4, 2) := by decide +kernel
theorem d_L_define_23 : decode method_4_code 23 = .ok (.iconst 3, 1) := by decide +kernel
theorem d_L_define_24 : decode method_4_code 24 = .ok (.ireturn, 1) := by decide +kernel
theorem d_L_define_25 : decode method_4_code 25 = .ok (.iconst 0, 1) := by decide +kernel
theorem d_L_define_26 : decode method_4_code 26 = .ok (.ireturn, 1) := by decide +kernel
abbrev M_L_open : vg_M := (⟨9, 1, 6, 141⟩, 4, method_5_code, ⟨"PatternValidatorLaw", "open", "(LPatternValidator;I[J)I"⟩, some .int, Cond.codeWith ⟨"PatternValidatorLaw", "open", "(LPatternValidator;I[J)I"⟩ method_5_code 4 (some .int) [((0 : Nat), (9 : Nat), (12 : Nat), (13 : Nat)), ((0 : Nat), (9 : Nat), (15 : Nat), (15 : Nat))])
theorem d_L_open_0 : decode method_5_code 0 = .ok (.aload_n 2, 1) := by decide +kernel
theorem d_L_open_1 : decode method_5_code 1 = .ok (.iconst 0, 1) := by decide +kernel
theorem d_L_open_2 : decode method_5_code 2 = .ok (.aload_n 0, 1) := by decide +kernel
theorem d_L_open_3 : decode method_5_code 3 = .ok (.iload_n 1, 1) := by decide +kernel
theorem d_L_open_4 : decode method_5_code 4 = .ok (.invokevirtual 25, 3) := by decide +kernel
theorem d_L_open_7 : decode method_5_code 7 = .ok (.i2l, 1) := by decide +kernel
theorem d_L_open_8 : decode method_5_code 8 = .ok (.lastore, 1) := by decide +kernel
theorem d_L_open_9 : decode method_5_code 9 = .ok (.goto 9, 3) := by decide +kernel
theorem d_L_open_12 : decode method_5_code 12 = .ok (.astore_n 3, 1) := by decide +kernel
theorem d_L_open_13 : decode method_5_code 13 = .ok (.iconst 1, 1) := by decide +kernel
theorem d_L_open_14 : decode method_5_code 14 = .ok (.ireturn, 1) := by decide +kernel
theorem d_L_open_15 : decode method_5_code 15 = .ok (.astore_n 3, 1) := by decide +kernel
theorem d_L_open_16 : decode method_5_code 16 = .ok (.iconst 2, 1) := by decide +kernel
theorem d_L_open_17 : decode method_5_code 17 = .ok (.ireturn, 1) := by decide +kernel
theorem d_L_open_18 : decode method_5_code 18 = .ok (.iconst 0, 1) := by decide +kernel
theorem d_L_open_19 : decode method_5_code 19 = .ok (.ireturn, 1) := by decide +kernel
abbrev M_L_attribute : vg_M := (⟨9, 1, 6, 142⟩, 5, method_6_code, ⟨"PatternValidatorLaw", "attribute", "(LPatternValidator;II[J)I"⟩, some .int, Cond.codeWith ⟨"PatternValidatorLaw", "attribute", "(LPatternValidator;II[J)I"⟩ method_6_code 5 (some .int) [((0 : Nat), (10 : Nat), (13 : Nat), (13 : Nat)), ((0 : Nat), (10 : Nat), (17 : Nat), (15 : Nat))])
theorem d_L_attribute_0 : decode method_6_code 0 = .ok (.aload_n 3, 1) := by decide +kernel
theorem d_L_attribute_1 : decode method_6_code 1 = .ok (.iconst 0, 1) := by decide +kernel
theorem d_L_attribute_2 : decode method_6_code 2 = .ok (.aload_n 0, 1) := by decide +kernel
theorem d_L_attribute_3 : decode method_6_code 3 = .ok (.iload_n 1, 1) := by decide +kernel
theorem d_L_attribute_4 : decode method_6_code 4 = .ok (.iload_n 2, 1) := by decide +kernel
theorem d_L_attribute_5 : decode method_6_code 5 = .ok (.invokevirtual 29, 3) := by decide +kernel
theorem d_L_attribute_8 : decode method_6_code 8 = .ok (.i2l, 1) := by decide +kernel
theorem d_L_attribute_9 : decode method_6_code 9 = .ok (.lastore, 1) := by decide +kernel
theorem d_L_attribute_10 : decode method_6_code 10 = .ok (.goto 11, 3) := by decide +kernel
theorem d_L_attribute_13 : decode method_6_code 13 = .ok (.astore 4, 2) := by decide +kernel
theorem d_L_attribute_15 : decode method_6_code 15 = .ok (.iconst 1, 1) := by decide +kernel
theorem d_L_attribute_16 : decode method_6_code 16 = .ok (.ireturn, 1) := by decide +kernel
theorem d_L_attribute_17 : decode method_6_code 17 = .ok (.astore 4, 2) := by decide +kernel
theorem d_L_attribute_19 : decode method_6_code 19 = .ok (.iconst 2, 1) := by decide +kernel
theorem d_L_attribute_20 : decode method_6_code 20 = .ok (.ireturn, 1) := by decide +kernel
theorem d_L_attribute_21 : decode method_6_code 21 = .ok (.iconst 0, 1) := by decide +kernel
theorem d_L_attribute_22 : decode method_6_code 22 = .ok (.ireturn, 1) := by decide +kernel
abbrev M_L_text : vg_M := (⟨9, 1, 6, 141⟩, 4, method_7_code, ⟨"PatternValidatorLaw", "text", "(LPatternValidator;I[J)I"⟩, some .int, Cond.codeWith ⟨"PatternValidatorLaw", "text", "(LPatternValidator;I[J)I"⟩ method_7_code 4 (some .int) [((0 : Nat), (9 : Nat), (12 : Nat), (15 : Nat))])
theorem d_L_text_0 : decode method_7_code 0 = .ok (.aload_n 2, 1) := by decide +kernel
theorem d_L_text_1 : decode method_7_code 1 = .ok (.iconst 0, 1) := by decide +kernel
theorem d_L_text_2 : decode method_7_code 2 = .ok (.aload_n 0, 1) := by decide +kernel
theorem d_L_text_3 : decode method_7_code 3 = .ok (.iload_n 1, 1) := by decide +kernel
theorem d_L_text_4 : decode method_7_code 4 = .ok (.invokevirtual 32, 3) := by decide +kernel
theorem d_L_text_7 : decode method_7_code 7 = .ok (.i2l, 1) := by decide +kernel
theorem d_L_text_8 : decode method_7_code 8 = .ok (.lastore, 1) := by decide +kernel
theorem d_L_text_9 : decode method_7_code 9 = .ok (.goto 6, 3) := by decide +kernel
theorem d_L_text_12 : decode method_7_code 12 = .ok (.astore_n 3, 1) := by decide +kernel
theorem d_L_text_13 : decode method_7_code 13 = .ok (.iconst 1, 1) := by decide +kernel
theorem d_L_text_14 : decode method_7_code 14 = .ok (.ireturn, 1) := by decide +kernel
theorem d_L_text_15 : decode method_7_code 15 = .ok (.iconst 0, 1) := by decide +kernel
theorem d_L_text_16 : decode method_7_code 16 = .ok (.ireturn, 1) := by decide +kernel
abbrev M_L_close : vg_M := (⟨9, 1, 6, 140⟩, 3, method_8_code, ⟨"PatternValidatorLaw", "close", "(LPatternValidator;[J)I"⟩, some .int, Cond.codeWith ⟨"PatternValidatorLaw", "close", "(LPatternValidator;[J)I"⟩ method_8_code 3 (some .int) [((0 : Nat), (8 : Nat), (11 : Nat), (15 : Nat))])
theorem d_L_close_0 : decode method_8_code 0 = .ok (.aload_n 1, 1) := by decide +kernel
theorem d_L_close_1 : decode method_8_code 1 = .ok (.iconst 0, 1) := by decide +kernel
theorem d_L_close_2 : decode method_8_code 2 = .ok (.aload_n 0, 1) := by decide +kernel
theorem d_L_close_3 : decode method_8_code 3 = .ok (.invokevirtual 35, 3) := by decide +kernel
theorem d_L_close_6 : decode method_8_code 6 = .ok (.i2l, 1) := by decide +kernel
theorem d_L_close_7 : decode method_8_code 7 = .ok (.lastore, 1) := by decide +kernel
theorem d_L_close_8 : decode method_8_code 8 = .ok (.goto 6, 3) := by decide +kernel
theorem d_L_close_11 : decode method_8_code 11 = .ok (.astore_n 2, 1) := by decide +kernel
theorem d_L_close_12 : decode method_8_code 12 = .ok (.iconst 1, 1) := by decide +kernel
theorem d_L_close_13 : decode method_8_code 13 = .ok (.ireturn, 1) := by decide +kernel
theorem d_L_close_14 : decode method_8_code 14 = .ok (.iconst 0, 1) := by decide +kernel
theorem d_L_close_15 : decode method_8_code 15 = .ok (.ireturn, 1) := by decide +kernel
abbrev M_L_matches : vg_M := (⟨38, 1, 6, 873⟩, 5, method_9_code, ⟨"PatternValidatorLaw", "matches", "(LPatternValidator;II[J)I"⟩, some .int, Cond.codeWith ⟨"PatternValidatorLaw", "matches", "(LPatternValidator;II[J)I"⟩ method_9_code 5 (some .int) [((0 : Nat), (10 : Nat), (13 : Nat), (21 : Nat))])
theorem d_L_matches_0 : decode method_9_code 0 = .ok (.aload_n 3, 1) := by decide +kernel
theorem d_L_matches_1 : decode method_9_code 1 = .ok (.iconst 0, 1) := by decide +kernel
theorem d_L_matches_2 : decode method_9_code 2 = .ok (.aload_n 0, 1) := by decide +kernel
theorem d_L_matches_3 : decode method_9_code 3 = .ok (.iload_n 1, 1) := by decide +kernel
theorem d_L_matches_4 : decode method_9_code 4 = .ok (.iload_n 2, 1) := by decide +kernel
theorem d_L_matches_5 : decode method_9_code 5 = .ok (.invokevirtual 39, 3) := by decide +kernel
theorem d_L_matches_8 : decode method_9_code 8 = .ok (.i2l, 1) := by decide +kernel
theorem d_L_matches_9 : decode method_9_code 9 = .ok (.lastore, 1) := by decide +kernel
theorem d_L_matches_10 : decode method_9_code 10 = .ok (.goto 7, 3) := by decide +kernel
theorem d_L_matches_13 : decode method_9_code 13 = .ok (.astore 4, 2) := by decide +kernel
theorem d_L_matches_15 : decode method_9_code 15 = .ok (.iconst 1, 1) := by decide +kernel
theorem d_L_matches_16 : decode method_9_code 16 = .ok (.ireturn, 1) := by decide +kernel
theorem d_L_matches_17 : decode method_9_code 17 = .ok (.iconst 0, 1) := by decide +kernel
theorem d_L_matches_18 : decode method_9_code 18 = .ok (.ireturn, 1) := by decide +kernel
abbrev M_L_content : vg_M := (⟨38, 1, 6, 873⟩, 5, method_10_code, ⟨"PatternValidatorLaw", "content", "(LPatternValidator;II[J)I"⟩, some .int, Cond.codeWith ⟨"PatternValidatorLaw", "content", "(LPatternValidator;II[J)I"⟩ method_10_code 5 (some .int) [((0 : Nat), (10 : Nat), (13 : Nat), (21 : Nat))])
theorem d_L_content_0 : decode method_10_code 0 = .ok (.aload_n 3, 1) := by decide +kernel
theorem d_L_content_1 : decode method_10_code 1 = .ok (.iconst 0, 1) := by decide +kernel
theorem d_L_content_2 : decode method_10_code 2 = .ok (.aload_n 0, 1) := by decide +kernel
theorem d_L_content_3 : decode method_10_code 3 = .ok (.iload_n 1, 1) := by decide +kernel
theorem d_L_content_4 : decode method_10_code 4 = .ok (.iload_n 2, 1) := by decide +kernel
theorem d_L_content_5 : decode method_10_code 5 = .ok (.invokevirtual 42, 3) := by decide +kernel
theorem d_L_content_8 : decode method_10_code 8 = .ok (.i2l, 1) := by decide +kernel
theorem d_L_content_9 : decode method_10_code 9 = .ok (.lastore, 1) := by decide +kernel
theorem d_L_content_10 : decode method_10_code 10 = .ok (.goto 7, 3) := by decide +kernel
theorem d_L_content_13 : decode method_10_code 13 = .ok (.astore 4, 2) := by decide +kernel
theorem d_L_content_15 : decode method_10_code 15 = .ok (.iconst 1, 1) := by decide +kernel
theorem d_L_content_16 : decode method_10_code 16 = .ok (.ireturn, 1) := by decide +kernel
theorem d_L_content_17 : decode method_10_code 17 = .ok (.iconst 0, 1) := by decide +kernel
theorem d_L_content_18 : decode method_10_code 18 = .ok (.ireturn, 1) := by decide +kernel
abbrev M_L_longest : vg_M := (⟨38, 1, 6, 874⟩, 5, method_11_code, ⟨"PatternValidatorLaw", "longest", "(LPatternValidator;II[J)I"⟩, some .int, Cond.codeWith ⟨"PatternValidatorLaw", "longest", "(LPatternValidator;II[J)I"⟩ method_11_code 5 (some .int) [((0 : Nat), (10 : Nat), (13 : Nat), (21 : Nat)), ((0 : Nat), (10 : Nat), (17 : Nat), (23 : Nat))])
theorem d_L_longest_0 : decode method_11_code 0 = .ok (.aload_n 3, 1) := by decide +kernel
theorem d_L_longest_1 : decode method_11_code 1 = .ok (.iconst 0, 1) := by decide +kernel
theorem d_L_longest_2 : decode method_11_code 2 = .ok (.aload_n 0, 1) := by decide +kernel
theorem d_L_longest_3 : decode method_11_code 3 = .ok (.iload_n 1, 1) := by decide +kernel
theorem d_L_longest_4 : decode method_11_code 4 = .ok (.iload_n 2, 1) := by decide +kernel
theorem d_L_longest_5 : decode method_11_code 5 = .ok (.invokevirtual 45, 3) := by decide +kernel
theorem d_L_longest_8 : decode method_11_code 8 = .ok (.i2l, 1) := by decide +kernel
theorem d_L_longest_9 : decode method_11_code 9 = .ok (.lastore, 1) := by decide +kernel
theorem d_L_longest_10 : decode method_11_code 10 = .ok (.goto 11, 3) := by decide +kernel
theorem d_L_longest_13 : decode method_11_code 13 = .ok (.astore 4, 2) := by decide +kernel
theorem d_L_longest_15 : decode method_11_code 15 = .ok (.iconst 1, 1) := by decide +kernel
theorem d_L_longest_16 : decode method_11_code 16 = .ok (.ireturn, 1) := by decide +kernel
theorem d_L_longest_17 : decode method_11_code 17 = .ok (.astore 4, 2) := by decide +kernel
theorem d_L_longest_19 : decode method_11_code 19 = .ok (.iconst 2, 1) := by decide +kernel
theorem d_L_longest_20 : decode method_11_code 20 = .ok (.ireturn, 1) := by decide +kernel
theorem d_L_longest_21 : decode method_11_code 21 = .ok (.iconst 0, 1) := by decide +kernel
theorem d_L_longest_22 : decode method_11_code 22 = .ok (.ireturn, 1) := by decide +kernel
abbrev M_L_find : vg_M := (⟨38, 1, 6, 873⟩, 4, method_12_code, ⟨"PatternValidatorLaw", "find", "(LPatternValidator;I[J)I"⟩, some .int, Cond.codeWith ⟨"PatternValidatorLaw", "find", "(LPatternValidator;I[J)I"⟩ method_12_code 4 (some .int) [((0 : Nat), (9 : Nat), (12 : Nat), (21 : Nat)), ((0 : Nat), (9 : Nat), (15 : Nat), (23 : Nat))])
theorem d_L_find_0 : decode method_12_code 0 = .ok (.aload_n 2, 1) := by decide +kernel
theorem d_L_find_1 : decode method_12_code 1 = .ok (.iconst 0, 1) := by decide +kernel
theorem d_L_find_2 : decode method_12_code 2 = .ok (.aload_n 0, 1) := by decide +kernel
theorem d_L_find_3 : decode method_12_code 3 = .ok (.iload_n 1, 1) := by decide +kernel
theorem d_L_find_4 : decode method_12_code 4 = .ok (.invokevirtual 48, 3) := by decide +kernel
theorem d_L_find_7 : decode method_12_code 7 = .ok (.i2l, 1) := by decide +kernel
theorem d_L_find_8 : decode method_12_code 8 = .ok (.lastore, 1) := by decide +kernel
theorem d_L_find_9 : decode method_12_code 9 = .ok (.goto 9, 3) := by decide +kernel
theorem d_L_find_12 : decode method_12_code 12 = .ok (.astore_n 3, 1) := by decide +kernel
theorem d_L_find_13 : decode method_12_code 13 = .ok (.iconst 1, 1) := by decide +kernel
theorem d_L_find_14 : decode method_12_code 14 = .ok (.ireturn, 1) := by decide +kernel
theorem d_L_find_15 : decode method_12_code 15 = .ok (.astore_n 3, 1) := by decide +kernel
theorem d_L_find_16 : decode method_12_code 16 = .ok (.iconst 2, 1) := by decide +kernel
theorem d_L_find_17 : decode method_12_code 17 = .ok (.ireturn, 1) := by decide +kernel
theorem d_L_find_18 : decode method_12_code 18 = .ok (.iconst 0, 1) := by decide +kernel
theorem d_L_find_19 : decode method_12_code 19 = .ok (.ireturn, 1) := by decide +kernel
abbrev M_L_nullable : vg_M := (⟨38, 1, 6, 869⟩, 4, method_13_code, ⟨"PatternValidatorLaw", "nullable", "(LPatternValidator;I[J)I"⟩, some .int, Cond.codeWith ⟨"PatternValidatorLaw", "nullable", "(LPatternValidator;I[J)I"⟩ method_13_code 4 (some .int) [((0 : Nat), (9 : Nat), (12 : Nat), (21 : Nat))])
theorem d_L_nullable_0 : decode method_13_code 0 = .ok (.aload_n 2, 1) := by decide +kernel
theorem d_L_nullable_1 : decode method_13_code 1 = .ok (.iconst 0, 1) := by decide +kernel
theorem d_L_nullable_2 : decode method_13_code 2 = .ok (.aload_n 0, 1) := by decide +kernel
theorem d_L_nullable_3 : decode method_13_code 3 = .ok (.iload_n 1, 1) := by decide +kernel
theorem d_L_nullable_4 : decode method_13_code 4 = .ok (.invokevirtual 51, 3) := by decide +kernel
theorem d_L_nullable_7 : decode method_13_code 7 = .ok (.i2l, 1) := by decide +kernel
theorem d_L_nullable_8 : decode method_13_code 8 = .ok (.lastore, 1) := by decide +kernel
theorem d_L_nullable_9 : decode method_13_code 9 = .ok (.goto 6, 3) := by decide +kernel
theorem d_L_nullable_12 : decode method_13_code 12 = .ok (.astore_n 3, 1) := by decide +kernel
theorem d_L_nullable_13 : decode method_13_code 13 = .ok (.iconst 1, 1) := by decide +kernel
theorem d_L_nullable_14 : decode method_13_code 14 = .ok (.ireturn, 1) := by decide +kernel
theorem d_L_nullable_15 : decode method_13_code 15 = .ok (.iconst 0, 1) := by decide +kernel
theorem d_L_nullable_16 : decode method_13_code 16 = .ok (.ireturn, 1) := by decide +kernel
abbrev M_L_count : vg_M := (⟨9, 1, 6, 141⟩, 4, method_14_code, ⟨"PatternValidatorLaw", "count", "(LPatternValidator;I[J)I"⟩, some .int, Cond.codeWith ⟨"PatternValidatorLaw", "count", "(LPatternValidator;I[J)I"⟩ method_14_code 4 (some .int) [((0 : Nat), (9 : Nat), (12 : Nat), (13 : Nat))])
theorem d_L_count_0 : decode method_14_code 0 = .ok (.aload_n 2, 1) := by decide +kernel
theorem d_L_count_1 : decode method_14_code 1 = .ok (.iconst 0, 1) := by decide +kernel
theorem d_L_count_2 : decode method_14_code 2 = .ok (.aload_n 0, 1) := by decide +kernel
theorem d_L_count_3 : decode method_14_code 3 = .ok (.iload_n 1, 1) := by decide +kernel
theorem d_L_count_4 : decode method_14_code 4 = .ok (.invokevirtual 54, 3) := by decide +kernel
theorem d_L_count_7 : decode method_14_code 7 = .ok (.i2l, 1) := by decide +kernel
theorem d_L_count_8 : decode method_14_code 8 = .ok (.lastore, 1) := by decide +kernel
theorem d_L_count_9 : decode method_14_code 9 = .ok (.goto 6, 3) := by decide +kernel
theorem d_L_count_12 : decode method_14_code 12 = .ok (.astore_n 3, 1) := by decide +kernel
theorem d_L_count_13 : decode method_14_code 13 = .ok (.iconst 1, 1) := by decide +kernel
theorem d_L_count_14 : decode method_14_code 14 = .ok (.ireturn, 1) := by decide +kernel
theorem d_L_count_15 : decode method_14_code 15 = .ok (.iconst 0, 1) := by decide +kernel
theorem d_L_count_16 : decode method_14_code 16 = .ok (.ireturn, 1) := by decide +kernel
theorem d_L_law_0 : decode code 0 = .ok (.new 8, 3) := by decide +kernel
theorem d_L_law_3 : decode code 3 = .ok (.dup, 1) := by decide +kernel
theorem d_L_law_4 : decode code 4 = .ok (.invokespecial 57, 3) := by decide +kernel
theorem d_L_law_7 : decode code 7 = .ok (.astore_n 1, 1) := by decide +kernel
theorem d_L_law_8 : decode code 8 = .ok (.new 58, 3) := by decide +kernel
theorem d_L_law_11 : decode code 11 = .ok (.dup, 1) := by decide +kernel
theorem d_L_law_12 : decode code 12 = .ok (.invokespecial 60, 3) := by decide +kernel
theorem d_L_law_15 : decode code 15 = .ok (.astore_n 2, 1) := by decide +kernel
theorem d_L_law_16 : decode code 16 = .ok (.iconst 1, 1) := by decide +kernel
theorem d_L_law_17 : decode code 17 = .ok (.newarray .long, 2) := by decide +kernel
theorem d_L_law_19 : decode code 19 = .ok (.astore_n 3, 1) := by decide +kernel
theorem d_L_law_20 : decode code 20 = .ok (.iconst 0, 1) := by decide +kernel
theorem d_L_law_21 : decode code 21 = .ok (.istore 4, 2) := by decide +kernel
theorem d_L_law_23 : decode code 23 = .ok (.iload 4, 2) := by decide +kernel
theorem d_L_law_25 : decode code 25 = .ok (.aload_n 0, 1) := by decide +kernel
theorem d_L_law_26 : decode code 26 = .ok (.arraylength, 1) := by decide +kernel
theorem d_L_law_27 : decode code 27 = .ok (.iconst 4, 1) := by decide +kernel
theorem d_L_law_28 : decode code 28 = .ok (.isub, 1) := by decide +kernel
theorem d_L_law_29 : decode code 29 = .ok (.if_icmp .gt 838, 3) := by decide +kernel
theorem d_L_law_32 : decode code 32 = .ok (.aload_n 0, 1) := by decide +kernel
theorem d_L_law_33 : decode code 33 = .ok (.iload 4, 2) := by decide +kernel
theorem d_L_law_35 : decode code 35 = .ok (.iaload, 1) := by decide +kernel
theorem d_L_law_36 : decode code 36 = .ok (.bipush 15, 2) := by decide +kernel
theorem d_L_law_38 : decode code 38 = .ok (.iand, 1) := by decide +kernel
theorem d_L_law_39 : decode code 39 = .ok (.tableswitch 822 0 12 #[65, 145, 213, 269, 337, 393, 437, 450, 518, 586, 654, 710, 766], 65) := by decide +kernel
theorem d_L_law_104 : decode code 104 = .ok (.aload_n 1, 1) := by decide +kernel
theorem d_L_law_105 : decode code 105 = .ok (.aload_n 0, 1) := by decide +kernel
theorem d_L_law_106 : decode code 106 = .ok (.iload 4, 2) := by decide +kernel
theorem d_L_law_108 : decode code 108 = .ok (.iconst 1, 1) := by decide +kernel
theorem d_L_law_109 : decode code 109 = .ok (.iadd, 1) := by decide +kernel
theorem d_L_law_110 : decode code 110 = .ok (.iaload, 1) := by decide +kernel
theorem d_L_law_111 : decode code 111 = .ok (.aload_n 0, 1) := by decide +kernel
theorem d_L_law_112 : decode code 112 = .ok (.iload 4, 2) := by decide +kernel
theorem d_L_law_114 : decode code 114 = .ok (.iconst 2, 1) := by decide +kernel
theorem d_L_law_115 : decode code 115 = .ok (.iadd, 1) := by decide +kernel
theorem d_L_law_116 : decode code 116 = .ok (.iaload, 1) := by decide +kernel
theorem d_L_law_117 : decode code 117 = .ok (.aload_n 0, 1) := by decide +kernel
theorem d_L_law_118 : decode code 118 = .ok (.iload 4, 2) := by decide +kernel
theorem d_L_law_120 : decode code 120 = .ok (.iconst 3, 1) := by decide +kernel
theorem d_L_law_121 : decode code 121 = .ok (.iadd, 1) := by decide +kernel
theorem d_L_law_122 : decode code 122 = .ok (.iaload, 1) := by decide +kernel
theorem d_L_law_123 : decode code 123 = .ok (.aload_n 3, 1) := by decide +kernel
theorem d_L_law_124 : decode code 124 = .ok (.invokestatic 61, 3) := by decide +kernel
theorem d_L_law_127 : decode code 127 = .ok (.istore 5, 2) := by decide +kernel
theorem d_L_law_129 : decode code 129 = .ok (.aload_n 2, 1) := by decide +kernel
theorem d_L_law_130 : decode code 130 = .ok (.aload_n 0, 1) := by decide +kernel
theorem d_L_law_131 : decode code 131 = .ok (.iload 4, 2) := by decide +kernel
theorem d_L_law_133 : decode code 133 = .ok (.iconst 1, 1) := by decide +kernel
theorem d_L_law_134 : decode code 134 = .ok (.iadd, 1) := by decide +kernel
theorem d_L_law_135 : decode code 135 = .ok (.iaload, 1) := by decide +kernel
theorem d_L_law_136 : decode code 136 = .ok (.aload_n 0, 1) := by decide +kernel
theorem d_L_law_137 : decode code 137 = .ok (.iload 4, 2) := by decide +kernel
theorem d_L_law_139 : decode code 139 = .ok (.iconst 2, 1) := by decide +kernel
theorem d_L_law_140 : decode code 140 = .ok (.iadd, 1) := by decide +kernel
theorem d_L_law_141 : decode code 141 = .ok (.iaload, 1) := by decide +kernel
theorem d_L_law_142 : decode code 142 = .ok (.aload_n 0, 1) := by decide +kernel
theorem d_L_law_143 : decode code 143 = .ok (.iload 4, 2) := by decide +kernel
theorem d_L_law_145 : decode code 145 = .ok (.iconst 3, 1) := by decide +kernel
theorem d_L_law_146 : decode code 146 = .ok (.iadd, 1) := by decide +kernel
theorem d_L_law_147 : decode code 147 = .ok (.iaload, 1) := by decide +kernel
theorem d_L_law_148 : decode code 148 = .ok (.invokevirtual 66, 3) := by decide +kernel
theorem d_L_law_151 : decode code 151 = .ok (.istore 6, 2) := by decide +kernel
theorem d_L_law_153 : decode code 153 = .ok (.aload_n 2, 1) := by decide +kernel
theorem d_L_law_154 : decode code 154 = .ok (.invokevirtual 67, 3) := by decide +kernel
theorem d_L_law_157 : decode code 157 = .ok (.iload 5, 2) := by decide +kernel
theorem d_L_law_159 : decode code 159 = .ok (.if_icmp .eq 5, 3) := by decide +kernel
theorem d_L_law_162 : decode code 162 = .ok (.iconst 0, 1) := by decide +kernel
theorem d_L_law_163 : decode code 163 = .ok (.ireturn, 1) := by decide +kernel
theorem d_L_law_164 : decode code 164 = .ok (.iload 5, 2) := by decide +kernel
theorem d_L_law_166 : decode code 166 = .ok (.ifCond .ne 15, 3) := by decide +kernel
theorem d_L_law_169 : decode code 169 = .ok (.aload_n 3, 1) := by decide +kernel
theorem d_L_law_170 : decode code 170 = .ok (.iconst 0, 1) := by decide +kernel
theorem d_L_law_171 : decode code 171 = .ok (.laload, 1) := by decide +kernel
theorem d_L_law_172 : decode code 172 = .ok (.iload 6, 2) := by decide +kernel
theorem d_L_law_174 : decode code 174 = .ok (.i2l, 1) := by decide +kernel
theorem d_L_law_175 : decode code 175 = .ok (.lcmp, 1) := by decide +kernel
theorem d_L_law_176 : decode code 176 = .ok (.ifCond .eq 5, 3) := by decide +kernel
theorem d_L_law_179 : decode code 179 = .ok (.iconst 0, 1) := by decide +kernel
theorem d_L_law_180 : decode code 180 = .ok (.ireturn, 1) := by decide +kernel
theorem d_L_law_181 : decode code 181 = .ok (.goto 680, 3) := by decide +kernel
theorem d_L_law_184 : decode code 184 = .ok (.aload_n 1, 1) := by decide +kernel
theorem d_L_law_185 : decode code 185 = .ok (.aload_n 0, 1) := by decide +kernel
theorem d_L_law_186 : decode code 186 = .ok (.iload 4, 2) := by decide +kernel
theorem d_L_law_188 : decode code 188 = .ok (.iconst 1, 1) := by decide +kernel
theorem d_L_law_189 : decode code 189 = .ok (.iadd, 1) := by decide +kernel
theorem d_L_law_190 : decode code 190 = .ok (.iaload, 1) := by decide +kernel
theorem d_L_law_191 : decode code 191 = .ok (.aload_n 0, 1) := by decide +kernel
theorem d_L_law_192 : decode code 192 = .ok (.iload 4, 2) := by decide +kernel
theorem d_L_law_194 : decode code 194 = .ok (.iconst 2, 1) := by decide +kernel
theorem d_L_law_195 : decode code 195 = .ok (.iadd, 1) := by decide +kernel
theorem d_L_law_196 : decode code 196 = .ok (.iaload, 1) := by decide +kernel
theorem d_L_law_197 : decode code 197 = .ok (.aload_n 3, 1) := by decide +kernel
theorem d_L_law_198 : decode code 198 = .ok (.invokestatic 70, 3) := by decide +kernel
theorem d_L_law_201 : decode code 201 = .ok (.istore 5, 2) := by decide +kernel
theorem d_L_law_203 : decode code 203 = .ok (.aload_n 2, 1) := by decide +kernel
theorem d_L_law_204 : decode code 204 = .ok (.aload_n 0, 1) := by decide +kernel
theorem d_L_law_205 : decode code 205 = .ok (.iload 4, 2) := by decide +kernel
theorem d_L_law_207 : decode code 207 = .ok (.iconst 1, 1) := by decide +kernel
theorem d_L_law_208 : decode code 208 = .ok (.iadd, 1) := by decide +kernel
theorem d_L_law_209 : decode code 209 = .ok (.iaload, 1) := by decide +kernel
theorem d_L_law_210 : decode code 210 = .ok (.aload_n 0, 1) := by decide +kernel
theorem d_L_law_211 : decode code 211 = .ok (.iload 4, 2) := by decide +kernel
theorem d_L_law_213 : decode code 213 = .ok (.iconst 2, 1) := by decide +kernel
theorem d_L_law_214 : decode code 214 = .ok (.iadd, 1) := by decide +kernel
theorem d_L_law_215 : decode code 215 = .ok (.iaload, 1) := by decide +kernel
theorem d_L_law_216 : decode code 216 = .ok (.invokevirtual 73, 3) := by decide +kernel
theorem d_L_law_219 : decode code 219 = .ok (.istore 6, 2) := by decide +kernel
theorem d_L_law_221 : decode code 221 = .ok (.aload_n 2, 1) := by decide +kernel
theorem d_L_law_222 : decode code 222 = .ok (.invokevirtual 67, 3) := by decide +kernel
theorem d_L_law_225 : decode code 225 = .ok (.iload 5, 2) := by decide +kernel
theorem d_L_law_227 : decode code 227 = .ok (.if_icmp .eq 5, 3) := by decide +kernel
theorem d_L_law_230 : decode code 230 = .ok (.iconst 0, 1) := by decide +kernel
theorem d_L_law_231 : decode code 231 = .ok (.ireturn, 1) := by decide +kernel
theorem d_L_law_232 : decode code 232 = .ok (.iload 5, 2) := by decide +kernel
theorem d_L_law_234 : decode code 234 = .ok (.ifCond .ne 15, 3) := by decide +kernel
theorem d_L_law_237 : decode code 237 = .ok (.aload_n 3, 1) := by decide +kernel
theorem d_L_law_238 : decode code 238 = .ok (.iconst 0, 1) := by decide +kernel
theorem d_L_law_239 : decode code 239 = .ok (.laload, 1) := by decide +kernel
theorem d_L_law_240 : decode code 240 = .ok (.iload 6, 2) := by decide +kernel
theorem d_L_law_242 : decode code 242 = .ok (.i2l, 1) := by decide +kernel
theorem d_L_law_243 : decode code 243 = .ok (.lcmp, 1) := by decide +kernel
theorem d_L_law_244 : decode code 244 = .ok (.ifCond .eq 5, 3) := by decide +kernel
theorem d_L_law_247 : decode code 247 = .ok (.iconst 0, 1) := by decide +kernel
theorem d_L_law_248 : decode code 248 = .ok (.ireturn, 1) := by decide +kernel
theorem d_L_law_249 : decode code 249 = .ok (.goto 612, 3) := by decide +kernel
theorem d_L_law_252 : decode code 252 = .ok (.aload_n 1, 1) := by decide +kernel
theorem d_L_law_253 : decode code 253 = .ok (.aload_n 0, 1) := by decide +kernel
theorem d_L_law_254 : decode code 254 = .ok (.iload 4, 2) := by decide +kernel
theorem d_L_law_256 : decode code 256 = .ok (.iconst 1, 1) := by decide +kernel
theorem d_L_law_257 : decode code 257 = .ok (.iadd, 1) := by decide +kernel
theorem d_L_law_258 : decode code 258 = .ok (.iaload, 1) := by decide +kernel
theorem d_L_law_259 : decode code 259 = .ok (.aload_n 3, 1) := by decide +kernel
theorem d_L_law_260 : decode code 260 = .ok (.invokestatic 74, 3) := by decide +kernel
theorem d_L_law_263 : decode code 263 = .ok (.istore 5, 2) := by decide +kernel
theorem d_L_law_265 : decode code 265 = .ok (.aload_n 2, 1) := by decide +kernel
theorem d_L_law_266 : decode code 266 = .ok (.aload_n 0, 1) := by decide +kernel
theorem d_L_law_267 : decode code 267 = .ok (.iload 4, 2) := by decide +kernel
theorem d_L_law_269 : decode code 269 = .ok (.iconst 1, 1) := by decide +kernel
theorem d_L_law_270 : decode code 270 = .ok (.iadd, 1) := by decide +kernel
theorem d_L_law_271 : decode code 271 = .ok (.iaload, 1) := by decide +kernel
theorem d_L_law_272 : decode code 272 = .ok (.invokevirtual 77, 3) := by decide +kernel
theorem d_L_law_275 : decode code 275 = .ok (.istore 6, 2) := by decide +kernel
theorem d_L_law_277 : decode code 277 = .ok (.aload_n 2, 1) := by decide +kernel
theorem d_L_law_278 : decode code 278 = .ok (.invokevirtual 67, 3) := by decide +kernel
theorem d_L_law_281 : decode code 281 = .ok (.iload 5, 2) := by decide +kernel
theorem d_L_law_283 : decode code 283 = .ok (.if_icmp .eq 5, 3) := by decide +kernel
theorem d_L_law_286 : decode code 286 = .ok (.iconst 0, 1) := by decide +kernel
theorem d_L_law_287 : decode code 287 = .ok (.ireturn, 1) := by decide +kernel
theorem d_L_law_288 : decode code 288 = .ok (.iload 5, 2) := by decide +kernel
theorem d_L_law_290 : decode code 290 = .ok (.ifCond .ne 15, 3) := by decide +kernel
theorem d_L_law_293 : decode code 293 = .ok (.aload_n 3, 1) := by decide +kernel
theorem d_L_law_294 : decode code 294 = .ok (.iconst 0, 1) := by decide +kernel
theorem d_L_law_295 : decode code 295 = .ok (.laload, 1) := by decide +kernel
theorem d_L_law_296 : decode code 296 = .ok (.iload 6, 2) := by decide +kernel
theorem d_L_law_298 : decode code 298 = .ok (.i2l, 1) := by decide +kernel
theorem d_L_law_299 : decode code 299 = .ok (.lcmp, 1) := by decide +kernel
theorem d_L_law_300 : decode code 300 = .ok (.ifCond .eq 5, 3) := by decide +kernel
theorem d_L_law_303 : decode code 303 = .ok (.iconst 0, 1) := by decide +kernel
theorem d_L_law_304 : decode code 304 = .ok (.ireturn, 1) := by decide +kernel
theorem d_L_law_305 : decode code 305 = .ok (.goto 556, 3) := by decide +kernel
theorem d_L_law_308 : decode code 308 = .ok (.aload_n 1, 1) := by decide +kernel
theorem d_L_law_309 : decode code 309 = .ok (.aload_n 0, 1) := by decide +kernel
theorem d_L_law_310 : decode code 310 = .ok (.iload 4, 2) := by decide +kernel
theorem d_L_law_312 : decode code 312 = .ok (.iconst 1, 1) := by decide +kernel
theorem d_L_law_313 : decode code 313 = .ok (.iadd, 1) := by decide +kernel
theorem d_L_law_314 : decode code 314 = .ok (.iaload, 1) := by decide +kernel
theorem d_L_law_315 : decode code 315 = .ok (.aload_n 0, 1) := by decide +kernel
theorem d_L_law_316 : decode code 316 = .ok (.iload 4, 2) := by decide +kernel
theorem d_L_law_318 : decode code 318 = .ok (.iconst 2, 1) := by decide +kernel
theorem d_L_law_319 : decode code 319 = .ok (.iadd, 1) := by decide +kernel
theorem d_L_law_320 : decode code 320 = .ok (.iaload, 1) := by decide +kernel
theorem d_L_law_321 : decode code 321 = .ok (.aload_n 3, 1) := by decide +kernel
theorem d_L_law_322 : decode code 322 = .ok (.invokestatic 78, 3) := by decide +kernel
theorem d_L_law_325 : decode code 325 = .ok (.istore 5, 2) := by decide +kernel
theorem d_L_law_327 : decode code 327 = .ok (.aload_n 2, 1) := by decide +kernel
theorem d_L_law_328 : decode code 328 = .ok (.aload_n 0, 1) := by decide +kernel
theorem d_L_law_329 : decode code 329 = .ok (.iload 4, 2) := by decide +kernel
theorem d_L_law_331 : decode code 331 = .ok (.iconst 1, 1) := by decide +kernel
theorem d_L_law_332 : decode code 332 = .ok (.iadd, 1) := by decide +kernel
theorem d_L_law_333 : decode code 333 = .ok (.iaload, 1) := by decide +kernel
theorem d_L_law_334 : decode code 334 = .ok (.aload_n 0, 1) := by decide +kernel
theorem d_L_law_335 : decode code 335 = .ok (.iload 4, 2) := by decide +kernel
theorem d_L_law_337 : decode code 337 = .ok (.iconst 2, 1) := by decide +kernel
theorem d_L_law_338 : decode code 338 = .ok (.iadd, 1) := by decide +kernel
theorem d_L_law_339 : decode code 339 = .ok (.iaload, 1) := by decide +kernel
theorem d_L_law_340 : decode code 340 = .ok (.invokevirtual 80, 3) := by decide +kernel
theorem d_L_law_343 : decode code 343 = .ok (.istore 6, 2) := by decide +kernel
theorem d_L_law_345 : decode code 345 = .ok (.aload_n 2, 1) := by decide +kernel
theorem d_L_law_346 : decode code 346 = .ok (.invokevirtual 67, 3) := by decide +kernel
theorem d_L_law_349 : decode code 349 = .ok (.iload 5, 2) := by decide +kernel
theorem d_L_law_351 : decode code 351 = .ok (.if_icmp .eq 5, 3) := by decide +kernel
theorem d_L_law_354 : decode code 354 = .ok (.iconst 0, 1) := by decide +kernel
theorem d_L_law_355 : decode code 355 = .ok (.ireturn, 1) := by decide +kernel
theorem d_L_law_356 : decode code 356 = .ok (.iload 5, 2) := by decide +kernel
theorem d_L_law_358 : decode code 358 = .ok (.ifCond .ne 15, 3) := by decide +kernel
theorem d_L_law_361 : decode code 361 = .ok (.aload_n 3, 1) := by decide +kernel
theorem d_L_law_362 : decode code 362 = .ok (.iconst 0, 1) := by decide +kernel
theorem d_L_law_363 : decode code 363 = .ok (.laload, 1) := by decide +kernel
theorem d_L_law_364 : decode code 364 = .ok (.iload 6, 2) := by decide +kernel
theorem d_L_law_366 : decode code 366 = .ok (.i2l, 1) := by decide +kernel
theorem d_L_law_367 : decode code 367 = .ok (.lcmp, 1) := by decide +kernel
theorem d_L_law_368 : decode code 368 = .ok (.ifCond .eq 5, 3) := by decide +kernel
theorem d_L_law_371 : decode code 371 = .ok (.iconst 0, 1) := by decide +kernel
theorem d_L_law_372 : decode code 372 = .ok (.ireturn, 1) := by decide +kernel
theorem d_L_law_373 : decode code 373 = .ok (.goto 488, 3) := by decide +kernel
theorem d_L_law_376 : decode code 376 = .ok (.aload_n 1, 1) := by decide +kernel
theorem d_L_law_377 : decode code 377 = .ok (.aload_n 0, 1) := by decide +kernel
theorem d_L_law_378 : decode code 378 = .ok (.iload 4, 2) := by decide +kernel
theorem d_L_law_380 : decode code 380 = .ok (.iconst 1, 1) := by decide +kernel
theorem d_L_law_381 : decode code 381 = .ok (.iadd, 1) := by decide +kernel
theorem d_L_law_382 : decode code 382 = .ok (.iaload, 1) := by decide +kernel
theorem d_L_law_383 : decode code 383 = .ok (.aload_n 3, 1) := by decide +kernel
theorem d_L_law_384 : decode code 384 = .ok (.invokestatic 81, 3) := by decide +kernel
theorem d_L_law_387 : decode code 387 = .ok (.istore 5, 2) := by decide +kernel
theorem d_L_law_389 : decode code 389 = .ok (.aload_n 2, 1) := by decide +kernel
theorem d_L_law_390 : decode code 390 = .ok (.aload_n 0, 1) := by decide +kernel
theorem d_L_law_391 : decode code 391 = .ok (.iload 4, 2) := by decide +kernel
theorem d_L_law_393 : decode code 393 = .ok (.iconst 1, 1) := by decide +kernel
theorem d_L_law_394 : decode code 394 = .ok (.iadd, 1) := by decide +kernel
theorem d_L_law_395 : decode code 395 = .ok (.iaload, 1) := by decide +kernel
theorem d_L_law_396 : decode code 396 = .ok (.invokevirtual 83, 3) := by decide +kernel
theorem d_L_law_399 : decode code 399 = .ok (.istore 6, 2) := by decide +kernel
theorem d_L_law_401 : decode code 401 = .ok (.aload_n 2, 1) := by decide +kernel
theorem d_L_law_402 : decode code 402 = .ok (.invokevirtual 67, 3) := by decide +kernel
theorem d_L_law_405 : decode code 405 = .ok (.iload 5, 2) := by decide +kernel
theorem d_L_law_407 : decode code 407 = .ok (.if_icmp .eq 5, 3) := by decide +kernel
theorem d_L_law_410 : decode code 410 = .ok (.iconst 0, 1) := by decide +kernel
theorem d_L_law_411 : decode code 411 = .ok (.ireturn, 1) := by decide +kernel
theorem d_L_law_412 : decode code 412 = .ok (.iload 5, 2) := by decide +kernel
theorem d_L_law_414 : decode code 414 = .ok (.ifCond .ne 15, 3) := by decide +kernel
theorem d_L_law_417 : decode code 417 = .ok (.aload_n 3, 1) := by decide +kernel
theorem d_L_law_418 : decode code 418 = .ok (.iconst 0, 1) := by decide +kernel
theorem d_L_law_419 : decode code 419 = .ok (.laload, 1) := by decide +kernel
theorem d_L_law_420 : decode code 420 = .ok (.iload 6, 2) := by decide +kernel
theorem d_L_law_422 : decode code 422 = .ok (.i2l, 1) := by decide +kernel
theorem d_L_law_423 : decode code 423 = .ok (.lcmp, 1) := by decide +kernel
theorem d_L_law_424 : decode code 424 = .ok (.ifCond .eq 5, 3) := by decide +kernel
theorem d_L_law_427 : decode code 427 = .ok (.iconst 0, 1) := by decide +kernel
theorem d_L_law_428 : decode code 428 = .ok (.ireturn, 1) := by decide +kernel
theorem d_L_law_429 : decode code 429 = .ok (.goto 432, 3) := by decide +kernel
theorem d_L_law_432 : decode code 432 = .ok (.aload_n 1, 1) := by decide +kernel
theorem d_L_law_433 : decode code 433 = .ok (.aload_n 3, 1) := by decide +kernel
theorem d_L_law_434 : decode code 434 = .ok (.invokestatic 84, 3) := by decide +kernel
theorem d_L_law_437 : decode code 437 = .ok (.istore 5, 2) := by decide +kernel
theorem d_L_law_439 : decode code 439 = .ok (.aload_n 2, 1) := by decide +kernel
theorem d_L_law_440 : decode code 440 = .ok (.invokevirtual 87, 3) := by decide +kernel
theorem d_L_law_443 : decode code 443 = .ok (.istore 6, 2) := by decide +kernel
theorem d_L_law_445 : decode code 445 = .ok (.aload_n 2, 1) := by decide +kernel
theorem d_L_law_446 : decode code 446 = .ok (.invokevirtual 67, 3) := by decide +kernel
theorem d_L_law_449 : decode code 449 = .ok (.iload 5, 2) := by decide +kernel
theorem d_L_law_451 : decode code 451 = .ok (.if_icmp .eq 5, 3) := by decide +kernel
theorem d_L_law_454 : decode code 454 = .ok (.iconst 0, 1) := by decide +kernel
theorem d_L_law_455 : decode code 455 = .ok (.ireturn, 1) := by decide +kernel
theorem d_L_law_456 : decode code 456 = .ok (.iload 5, 2) := by decide +kernel
theorem d_L_law_458 : decode code 458 = .ok (.ifCond .ne 15, 3) := by decide +kernel
theorem d_L_law_461 : decode code 461 = .ok (.aload_n 3, 1) := by decide +kernel
theorem d_L_law_462 : decode code 462 = .ok (.iconst 0, 1) := by decide +kernel
theorem d_L_law_463 : decode code 463 = .ok (.laload, 1) := by decide +kernel
theorem d_L_law_464 : decode code 464 = .ok (.iload 6, 2) := by decide +kernel
theorem d_L_law_466 : decode code 466 = .ok (.i2l, 1) := by decide +kernel
theorem d_L_law_467 : decode code 467 = .ok (.lcmp, 1) := by decide +kernel
theorem d_L_law_468 : decode code 468 = .ok (.ifCond .eq 5, 3) := by decide +kernel
theorem d_L_law_471 : decode code 471 = .ok (.iconst 0, 1) := by decide +kernel
theorem d_L_law_472 : decode code 472 = .ok (.ireturn, 1) := by decide +kernel
theorem d_L_law_473 : decode code 473 = .ok (.goto 388, 3) := by decide +kernel
theorem d_L_law_476 : decode code 476 = .ok (.aload_n 1, 1) := by decide +kernel
theorem d_L_law_477 : decode code 477 = .ok (.invokevirtual 88, 3) := by decide +kernel
theorem d_L_law_480 : decode code 480 = .ok (.aload_n 2, 1) := by decide +kernel
theorem d_L_law_481 : decode code 481 = .ok (.invokevirtual 91, 3) := by decide +kernel
theorem d_L_law_484 : decode code 484 = .ok (.if_icmp .eq 377, 3) := by decide +kernel
theorem d_L_law_487 : decode code 487 = .ok (.iconst 0, 1) := by decide +kernel
theorem d_L_law_488 : decode code 488 = .ok (.ireturn, 1) := by decide +kernel
theorem d_L_law_489 : decode code 489 = .ok (.aload_n 1, 1) := by decide +kernel
theorem d_L_law_490 : decode code 490 = .ok (.aload_n 0, 1) := by decide +kernel
theorem d_L_law_491 : decode code 491 = .ok (.iload 4, 2) := by decide +kernel
theorem d_L_law_493 : decode code 493 = .ok (.iconst 1, 1) := by decide +kernel
theorem d_L_law_494 : decode code 494 = .ok (.iadd, 1) := by decide +kernel
theorem d_L_law_495 : decode code 495 = .ok (.iaload, 1) := by decide +kernel
theorem d_L_law_496 : decode code 496 = .ok (.aload_n 0, 1) := by decide +kernel
theorem d_L_law_497 : decode code 497 = .ok (.iload 4, 2) := by decide +kernel
theorem d_L_law_499 : decode code 499 = .ok (.iconst 2, 1) := by decide +kernel
theorem d_L_law_500 : decode code 500 = .ok (.iadd, 1) := by decide +kernel
theorem d_L_law_501 : decode code 501 = .ok (.iaload, 1) := by decide +kernel
theorem d_L_law_502 : decode code 502 = .ok (.aload_n 3, 1) := by decide +kernel
theorem d_L_law_503 : decode code 503 = .ok (.invokestatic 92, 3) := by decide +kernel
theorem d_L_law_506 : decode code 506 = .ok (.istore 5, 2) := by decide +kernel
theorem d_L_law_508 : decode code 508 = .ok (.aload_n 2, 1) := by decide +kernel
theorem d_L_law_509 : decode code 509 = .ok (.aload_n 0, 1) := by decide +kernel
theorem d_L_law_510 : decode code 510 = .ok (.iload 4, 2) := by decide +kernel
theorem d_L_law_512 : decode code 512 = .ok (.iconst 1, 1) := by decide +kernel
theorem d_L_law_513 : decode code 513 = .ok (.iadd, 1) := by decide +kernel
theorem d_L_law_514 : decode code 514 = .ok (.iaload, 1) := by decide +kernel
theorem d_L_law_515 : decode code 515 = .ok (.aload_n 0, 1) := by decide +kernel
theorem d_L_law_516 : decode code 516 = .ok (.iload 4, 2) := by decide +kernel
theorem d_L_law_518 : decode code 518 = .ok (.iconst 2, 1) := by decide +kernel
theorem d_L_law_519 : decode code 519 = .ok (.iadd, 1) := by decide +kernel
theorem d_L_law_520 : decode code 520 = .ok (.iaload, 1) := by decide +kernel
theorem d_L_law_521 : decode code 521 = .ok (.invokevirtual 94, 3) := by decide +kernel
theorem d_L_law_524 : decode code 524 = .ok (.istore 6, 2) := by decide +kernel
theorem d_L_law_526 : decode code 526 = .ok (.aload_n 2, 1) := by decide +kernel
theorem d_L_law_527 : decode code 527 = .ok (.invokevirtual 67, 3) := by decide +kernel
theorem d_L_law_530 : decode code 530 = .ok (.iload 5, 2) := by decide +kernel
theorem d_L_law_532 : decode code 532 = .ok (.if_icmp .eq 5, 3) := by decide +kernel
theorem d_L_law_535 : decode code 535 = .ok (.iconst 0, 1) := by decide +kernel
theorem d_L_law_536 : decode code 536 = .ok (.ireturn, 1) := by decide +kernel
theorem d_L_law_537 : decode code 537 = .ok (.iload 5, 2) := by decide +kernel
theorem d_L_law_539 : decode code 539 = .ok (.ifCond .ne 15, 3) := by decide +kernel
theorem d_L_law_542 : decode code 542 = .ok (.aload_n 3, 1) := by decide +kernel
theorem d_L_law_543 : decode code 543 = .ok (.iconst 0, 1) := by decide +kernel
theorem d_L_law_544 : decode code 544 = .ok (.laload, 1) := by decide +kernel
theorem d_L_law_545 : decode code 545 = .ok (.iload 6, 2) := by decide +kernel
theorem d_L_law_547 : decode code 547 = .ok (.i2l, 1) := by decide +kernel
theorem d_L_law_548 : decode code 548 = .ok (.lcmp, 1) := by decide +kernel
theorem d_L_law_549 : decode code 549 = .ok (.ifCond .eq 5, 3) := by decide +kernel
theorem d_L_law_552 : decode code 552 = .ok (.iconst 0, 1) := by decide +kernel
theorem d_L_law_553 : decode code 553 = .ok (.ireturn, 1) := by decide +kernel
theorem d_L_law_554 : decode code 554 = .ok (.goto 307, 3) := by decide +kernel
theorem d_L_law_557 : decode code 557 = .ok (.aload_n 1, 1) := by decide +kernel
theorem d_L_law_558 : decode code 558 = .ok (.aload_n 0, 1) := by decide +kernel
theorem d_L_law_559 : decode code 559 = .ok (.iload 4, 2) := by decide +kernel
theorem d_L_law_561 : decode code 561 = .ok (.iconst 1, 1) := by decide +kernel
theorem d_L_law_562 : decode code 562 = .ok (.iadd, 1) := by decide +kernel
theorem d_L_law_563 : decode code 563 = .ok (.iaload, 1) := by decide +kernel
theorem d_L_law_564 : decode code 564 = .ok (.aload_n 0, 1) := by decide +kernel
theorem d_L_law_565 : decode code 565 = .ok (.iload 4, 2) := by decide +kernel
theorem d_L_law_567 : decode code 567 = .ok (.iconst 2, 1) := by decide +kernel
theorem d_L_law_568 : decode code 568 = .ok (.iadd, 1) := by decide +kernel
theorem d_L_law_569 : decode code 569 = .ok (.iaload, 1) := by decide +kernel
theorem d_L_law_570 : decode code 570 = .ok (.aload_n 3, 1) := by decide +kernel
theorem d_L_law_571 : decode code 571 = .ok (.invokestatic 95, 3) := by decide +kernel
theorem d_L_law_574 : decode code 574 = .ok (.istore 5, 2) := by decide +kernel
theorem d_L_law_576 : decode code 576 = .ok (.aload_n 2, 1) := by decide +kernel
theorem d_L_law_577 : decode code 577 = .ok (.aload_n 0, 1) := by decide +kernel
theorem d_L_law_578 : decode code 578 = .ok (.iload 4, 2) := by decide +kernel
theorem d_L_law_580 : decode code 580 = .ok (.iconst 1, 1) := by decide +kernel
theorem d_L_law_581 : decode code 581 = .ok (.iadd, 1) := by decide +kernel
theorem d_L_law_582 : decode code 582 = .ok (.iaload, 1) := by decide +kernel
theorem d_L_law_583 : decode code 583 = .ok (.aload_n 0, 1) := by decide +kernel
theorem d_L_law_584 : decode code 584 = .ok (.iload 4, 2) := by decide +kernel
theorem d_L_law_586 : decode code 586 = .ok (.iconst 2, 1) := by decide +kernel
theorem d_L_law_587 : decode code 587 = .ok (.iadd, 1) := by decide +kernel
theorem d_L_law_588 : decode code 588 = .ok (.iaload, 1) := by decide +kernel
theorem d_L_law_589 : decode code 589 = .ok (.invokevirtual 97, 3) := by decide +kernel
theorem d_L_law_592 : decode code 592 = .ok (.istore 6, 2) := by decide +kernel
theorem d_L_law_594 : decode code 594 = .ok (.aload_n 2, 1) := by decide +kernel
theorem d_L_law_595 : decode code 595 = .ok (.invokevirtual 67, 3) := by decide +kernel
theorem d_L_law_598 : decode code 598 = .ok (.iload 5, 2) := by decide +kernel
theorem d_L_law_600 : decode code 600 = .ok (.if_icmp .eq 5, 3) := by decide +kernel
theorem d_L_law_603 : decode code 603 = .ok (.iconst 0, 1) := by decide +kernel
theorem d_L_law_604 : decode code 604 = .ok (.ireturn, 1) := by decide +kernel
theorem d_L_law_605 : decode code 605 = .ok (.iload 5, 2) := by decide +kernel
theorem d_L_law_607 : decode code 607 = .ok (.ifCond .ne 15, 3) := by decide +kernel
theorem d_L_law_610 : decode code 610 = .ok (.aload_n 3, 1) := by decide +kernel
theorem d_L_law_611 : decode code 611 = .ok (.iconst 0, 1) := by decide +kernel
theorem d_L_law_612 : decode code 612 = .ok (.laload, 1) := by decide +kernel
theorem d_L_law_613 : decode code 613 = .ok (.iload 6, 2) := by decide +kernel
theorem d_L_law_615 : decode code 615 = .ok (.i2l, 1) := by decide +kernel
theorem d_L_law_616 : decode code 616 = .ok (.lcmp, 1) := by decide +kernel
theorem d_L_law_617 : decode code 617 = .ok (.ifCond .eq 5, 3) := by decide +kernel
theorem d_L_law_620 : decode code 620 = .ok (.iconst 0, 1) := by decide +kernel
theorem d_L_law_621 : decode code 621 = .ok (.ireturn, 1) := by decide +kernel
theorem d_L_law_622 : decode code 622 = .ok (.goto 239, 3) := by decide +kernel
theorem d_L_law_625 : decode code 625 = .ok (.aload_n 1, 1) := by decide +kernel
theorem d_L_law_626 : decode code 626 = .ok (.aload_n 0, 1) := by decide +kernel
theorem d_L_law_627 : decode code 627 = .ok (.iload 4, 2) := by decide +kernel
theorem d_L_law_629 : decode code 629 = .ok (.iconst 1, 1) := by decide +kernel
theorem d_L_law_630 : decode code 630 = .ok (.iadd, 1) := by decide +kernel
theorem d_L_law_631 : decode code 631 = .ok (.iaload, 1) := by decide +kernel
theorem d_L_law_632 : decode code 632 = .ok (.aload_n 0, 1) := by decide +kernel
theorem d_L_law_633 : decode code 633 = .ok (.iload 4, 2) := by decide +kernel
theorem d_L_law_635 : decode code 635 = .ok (.iconst 2, 1) := by decide +kernel
theorem d_L_law_636 : decode code 636 = .ok (.iadd, 1) := by decide +kernel
theorem d_L_law_637 : decode code 637 = .ok (.iaload, 1) := by decide +kernel
theorem d_L_law_638 : decode code 638 = .ok (.aload_n 3, 1) := by decide +kernel
theorem d_L_law_639 : decode code 639 = .ok (.invokestatic 98, 3) := by decide +kernel
theorem d_L_law_642 : decode code 642 = .ok (.istore 5, 2) := by decide +kernel
theorem d_L_law_644 : decode code 644 = .ok (.aload_n 2, 1) := by decide +kernel
theorem d_L_law_645 : decode code 645 = .ok (.aload_n 0, 1) := by decide +kernel
theorem d_L_law_646 : decode code 646 = .ok (.iload 4, 2) := by decide +kernel
theorem d_L_law_648 : decode code 648 = .ok (.iconst 1, 1) := by decide +kernel
theorem d_L_law_649 : decode code 649 = .ok (.iadd, 1) := by decide +kernel
theorem d_L_law_650 : decode code 650 = .ok (.iaload, 1) := by decide +kernel
theorem d_L_law_651 : decode code 651 = .ok (.aload_n 0, 1) := by decide +kernel
theorem d_L_law_652 : decode code 652 = .ok (.iload 4, 2) := by decide +kernel
theorem d_L_law_654 : decode code 654 = .ok (.iconst 2, 1) := by decide +kernel
theorem d_L_law_655 : decode code 655 = .ok (.iadd, 1) := by decide +kernel
theorem d_L_law_656 : decode code 656 = .ok (.iaload, 1) := by decide +kernel
theorem d_L_law_657 : decode code 657 = .ok (.invokevirtual 100, 3) := by decide +kernel
theorem d_L_law_660 : decode code 660 = .ok (.istore 6, 2) := by decide +kernel
theorem d_L_law_662 : decode code 662 = .ok (.aload_n 2, 1) := by decide +kernel
theorem d_L_law_663 : decode code 663 = .ok (.invokevirtual 67, 3) := by decide +kernel
theorem d_L_law_666 : decode code 666 = .ok (.iload 5, 2) := by decide +kernel
theorem d_L_law_668 : decode code 668 = .ok (.if_icmp .eq 5, 3) := by decide +kernel
theorem d_L_law_671 : decode code 671 = .ok (.iconst 0, 1) := by decide +kernel
theorem d_L_law_672 : decode code 672 = .ok (.ireturn, 1) := by decide +kernel
theorem d_L_law_673 : decode code 673 = .ok (.iload 5, 2) := by decide +kernel
theorem d_L_law_675 : decode code 675 = .ok (.ifCond .ne 15, 3) := by decide +kernel
theorem d_L_law_678 : decode code 678 = .ok (.aload_n 3, 1) := by decide +kernel
theorem d_L_law_679 : decode code 679 = .ok (.iconst 0, 1) := by decide +kernel
theorem d_L_law_680 : decode code 680 = .ok (.laload, 1) := by decide +kernel
theorem d_L_law_681 : decode code 681 = .ok (.iload 6, 2) := by decide +kernel
theorem d_L_law_683 : decode code 683 = .ok (.i2l, 1) := by decide +kernel
theorem d_L_law_684 : decode code 684 = .ok (.lcmp, 1) := by decide +kernel
theorem d_L_law_685 : decode code 685 = .ok (.ifCond .eq 5, 3) := by decide +kernel
theorem d_L_law_688 : decode code 688 = .ok (.iconst 0, 1) := by decide +kernel
theorem d_L_law_689 : decode code 689 = .ok (.ireturn, 1) := by decide +kernel
theorem d_L_law_690 : decode code 690 = .ok (.goto 171, 3) := by decide +kernel
theorem d_L_law_693 : decode code 693 = .ok (.aload_n 1, 1) := by decide +kernel
theorem d_L_law_694 : decode code 694 = .ok (.aload_n 0, 1) := by decide +kernel
theorem d_L_law_695 : decode code 695 = .ok (.iload 4, 2) := by decide +kernel
theorem d_L_law_697 : decode code 697 = .ok (.iconst 1, 1) := by decide +kernel
theorem d_L_law_698 : decode code 698 = .ok (.iadd, 1) := by decide +kernel
theorem d_L_law_699 : decode code 699 = .ok (.iaload, 1) := by decide +kernel
theorem d_L_law_700 : decode code 700 = .ok (.aload_n 3, 1) := by decide +kernel
theorem d_L_law_701 : decode code 701 = .ok (.invokestatic 101, 3) := by decide +kernel
theorem d_L_law_704 : decode code 704 = .ok (.istore 5, 2) := by decide +kernel
theorem d_L_law_706 : decode code 706 = .ok (.aload_n 2, 1) := by decide +kernel
theorem d_L_law_707 : decode code 707 = .ok (.aload_n 0, 1) := by decide +kernel
theorem d_L_law_708 : decode code 708 = .ok (.iload 4, 2) := by decide +kernel
theorem d_L_law_710 : decode code 710 = .ok (.iconst 1, 1) := by decide +kernel
theorem d_L_law_711 : decode code 711 = .ok (.iadd, 1) := by decide +kernel
theorem d_L_law_712 : decode code 712 = .ok (.iaload, 1) := by decide +kernel
theorem d_L_law_713 : decode code 713 = .ok (.invokevirtual 103, 3) := by decide +kernel
theorem d_L_law_716 : decode code 716 = .ok (.istore 6, 2) := by decide +kernel
theorem d_L_law_718 : decode code 718 = .ok (.aload_n 2, 1) := by decide +kernel
theorem d_L_law_719 : decode code 719 = .ok (.invokevirtual 67, 3) := by decide +kernel
theorem d_L_law_722 : decode code 722 = .ok (.iload 5, 2) := by decide +kernel
theorem d_L_law_724 : decode code 724 = .ok (.if_icmp .eq 5, 3) := by decide +kernel
theorem d_L_law_727 : decode code 727 = .ok (.iconst 0, 1) := by decide +kernel
theorem d_L_law_728 : decode code 728 = .ok (.ireturn, 1) := by decide +kernel
theorem d_L_law_729 : decode code 729 = .ok (.iload 5, 2) := by decide +kernel
theorem d_L_law_731 : decode code 731 = .ok (.ifCond .ne 15, 3) := by decide +kernel
theorem d_L_law_734 : decode code 734 = .ok (.aload_n 3, 1) := by decide +kernel
theorem d_L_law_735 : decode code 735 = .ok (.iconst 0, 1) := by decide +kernel
theorem d_L_law_736 : decode code 736 = .ok (.laload, 1) := by decide +kernel
theorem d_L_law_737 : decode code 737 = .ok (.iload 6, 2) := by decide +kernel
theorem d_L_law_739 : decode code 739 = .ok (.i2l, 1) := by decide +kernel
theorem d_L_law_740 : decode code 740 = .ok (.lcmp, 1) := by decide +kernel
theorem d_L_law_741 : decode code 741 = .ok (.ifCond .eq 5, 3) := by decide +kernel
theorem d_L_law_744 : decode code 744 = .ok (.iconst 0, 1) := by decide +kernel
theorem d_L_law_745 : decode code 745 = .ok (.ireturn, 1) := by decide +kernel
theorem d_L_law_746 : decode code 746 = .ok (.goto 115, 3) := by decide +kernel
theorem d_L_law_749 : decode code 749 = .ok (.aload_n 1, 1) := by decide +kernel
theorem d_L_law_750 : decode code 750 = .ok (.aload_n 0, 1) := by decide +kernel
theorem d_L_law_751 : decode code 751 = .ok (.iload 4, 2) := by decide +kernel
theorem d_L_law_753 : decode code 753 = .ok (.iconst 1, 1) := by decide +kernel
theorem d_L_law_754 : decode code 754 = .ok (.iadd, 1) := by decide +kernel
theorem d_L_law_755 : decode code 755 = .ok (.iaload, 1) := by decide +kernel
theorem d_L_law_756 : decode code 756 = .ok (.aload_n 3, 1) := by decide +kernel
theorem d_L_law_757 : decode code 757 = .ok (.invokestatic 104, 3) := by decide +kernel
theorem d_L_law_760 : decode code 760 = .ok (.istore 5, 2) := by decide +kernel
theorem d_L_law_762 : decode code 762 = .ok (.aload_n 2, 1) := by decide +kernel
theorem d_L_law_763 : decode code 763 = .ok (.aload_n 0, 1) := by decide +kernel
theorem d_L_law_764 : decode code 764 = .ok (.iload 4, 2) := by decide +kernel
theorem d_L_law_766 : decode code 766 = .ok (.iconst 1, 1) := by decide +kernel
theorem d_L_law_767 : decode code 767 = .ok (.iadd, 1) := by decide +kernel
theorem d_L_law_768 : decode code 768 = .ok (.iaload, 1) := by decide +kernel
theorem d_L_law_769 : decode code 769 = .ok (.invokevirtual 106, 3) := by decide +kernel
theorem d_L_law_772 : decode code 772 = .ok (.istore 6, 2) := by decide +kernel
theorem d_L_law_774 : decode code 774 = .ok (.aload_n 2, 1) := by decide +kernel
theorem d_L_law_775 : decode code 775 = .ok (.invokevirtual 67, 3) := by decide +kernel
theorem d_L_law_778 : decode code 778 = .ok (.iload 5, 2) := by decide +kernel
theorem d_L_law_780 : decode code 780 = .ok (.if_icmp .eq 5, 3) := by decide +kernel
theorem d_L_law_783 : decode code 783 = .ok (.iconst 0, 1) := by decide +kernel
theorem d_L_law_784 : decode code 784 = .ok (.ireturn, 1) := by decide +kernel
theorem d_L_law_785 : decode code 785 = .ok (.iload 5, 2) := by decide +kernel
theorem d_L_law_787 : decode code 787 = .ok (.ifCond .ne 15, 3) := by decide +kernel
theorem d_L_law_790 : decode code 790 = .ok (.aload_n 3, 1) := by decide +kernel
theorem d_L_law_791 : decode code 791 = .ok (.iconst 0, 1) := by decide +kernel
theorem d_L_law_792 : decode code 792 = .ok (.laload, 1) := by decide +kernel
theorem d_L_law_793 : decode code 793 = .ok (.iload 6, 2) := by decide +kernel
theorem d_L_law_795 : decode code 795 = .ok (.i2l, 1) := by decide +kernel
theorem d_L_law_796 : decode code 796 = .ok (.lcmp, 1) := by decide +kernel
theorem d_L_law_797 : decode code 797 = .ok (.ifCond .eq 5, 3) := by decide +kernel
theorem d_L_law_800 : decode code 800 = .ok (.iconst 0, 1) := by decide +kernel
theorem d_L_law_801 : decode code 801 = .ok (.ireturn, 1) := by decide +kernel
theorem d_L_law_802 : decode code 802 = .ok (.goto 59, 3) := by decide +kernel
theorem d_L_law_805 : decode code 805 = .ok (.aload_n 1, 1) := by decide +kernel
theorem d_L_law_806 : decode code 806 = .ok (.aload_n 0, 1) := by decide +kernel
theorem d_L_law_807 : decode code 807 = .ok (.iload 4, 2) := by decide +kernel
theorem d_L_law_809 : decode code 809 = .ok (.iconst 1, 1) := by decide +kernel
theorem d_L_law_810 : decode code 810 = .ok (.iadd, 1) := by decide +kernel
theorem d_L_law_811 : decode code 811 = .ok (.iaload, 1) := by decide +kernel
theorem d_L_law_812 : decode code 812 = .ok (.aload_n 3, 1) := by decide +kernel
theorem d_L_law_813 : decode code 813 = .ok (.invokestatic 107, 3) := by decide +kernel
theorem d_L_law_816 : decode code 816 = .ok (.istore 5, 2) := by decide +kernel
theorem d_L_law_818 : decode code 818 = .ok (.aload_n 2, 1) := by decide +kernel
theorem d_L_law_819 : decode code 819 = .ok (.aload_n 0, 1) := by decide +kernel
theorem d_L_law_820 : decode code 820 = .ok (.iload 4, 2) := by decide +kernel
theorem d_L_law_822 : decode code 822 = .ok (.iconst 1, 1) := by decide +kernel
theorem d_L_law_823 : decode code 823 = .ok (.iadd, 1) := by decide +kernel
theorem d_L_law_824 : decode code 824 = .ok (.iaload, 1) := by decide +kernel
theorem d_L_law_825 : decode code 825 = .ok (.invokevirtual 109, 3) := by decide +kernel
theorem d_L_law_828 : decode code 828 = .ok (.istore 6, 2) := by decide +kernel
theorem d_L_law_830 : decode code 830 = .ok (.aload_n 2, 1) := by decide +kernel
theorem d_L_law_831 : decode code 831 = .ok (.invokevirtual 67, 3) := by decide +kernel
theorem d_L_law_834 : decode code 834 = .ok (.iload 5, 2) := by decide +kernel
theorem d_L_law_836 : decode code 836 = .ok (.if_icmp .eq 5, 3) := by decide +kernel
theorem d_L_law_839 : decode code 839 = .ok (.iconst 0, 1) := by decide +kernel
theorem d_L_law_840 : decode code 840 = .ok (.ireturn, 1) := by decide +kernel
theorem d_L_law_841 : decode code 841 = .ok (.iload 5, 2) := by decide +kernel
theorem d_L_law_843 : decode code 843 = .ok (.ifCond .ne 15, 3) := by decide +kernel
theorem d_L_law_846 : decode code 846 = .ok (.aload_n 3, 1) := by decide +kernel
theorem d_L_law_847 : decode code 847 = .ok (.iconst 0, 1) := by decide +kernel
theorem d_L_law_848 : decode code 848 = .ok (.laload, 1) := by decide +kernel
theorem d_L_law_849 : decode code 849 = .ok (.iload 6, 2) := by decide +kernel
theorem d_L_law_851 : decode code 851 = .ok (.i2l, 1) := by decide +kernel
theorem d_L_law_852 : decode code 852 = .ok (.lcmp, 1) := by decide +kernel
theorem d_L_law_853 : decode code 853 = .ok (.ifCond .eq 5, 3) := by decide +kernel
theorem d_L_law_856 : decode code 856 = .ok (.iconst 0, 1) := by decide +kernel
theorem d_L_law_857 : decode code 857 = .ok (.ireturn, 1) := by decide +kernel
theorem d_L_law_858 : decode code 858 = .ok (.goto 3, 3) := by decide +kernel
theorem d_L_law_861 : decode code 861 = .ok (.iinc 4 4, 3) := by decide +kernel
theorem d_L_law_864 : decode code 864 = .ok (.goto (-841), 3) := by decide +kernel
theorem d_L_law_867 : decode code 867 = .ok (.iconst 1, 1) := by decide +kernel
theorem d_L_law_868 : decode code 868 = .ok (.ireturn, 1) := by decide +kernel
