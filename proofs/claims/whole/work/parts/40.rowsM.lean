theorem dX7_init_0 : decode cX7_init 0 = .ok (.aload_n 0, 1) := by decide +kernel
theorem dX7_init_1 : decode cX7_init 1 = .ok (.invokespecial 1, 3) := by decide +kernel
theorem dX7_init_4 : decode cX7_init 4 = .ok (.aload_n 0, 1) := by decide +kernel
theorem dX7_init_5 : decode cX7_init 5 = .ok (.bipush 12, 2) := by decide +kernel
theorem dX7_init_7 : decode cX7_init 7 = .ok (.newarray .int, 2) := by decide +kernel
theorem dX7_init_9 : decode cX7_init 9 = .ok (.dup, 1) := by decide +kernel
theorem dX7_init_10 : decode cX7_init 10 = .ok (.iconst 0, 1) := by decide +kernel
theorem dX7_init_11 : decode cX7_init 11 = .ok (.iconst 1, 1) := by decide +kernel
theorem dX7_init_12 : decode cX7_init 12 = .ok (.iastore, 1) := by decide +kernel
theorem dX7_init_13 : decode cX7_init 13 = .ok (.dup, 1) := by decide +kernel
theorem dX7_init_14 : decode cX7_init 14 = .ok (.iconst 1, 1) := by decide +kernel
theorem dX7_init_15 : decode cX7_init 15 = .ok (.iconst 1, 1) := by decide +kernel
theorem dX7_init_16 : decode cX7_init 16 = .ok (.iastore, 1) := by decide +kernel
theorem dX7_init_17 : decode cX7_init 17 = .ok (.dup, 1) := by decide +kernel
theorem dX7_init_18 : decode cX7_init 18 = .ok (.iconst 2, 1) := by decide +kernel
theorem dX7_init_19 : decode cX7_init 19 = .ok (.iconst 1, 1) := by decide +kernel
theorem dX7_init_20 : decode cX7_init 20 = .ok (.iastore, 1) := by decide +kernel
theorem dX7_init_21 : decode cX7_init 21 = .ok (.dup, 1) := by decide +kernel
theorem dX7_init_22 : decode cX7_init 22 = .ok (.iconst 3, 1) := by decide +kernel
theorem dX7_init_23 : decode cX7_init 23 = .ok (.iconst 1, 1) := by decide +kernel
theorem dX7_init_24 : decode cX7_init 24 = .ok (.iastore, 1) := by decide +kernel
theorem dX7_init_25 : decode cX7_init 25 = .ok (.dup, 1) := by decide +kernel
theorem dX7_init_26 : decode cX7_init 26 = .ok (.iconst 4, 1) := by decide +kernel
theorem dX7_init_27 : decode cX7_init 27 = .ok (.iconst 1, 1) := by decide +kernel
theorem dX7_init_28 : decode cX7_init 28 = .ok (.iastore, 1) := by decide +kernel
theorem dX7_init_29 : decode cX7_init 29 = .ok (.dup, 1) := by decide +kernel
theorem dX7_init_30 : decode cX7_init 30 = .ok (.iconst 5, 1) := by decide +kernel
theorem dX7_init_31 : decode cX7_init 31 = .ok (.iconst 1, 1) := by decide +kernel
theorem dX7_init_32 : decode cX7_init 32 = .ok (.iastore, 1) := by decide +kernel
theorem dX7_init_33 : decode cX7_init 33 = .ok (.dup, 1) := by decide +kernel
theorem dX7_init_34 : decode cX7_init 34 = .ok (.bipush 6, 2) := by decide +kernel
theorem dX7_init_36 : decode cX7_init 36 = .ok (.iconst 1, 1) := by decide +kernel
theorem dX7_init_37 : decode cX7_init 37 = .ok (.iastore, 1) := by decide +kernel
theorem dX7_init_38 : decode cX7_init 38 = .ok (.dup, 1) := by decide +kernel
theorem dX7_init_39 : decode cX7_init 39 = .ok (.bipush 7, 2) := by decide +kernel
theorem dX7_init_41 : decode cX7_init 41 = .ok (.iconst 1, 1) := by decide +kernel
theorem dX7_init_42 : decode cX7_init 42 = .ok (.iastore, 1) := by decide +kernel
theorem dX7_init_43 : decode cX7_init 43 = .ok (.dup, 1) := by decide +kernel
theorem dX7_init_44 : decode cX7_init 44 = .ok (.bipush 8, 2) := by decide +kernel
theorem dX7_init_46 : decode cX7_init 46 = .ok (.iconst 1, 1) := by decide +kernel
theorem dX7_init_47 : decode cX7_init 47 = .ok (.iastore, 1) := by decide +kernel
theorem dX7_init_48 : decode cX7_init 48 = .ok (.dup, 1) := by decide +kernel
theorem dX7_init_49 : decode cX7_init 49 = .ok (.bipush 9, 2) := by decide +kernel
theorem dX7_init_51 : decode cX7_init 51 = .ok (.iconst 1, 1) := by decide +kernel
theorem dX7_init_52 : decode cX7_init 52 = .ok (.iastore, 1) := by decide +kernel
theorem dX7_init_53 : decode cX7_init 53 = .ok (.dup, 1) := by decide +kernel
theorem dX7_init_54 : decode cX7_init 54 = .ok (.bipush 10, 2) := by decide +kernel
theorem dX7_init_56 : decode cX7_init 56 = .ok (.iconst 1, 1) := by decide +kernel
theorem dX7_init_57 : decode cX7_init 57 = .ok (.iastore, 1) := by decide +kernel
theorem dX7_init_58 : decode cX7_init 58 = .ok (.dup, 1) := by decide +kernel
theorem dX7_init_59 : decode cX7_init 59 = .ok (.bipush 11, 2) := by decide +kernel
theorem dX7_init_61 : decode cX7_init 61 = .ok (.iconst 1, 1) := by decide +kernel
theorem dX7_init_62 : decode cX7_init 62 = .ok (.iastore, 1) := by decide +kernel
theorem dX7_init_63 : decode cX7_init 63 = .ok (.putfield 7, 3) := by decide +kernel
theorem dX7_init_66 : decode cX7_init 66 = .ok (.aload_n 0, 1) := by decide +kernel
theorem dX7_init_67 : decode cX7_init 67 = .ok (.bipush 12, 2) := by decide +kernel
theorem dX7_init_69 : decode cX7_init 69 = .ok (.newarray .boolean, 2) := by decide +kernel
theorem dX7_init_71 : decode cX7_init 71 = .ok (.putfield 13, 3) := by decide +kernel
theorem dX7_init_74 : decode cX7_init 74 = .ok (.aload_n 0, 1) := by decide +kernel
theorem dX7_init_75 : decode cX7_init 75 = .ok (.bipush 12, 2) := by decide +kernel
theorem dX7_init_77 : decode cX7_init 77 = .ok (.newarray .int, 2) := by decide +kernel
theorem dX7_init_79 : decode cX7_init 79 = .ok (.putfield 17, 3) := by decide +kernel
theorem dX7_init_82 : decode cX7_init 82 = .ok (.aload_n 0, 1) := by decide +kernel
theorem dX7_init_83 : decode cX7_init 83 = .ok (.bipush 12, 2) := by decide +kernel
theorem dX7_init_85 : decode cX7_init 85 = .ok (.newarray .int, 2) := by decide +kernel
theorem dX7_init_87 : decode cX7_init 87 = .ok (.putfield 20, 3) := by decide +kernel
theorem dX7_init_90 : decode cX7_init 90 = .ok (.aload_n 0, 1) := by decide +kernel
theorem dX7_init_91 : decode cX7_init 91 = .ok (.bipush 48, 2) := by decide +kernel
theorem dX7_init_93 : decode cX7_init 93 = .ok (.newarray .int, 2) := by decide +kernel
theorem dX7_init_95 : decode cX7_init 95 = .ok (.putfield 23, 3) := by decide +kernel
theorem dX7_init_98 : decode cX7_init 98 = .ok (.aload_n 0, 1) := by decide +kernel
theorem dX7_init_99 : decode cX7_init 99 = .ok (.bipush 48, 2) := by decide +kernel
theorem dX7_init_101 : decode cX7_init 101 = .ok (.newarray .int, 2) := by decide +kernel
theorem dX7_init_103 : decode cX7_init 103 = .ok (.putfield 26, 3) := by decide +kernel
theorem dX7_init_106 : decode cX7_init 106 = .ok (.aload_n 0, 1) := by decide +kernel
theorem dX7_init_107 : decode cX7_init 107 = .ok (.bipush 48, 2) := by decide +kernel
theorem dX7_init_109 : decode cX7_init 109 = .ok (.newarray .int, 2) := by decide +kernel
theorem dX7_init_111 : decode cX7_init 111 = .ok (.putfield 29, 3) := by decide +kernel
theorem dX7_init_114 : decode cX7_init 114 = .ok (.aload_n 0, 1) := by decide +kernel
theorem dX7_init_115 : decode cX7_init 115 = .ok (.bipush 24, 2) := by decide +kernel
theorem dX7_init_117 : decode cX7_init 117 = .ok (.newarray .int, 2) := by decide +kernel
theorem dX7_init_119 : decode cX7_init 119 = .ok (.putfield 32, 3) := by decide +kernel
theorem dX7_init_122 : decode cX7_init 122 = .ok (.aload_n 0, 1) := by decide +kernel
theorem dX7_init_123 : decode cX7_init 123 = .ok (.bipush 24, 2) := by decide +kernel
theorem dX7_init_125 : decode cX7_init 125 = .ok (.newarray .int, 2) := by decide +kernel
theorem dX7_init_127 : decode cX7_init 127 = .ok (.putfield 35, 3) := by decide +kernel
theorem dX7_init_130 : decode cX7_init 130 = .ok (.aload_n 0, 1) := by decide +kernel
theorem dX7_init_131 : decode cX7_init 131 = .ok (.bipush 24, 2) := by decide +kernel
theorem dX7_init_133 : decode cX7_init 133 = .ok (.newarray .int, 2) := by decide +kernel
theorem dX7_init_135 : decode cX7_init 135 = .ok (.putfield 38, 3) := by decide +kernel
theorem dX7_init_138 : decode cX7_init 138 = .ok (.aload_n 0, 1) := by decide +kernel
theorem dX7_init_139 : decode cX7_init 139 = .ok (.sipush 200, 3) := by decide +kernel
theorem dX7_init_142 : decode cX7_init 142 = .ok (.newarray .int, 2) := by decide +kernel
theorem dX7_init_144 : decode cX7_init 144 = .ok (.putfield 41, 3) := by decide +kernel
theorem dX7_init_147 : decode cX7_init 147 = .ok (.aload_n 0, 1) := by decide +kernel
theorem dX7_init_148 : decode cX7_init 148 = .ok (.sipush 200, 3) := by decide +kernel
theorem dX7_init_151 : decode cX7_init 151 = .ok (.newarray .int, 2) := by decide +kernel
theorem dX7_init_153 : decode cX7_init 153 = .ok (.putfield 44, 3) := by decide +kernel
theorem dX7_init_156 : decode cX7_init 156 = .ok (.aload_n 0, 1) := by decide +kernel
theorem dX7_init_157 : decode cX7_init 157 = .ok (.sipush 200, 3) := by decide +kernel
theorem dX7_init_160 : decode cX7_init 160 = .ok (.newarray .long, 2) := by decide +kernel
theorem dX7_init_162 : decode cX7_init 162 = .ok (.putfield 47, 3) := by decide +kernel
theorem dX7_init_165 : decode cX7_init 165 = .ok (.aload_n 0, 1) := by decide +kernel
theorem dX7_init_166 : decode cX7_init 166 = .ok (.sipush 200, 3) := by decide +kernel
theorem dX7_init_169 : decode cX7_init 169 = .ok (.newarray .long, 2) := by decide +kernel
theorem dX7_init_171 : decode cX7_init 171 = .ok (.putfield 51, 3) := by decide +kernel
theorem dX7_init_174 : decode cX7_init 174 = .ok (.aload_n 0, 1) := by decide +kernel
theorem dX7_init_175 : decode cX7_init 175 = .ok (.bipush 40, 2) := by decide +kernel
theorem dX7_init_177 : decode cX7_init 177 = .ok (.newarray .int, 2) := by decide +kernel
theorem dX7_init_179 : decode cX7_init 179 = .ok (.putfield 54, 3) := by decide +kernel
theorem dX7_init_182 : decode cX7_init 182 = .ok (.aload_n 0, 1) := by decide +kernel
theorem dX7_init_183 : decode cX7_init 183 = .ok (.bipush 40, 2) := by decide +kernel
theorem dX7_init_185 : decode cX7_init 185 = .ok (.newarray .int, 2) := by decide +kernel
theorem dX7_init_187 : decode cX7_init 187 = .ok (.putfield 57, 3) := by decide +kernel
theorem dX7_init_190 : decode cX7_init 190 = .ok (.aload_n 0, 1) := by decide +kernel
theorem dX7_init_191 : decode cX7_init 191 = .ok (.bipush 40, 2) := by decide +kernel
theorem dX7_init_193 : decode cX7_init 193 = .ok (.newarray .long, 2) := by decide +kernel
theorem dX7_init_195 : decode cX7_init 195 = .ok (.putfield 60, 3) := by decide +kernel
theorem dX7_init_198 : decode cX7_init 198 = .ok (.aload_n 0, 1) := by decide +kernel
theorem dX7_init_199 : decode cX7_init 199 = .ok (.iconst 3, 1) := by decide +kernel
theorem dX7_init_200 : decode cX7_init 200 = .ok (.newarray .long, 2) := by decide +kernel
theorem dX7_init_202 : decode cX7_init 202 = .ok (.putfield 63, 3) := by decide +kernel
theorem dX7_init_205 : decode cX7_init 205 = .ok (.aload_n 0, 1) := by decide +kernel
theorem dX7_init_206 : decode cX7_init 206 = .ok (.bipush 12, 2) := by decide +kernel
theorem dX7_init_208 : decode cX7_init 208 = .ok (.newarray .long, 2) := by decide +kernel
theorem dX7_init_210 : decode cX7_init 210 = .ok (.putfield 66, 3) := by decide +kernel
theorem dX7_init_213 : decode cX7_init 213 = .ok (.return_, 1) := by decide +kernel
theorem dX7_thrown_0 : decode cX7_thrown 0 = .ok (.aload_n 0, 1) := by decide +kernel
theorem dX7_thrown_1 : decode cX7_thrown 1 = .ok (.getfield 69, 3) := by decide +kernel
theorem dX7_thrown_4 : decode cX7_thrown 4 = .ok (.ireturn, 1) := by decide +kernel
theorem dX7_within_0 : decode cX7_within 0 = .ok (.lload_n 0, 1) := by decide +kernel
theorem dX7_within_1 : decode cX7_within 1 = .ok (.lload_n 2, 1) := by decide +kernel
theorem dX7_within_2 : decode cX7_within 2 = .ok (.lcmp, 1) := by decide +kernel
theorem dX7_within_3 : decode cX7_within 3 = .ok (.ifCond .lt 14, 3) := by decide +kernel
theorem dX7_within_6 : decode cX7_within 6 = .ok (.lload_n 0, 1) := by decide +kernel
theorem dX7_within_7 : decode cX7_within 7 = .ok (.lload 4, 2) := by decide +kernel
theorem dX7_within_9 : decode cX7_within 9 = .ok (.lcmp, 1) := by decide +kernel
theorem dX7_within_10 : decode cX7_within 10 = .ok (.ifCond .gt 7, 3) := by decide +kernel
theorem dX7_within_13 : decode cX7_within 13 = .ok (.iconst 1, 1) := by decide +kernel
theorem dX7_within_14 : decode cX7_within 14 = .ok (.goto 4, 3) := by decide +kernel
theorem dX7_within_17 : decode cX7_within 17 = .ok (.iconst 0, 1) := by decide +kernel
theorem dX7_within_18 : decode cX7_within 18 = .ok (.ireturn, 1) := by decide +kernel
set_option maxRecDepth 20000 in
theorem ggX7_isGood_X7_within : GoodIn wsX7_isGood wsX7_within := goodIn_r _ [5] (by decide +kernel) (by decide +kernel)
set_option maxRecDepth 20000 in
theorem gX7_isGood_X7_within : GoodIn wsX7_isGood (va_wsS RX7 75 yX7_within wsX7_within) := goodIn_app (goodIn_of _ (by decide +kernel)) ggX7_isGood_X7_within
theorem dX7_isGood_0 : decode cX7_isGood 0 = .ok (.iload_n 0, 1) := by decide +kernel
theorem dX7_isGood_1 : decode cX7_isGood 1 = .ok (.i2l, 1) := by decide +kernel
theorem dX7_isGood_2 : decode cX7_isGood 2 = .ok (.lconst 0, 1) := by decide +kernel
theorem dX7_isGood_3 : decode cX7_isGood 3 = .ok (.ldc2_w 73, 3) := by decide +kernel
theorem dX7_isGood_6 : decode cX7_isGood 6 = .ok (.invokestatic 75, 3) := by decide +kernel
theorem dX7_isGood_9 : decode cX7_isGood 9 = .ok (.ireturn, 1) := by decide +kernel
theorem dX7_up_0 : decode cX7_up 0 = .ok (.lload_n 0, 1) := by decide +kernel
theorem dX7_up_1 : decode cX7_up 1 = .ok (.lload_n 2, 1) := by decide +kernel
theorem dX7_up_2 : decode cX7_up 2 = .ok (.ldiv, 1) := by decide +kernel
theorem dX7_up_3 : decode cX7_up 3 = .ok (.lload_n 0, 1) := by decide +kernel
theorem dX7_up_4 : decode cX7_up 4 = .ok (.lload_n 2, 1) := by decide +kernel
theorem dX7_up_5 : decode cX7_up 5 = .ok (.lrem, 1) := by decide +kernel
theorem dX7_up_6 : decode cX7_up 6 = .ok (.lconst 0, 1) := by decide +kernel
theorem dX7_up_7 : decode cX7_up 7 = .ok (.lcmp, 1) := by decide +kernel
theorem dX7_up_8 : decode cX7_up 8 = .ok (.ifCond .le 7, 3) := by decide +kernel
theorem dX7_up_11 : decode cX7_up 11 = .ok (.lconst 1, 1) := by decide +kernel
theorem dX7_up_12 : decode cX7_up 12 = .ok (.goto 4, 3) := by decide +kernel
theorem dX7_up_15 : decode cX7_up 15 = .ok (.lconst 0, 1) := by decide +kernel
theorem dX7_up_16 : decode cX7_up 16 = .ok (.ladd, 1) := by decide +kernel
theorem dX7_up_17 : decode cX7_up 17 = .ok (.lreturn, 1) := by decide +kernel
set_option maxRecDepth 20000 in
theorem ggX7_value_X7_isGood : GoodIn wsX7_value wsX7_isGood := goodIn_r _ [7, 8, 9, 10, 6, 11] (by decide +kernel) (by decide +kernel)
set_option maxRecDepth 20000 in
theorem gX7_value_X7_isGood : GoodIn wsX7_value (va_wsS RX7 79 yX7_isGood wsX7_isGood) := goodIn_app (goodIn_of _ (by decide +kernel)) ggX7_value_X7_isGood
set_option maxRecDepth 20000 in
theorem ggX7_value_X7_within : GoodIn wsX7_value wsX7_within := goodIn_r _ [11] (by decide +kernel) (by decide +kernel)
set_option maxRecDepth 20000 in
theorem gX7_value_X7_within : GoodIn wsX7_value (va_wsS RX7 75 yX7_within wsX7_within) := goodIn_app (goodIn_of _ (by decide +kernel)) ggX7_value_X7_within
theorem dX7_value_0 : decode cX7_value 0 = .ok (.aload_n 0, 1) := by decide +kernel
theorem dX7_value_1 : decode cX7_value 1 = .ok (.iconst 0, 1) := by decide +kernel
theorem dX7_value_2 : decode cX7_value 2 = .ok (.putfield 69, 3) := by decide +kernel
theorem dX7_value_5 : decode cX7_value 5 = .ok (.iload_n 1, 1) := by decide +kernel
theorem dX7_value_6 : decode cX7_value 6 = .ok (.invokestatic 79, 3) := by decide +kernel
theorem dX7_value_9 : decode cX7_value 9 = .ok (.ifCond .eq 15, 3) := by decide +kernel
theorem dX7_value_12 : decode cX7_value 12 = .ok (.iload_n 2, 1) := by decide +kernel
theorem dX7_value_13 : decode cX7_value 13 = .ok (.i2l, 1) := by decide +kernel
theorem dX7_value_14 : decode cX7_value 14 = .ok (.lconst 0, 1) := by decide +kernel
theorem dX7_value_15 : decode cX7_value 15 = .ok (.ldc2_w 83, 3) := by decide +kernel
theorem dX7_value_18 : decode cX7_value 18 = .ok (.invokestatic 75, 3) := by decide +kernel
theorem dX7_value_21 : decode cX7_value 21 = .ok (.ifCond .ne 5, 3) := by decide +kernel
theorem dX7_value_24 : decode cX7_value 24 = .ok (.iconst 0, 1) := by decide +kernel
theorem dX7_value_25 : decode cX7_value 25 = .ok (.ireturn, 1) := by decide +kernel
theorem dX7_value_26 : decode cX7_value 26 = .ok (.aload_n 0, 1) := by decide +kernel
theorem dX7_value_27 : decode cX7_value 27 = .ok (.getfield 7, 3) := by decide +kernel
theorem dX7_value_30 : decode cX7_value 30 = .ok (.iload_n 1, 1) := by decide +kernel
theorem dX7_value_31 : decode cX7_value 31 = .ok (.iload_n 2, 1) := by decide +kernel
theorem dX7_value_32 : decode cX7_value 32 = .ok (.iastore, 1) := by decide +kernel
theorem dX7_value_33 : decode cX7_value 33 = .ok (.iconst 1, 1) := by decide +kernel
theorem dX7_value_34 : decode cX7_value 34 = .ok (.ireturn, 1) := by decide +kernel
set_option maxRecDepth 20000 in
theorem ggX7_recipe_X7_isGood : GoodIn wsX7_recipe wsX7_isGood := goodIn_r _ [7, 8, 9, 10, 6, 11] (by decide +kernel) (by decide +kernel)
set_option maxRecDepth 20000 in
theorem gX7_recipe_X7_isGood : GoodIn wsX7_recipe (va_wsS RX7 79 yX7_isGood wsX7_isGood) := goodIn_app (goodIn_of _ (by decide +kernel)) ggX7_recipe_X7_isGood
theorem dX7_recipe_0 : decode cX7_recipe 0 = .ok (.aload_n 0, 1) := by decide +kernel
theorem dX7_recipe_1 : decode cX7_recipe 1 = .ok (.iconst 0, 1) := by decide +kernel
theorem dX7_recipe_2 : decode cX7_recipe 2 = .ok (.putfield 69, 3) := by decide +kernel
theorem dX7_recipe_5 : decode cX7_recipe 5 = .ok (.iload_n 1, 1) := by decide +kernel
theorem dX7_recipe_6 : decode cX7_recipe 6 = .ok (.invokestatic 79, 3) := by decide +kernel
theorem dX7_recipe_9 : decode cX7_recipe 9 = .ok (.ifCond .eq 12, 3) := by decide +kernel
theorem dX7_recipe_12 : decode cX7_recipe 12 = .ok (.aload_n 0, 1) := by decide +kernel
theorem dX7_recipe_13 : decode cX7_recipe 13 = .ok (.getfield 13, 3) := by decide +kernel
theorem dX7_recipe_16 : decode cX7_recipe 16 = .ok (.iload_n 1, 1) := by decide +kernel
theorem dX7_recipe_17 : decode cX7_recipe 17 = .ok (.baload, 1) := by decide +kernel
theorem dX7_recipe_18 : decode cX7_recipe 18 = .ok (.ifCond .eq 5, 3) := by decide +kernel
theorem dX7_recipe_21 : decode cX7_recipe 21 = .ok (.iconst 0, 1) := by decide +kernel
theorem dX7_recipe_22 : decode cX7_recipe 22 = .ok (.ireturn, 1) := by decide +kernel
theorem dX7_recipe_23 : decode cX7_recipe 23 = .ok (.aload_n 0, 1) := by decide +kernel
theorem dX7_recipe_24 : decode cX7_recipe 24 = .ok (.getfield 13, 3) := by decide +kernel
theorem dX7_recipe_27 : decode cX7_recipe 27 = .ok (.iload_n 1, 1) := by decide +kernel
theorem dX7_recipe_28 : decode cX7_recipe 28 = .ok (.iconst 1, 1) := by decide +kernel
theorem dX7_recipe_29 : decode cX7_recipe 29 = .ok (.bastore, 1) := by decide +kernel
theorem dX7_recipe_30 : decode cX7_recipe 30 = .ok (.aload_n 0, 1) := by decide +kernel
theorem dX7_recipe_31 : decode cX7_recipe 31 = .ok (.dup, 1) := by decide +kernel
theorem dX7_recipe_32 : decode cX7_recipe 32 = .ok (.getfield 85, 3) := by decide +kernel
theorem dX7_recipe_35 : decode cX7_recipe 35 = .ok (.iconst 1, 1) := by decide +kernel
theorem dX7_recipe_36 : decode cX7_recipe 36 = .ok (.iadd, 1) := by decide +kernel
theorem dX7_recipe_37 : decode cX7_recipe 37 = .ok (.putfield 85, 3) := by decide +kernel
theorem dX7_recipe_40 : decode cX7_recipe 40 = .ok (.iconst 1, 1) := by decide +kernel
theorem dX7_recipe_41 : decode cX7_recipe 41 = .ok (.ireturn, 1) := by decide +kernel
theorem dX7_isNeed_0 : decode cX7_isNeed 0 = .ok (.iconst 0, 1) := by decide +kernel
theorem dX7_isNeed_1 : decode cX7_isNeed 1 = .ok (.istore_n 3, 1) := by decide +kernel
theorem dX7_isNeed_2 : decode cX7_isNeed 2 = .ok (.iconst 0, 1) := by decide +kernel
theorem dX7_isNeed_3 : decode cX7_isNeed 3 = .ok (.istore 4, 2) := by decide +kernel
theorem dX7_isNeed_5 : decode cX7_isNeed 5 = .ok (.iload 4, 2) := by decide +kernel
theorem dX7_isNeed_7 : decode cX7_isNeed 7 = .ok (.aload_n 0, 1) := by decide +kernel
theorem dX7_isNeed_8 : decode cX7_isNeed 8 = .ok (.getfield 17, 3) := by decide +kernel
theorem dX7_isNeed_11 : decode cX7_isNeed 11 = .ok (.iload_n 1, 1) := by decide +kernel
theorem dX7_isNeed_12 : decode cX7_isNeed 12 = .ok (.iaload, 1) := by decide +kernel
theorem dX7_isNeed_13 : decode cX7_isNeed 13 = .ok (.if_icmp .ge 34, 3) := by decide +kernel
theorem dX7_isNeed_16 : decode cX7_isNeed 16 = .ok (.iload_n 3, 1) := by decide +kernel
theorem dX7_isNeed_17 : decode cX7_isNeed 17 = .ok (.ifCond .ne 18, 3) := by decide +kernel
theorem dX7_isNeed_20 : decode cX7_isNeed 20 = .ok (.aload_n 0, 1) := by decide +kernel
theorem dX7_isNeed_21 : decode cX7_isNeed 21 = .ok (.getfield 23, 3) := by decide +kernel
theorem dX7_isNeed_24 : decode cX7_isNeed 24 = .ok (.iconst 4, 1) := by decide +kernel
theorem dX7_isNeed_25 : decode cX7_isNeed 25 = .ok (.iload_n 1, 1) := by decide +kernel
theorem dX7_isNeed_26 : decode cX7_isNeed 26 = .ok (.imul, 1) := by decide +kernel
theorem dX7_isNeed_27 : decode cX7_isNeed 27 = .ok (.iload 4, 2) := by decide +kernel
theorem dX7_isNeed_29 : decode cX7_isNeed 29 = .ok (.iadd, 1) := by decide +kernel
theorem dX7_isNeed_30 : decode cX7_isNeed 30 = .ok (.iaload, 1) := by decide +kernel
theorem dX7_isNeed_31 : decode cX7_isNeed 31 = .ok (.iload_n 2, 1) := by decide +kernel
theorem dX7_isNeed_32 : decode cX7_isNeed 32 = .ok (.if_icmp .ne 7, 3) := by decide +kernel
theorem dX7_isNeed_35 : decode cX7_isNeed 35 = .ok (.iconst 1, 1) := by decide +kernel
theorem dX7_isNeed_36 : decode cX7_isNeed 36 = .ok (.goto 4, 3) := by decide +kernel
theorem dX7_isNeed_39 : decode cX7_isNeed 39 = .ok (.iconst 0, 1) := by decide +kernel
theorem dX7_isNeed_40 : decode cX7_isNeed 40 = .ok (.istore_n 3, 1) := by decide +kernel
theorem dX7_isNeed_41 : decode cX7_isNeed 41 = .ok (.iinc 4 1, 3) := by decide +kernel
theorem dX7_isNeed_44 : decode cX7_isNeed 44 = .ok (.goto (-39), 3) := by decide +kernel
theorem dX7_isNeed_47 : decode cX7_isNeed 47 = .ok (.iload_n 3, 1) := by decide +kernel
theorem dX7_isNeed_48 : decode cX7_isNeed 48 = .ok (.ireturn, 1) := by decide +kernel
theorem dX7_leads_0 : decode cX7_leads 0 = .ok (.iconst 1, 1) := by decide +kernel
theorem dX7_leads_1 : decode cX7_leads 1 = .ok (.iload_n 1, 1) := by decide +kernel
theorem dX7_leads_2 : decode cX7_leads 2 = .ok (.ishl, 1) := by decide +kernel
theorem dX7_leads_3 : decode cX7_leads 3 = .ok (.istore_n 3, 1) := by decide +kernel
theorem dX7_leads_4 : decode cX7_leads 4 = .ok (.iconst 0, 1) := by decide +kernel
theorem dX7_leads_5 : decode cX7_leads 5 = .ok (.istore 4, 2) := by decide +kernel
theorem dX7_leads_7 : decode cX7_leads 7 = .ok (.iload 4, 2) := by decide +kernel
theorem dX7_leads_9 : decode cX7_leads 9 = .ok (.bipush 12, 2) := by decide +kernel
theorem dX7_leads_11 : decode cX7_leads 11 = .ok (.if_icmp .ge 73, 3) := by decide +kernel
theorem dX7_leads_14 : decode cX7_leads 14 = .ok (.iconst 0, 1) := by decide +kernel
theorem dX7_leads_15 : decode cX7_leads 15 = .ok (.istore 5, 2) := by decide +kernel
theorem dX7_leads_17 : decode cX7_leads 17 = .ok (.iload 5, 2) := by decide +kernel
theorem dX7_leads_19 : decode cX7_leads 19 = .ok (.bipush 12, 2) := by decide +kernel
theorem dX7_leads_21 : decode cX7_leads 21 = .ok (.if_icmp .ge 57, 3) := by decide +kernel
theorem dX7_leads_24 : decode cX7_leads 24 = .ok (.iconst 0, 1) := by decide +kernel
theorem dX7_leads_25 : decode cX7_leads 25 = .ok (.istore 6, 2) := by decide +kernel
theorem dX7_leads_27 : decode cX7_leads 27 = .ok (.iload 6, 2) := by decide +kernel
theorem dX7_leads_29 : decode cX7_leads 29 = .ok (.aload_n 0, 1) := by decide +kernel
theorem dX7_leads_30 : decode cX7_leads 30 = .ok (.getfield 17, 3) := by decide +kernel
theorem dX7_leads_33 : decode cX7_leads 33 = .ok (.iload 5, 2) := by decide +kernel
theorem dX7_leads_35 : decode cX7_leads 35 = .ok (.iaload, 1) := by decide +kernel
theorem dX7_leads_36 : decode cX7_leads 36 = .ok (.if_icmp .ge 36, 3) := by decide +kernel
theorem dX7_leads_39 : decode cX7_leads 39 = .ok (.iload_n 3, 1) := by decide +kernel
theorem dX7_leads_40 : decode cX7_leads 40 = .ok (.iload 5, 2) := by decide +kernel
theorem dX7_leads_42 : decode cX7_leads 42 = .ok (.ishr, 1) := by decide +kernel
theorem dX7_leads_43 : decode cX7_leads 43 = .ok (.iconst 1, 1) := by decide +kernel
theorem dX7_leads_44 : decode cX7_leads 44 = .ok (.iand, 1) := by decide +kernel
theorem dX7_leads_45 : decode cX7_leads 45 = .ok (.iconst 1, 1) := by decide +kernel
theorem dX7_leads_46 : decode cX7_leads 46 = .ok (.if_icmp .ne 26, 3) := by decide +kernel
theorem dX7_leads_49 : decode cX7_leads 49 = .ok (.iload_n 3, 1) := by decide +kernel
theorem dX7_leads_50 : decode cX7_leads 50 = .ok (.iconst 1, 1) := by decide +kernel
theorem dX7_leads_51 : decode cX7_leads 51 = .ok (.aload_n 0, 1) := by decide +kernel
theorem dX7_leads_52 : decode cX7_leads 52 = .ok (.getfield 23, 3) := by decide +kernel
theorem dX7_leads_55 : decode cX7_leads 55 = .ok (.iconst 4, 1) := by decide +kernel
theorem dX7_leads_56 : decode cX7_leads 56 = .ok (.iload 5, 2) := by decide +kernel
theorem dX7_leads_58 : decode cX7_leads 58 = .ok (.imul, 1) := by decide +kernel
theorem dX7_leads_59 : decode cX7_leads 59 = .ok (.iload 6, 2) := by decide +kernel
theorem dX7_leads_61 : decode cX7_leads 61 = .ok (.iadd, 1) := by decide +kernel
theorem dX7_leads_62 : decode cX7_leads 62 = .ok (.iaload, 1) := by decide +kernel
theorem dX7_leads_63 : decode cX7_leads 63 = .ok (.ishl, 1) := by decide +kernel
theorem dX7_leads_64 : decode cX7_leads 64 = .ok (.ior, 1) := by decide +kernel
theorem dX7_leads_65 : decode cX7_leads 65 = .ok (.istore_n 3, 1) := by decide +kernel
theorem dX7_leads_66 : decode cX7_leads 66 = .ok (.iinc 6 1, 3) := by decide +kernel
theorem dX7_leads_69 : decode cX7_leads 69 = .ok (.goto (-42), 3) := by decide +kernel
theorem dX7_leads_72 : decode cX7_leads 72 = .ok (.iinc 5 1, 3) := by decide +kernel
theorem dX7_leads_75 : decode cX7_leads 75 = .ok (.goto (-58), 3) := by decide +kernel
theorem dX7_leads_78 : decode cX7_leads 78 = .ok (.iinc 4 1, 3) := by decide +kernel
theorem dX7_leads_81 : decode cX7_leads 81 = .ok (.goto (-74), 3) := by decide +kernel
theorem dX7_leads_84 : decode cX7_leads 84 = .ok (.iload_n 3, 1) := by decide +kernel
theorem dX7_leads_85 : decode cX7_leads 85 = .ok (.iload_n 2, 1) := by decide +kernel
theorem dX7_leads_86 : decode cX7_leads 86 = .ok (.ishr, 1) := by decide +kernel
theorem dX7_leads_87 : decode cX7_leads 87 = .ok (.iconst 1, 1) := by decide +kernel
theorem dX7_leads_88 : decode cX7_leads 88 = .ok (.iand, 1) := by decide +kernel
theorem dX7_leads_89 : decode cX7_leads 89 = .ok (.iconst 1, 1) := by decide +kernel
theorem dX7_leads_90 : decode cX7_leads 90 = .ok (.if_icmp .ne 7, 3) := by decide +kernel
theorem dX7_leads_93 : decode cX7_leads 93 = .ok (.iconst 1, 1) := by decide +kernel
theorem dX7_leads_94 : decode cX7_leads 94 = .ok (.goto 4, 3) := by decide +kernel
theorem dX7_leads_97 : decode cX7_leads 97 = .ok (.iconst 0, 1) := by decide +kernel
theorem dX7_leads_98 : decode cX7_leads 98 = .ok (.ireturn, 1) := by decide +kernel
theorem dX7_depthOf_0 : decode cX7_depthOf 0 = .ok (.iconst 1, 1) := by decide +kernel
theorem dX7_depthOf_1 : decode cX7_depthOf 1 = .ok (.iload_n 1, 1) := by decide +kernel
theorem dX7_depthOf_2 : decode cX7_depthOf 2 = .ok (.ishl, 1) := by decide +kernel
theorem dX7_depthOf_3 : decode cX7_depthOf 3 = .ok (.istore_n 2, 1) := by decide +kernel
theorem dX7_depthOf_4 : decode cX7_depthOf 4 = .ok (.iconst (-1), 1) := by decide +kernel
theorem dX7_depthOf_5 : decode cX7_depthOf 5 = .ok (.istore_n 3, 1) := by decide +kernel
theorem dX7_depthOf_6 : decode cX7_depthOf 6 = .ok (.iload_n 2, 1) := by decide +kernel
theorem dX7_depthOf_7 : decode cX7_depthOf 7 = .ok (.ifCond .eq 81, 3) := by decide +kernel
theorem dX7_depthOf_10 : decode cX7_depthOf 10 = .ok (.iconst 0, 1) := by decide +kernel
theorem dX7_depthOf_11 : decode cX7_depthOf 11 = .ok (.istore 4, 2) := by decide +kernel
theorem dX7_depthOf_13 : decode cX7_depthOf 13 = .ok (.iconst 0, 1) := by decide +kernel
theorem dX7_depthOf_14 : decode cX7_depthOf 14 = .ok (.istore 5, 2) := by decide +kernel
theorem dX7_depthOf_16 : decode cX7_depthOf 16 = .ok (.iload 5, 2) := by decide +kernel
theorem dX7_depthOf_18 : decode cX7_depthOf 18 = .ok (.bipush 12, 2) := by decide +kernel
theorem dX7_depthOf_20 : decode cX7_depthOf 20 = .ok (.if_icmp .ge 59, 3) := by decide +kernel
theorem dX7_depthOf_23 : decode cX7_depthOf 23 = .ok (.iconst 0, 1) := by decide +kernel
theorem dX7_depthOf_24 : decode cX7_depthOf 24 = .ok (.istore 6, 2) := by decide +kernel
theorem dX7_depthOf_26 : decode cX7_depthOf 26 = .ok (.iload 6, 2) := by decide +kernel
theorem dX7_depthOf_28 : decode cX7_depthOf 28 = .ok (.aload_n 0, 1) := by decide +kernel
theorem dX7_depthOf_29 : decode cX7_depthOf 29 = .ok (.getfield 17, 3) := by decide +kernel
theorem dX7_depthOf_32 : decode cX7_depthOf 32 = .ok (.iload 5, 2) := by decide +kernel
theorem dX7_depthOf_34 : decode cX7_depthOf 34 = .ok (.iaload, 1) := by decide +kernel
theorem dX7_depthOf_35 : decode cX7_depthOf 35 = .ok (.if_icmp .ge 38, 3) := by decide +kernel
theorem dX7_depthOf_38 : decode cX7_depthOf 38 = .ok (.iload_n 2, 1) := by decide +kernel
theorem dX7_depthOf_39 : decode cX7_depthOf 39 = .ok (.iload 5, 2) := by decide +kernel
theorem dX7_depthOf_41 : decode cX7_depthOf 41 = .ok (.ishr, 1) := by decide +kernel
theorem dX7_depthOf_42 : decode cX7_depthOf 42 = .ok (.iconst 1, 1) := by decide +kernel
theorem dX7_depthOf_43 : decode cX7_depthOf 43 = .ok (.iand, 1) := by decide +kernel
theorem dX7_depthOf_44 : decode cX7_depthOf 44 = .ok (.iconst 1, 1) := by decide +kernel
theorem dX7_depthOf_45 : decode cX7_depthOf 45 = .ok (.if_icmp .ne 28, 3) := by decide +kernel
theorem dX7_depthOf_48 : decode cX7_depthOf 48 = .ok (.iload 4, 2) := by decide +kernel
theorem dX7_depthOf_50 : decode cX7_depthOf 50 = .ok (.iconst 1, 1) := by decide +kernel
theorem dX7_depthOf_51 : decode cX7_depthOf 51 = .ok (.aload_n 0, 1) := by decide +kernel
theorem dX7_depthOf_52 : decode cX7_depthOf 52 = .ok (.getfield 23, 3) := by decide +kernel
theorem dX7_depthOf_55 : decode cX7_depthOf 55 = .ok (.iconst 4, 1) := by decide +kernel
theorem dX7_depthOf_56 : decode cX7_depthOf 56 = .ok (.iload 5, 2) := by decide +kernel
theorem dX7_depthOf_58 : decode cX7_depthOf 58 = .ok (.imul, 1) := by decide +kernel
theorem dX7_depthOf_59 : decode cX7_depthOf 59 = .ok (.iload 6, 2) := by decide +kernel
theorem dX7_depthOf_61 : decode cX7_depthOf 61 = .ok (.iadd, 1) := by decide +kernel
theorem dX7_depthOf_62 : decode cX7_depthOf 62 = .ok (.iaload, 1) := by decide +kernel
theorem dX7_depthOf_63 : decode cX7_depthOf 63 = .ok (.ishl, 1) := by decide +kernel
theorem dX7_depthOf_64 : decode cX7_depthOf 64 = .ok (.ior, 1) := by decide +kernel
theorem dX7_depthOf_65 : decode cX7_depthOf 65 = .ok (.istore 4, 2) := by decide +kernel
theorem dX7_depthOf_67 : decode cX7_depthOf 67 = .ok (.iinc 6 1, 3) := by decide +kernel
theorem dX7_depthOf_70 : decode cX7_depthOf 70 = .ok (.goto (-44), 3) := by decide +kernel
theorem dX7_depthOf_73 : decode cX7_depthOf 73 = .ok (.iinc 5 1, 3) := by decide +kernel
theorem dX7_depthOf_76 : decode cX7_depthOf 76 = .ok (.goto (-60), 3) := by decide +kernel
theorem dX7_depthOf_79 : decode cX7_depthOf 79 = .ok (.iload 4, 2) := by decide +kernel
theorem dX7_depthOf_81 : decode cX7_depthOf 81 = .ok (.istore_n 2, 1) := by decide +kernel
theorem dX7_depthOf_82 : decode cX7_depthOf 82 = .ok (.iinc 3 1, 3) := by decide +kernel
theorem dX7_depthOf_85 : decode cX7_depthOf 85 = .ok (.goto (-79), 3) := by decide +kernel
theorem dX7_depthOf_88 : decode cX7_depthOf 88 = .ok (.iload_n 3, 1) := by decide +kernel
theorem dX7_depthOf_89 : decode cX7_depthOf 89 = .ok (.ireturn, 1) := by decide +kernel
set_option maxRecDepth 20000 in
theorem ggX7_isPart_X7_within : GoodIn wsX7_isPart wsX7_within := goodIn_r _ [5] (by decide +kernel) (by decide +kernel)
set_option maxRecDepth 20000 in
theorem gX7_isPart_X7_within : GoodIn wsX7_isPart (va_wsS RX7 75 yX7_within wsX7_within) := goodIn_app (goodIn_of _ (by decide +kernel)) ggX7_isPart_X7_within
theorem dX7_isPart_0 : decode cX7_isPart 0 = .ok (.iload_n 0, 1) := by decide +kernel
theorem dX7_isPart_1 : decode cX7_isPart 1 = .ok (.i2l, 1) := by decide +kernel
theorem dX7_isPart_2 : decode cX7_isPart 2 = .ok (.lconst 1, 1) := by decide +kernel
theorem dX7_isPart_3 : decode cX7_isPart 3 = .ok (.ldc2_w 88, 3) := by decide +kernel
theorem dX7_isPart_6 : decode cX7_isPart 6 = .ok (.invokestatic 75, 3) := by decide +kernel
theorem dX7_isPart_9 : decode cX7_isPart 9 = .ok (.ifCond .eq 19, 3) := by decide +kernel
theorem dX7_isPart_12 : decode cX7_isPart 12 = .ok (.iload_n 1, 1) := by decide +kernel
theorem dX7_isPart_13 : decode cX7_isPart 13 = .ok (.i2l, 1) := by decide +kernel
theorem dX7_isPart_14 : decode cX7_isPart 14 = .ok (.lconst 1, 1) := by decide +kernel
theorem dX7_isPart_15 : decode cX7_isPart 15 = .ok (.ldc2_w 88, 3) := by decide +kernel
theorem dX7_isPart_18 : decode cX7_isPart 18 = .ok (.invokestatic 75, 3) := by decide +kernel
theorem dX7_isPart_21 : decode cX7_isPart 21 = .ok (.ifCond .eq 7, 3) := by decide +kernel
theorem dX7_isPart_24 : decode cX7_isPart 24 = .ok (.iconst 1, 1) := by decide +kernel
theorem dX7_isPart_25 : decode cX7_isPart 25 = .ok (.goto 4, 3) := by decide +kernel
theorem dX7_isPart_28 : decode cX7_isPart 28 = .ok (.iconst 0, 1) := by decide +kernel
theorem dX7_isPart_29 : decode cX7_isPart 29 = .ok (.ireturn, 1) := by decide +kernel
set_option maxRecDepth 20000 in
theorem ggX7_needs_X7_isGood : GoodIn wsX7_needs wsX7_isGood := goodIn_r _ [10, 11, 12, 13, 9, 14] (by decide +kernel) (by decide +kernel)
set_option maxRecDepth 20000 in
theorem gX7_needs_X7_isGood : GoodIn wsX7_needs (va_wsS RX7 79 yX7_isGood wsX7_isGood) := goodIn_app (goodIn_of _ (by decide +kernel)) ggX7_needs_X7_isGood
set_option maxRecDepth 20000 in
theorem ggX7_needs_X7_isPart : GoodIn wsX7_needs wsX7_isPart := goodIn_r _ [17, 18, 12, 13, 9, 14] (by decide +kernel) (by decide +kernel)
set_option maxRecDepth 20000 in
theorem gX7_needs_X7_isPart : GoodIn wsX7_needs (va_wsS RX7 90 yX7_isPart wsX7_isPart) := goodIn_app (goodIn_of _ (by decide +kernel)) ggX7_needs_X7_isPart
set_option maxRecDepth 20000 in
theorem ggX7_needs_X7_isNeed : GoodIn wsX7_needs wsX7_isNeed := goodIn_r _ [22, 3, 4, 31, 32, 33, 34, 35, 36, 37, 38, 39, 40, 41, 42, 43, 44, 45, 46, 47, 48, 49, 50, 51, 52, 53, 54, 55, 56, 57, 58, 59, 60] (by decide +kernel) (by decide +kernel)
set_option maxRecDepth 20000 in
theorem gX7_needs_X7_isNeed : GoodIn wsX7_needs (wsV RX7 94 RX7 yX7_isNeed wsX7_isNeed) := goodIn_app (goodIn_of _ (by decide +kernel)) ggX7_needs_X7_isNeed
set_option maxRecDepth 20000 in
theorem ggX7_needs_X7_leads : GoodIn wsX7_needs wsX7_leads := goodIn_r _ [26, 3, 4, 31, 32, 33, 34, 35, 36, 37, 38, 39, 40, 41, 42, 43, 44, 45, 46, 47, 48, 49, 50, 51, 52, 53, 54, 55, 56, 57, 58, 59, 60] (by decide +kernel) (by decide +kernel)
set_option maxRecDepth 20000 in
theorem gX7_needs_X7_leads : GoodIn wsX7_needs (wsV RX7 97 RX7 yX7_leads wsX7_leads) := goodIn_app (goodIn_of _ (by decide +kernel)) ggX7_needs_X7_leads
set_option maxRecDepth 20000 in
theorem ggX7_needs_X7_depthOf : GoodIn wsX7_needs wsX7_depthOf := goodIn_r _ [30, 3, 4, 31, 32, 33, 34, 35, 36, 37, 38, 39, 40, 41, 42, 43, 44, 45, 46, 47, 48, 49, 50, 51, 52, 53, 54, 55, 56, 57, 58, 59, 60] (by decide +kernel) (by decide +kernel)
set_option maxRecDepth 20000 in
theorem gX7_needs_X7_depthOf : GoodIn wsX7_needs (wsV RX7 100 RX7 yX7_depthOf wsX7_depthOf) := goodIn_app (goodIn_of _ (by decide +kernel)) ggX7_needs_X7_depthOf
theorem dX7_needs_0 : decode cX7_needs 0 = .ok (.aload_n 0, 1) := by decide +kernel
theorem dX7_needs_1 : decode cX7_needs 1 = .ok (.iload_n 1, 1) := by decide +kernel
theorem dX7_needs_2 : decode cX7_needs 2 = .ok (.invokestatic 79, 3) := by decide +kernel
theorem dX7_needs_5 : decode cX7_needs 5 = .ok (.ifCond .eq 23, 3) := by decide +kernel
theorem dX7_needs_8 : decode cX7_needs 8 = .ok (.iload_n 2, 1) := by decide +kernel
theorem dX7_needs_9 : decode cX7_needs 9 = .ok (.invokestatic 79, 3) := by decide +kernel
theorem dX7_needs_12 : decode cX7_needs 12 = .ok (.ifCond .eq 16, 3) := by decide +kernel
theorem dX7_needs_15 : decode cX7_needs 15 = .ok (.iload_n 3, 1) := by decide +kernel
theorem dX7_needs_16 : decode cX7_needs 16 = .ok (.iload 4, 2) := by decide +kernel
theorem dX7_needs_18 : decode cX7_needs 18 = .ok (.invokestatic 90, 3) := by decide +kernel
theorem dX7_needs_21 : decode cX7_needs 21 = .ok (.ifCond .eq 7, 3) := by decide +kernel
theorem dX7_needs_24 : decode cX7_needs 24 = .ok (.iconst 0, 1) := by decide +kernel
theorem dX7_needs_25 : decode cX7_needs 25 = .ok (.goto 4, 3) := by decide +kernel
theorem dX7_needs_28 : decode cX7_needs 28 = .ok (.iconst 1, 1) := by decide +kernel
theorem dX7_needs_29 : decode cX7_needs 29 = .ok (.putfield 69, 3) := by decide +kernel
theorem dX7_needs_32 : decode cX7_needs 32 = .ok (.aload_n 0, 1) := by decide +kernel
theorem dX7_needs_33 : decode cX7_needs 33 = .ok (.getfield 69, 3) := by decide +kernel
theorem dX7_needs_36 : decode cX7_needs 36 = .ok (.ifCond .gt 45, 3) := by decide +kernel
theorem dX7_needs_39 : decode cX7_needs 39 = .ok (.aload_n 0, 1) := by decide +kernel
theorem dX7_needs_40 : decode cX7_needs 40 = .ok (.getfield 13, 3) := by decide +kernel
theorem dX7_needs_43 : decode cX7_needs 43 = .ok (.iload_n 1, 1) := by decide +kernel
theorem dX7_needs_44 : decode cX7_needs 44 = .ok (.baload, 1) := by decide +kernel
theorem dX7_needs_45 : decode cX7_needs 45 = .ok (.ifCond .eq 36, 3) := by decide +kernel
theorem dX7_needs_48 : decode cX7_needs 48 = .ok (.iload_n 1, 1) := by decide +kernel
theorem dX7_needs_49 : decode cX7_needs 49 = .ok (.iload_n 2, 1) := by decide +kernel
theorem dX7_needs_50 : decode cX7_needs 50 = .ok (.if_icmp .eq 31, 3) := by decide +kernel
theorem dX7_needs_53 : decode cX7_needs 53 = .ok (.aload_n 0, 1) := by decide +kernel
theorem dX7_needs_54 : decode cX7_needs 54 = .ok (.iload_n 1, 1) := by decide +kernel
theorem dX7_needs_55 : decode cX7_needs 55 = .ok (.iload_n 2, 1) := by decide +kernel
theorem dX7_needs_56 : decode cX7_needs 56 = .ok (.invokevirtual 94, 3) := by decide +kernel
theorem dX7_needs_59 : decode cX7_needs 59 = .ok (.ifCond .ne 22, 3) := by decide +kernel
theorem dX7_needs_62 : decode cX7_needs 62 = .ok (.aload_n 0, 1) := by decide +kernel
theorem dX7_needs_63 : decode cX7_needs 63 = .ok (.getfield 17, 3) := by decide +kernel
theorem dX7_needs_66 : decode cX7_needs 66 = .ok (.iload_n 1, 1) := by decide +kernel
theorem dX7_needs_67 : decode cX7_needs 67 = .ok (.iaload, 1) := by decide +kernel
theorem dX7_needs_68 : decode cX7_needs 68 = .ok (.iconst 4, 1) := by decide +kernel
theorem dX7_needs_69 : decode cX7_needs 69 = .ok (.if_icmp .eq 12, 3) := by decide +kernel
theorem dX7_needs_72 : decode cX7_needs 72 = .ok (.aload_n 0, 1) := by decide +kernel
theorem dX7_needs_73 : decode cX7_needs 73 = .ok (.iload_n 2, 1) := by decide +kernel
theorem dX7_needs_74 : decode cX7_needs 74 = .ok (.iload_n 1, 1) := by decide +kernel
theorem dX7_needs_75 : decode cX7_needs 75 = .ok (.invokevirtual 97, 3) := by decide +kernel
theorem dX7_needs_78 : decode cX7_needs 78 = .ok (.ifCond .eq 5, 3) := by decide +kernel
theorem dX7_needs_81 : decode cX7_needs 81 = .ok (.iconst 0, 1) := by decide +kernel
theorem dX7_needs_82 : decode cX7_needs 82 = .ok (.ireturn, 1) := by decide +kernel
theorem dX7_needs_83 : decode cX7_needs 83 = .ok (.aload_n 0, 1) := by decide +kernel
theorem dX7_needs_84 : decode cX7_needs 84 = .ok (.getfield 23, 3) := by decide +kernel
theorem dX7_needs_87 : decode cX7_needs 87 = .ok (.iconst 4, 1) := by decide +kernel
theorem dX7_needs_88 : decode cX7_needs 88 = .ok (.iload_n 1, 1) := by decide +kernel
theorem dX7_needs_89 : decode cX7_needs 89 = .ok (.imul, 1) := by decide +kernel
theorem dX7_needs_90 : decode cX7_needs 90 = .ok (.aload_n 0, 1) := by decide +kernel
theorem dX7_needs_91 : decode cX7_needs 91 = .ok (.getfield 17, 3) := by decide +kernel
theorem dX7_needs_94 : decode cX7_needs 94 = .ok (.iload_n 1, 1) := by decide +kernel
theorem dX7_needs_95 : decode cX7_needs 95 = .ok (.iaload, 1) := by decide +kernel
theorem dX7_needs_96 : decode cX7_needs 96 = .ok (.iadd, 1) := by decide +kernel
theorem dX7_needs_97 : decode cX7_needs 97 = .ok (.iload_n 2, 1) := by decide +kernel
theorem dX7_needs_98 : decode cX7_needs 98 = .ok (.iastore, 1) := by decide +kernel
theorem dX7_needs_99 : decode cX7_needs 99 = .ok (.aload_n 0, 1) := by decide +kernel
theorem dX7_needs_100 : decode cX7_needs 100 = .ok (.getfield 26, 3) := by decide +kernel
theorem dX7_needs_103 : decode cX7_needs 103 = .ok (.iconst 4, 1) := by decide +kernel
theorem dX7_needs_104 : decode cX7_needs 104 = .ok (.iload_n 1, 1) := by decide +kernel
theorem dX7_needs_105 : decode cX7_needs 105 = .ok (.imul, 1) := by decide +kernel
theorem dX7_needs_106 : decode cX7_needs 106 = .ok (.aload_n 0, 1) := by decide +kernel
theorem dX7_needs_107 : decode cX7_needs 107 = .ok (.getfield 17, 3) := by decide +kernel
theorem dX7_needs_110 : decode cX7_needs 110 = .ok (.iload_n 1, 1) := by decide +kernel
theorem dX7_needs_111 : decode cX7_needs 111 = .ok (.iaload, 1) := by decide +kernel
theorem dX7_needs_112 : decode cX7_needs 112 = .ok (.iadd, 1) := by decide +kernel
theorem dX7_needs_113 : decode cX7_needs 113 = .ok (.iload_n 3, 1) := by decide +kernel
theorem dX7_needs_114 : decode cX7_needs 114 = .ok (.iastore, 1) := by decide +kernel
theorem dX7_needs_115 : decode cX7_needs 115 = .ok (.aload_n 0, 1) := by decide +kernel
theorem dX7_needs_116 : decode cX7_needs 116 = .ok (.getfield 29, 3) := by decide +kernel
theorem dX7_needs_119 : decode cX7_needs 119 = .ok (.iconst 4, 1) := by decide +kernel
theorem dX7_needs_120 : decode cX7_needs 120 = .ok (.iload_n 1, 1) := by decide +kernel
theorem dX7_needs_121 : decode cX7_needs 121 = .ok (.imul, 1) := by decide +kernel
theorem dX7_needs_122 : decode cX7_needs 122 = .ok (.aload_n 0, 1) := by decide +kernel
theorem dX7_needs_123 : decode cX7_needs 123 = .ok (.getfield 17, 3) := by decide +kernel
theorem dX7_needs_126 : decode cX7_needs 126 = .ok (.iload_n 1, 1) := by decide +kernel
theorem dX7_needs_127 : decode cX7_needs 127 = .ok (.iaload, 1) := by decide +kernel
theorem dX7_needs_128 : decode cX7_needs 128 = .ok (.iadd, 1) := by decide +kernel
theorem dX7_needs_129 : decode cX7_needs 129 = .ok (.iload 4, 2) := by decide +kernel
theorem dX7_needs_131 : decode cX7_needs 131 = .ok (.iastore, 1) := by decide +kernel
theorem dX7_needs_132 : decode cX7_needs 132 = .ok (.aload_n 0, 1) := by decide +kernel
theorem dX7_needs_133 : decode cX7_needs 133 = .ok (.getfield 17, 3) := by decide +kernel
theorem dX7_needs_136 : decode cX7_needs 136 = .ok (.iload_n 1, 1) := by decide +kernel
theorem dX7_needs_137 : decode cX7_needs 137 = .ok (.dup2, 1) := by decide +kernel
theorem dX7_needs_138 : decode cX7_needs 138 = .ok (.iaload, 1) := by decide +kernel
theorem dX7_needs_139 : decode cX7_needs 139 = .ok (.iconst 1, 1) := by decide +kernel
theorem dX7_needs_140 : decode cX7_needs 140 = .ok (.iadd, 1) := by decide +kernel
theorem dX7_needs_141 : decode cX7_needs 141 = .ok (.iastore, 1) := by decide +kernel
theorem dX7_needs_142 : decode cX7_needs 142 = .ok (.iconst 0, 1) := by decide +kernel
theorem dX7_needs_143 : decode cX7_needs 143 = .ok (.istore 5, 2) := by decide +kernel
theorem dX7_needs_145 : decode cX7_needs 145 = .ok (.iconst 0, 1) := by decide +kernel
theorem dX7_needs_146 : decode cX7_needs 146 = .ok (.istore 6, 2) := by decide +kernel
theorem dX7_needs_148 : decode cX7_needs 148 = .ok (.iload 6, 2) := by decide +kernel
theorem dX7_needs_150 : decode cX7_needs 150 = .ok (.bipush 12, 2) := by decide +kernel
theorem dX7_needs_152 : decode cX7_needs 152 = .ok (.if_icmp .ge 33, 3) := by decide +kernel
theorem dX7_needs_155 : decode cX7_needs 155 = .ok (.aload_n 0, 1) := by decide +kernel
theorem dX7_needs_156 : decode cX7_needs 156 = .ok (.iload 6, 2) := by decide +kernel
theorem dX7_needs_158 : decode cX7_needs 158 = .ok (.invokevirtual 100, 3) := by decide +kernel
theorem dX7_needs_161 : decode cX7_needs 161 = .ok (.iload 5, 2) := by decide +kernel
theorem dX7_needs_163 : decode cX7_needs 163 = .ok (.if_icmp .le 12, 3) := by decide +kernel
theorem dX7_needs_166 : decode cX7_needs 166 = .ok (.aload_n 0, 1) := by decide +kernel
theorem dX7_needs_167 : decode cX7_needs 167 = .ok (.iload 6, 2) := by decide +kernel
theorem dX7_needs_169 : decode cX7_needs 169 = .ok (.invokevirtual 100, 3) := by decide +kernel
theorem dX7_needs_172 : decode cX7_needs 172 = .ok (.goto 5, 3) := by decide +kernel
theorem dX7_needs_175 : decode cX7_needs 175 = .ok (.iload 5, 2) := by decide +kernel
theorem dX7_needs_177 : decode cX7_needs 177 = .ok (.istore 5, 2) := by decide +kernel
theorem dX7_needs_179 : decode cX7_needs 179 = .ok (.iinc 6 1, 3) := by decide +kernel
theorem dX7_needs_182 : decode cX7_needs 182 = .ok (.goto (-34), 3) := by decide +kernel
theorem dX7_needs_185 : decode cX7_needs 185 = .ok (.aload_n 0, 1) := by decide +kernel
theorem dX7_needs_186 : decode cX7_needs 186 = .ok (.getfield 17, 3) := by decide +kernel
theorem dX7_needs_189 : decode cX7_needs 189 = .ok (.iload_n 1, 1) := by decide +kernel
theorem dX7_needs_190 : decode cX7_needs 190 = .ok (.dup2, 1) := by decide +kernel
theorem dX7_needs_191 : decode cX7_needs 191 = .ok (.iaload, 1) := by decide +kernel
theorem dX7_needs_192 : decode cX7_needs 192 = .ok (.iload 5, 2) := by decide +kernel
theorem dX7_needs_194 : decode cX7_needs 194 = .ok (.iconst 3, 1) := by decide +kernel
theorem dX7_needs_195 : decode cX7_needs 195 = .ok (.if_icmp .le 7, 3) := by decide +kernel
theorem dX7_needs_198 : decode cX7_needs 198 = .ok (.iconst 1, 1) := by decide +kernel
theorem dX7_needs_199 : decode cX7_needs 199 = .ok (.goto 4, 3) := by decide +kernel
theorem dX7_needs_202 : decode cX7_needs 202 = .ok (.iconst 0, 1) := by decide +kernel
theorem dX7_needs_203 : decode cX7_needs 203 = .ok (.isub, 1) := by decide +kernel
theorem dX7_needs_204 : decode cX7_needs 204 = .ok (.iastore, 1) := by decide +kernel
theorem dX7_needs_205 : decode cX7_needs 205 = .ok (.iload 5, 2) := by decide +kernel
theorem dX7_needs_207 : decode cX7_needs 207 = .ok (.iconst 3, 1) := by decide +kernel
theorem dX7_needs_208 : decode cX7_needs 208 = .ok (.if_icmp .le 7, 3) := by decide +kernel
theorem dX7_needs_211 : decode cX7_needs 211 = .ok (.iconst 0, 1) := by decide +kernel
theorem dX7_needs_212 : decode cX7_needs 212 = .ok (.goto 4, 3) := by decide +kernel
theorem dX7_needs_215 : decode cX7_needs 215 = .ok (.iconst 1, 1) := by decide +kernel
theorem dX7_needs_216 : decode cX7_needs 216 = .ok (.ireturn, 1) := by decide +kernel
set_option maxRecDepth 20000 in
theorem ggX7_yields_X7_isGood : GoodIn wsX7_yields wsX7_isGood := goodIn_r _ [10, 11, 12, 13, 9, 14] (by decide +kernel) (by decide +kernel)
set_option maxRecDepth 20000 in
theorem gX7_yields_X7_isGood : GoodIn wsX7_yields (va_wsS RX7 79 yX7_isGood wsX7_isGood) := goodIn_app (goodIn_of _ (by decide +kernel)) ggX7_yields_X7_isGood
set_option maxRecDepth 20000 in
theorem ggX7_yields_X7_isPart : GoodIn wsX7_yields wsX7_isPart := goodIn_r _ [17, 18, 12, 13, 9, 14] (by decide +kernel) (by decide +kernel)
set_option maxRecDepth 20000 in
theorem gX7_yields_X7_isPart : GoodIn wsX7_yields (va_wsS RX7 90 yX7_isPart wsX7_isPart) := goodIn_app (goodIn_of _ (by decide +kernel)) ggX7_yields_X7_isPart
theorem dX7_yields_0 : decode cX7_yields 0 = .ok (.aload_n 0, 1) := by decide +kernel
theorem dX7_yields_1 : decode cX7_yields 1 = .ok (.iload_n 1, 1) := by decide +kernel
theorem dX7_yields_2 : decode cX7_yields 2 = .ok (.invokestatic 79, 3) := by decide +kernel
theorem dX7_yields_5 : decode cX7_yields 5 = .ok (.ifCond .eq 23, 3) := by decide +kernel
theorem dX7_yields_8 : decode cX7_yields 8 = .ok (.iload_n 2, 1) := by decide +kernel
theorem dX7_yields_9 : decode cX7_yields 9 = .ok (.invokestatic 79, 3) := by decide +kernel
theorem dX7_yields_12 : decode cX7_yields 12 = .ok (.ifCond .eq 16, 3) := by decide +kernel
theorem dX7_yields_15 : decode cX7_yields 15 = .ok (.iload_n 3, 1) := by decide +kernel
theorem dX7_yields_16 : decode cX7_yields 16 = .ok (.iload 4, 2) := by decide +kernel
theorem dX7_yields_18 : decode cX7_yields 18 = .ok (.invokestatic 90, 3) := by decide +kernel
theorem dX7_yields_21 : decode cX7_yields 21 = .ok (.ifCond .eq 7, 3) := by decide +kernel
theorem dX7_yields_24 : decode cX7_yields 24 = .ok (.iconst 0, 1) := by decide +kernel
theorem dX7_yields_25 : decode cX7_yields 25 = .ok (.goto 4, 3) := by decide +kernel
theorem dX7_yields_28 : decode cX7_yields 28 = .ok (.iconst 1, 1) := by decide +kernel
theorem dX7_yields_29 : decode cX7_yields 29 = .ok (.putfield 69, 3) := by decide +kernel
theorem dX7_yields_32 : decode cX7_yields 32 = .ok (.aload_n 0, 1) := by decide +kernel
theorem dX7_yields_33 : decode cX7_yields 33 = .ok (.getfield 69, 3) := by decide +kernel
theorem dX7_yields_36 : decode cX7_yields 36 = .ok (.ifCond .gt 49, 3) := by decide +kernel
theorem dX7_yields_39 : decode cX7_yields 39 = .ok (.aload_n 0, 1) := by decide +kernel
theorem dX7_yields_40 : decode cX7_yields 40 = .ok (.getfield 13, 3) := by decide +kernel
theorem dX7_yields_43 : decode cX7_yields 43 = .ok (.iload_n 1, 1) := by decide +kernel
theorem dX7_yields_44 : decode cX7_yields 44 = .ok (.baload, 1) := by decide +kernel
theorem dX7_yields_45 : decode cX7_yields 45 = .ok (.ifCond .eq 40, 3) := by decide +kernel
theorem dX7_yields_48 : decode cX7_yields 48 = .ok (.iload_n 1, 1) := by decide +kernel
theorem dX7_yields_49 : decode cX7_yields 49 = .ok (.iload_n 2, 1) := by decide +kernel
theorem dX7_yields_50 : decode cX7_yields 50 = .ok (.if_icmp .eq 35, 3) := by decide +kernel
theorem dX7_yields_53 : decode cX7_yields 53 = .ok (.aload_n 0, 1) := by decide +kernel
theorem dX7_yields_54 : decode cX7_yields 54 = .ok (.getfield 20, 3) := by decide +kernel
theorem dX7_yields_57 : decode cX7_yields 57 = .ok (.iload_n 1, 1) := by decide +kernel
theorem dX7_yields_58 : decode cX7_yields 58 = .ok (.iaload, 1) := by decide +kernel
theorem dX7_yields_59 : decode cX7_yields 59 = .ok (.iconst 2, 1) := by decide +kernel
theorem dX7_yields_60 : decode cX7_yields 60 = .ok (.if_icmp .eq 25, 3) := by decide +kernel
theorem dX7_yields_63 : decode cX7_yields 63 = .ok (.aload_n 0, 1) := by decide +kernel
theorem dX7_yields_64 : decode cX7_yields 64 = .ok (.getfield 20, 3) := by decide +kernel
theorem dX7_yields_67 : decode cX7_yields 67 = .ok (.iload_n 1, 1) := by decide +kernel
theorem dX7_yields_68 : decode cX7_yields 68 = .ok (.iaload, 1) := by decide +kernel
theorem dX7_yields_69 : decode cX7_yields 69 = .ok (.iconst 1, 1) := by decide +kernel
theorem dX7_yields_70 : decode cX7_yields 70 = .ok (.if_icmp .ne 17, 3) := by decide +kernel
theorem dX7_yields_73 : decode cX7_yields 73 = .ok (.aload_n 0, 1) := by decide +kernel
theorem dX7_yields_74 : decode cX7_yields 74 = .ok (.getfield 32, 3) := by decide +kernel
theorem dX7_yields_77 : decode cX7_yields 77 = .ok (.iconst 2, 1) := by decide +kernel
theorem dX7_yields_78 : decode cX7_yields 78 = .ok (.iload_n 1, 1) := by decide +kernel
theorem dX7_yields_79 : decode cX7_yields 79 = .ok (.imul, 1) := by decide +kernel
theorem dX7_yields_80 : decode cX7_yields 80 = .ok (.iaload, 1) := by decide +kernel
theorem dX7_yields_81 : decode cX7_yields 81 = .ok (.iload_n 2, 1) := by decide +kernel
theorem dX7_yields_82 : decode cX7_yields 82 = .ok (.if_icmp .ne 5, 3) := by decide +kernel
theorem dX7_yields_85 : decode cX7_yields 85 = .ok (.iconst 0, 1) := by decide +kernel
theorem dX7_yields_86 : decode cX7_yields 86 = .ok (.ireturn, 1) := by decide +kernel
theorem dX7_yields_87 : decode cX7_yields 87 = .ok (.aload_n 0, 1) := by decide +kernel
theorem dX7_yields_88 : decode cX7_yields 88 = .ok (.getfield 32, 3) := by decide +kernel
theorem dX7_yields_91 : decode cX7_yields 91 = .ok (.iconst 2, 1) := by decide +kernel
theorem dX7_yields_92 : decode cX7_yields 92 = .ok (.iload_n 1, 1) := by decide +kernel
theorem dX7_yields_93 : decode cX7_yields 93 = .ok (.imul, 1) := by decide +kernel
theorem dX7_yields_94 : decode cX7_yields 94 = .ok (.aload_n 0, 1) := by decide +kernel
theorem dX7_yields_95 : decode cX7_yields 95 = .ok (.getfield 20, 3) := by decide +kernel
theorem dX7_yields_98 : decode cX7_yields 98 = .ok (.iload_n 1, 1) := by decide +kernel
theorem dX7_yields_99 : decode cX7_yields 99 = .ok (.iaload, 1) := by decide +kernel
theorem dX7_yields_100 : decode cX7_yields 100 = .ok (.iadd, 1) := by decide +kernel
theorem dX7_yields_101 : decode cX7_yields 101 = .ok (.iload_n 2, 1) := by decide +kernel
theorem dX7_yields_102 : decode cX7_yields 102 = .ok (.iastore, 1) := by decide +kernel
theorem dX7_yields_103 : decode cX7_yields 103 = .ok (.aload_n 0, 1) := by decide +kernel
theorem dX7_yields_104 : decode cX7_yields 104 = .ok (.getfield 35, 3) := by decide +kernel
theorem dX7_yields_107 : decode cX7_yields 107 = .ok (.iconst 2, 1) := by decide +kernel
theorem dX7_yields_108 : decode cX7_yields 108 = .ok (.iload_n 1, 1) := by decide +kernel
theorem dX7_yields_109 : decode cX7_yields 109 = .ok (.imul, 1) := by decide +kernel
theorem dX7_yields_110 : decode cX7_yields 110 = .ok (.aload_n 0, 1) := by decide +kernel
theorem dX7_yields_111 : decode cX7_yields 111 = .ok (.getfield 20, 3) := by decide +kernel
theorem dX7_yields_114 : decode cX7_yields 114 = .ok (.iload_n 1, 1) := by decide +kernel
theorem dX7_yields_115 : decode cX7_yields 115 = .ok (.iaload, 1) := by decide +kernel
theorem dX7_yields_116 : decode cX7_yields 116 = .ok (.iadd, 1) := by decide +kernel
theorem dX7_yields_117 : decode cX7_yields 117 = .ok (.iload_n 3, 1) := by decide +kernel
theorem dX7_yields_118 : decode cX7_yields 118 = .ok (.iastore, 1) := by decide +kernel
theorem dX7_yields_119 : decode cX7_yields 119 = .ok (.aload_n 0, 1) := by decide +kernel
theorem dX7_yields_120 : decode cX7_yields 120 = .ok (.getfield 38, 3) := by decide +kernel
theorem dX7_yields_123 : decode cX7_yields 123 = .ok (.iconst 2, 1) := by decide +kernel
theorem dX7_yields_124 : decode cX7_yields 124 = .ok (.iload_n 1, 1) := by decide +kernel
theorem dX7_yields_125 : decode cX7_yields 125 = .ok (.imul, 1) := by decide +kernel
theorem dX7_yields_126 : decode cX7_yields 126 = .ok (.aload_n 0, 1) := by decide +kernel
theorem dX7_yields_127 : decode cX7_yields 127 = .ok (.getfield 20, 3) := by decide +kernel
theorem dX7_yields_130 : decode cX7_yields 130 = .ok (.iload_n 1, 1) := by decide +kernel
theorem dX7_yields_131 : decode cX7_yields 131 = .ok (.iaload, 1) := by decide +kernel
theorem dX7_yields_132 : decode cX7_yields 132 = .ok (.iadd, 1) := by decide +kernel
theorem dX7_yields_133 : decode cX7_yields 133 = .ok (.iload 4, 2) := by decide +kernel
theorem dX7_yields_135 : decode cX7_yields 135 = .ok (.iastore, 1) := by decide +kernel
theorem dX7_yields_136 : decode cX7_yields 136 = .ok (.aload_n 0, 1) := by decide +kernel
theorem dX7_yields_137 : decode cX7_yields 137 = .ok (.getfield 20, 3) := by decide +kernel
theorem dX7_yields_140 : decode cX7_yields 140 = .ok (.iload_n 1, 1) := by decide +kernel
theorem dX7_yields_141 : decode cX7_yields 141 = .ok (.dup2, 1) := by decide +kernel
theorem dX7_yields_142 : decode cX7_yields 142 = .ok (.iaload, 1) := by decide +kernel
theorem dX7_yields_143 : decode cX7_yields 143 = .ok (.iconst 1, 1) := by decide +kernel
theorem dX7_yields_144 : decode cX7_yields 144 = .ok (.iadd, 1) := by decide +kernel
theorem dX7_yields_145 : decode cX7_yields 145 = .ok (.iastore, 1) := by decide +kernel
theorem dX7_yields_146 : decode cX7_yields 146 = .ok (.iconst 1, 1) := by decide +kernel
theorem dX7_yields_147 : decode cX7_yields 147 = .ok (.ireturn, 1) := by decide +kernel
theorem dX7_stock_0 : decode cX7_stock 0 = .ok (.lconst 0, 1) := by decide +kernel
theorem dX7_stock_1 : decode cX7_stock 1 = .ok (.lstore_n 2, 1) := by decide +kernel
theorem dX7_stock_2 : decode cX7_stock 2 = .ok (.iconst 0, 1) := by decide +kernel
theorem dX7_stock_3 : decode cX7_stock 3 = .ok (.istore 4, 2) := by decide +kernel
theorem dX7_stock_5 : decode cX7_stock 5 = .ok (.iload 4, 2) := by decide +kernel
theorem dX7_stock_7 : decode cX7_stock 7 = .ok (.aload_n 0, 1) := by decide +kernel
theorem dX7_stock_8 : decode cX7_stock 8 = .ok (.getfield 104, 3) := by decide +kernel
theorem dX7_stock_11 : decode cX7_stock 11 = .ok (.if_icmp .ge 34, 3) := by decide +kernel
theorem dX7_stock_14 : decode cX7_stock 14 = .ok (.lload_n 2, 1) := by decide +kernel
theorem dX7_stock_15 : decode cX7_stock 15 = .ok (.aload_n 0, 1) := by decide +kernel
theorem dX7_stock_16 : decode cX7_stock 16 = .ok (.getfield 41, 3) := by decide +kernel
theorem dX7_stock_19 : decode cX7_stock 19 = .ok (.iload 4, 2) := by decide +kernel
theorem dX7_stock_21 : decode cX7_stock 21 = .ok (.iaload, 1) := by decide +kernel
theorem dX7_stock_22 : decode cX7_stock 22 = .ok (.iload_n 1, 1) := by decide +kernel
theorem dX7_stock_23 : decode cX7_stock 23 = .ok (.if_icmp .ne 13, 3) := by decide +kernel
theorem dX7_stock_26 : decode cX7_stock 26 = .ok (.aload_n 0, 1) := by decide +kernel
theorem dX7_stock_27 : decode cX7_stock 27 = .ok (.getfield 47, 3) := by decide +kernel
theorem dX7_stock_30 : decode cX7_stock 30 = .ok (.iload 4, 2) := by decide +kernel
theorem dX7_stock_32 : decode cX7_stock 32 = .ok (.laload, 1) := by decide +kernel
theorem dX7_stock_33 : decode cX7_stock 33 = .ok (.goto 4, 3) := by decide +kernel
theorem dX7_stock_36 : decode cX7_stock 36 = .ok (.lconst 0, 1) := by decide +kernel
theorem dX7_stock_37 : decode cX7_stock 37 = .ok (.ladd, 1) := by decide +kernel
theorem dX7_stock_38 : decode cX7_stock 38 = .ok (.lstore_n 2, 1) := by decide +kernel
theorem dX7_stock_39 : decode cX7_stock 39 = .ok (.iinc 4 1, 3) := by decide +kernel
theorem dX7_stock_42 : decode cX7_stock 42 = .ok (.goto (-37), 3) := by decide +kernel
theorem dX7_stock_45 : decode cX7_stock 45 = .ok (.lload_n 2, 1) := by decide +kernel
theorem dX7_stock_46 : decode cX7_stock 46 = .ok (.lreturn, 1) := by decide +kernel
theorem dX7_debtOn_0 : decode cX7_debtOn 0 = .ok (.lconst 0, 1) := by decide +kernel
theorem dX7_debtOn_1 : decode cX7_debtOn 1 = .ok (.lstore_n 2, 1) := by decide +kernel
theorem dX7_debtOn_2 : decode cX7_debtOn 2 = .ok (.iconst 0, 1) := by decide +kernel
theorem dX7_debtOn_3 : decode cX7_debtOn 3 = .ok (.istore 4, 2) := by decide +kernel
theorem dX7_debtOn_5 : decode cX7_debtOn 5 = .ok (.iload 4, 2) := by decide +kernel
theorem dX7_debtOn_7 : decode cX7_debtOn 7 = .ok (.aload_n 0, 1) := by decide +kernel
theorem dX7_debtOn_8 : decode cX7_debtOn 8 = .ok (.getfield 104, 3) := by decide +kernel
theorem dX7_debtOn_11 : decode cX7_debtOn 11 = .ok (.if_icmp .ge 34, 3) := by decide +kernel
theorem dX7_debtOn_14 : decode cX7_debtOn 14 = .ok (.lload_n 2, 1) := by decide +kernel
theorem dX7_debtOn_15 : decode cX7_debtOn 15 = .ok (.aload_n 0, 1) := by decide +kernel
theorem dX7_debtOn_16 : decode cX7_debtOn 16 = .ok (.getfield 41, 3) := by decide +kernel
theorem dX7_debtOn_19 : decode cX7_debtOn 19 = .ok (.iload 4, 2) := by decide +kernel
theorem dX7_debtOn_21 : decode cX7_debtOn 21 = .ok (.iaload, 1) := by decide +kernel
theorem dX7_debtOn_22 : decode cX7_debtOn 22 = .ok (.iload_n 1, 1) := by decide +kernel
theorem dX7_debtOn_23 : decode cX7_debtOn 23 = .ok (.if_icmp .ne 13, 3) := by decide +kernel
theorem dX7_debtOn_26 : decode cX7_debtOn 26 = .ok (.aload_n 0, 1) := by decide +kernel
theorem dX7_debtOn_27 : decode cX7_debtOn 27 = .ok (.getfield 51, 3) := by decide +kernel
theorem dX7_debtOn_30 : decode cX7_debtOn 30 = .ok (.iload 4, 2) := by decide +kernel
theorem dX7_debtOn_32 : decode cX7_debtOn 32 = .ok (.laload, 1) := by decide +kernel
theorem dX7_debtOn_33 : decode cX7_debtOn 33 = .ok (.goto 4, 3) := by decide +kernel
theorem dX7_debtOn_36 : decode cX7_debtOn 36 = .ok (.lconst 0, 1) := by decide +kernel
theorem dX7_debtOn_37 : decode cX7_debtOn 37 = .ok (.ladd, 1) := by decide +kernel
theorem dX7_debtOn_38 : decode cX7_debtOn 38 = .ok (.lstore_n 2, 1) := by decide +kernel
theorem dX7_debtOn_39 : decode cX7_debtOn 39 = .ok (.iinc 4 1, 3) := by decide +kernel
theorem dX7_debtOn_42 : decode cX7_debtOn 42 = .ok (.goto (-37), 3) := by decide +kernel
theorem dX7_debtOn_45 : decode cX7_debtOn 45 = .ok (.lload_n 2, 1) := by decide +kernel
theorem dX7_debtOn_46 : decode cX7_debtOn 46 = .ok (.lreturn, 1) := by decide +kernel
theorem dX7_newLot_0 : decode cX7_newLot 0 = .ok (.aload_n 0, 1) := by decide +kernel
theorem dX7_newLot_1 : decode cX7_newLot 1 = .ok (.getfield 41, 3) := by decide +kernel
theorem dX7_newLot_4 : decode cX7_newLot 4 = .ok (.aload_n 0, 1) := by decide +kernel
theorem dX7_newLot_5 : decode cX7_newLot 5 = .ok (.getfield 104, 3) := by decide +kernel
theorem dX7_newLot_8 : decode cX7_newLot 8 = .ok (.iload_n 1, 1) := by decide +kernel
theorem dX7_newLot_9 : decode cX7_newLot 9 = .ok (.iastore, 1) := by decide +kernel
theorem dX7_newLot_10 : decode cX7_newLot 10 = .ok (.aload_n 0, 1) := by decide +kernel
theorem dX7_newLot_11 : decode cX7_newLot 11 = .ok (.getfield 44, 3) := by decide +kernel
theorem dX7_newLot_14 : decode cX7_newLot 14 = .ok (.aload_n 0, 1) := by decide +kernel
theorem dX7_newLot_15 : decode cX7_newLot 15 = .ok (.getfield 104, 3) := by decide +kernel
theorem dX7_newLot_18 : decode cX7_newLot 18 = .ok (.aload_n 0, 1) := by decide +kernel
theorem dX7_newLot_19 : decode cX7_newLot 19 = .ok (.getfield 107, 3) := by decide +kernel
theorem dX7_newLot_22 : decode cX7_newLot 22 = .ok (.iastore, 1) := by decide +kernel
theorem dX7_newLot_23 : decode cX7_newLot 23 = .ok (.aload_n 0, 1) := by decide +kernel
theorem dX7_newLot_24 : decode cX7_newLot 24 = .ok (.getfield 47, 3) := by decide +kernel
theorem dX7_newLot_27 : decode cX7_newLot 27 = .ok (.aload_n 0, 1) := by decide +kernel
theorem dX7_newLot_28 : decode cX7_newLot 28 = .ok (.getfield 104, 3) := by decide +kernel
theorem dX7_newLot_31 : decode cX7_newLot 31 = .ok (.lload_n 2, 1) := by decide +kernel
theorem dX7_newLot_32 : decode cX7_newLot 32 = .ok (.lastore, 1) := by decide +kernel
theorem dX7_newLot_33 : decode cX7_newLot 33 = .ok (.aload_n 0, 1) := by decide +kernel
theorem dX7_newLot_34 : decode cX7_newLot 34 = .ok (.getfield 51, 3) := by decide +kernel
theorem dX7_newLot_37 : decode cX7_newLot 37 = .ok (.aload_n 0, 1) := by decide +kernel
theorem dX7_newLot_38 : decode cX7_newLot 38 = .ok (.getfield 104, 3) := by decide +kernel
theorem dX7_newLot_41 : decode cX7_newLot 41 = .ok (.lload 4, 2) := by decide +kernel
theorem dX7_newLot_43 : decode cX7_newLot 43 = .ok (.lastore, 1) := by decide +kernel
theorem dX7_newLot_44 : decode cX7_newLot 44 = .ok (.aload_n 0, 1) := by decide +kernel
theorem dX7_newLot_45 : decode cX7_newLot 45 = .ok (.dup, 1) := by decide +kernel
theorem dX7_newLot_46 : decode cX7_newLot 46 = .ok (.getfield 104, 3) := by decide +kernel
theorem dX7_newLot_49 : decode cX7_newLot 49 = .ok (.iconst 1, 1) := by decide +kernel
theorem dX7_newLot_50 : decode cX7_newLot 50 = .ok (.iadd, 1) := by decide +kernel
theorem dX7_newLot_51 : decode cX7_newLot 51 = .ok (.putfield 104, 3) := by decide +kernel
theorem dX7_newLot_54 : decode cX7_newLot 54 = .ok (.aload_n 0, 1) := by decide +kernel
theorem dX7_newLot_55 : decode cX7_newLot 55 = .ok (.getfield 104, 3) := by decide +kernel
theorem dX7_newLot_58 : decode cX7_newLot 58 = .ok (.iconst 1, 1) := by decide +kernel
theorem dX7_newLot_59 : decode cX7_newLot 59 = .ok (.isub, 1) := by decide +kernel
theorem dX7_newLot_60 : decode cX7_newLot 60 = .ok (.ireturn, 1) := by decide +kernel
theorem dX7_takeOf_0 : decode cX7_takeOf 0 = .ok (.lload_n 2, 1) := by decide +kernel
theorem dX7_takeOf_1 : decode cX7_takeOf 1 = .ok (.aload_n 0, 1) := by decide +kernel
theorem dX7_takeOf_2 : decode cX7_takeOf 2 = .ok (.getfield 47, 3) := by decide +kernel
theorem dX7_takeOf_5 : decode cX7_takeOf 5 = .ok (.iload_n 1, 1) := by decide +kernel
theorem dX7_takeOf_6 : decode cX7_takeOf 6 = .ok (.laload, 1) := by decide +kernel
theorem dX7_takeOf_7 : decode cX7_takeOf 7 = .ok (.lcmp, 1) := by decide +kernel
theorem dX7_takeOf_8 : decode cX7_takeOf 8 = .ok (.ifCond .ne 12, 3) := by decide +kernel
theorem dX7_takeOf_11 : decode cX7_takeOf 11 = .ok (.aload_n 0, 1) := by decide +kernel
theorem dX7_takeOf_12 : decode cX7_takeOf 12 = .ok (.getfield 51, 3) := by decide +kernel
theorem dX7_takeOf_15 : decode cX7_takeOf 15 = .ok (.iload_n 1, 1) := by decide +kernel
theorem dX7_takeOf_16 : decode cX7_takeOf 16 = .ok (.laload, 1) := by decide +kernel
theorem dX7_takeOf_17 : decode cX7_takeOf 17 = .ok (.goto 18, 3) := by decide +kernel
theorem dX7_takeOf_20 : decode cX7_takeOf 20 = .ok (.aload_n 0, 1) := by decide +kernel
theorem dX7_takeOf_21 : decode cX7_takeOf 21 = .ok (.getfield 51, 3) := by decide +kernel
theorem dX7_takeOf_24 : decode cX7_takeOf 24 = .ok (.iload_n 1, 1) := by decide +kernel
theorem dX7_takeOf_25 : decode cX7_takeOf 25 = .ok (.laload, 1) := by decide +kernel
theorem dX7_takeOf_26 : decode cX7_takeOf 26 = .ok (.lload_n 2, 1) := by decide +kernel
theorem dX7_takeOf_27 : decode cX7_takeOf 27 = .ok (.lmul, 1) := by decide +kernel
theorem dX7_takeOf_28 : decode cX7_takeOf 28 = .ok (.aload_n 0, 1) := by decide +kernel
theorem dX7_takeOf_29 : decode cX7_takeOf 29 = .ok (.getfield 47, 3) := by decide +kernel
theorem dX7_takeOf_32 : decode cX7_takeOf 32 = .ok (.iload_n 1, 1) := by decide +kernel
theorem dX7_takeOf_33 : decode cX7_takeOf 33 = .ok (.laload, 1) := by decide +kernel
theorem dX7_takeOf_34 : decode cX7_takeOf 34 = .ok (.ldiv, 1) := by decide +kernel
theorem dX7_takeOf_35 : decode cX7_takeOf 35 = .ok (.lstore 4, 2) := by decide +kernel
theorem dX7_takeOf_37 : decode cX7_takeOf 37 = .ok (.aload_n 0, 1) := by decide +kernel
theorem dX7_takeOf_38 : decode cX7_takeOf 38 = .ok (.getfield 47, 3) := by decide +kernel
theorem dX7_takeOf_41 : decode cX7_takeOf 41 = .ok (.iload_n 1, 1) := by decide +kernel
theorem dX7_takeOf_42 : decode cX7_takeOf 42 = .ok (.dup2, 1) := by decide +kernel
theorem dX7_takeOf_43 : decode cX7_takeOf 43 = .ok (.laload, 1) := by decide +kernel
theorem dX7_takeOf_44 : decode cX7_takeOf 44 = .ok (.lload_n 2, 1) := by decide +kernel
theorem dX7_takeOf_45 : decode cX7_takeOf 45 = .ok (.lsub, 1) := by decide +kernel
theorem dX7_takeOf_46 : decode cX7_takeOf 46 = .ok (.lastore, 1) := by decide +kernel
theorem dX7_takeOf_47 : decode cX7_takeOf 47 = .ok (.aload_n 0, 1) := by decide +kernel
theorem dX7_takeOf_48 : decode cX7_takeOf 48 = .ok (.getfield 51, 3) := by decide +kernel
theorem dX7_takeOf_51 : decode cX7_takeOf 51 = .ok (.iload_n 1, 1) := by decide +kernel
theorem dX7_takeOf_52 : decode cX7_takeOf 52 = .ok (.dup2, 1) := by decide +kernel
theorem dX7_takeOf_53 : decode cX7_takeOf 53 = .ok (.laload, 1) := by decide +kernel
theorem dX7_takeOf_54 : decode cX7_takeOf 54 = .ok (.lload 4, 2) := by decide +kernel
theorem dX7_takeOf_56 : decode cX7_takeOf 56 = .ok (.lsub, 1) := by decide +kernel
theorem dX7_takeOf_57 : decode cX7_takeOf 57 = .ok (.lastore, 1) := by decide +kernel
theorem dX7_takeOf_58 : decode cX7_takeOf 58 = .ok (.lload 4, 2) := by decide +kernel
theorem dX7_takeOf_60 : decode cX7_takeOf 60 = .ok (.lreturn, 1) := by decide +kernel
set_option maxRecDepth 20000 in
theorem ggX7_take_X7_takeOf : GoodIn wsX7_take wsX7_takeOf := goodIn_r _ [14, 5, 15, 19, 20, 21, 22, 23, 24, 25, 26, 27, 28, 29, 30, 31, 32, 33, 34, 35, 36, 37, 38, 39, 40, 41, 42, 43, 44, 45, 46, 47, 48] (by decide +kernel) (by decide +kernel)
set_option maxRecDepth 20000 in
theorem gX7_take_X7_takeOf : GoodIn wsX7_take (wsV RX7 117 RX7 yX7_takeOf wsX7_takeOf) := goodIn_app (goodIn_of _ (by decide +kernel)) ggX7_take_X7_takeOf
set_option maxRecDepth 20000 in
theorem ggX7_take_X7_up : GoodIn wsX7_take wsX7_up := goodIn_r _ [18] (by decide +kernel) (by decide +kernel)
set_option maxRecDepth 20000 in
theorem gX7_take_X7_up : GoodIn wsX7_take (va_wsS RX7 123 yX7_up wsX7_up) := goodIn_app (goodIn_of _ (by decide +kernel)) ggX7_take_X7_up
theorem dX7_take_0 : decode cX7_take 0 = .ok (.aload_n 0, 1) := by decide +kernel
theorem dX7_take_1 : decode cX7_take 1 = .ok (.lconst 0, 1) := by decide +kernel
theorem dX7_take_2 : decode cX7_take 2 = .ok (.putfield 110, 3) := by decide +kernel
theorem dX7_take_5 : decode cX7_take 5 = .ok (.aload_n 0, 1) := by decide +kernel
theorem dX7_take_6 : decode cX7_take 6 = .ok (.lconst 0, 1) := by decide +kernel
theorem dX7_take_7 : decode cX7_take 7 = .ok (.putfield 114, 3) := by decide +kernel
theorem dX7_take_10 : decode cX7_take 10 = .ok (.lload_n 2, 1) := by decide +kernel
theorem dX7_take_11 : decode cX7_take 11 = .ok (.lstore 4, 2) := by decide +kernel
theorem dX7_take_13 : decode cX7_take 13 = .ok (.iconst 0, 1) := by decide +kernel
theorem dX7_take_14 : decode cX7_take 14 = .ok (.istore 6, 2) := by decide +kernel
theorem dX7_take_16 : decode cX7_take 16 = .ok (.iload 6, 2) := by decide +kernel
theorem dX7_take_18 : decode cX7_take 18 = .ok (.aload_n 0, 1) := by decide +kernel
theorem dX7_take_19 : decode cX7_take 19 = .ok (.getfield 104, 3) := by decide +kernel
theorem dX7_take_22 : decode cX7_take 22 = .ok (.if_icmp .ge 132, 3) := by decide +kernel
theorem dX7_take_25 : decode cX7_take 25 = .ok (.aload_n 0, 1) := by decide +kernel
theorem dX7_take_26 : decode cX7_take 26 = .ok (.getfield 41, 3) := by decide +kernel
theorem dX7_take_29 : decode cX7_take 29 = .ok (.iload 6, 2) := by decide +kernel
theorem dX7_take_31 : decode cX7_take 31 = .ok (.iaload, 1) := by decide +kernel
theorem dX7_take_32 : decode cX7_take 32 = .ok (.iload_n 1, 1) := by decide +kernel
theorem dX7_take_33 : decode cX7_take 33 = .ok (.if_icmp .ne 115, 3) := by decide +kernel
theorem dX7_take_36 : decode cX7_take 36 = .ok (.aload_n 0, 1) := by decide +kernel
theorem dX7_take_37 : decode cX7_take 37 = .ok (.getfield 47, 3) := by decide +kernel
theorem dX7_take_40 : decode cX7_take 40 = .ok (.iload 6, 2) := by decide +kernel
theorem dX7_take_42 : decode cX7_take 42 = .ok (.laload, 1) := by decide +kernel
theorem dX7_take_43 : decode cX7_take 43 = .ok (.lconst 0, 1) := by decide +kernel
theorem dX7_take_44 : decode cX7_take 44 = .ok (.lcmp, 1) := by decide +kernel
theorem dX7_take_45 : decode cX7_take 45 = .ok (.ifCond .eq 103, 3) := by decide +kernel
theorem dX7_take_48 : decode cX7_take 48 = .ok (.lload 4, 2) := by decide +kernel
theorem dX7_take_50 : decode cX7_take 50 = .ok (.lconst 0, 1) := by decide +kernel
theorem dX7_take_51 : decode cX7_take 51 = .ok (.lcmp, 1) := by decide +kernel
theorem dX7_take_52 : decode cX7_take 52 = .ok (.ifCond .ne 6, 3) := by decide +kernel
theorem dX7_take_55 : decode cX7_take 55 = .ok (.goto 93, 3) := by decide +kernel
theorem dX7_take_58 : decode cX7_take 58 = .ok (.aload_n 0, 1) := by decide +kernel
theorem dX7_take_59 : decode cX7_take 59 = .ok (.getfield 47, 3) := by decide +kernel
theorem dX7_take_62 : decode cX7_take 62 = .ok (.iload 6, 2) := by decide +kernel
theorem dX7_take_64 : decode cX7_take 64 = .ok (.laload, 1) := by decide +kernel
theorem dX7_take_65 : decode cX7_take 65 = .ok (.lload 4, 2) := by decide +kernel
theorem dX7_take_67 : decode cX7_take 67 = .ok (.lcmp, 1) := by decide +kernel
theorem dX7_take_68 : decode cX7_take 68 = .ok (.ifCond .ge 13, 3) := by decide +kernel
theorem dX7_take_71 : decode cX7_take 71 = .ok (.aload_n 0, 1) := by decide +kernel
theorem dX7_take_72 : decode cX7_take 72 = .ok (.getfield 47, 3) := by decide +kernel
theorem dX7_take_75 : decode cX7_take 75 = .ok (.iload 6, 2) := by decide +kernel
theorem dX7_take_77 : decode cX7_take 77 = .ok (.laload, 1) := by decide +kernel
theorem dX7_take_78 : decode cX7_take 78 = .ok (.goto 5, 3) := by decide +kernel
theorem dX7_take_81 : decode cX7_take 81 = .ok (.lload 4, 2) := by decide +kernel
theorem dX7_take_83 : decode cX7_take 83 = .ok (.lstore 7, 2) := by decide +kernel
theorem dX7_take_85 : decode cX7_take 85 = .ok (.aload_n 0, 1) := by decide +kernel
theorem dX7_take_86 : decode cX7_take 86 = .ok (.iload 6, 2) := by decide +kernel
theorem dX7_take_88 : decode cX7_take 88 = .ok (.lload 7, 2) := by decide +kernel
theorem dX7_take_90 : decode cX7_take 90 = .ok (.invokevirtual 117, 3) := by decide +kernel
theorem dX7_take_93 : decode cX7_take 93 = .ok (.lstore 9, 2) := by decide +kernel
theorem dX7_take_95 : decode cX7_take 95 = .ok (.aload_n 0, 1) := by decide +kernel
theorem dX7_take_96 : decode cX7_take 96 = .ok (.dup, 1) := by decide +kernel
theorem dX7_take_97 : decode cX7_take 97 = .ok (.getfield 110, 3) := by decide +kernel
theorem dX7_take_100 : decode cX7_take 100 = .ok (.lload 9, 2) := by decide +kernel
theorem dX7_take_102 : decode cX7_take 102 = .ok (.ladd, 1) := by decide +kernel
theorem dX7_take_103 : decode cX7_take 103 = .ok (.putfield 110, 3) := by decide +kernel
theorem dX7_take_106 : decode cX7_take 106 = .ok (.aload_n 0, 1) := by decide +kernel
theorem dX7_take_107 : decode cX7_take 107 = .ok (.dup, 1) := by decide +kernel
theorem dX7_take_108 : decode cX7_take 108 = .ok (.getfield 114, 3) := by decide +kernel
theorem dX7_take_111 : decode cX7_take 111 = .ok (.lload 9, 2) := by decide +kernel
theorem dX7_take_113 : decode cX7_take 113 = .ok (.aload_n 0, 1) := by decide +kernel
theorem dX7_take_114 : decode cX7_take 114 = .ok (.getfield 107, 3) := by decide +kernel
theorem dX7_take_117 : decode cX7_take 117 = .ok (.aload_n 0, 1) := by decide +kernel
theorem dX7_take_118 : decode cX7_take 118 = .ok (.getfield 44, 3) := by decide +kernel
theorem dX7_take_121 : decode cX7_take 121 = .ok (.iload 6, 2) := by decide +kernel
theorem dX7_take_123 : decode cX7_take 123 = .ok (.iaload, 1) := by decide +kernel
theorem dX7_take_124 : decode cX7_take 124 = .ok (.isub, 1) := by decide +kernel
theorem dX7_take_125 : decode cX7_take 125 = .ok (.i2l, 1) := by decide +kernel
theorem dX7_take_126 : decode cX7_take 126 = .ok (.ldc2_w 121, 3) := by decide +kernel
theorem dX7_take_129 : decode cX7_take 129 = .ok (.invokestatic 123, 3) := by decide +kernel
theorem dX7_take_132 : decode cX7_take 132 = .ok (.lmul, 1) := by decide +kernel
theorem dX7_take_133 : decode cX7_take 133 = .ok (.ldc2_w 127, 3) := by decide +kernel
theorem dX7_take_136 : decode cX7_take 136 = .ok (.ldiv, 1) := by decide +kernel
theorem dX7_take_137 : decode cX7_take 137 = .ok (.ladd, 1) := by decide +kernel
theorem dX7_take_138 : decode cX7_take 138 = .ok (.putfield 114, 3) := by decide +kernel
theorem dX7_take_141 : decode cX7_take 141 = .ok (.lload 4, 2) := by decide +kernel
theorem dX7_take_143 : decode cX7_take 143 = .ok (.lload 7, 2) := by decide +kernel
theorem dX7_take_145 : decode cX7_take 145 = .ok (.lsub, 1) := by decide +kernel
theorem dX7_take_146 : decode cX7_take 146 = .ok (.lstore 4, 2) := by decide +kernel
theorem dX7_take_148 : decode cX7_take 148 = .ok (.iinc 6 1, 3) := by decide +kernel
theorem dX7_take_151 : decode cX7_take 151 = .ok (.goto (-135), 3) := by decide +kernel
theorem dX7_take_154 : decode cX7_take 154 = .ok (.return_, 1) := by decide +kernel
set_option maxRecDepth 20000 in
theorem ggX7_in_X7_isGood : GoodIn wsX7_in wsX7_isGood := goodIn_r _ [16, 17, 18, 19, 15, 20] (by decide +kernel) (by decide +kernel)
set_option maxRecDepth 20000 in
theorem gX7_in_X7_isGood : GoodIn wsX7_in (va_wsS RX7 79 yX7_isGood wsX7_isGood) := goodIn_app (goodIn_of _ (by decide +kernel)) ggX7_in_X7_isGood
set_option maxRecDepth 20000 in
theorem ggX7_in_X7_within : GoodIn wsX7_in wsX7_within := goodIn_r _ [20] (by decide +kernel) (by decide +kernel)
set_option maxRecDepth 20000 in
theorem gX7_in_X7_within : GoodIn wsX7_in (va_wsS RX7 75 yX7_within wsX7_within) := goodIn_app (goodIn_of _ (by decide +kernel)) ggX7_in_X7_within
set_option maxRecDepth 20000 in
theorem ggX7_in_X7_newLot : GoodIn wsX7_in wsX7_newLot := goodIn_r _ [24, 25, 3, 26, 9, 11, 27, 32, 33, 34, 35, 36, 37, 38, 39, 40, 41, 42, 43, 44, 45, 46, 47, 48, 49, 50, 51, 52, 53, 54, 55, 56, 57, 58, 59, 60, 61] (by decide +kernel) (by decide +kernel)
set_option maxRecDepth 20000 in
theorem gX7_in_X7_newLot : GoodIn wsX7_in (wsV RX7 134 RX7 yX7_newLot wsX7_newLot) := goodIn_app (goodIn_of _ (by decide +kernel)) ggX7_in_X7_newLot
set_option maxRecDepth 20000 in
theorem ggX7_in_X7_takeOf : GoodIn wsX7_in wsX7_takeOf := goodIn_r _ [31, 11, 27, 32, 33, 34, 35, 36, 37, 38, 39, 40, 41, 42, 43, 44, 45, 46, 47, 48, 49, 50, 51, 52, 53, 54, 55, 56, 57, 58, 59, 60, 61] (by decide +kernel) (by decide +kernel)
set_option maxRecDepth 20000 in
theorem gX7_in_X7_takeOf : GoodIn wsX7_in (wsV RX7 117 RX7 yX7_takeOf wsX7_takeOf) := goodIn_app (goodIn_of _ (by decide +kernel)) ggX7_in_X7_takeOf
theorem dX7_in_0 : decode cX7_in 0 = .ok (.aload_n 0, 1) := by decide +kernel
theorem dX7_in_1 : decode cX7_in 1 = .ok (.iload_n 1, 1) := by decide +kernel
theorem dX7_in_2 : decode cX7_in 2 = .ok (.invokestatic 79, 3) := by decide +kernel
theorem dX7_in_5 : decode cX7_in 5 = .ok (.ifCond .eq 27, 3) := by decide +kernel
theorem dX7_in_8 : decode cX7_in 8 = .ok (.iload_n 2, 1) := by decide +kernel
theorem dX7_in_9 : decode cX7_in 9 = .ok (.i2l, 1) := by decide +kernel
theorem dX7_in_10 : decode cX7_in 10 = .ok (.lconst 1, 1) := by decide +kernel
theorem dX7_in_11 : decode cX7_in 11 = .ok (.ldc2_w 83, 3) := by decide +kernel
theorem dX7_in_14 : decode cX7_in 14 = .ok (.invokestatic 75, 3) := by decide +kernel
theorem dX7_in_17 : decode cX7_in 17 = .ok (.ifCond .eq 15, 3) := by decide +kernel
theorem dX7_in_20 : decode cX7_in 20 = .ok (.iload_n 3, 1) := by decide +kernel
theorem dX7_in_21 : decode cX7_in 21 = .ok (.i2l, 1) := by decide +kernel
theorem dX7_in_22 : decode cX7_in 22 = .ok (.lconst 0, 1) := by decide +kernel
theorem dX7_in_23 : decode cX7_in 23 = .ok (.ldc2_w 129, 3) := by decide +kernel
theorem dX7_in_26 : decode cX7_in 26 = .ok (.invokestatic 75, 3) := by decide +kernel
theorem dX7_in_29 : decode cX7_in 29 = .ok (.ifCond .ne 7, 3) := by decide +kernel
theorem dX7_in_32 : decode cX7_in 32 = .ok (.iconst 1, 1) := by decide +kernel
theorem dX7_in_33 : decode cX7_in 33 = .ok (.goto 18, 3) := by decide +kernel
theorem dX7_in_36 : decode cX7_in 36 = .ok (.aload_n 0, 1) := by decide +kernel
theorem dX7_in_37 : decode cX7_in 37 = .ok (.getfield 104, 3) := by decide +kernel
theorem dX7_in_40 : decode cX7_in 40 = .ok (.sipush 200, 3) := by decide +kernel
theorem dX7_in_43 : decode cX7_in 43 = .ok (.if_icmp .ne 7, 3) := by decide +kernel
theorem dX7_in_46 : decode cX7_in 46 = .ok (.iconst 2, 1) := by decide +kernel
theorem dX7_in_47 : decode cX7_in 47 = .ok (.goto 4, 3) := by decide +kernel
theorem dX7_in_50 : decode cX7_in 50 = .ok (.iconst 0, 1) := by decide +kernel
theorem dX7_in_51 : decode cX7_in 51 = .ok (.putfield 69, 3) := by decide +kernel
theorem dX7_in_54 : decode cX7_in 54 = .ok (.aload_n 0, 1) := by decide +kernel
theorem dX7_in_55 : decode cX7_in 55 = .ok (.getfield 69, 3) := by decide +kernel
theorem dX7_in_58 : decode cX7_in 58 = .ok (.ifCond .le 5, 3) := by decide +kernel
theorem dX7_in_61 : decode cX7_in 61 = .ok (.iconst 0, 1) := by decide +kernel
theorem dX7_in_62 : decode cX7_in 62 = .ok (.ireturn, 1) := by decide +kernel
theorem dX7_in_63 : decode cX7_in 63 = .ok (.aload_n 0, 1) := by decide +kernel
theorem dX7_in_64 : decode cX7_in 64 = .ok (.dup, 1) := by decide +kernel
theorem dX7_in_65 : decode cX7_in 65 = .ok (.getfield 131, 3) := by decide +kernel
theorem dX7_in_68 : decode cX7_in 68 = .ok (.iload_n 3, 1) := by decide +kernel
theorem dX7_in_69 : decode cX7_in 69 = .ok (.i2l, 1) := by decide +kernel
theorem dX7_in_70 : decode cX7_in 70 = .ok (.ladd, 1) := by decide +kernel
theorem dX7_in_71 : decode cX7_in 71 = .ok (.putfield 131, 3) := by decide +kernel
theorem dX7_in_74 : decode cX7_in 74 = .ok (.aload_n 0, 1) := by decide +kernel
theorem dX7_in_75 : decode cX7_in 75 = .ok (.iload_n 1, 1) := by decide +kernel
theorem dX7_in_76 : decode cX7_in 76 = .ok (.iload_n 2, 1) := by decide +kernel
theorem dX7_in_77 : decode cX7_in 77 = .ok (.i2l, 1) := by decide +kernel
theorem dX7_in_78 : decode cX7_in 78 = .ok (.iload_n 3, 1) := by decide +kernel
theorem dX7_in_79 : decode cX7_in 79 = .ok (.i2l, 1) := by decide +kernel
theorem dX7_in_80 : decode cX7_in 80 = .ok (.invokevirtual 134, 3) := by decide +kernel
theorem dX7_in_83 : decode cX7_in 83 = .ok (.istore 4, 2) := by decide +kernel
theorem dX7_in_85 : decode cX7_in 85 = .ok (.iconst 0, 1) := by decide +kernel
theorem dX7_in_86 : decode cX7_in 86 = .ok (.istore 5, 2) := by decide +kernel
theorem dX7_in_88 : decode cX7_in 88 = .ok (.iload 5, 2) := by decide +kernel
theorem dX7_in_90 : decode cX7_in 90 = .ok (.aload_n 0, 1) := by decide +kernel
theorem dX7_in_91 : decode cX7_in 91 = .ok (.getfield 138, 3) := by decide +kernel
theorem dX7_in_94 : decode cX7_in 94 = .ok (.if_icmp .ge 145, 3) := by decide +kernel
theorem dX7_in_97 : decode cX7_in 97 = .ok (.aload_n 0, 1) := by decide +kernel
theorem dX7_in_98 : decode cX7_in 98 = .ok (.getfield 54, 3) := by decide +kernel
theorem dX7_in_101 : decode cX7_in 101 = .ok (.iload 5, 2) := by decide +kernel
theorem dX7_in_103 : decode cX7_in 103 = .ok (.iaload, 1) := by decide +kernel
theorem dX7_in_104 : decode cX7_in 104 = .ok (.iload_n 1, 1) := by decide +kernel
theorem dX7_in_105 : decode cX7_in 105 = .ok (.if_icmp .ne 45, 3) := by decide +kernel
theorem dX7_in_108 : decode cX7_in 108 = .ok (.aload_n 0, 1) := by decide +kernel
theorem dX7_in_109 : decode cX7_in 109 = .ok (.getfield 57, 3) := by decide +kernel
theorem dX7_in_112 : decode cX7_in 112 = .ok (.iload 5, 2) := by decide +kernel
theorem dX7_in_114 : decode cX7_in 114 = .ok (.iaload, 1) := by decide +kernel
theorem dX7_in_115 : decode cX7_in 115 = .ok (.aload_n 0, 1) := by decide +kernel
theorem dX7_in_116 : decode cX7_in 116 = .ok (.getfield 107, 3) := by decide +kernel
theorem dX7_in_119 : decode cX7_in 119 = .ok (.if_icmp .lt 31, 3) := by decide +kernel
theorem dX7_in_122 : decode cX7_in 122 = .ok (.aload_n 0, 1) := by decide +kernel
theorem dX7_in_123 : decode cX7_in 123 = .ok (.getfield 60, 3) := by decide +kernel
theorem dX7_in_126 : decode cX7_in 126 = .ok (.iload 5, 2) := by decide +kernel
theorem dX7_in_128 : decode cX7_in 128 = .ok (.laload, 1) := by decide +kernel
theorem dX7_in_129 : decode cX7_in 129 = .ok (.lconst 0, 1) := by decide +kernel
theorem dX7_in_130 : decode cX7_in 130 = .ok (.lcmp, 1) := by decide +kernel
theorem dX7_in_131 : decode cX7_in 131 = .ok (.ifCond .le 19, 3) := by decide +kernel
theorem dX7_in_134 : decode cX7_in 134 = .ok (.aload_n 0, 1) := by decide +kernel
theorem dX7_in_135 : decode cX7_in 135 = .ok (.getfield 47, 3) := by decide +kernel
theorem dX7_in_138 : decode cX7_in 138 = .ok (.iload 4, 2) := by decide +kernel
theorem dX7_in_140 : decode cX7_in 140 = .ok (.laload, 1) := by decide +kernel
theorem dX7_in_141 : decode cX7_in 141 = .ok (.lconst 0, 1) := by decide +kernel
theorem dX7_in_142 : decode cX7_in 142 = .ok (.lcmp, 1) := by decide +kernel
theorem dX7_in_143 : decode cX7_in 143 = .ok (.ifCond .le 7, 3) := by decide +kernel
theorem dX7_in_146 : decode cX7_in 146 = .ok (.iconst 1, 1) := by decide +kernel
theorem dX7_in_147 : decode cX7_in 147 = .ok (.goto 4, 3) := by decide +kernel
theorem dX7_in_150 : decode cX7_in 150 = .ok (.iconst 0, 1) := by decide +kernel
theorem dX7_in_151 : decode cX7_in 151 = .ok (.istore 6, 2) := by decide +kernel
theorem dX7_in_153 : decode cX7_in 153 = .ok (.iload 6, 2) := by decide +kernel
theorem dX7_in_155 : decode cX7_in 155 = .ok (.ifCond .ne 7, 3) := by decide +kernel
theorem dX7_in_158 : decode cX7_in 158 = .ok (.lconst 0, 1) := by decide +kernel
theorem dX7_in_159 : decode cX7_in 159 = .ok (.goto 38, 3) := by decide +kernel
theorem dX7_in_162 : decode cX7_in 162 = .ok (.aload_n 0, 1) := by decide +kernel
theorem dX7_in_163 : decode cX7_in 163 = .ok (.getfield 60, 3) := by decide +kernel
theorem dX7_in_166 : decode cX7_in 166 = .ok (.iload 5, 2) := by decide +kernel
theorem dX7_in_168 : decode cX7_in 168 = .ok (.laload, 1) := by decide +kernel
theorem dX7_in_169 : decode cX7_in 169 = .ok (.aload_n 0, 1) := by decide +kernel
theorem dX7_in_170 : decode cX7_in 170 = .ok (.getfield 47, 3) := by decide +kernel
theorem dX7_in_173 : decode cX7_in 173 = .ok (.iload 4, 2) := by decide +kernel
theorem dX7_in_175 : decode cX7_in 175 = .ok (.laload, 1) := by decide +kernel
theorem dX7_in_176 : decode cX7_in 176 = .ok (.lcmp, 1) := by decide +kernel
theorem dX7_in_177 : decode cX7_in 177 = .ok (.ifCond .ge 13, 3) := by decide +kernel
theorem dX7_in_180 : decode cX7_in 180 = .ok (.aload_n 0, 1) := by decide +kernel
theorem dX7_in_181 : decode cX7_in 181 = .ok (.getfield 60, 3) := by decide +kernel
theorem dX7_in_184 : decode cX7_in 184 = .ok (.iload 5, 2) := by decide +kernel
theorem dX7_in_186 : decode cX7_in 186 = .ok (.laload, 1) := by decide +kernel
theorem dX7_in_187 : decode cX7_in 187 = .ok (.goto 10, 3) := by decide +kernel
theorem dX7_in_190 : decode cX7_in 190 = .ok (.aload_n 0, 1) := by decide +kernel
theorem dX7_in_191 : decode cX7_in 191 = .ok (.getfield 47, 3) := by decide +kernel
theorem dX7_in_194 : decode cX7_in 194 = .ok (.iload 4, 2) := by decide +kernel
theorem dX7_in_196 : decode cX7_in 196 = .ok (.laload, 1) := by decide +kernel
theorem dX7_in_197 : decode cX7_in 197 = .ok (.lstore 7, 2) := by decide +kernel
theorem dX7_in_199 : decode cX7_in 199 = .ok (.iload 6, 2) := by decide +kernel
theorem dX7_in_201 : decode cX7_in 201 = .ok (.ifCond .eq 20, 3) := by decide +kernel
theorem dX7_in_204 : decode cX7_in 204 = .ok (.aload_n 0, 1) := by decide +kernel
theorem dX7_in_205 : decode cX7_in 205 = .ok (.dup, 1) := by decide +kernel
theorem dX7_in_206 : decode cX7_in 206 = .ok (.getfield 141, 3) := by decide +kernel
theorem dX7_in_209 : decode cX7_in 209 = .ok (.aload_n 0, 1) := by decide +kernel
theorem dX7_in_210 : decode cX7_in 210 = .ok (.iload 4, 2) := by decide +kernel
theorem dX7_in_212 : decode cX7_in 212 = .ok (.lload 7, 2) := by decide +kernel
theorem dX7_in_214 : decode cX7_in 214 = .ok (.invokevirtual 117, 3) := by decide +kernel
theorem dX7_in_217 : decode cX7_in 217 = .ok (.ladd, 1) := by decide +kernel
theorem dX7_in_218 : decode cX7_in 218 = .ok (.putfield 141, 3) := by decide +kernel
theorem dX7_in_221 : decode cX7_in 221 = .ok (.aload_n 0, 1) := by decide +kernel
theorem dX7_in_222 : decode cX7_in 222 = .ok (.getfield 60, 3) := by decide +kernel
theorem dX7_in_225 : decode cX7_in 225 = .ok (.iload 5, 2) := by decide +kernel
theorem dX7_in_227 : decode cX7_in 227 = .ok (.dup2, 1) := by decide +kernel
theorem dX7_in_228 : decode cX7_in 228 = .ok (.laload, 1) := by decide +kernel
theorem dX7_in_229 : decode cX7_in 229 = .ok (.lload 7, 2) := by decide +kernel
theorem dX7_in_231 : decode cX7_in 231 = .ok (.lsub, 1) := by decide +kernel
theorem dX7_in_232 : decode cX7_in 232 = .ok (.lastore, 1) := by decide +kernel
theorem dX7_in_233 : decode cX7_in 233 = .ok (.iinc 5 1, 3) := by decide +kernel
theorem dX7_in_236 : decode cX7_in 236 = .ok (.goto (-148), 3) := by decide +kernel
theorem dX7_in_239 : decode cX7_in 239 = .ok (.iload 4, 2) := by decide +kernel
theorem dX7_in_241 : decode cX7_in 241 = .ok (.ireturn, 1) := by decide +kernel
theorem dX7_amountOf_0 : decode cX7_amountOf 0 = .ok (.iload_n 2, 1) := by decide +kernel
theorem dX7_amountOf_1 : decode cX7_amountOf 1 = .ok (.ifCond .ne 7, 3) := by decide +kernel
theorem dX7_amountOf_4 : decode cX7_amountOf 4 = .ok (.lload_n 3, 1) := by decide +kernel
theorem dX7_amountOf_5 : decode cX7_amountOf 5 = .ok (.goto 32, 3) := by decide +kernel
theorem dX7_amountOf_8 : decode cX7_amountOf 8 = .ok (.lload_n 3, 1) := by decide +kernel
theorem dX7_amountOf_9 : decode cX7_amountOf 9 = .ok (.aload_n 0, 1) := by decide +kernel
theorem dX7_amountOf_10 : decode cX7_amountOf 10 = .ok (.getfield 35, 3) := by decide +kernel
theorem dX7_amountOf_13 : decode cX7_amountOf 13 = .ok (.iconst 2, 1) := by decide +kernel
theorem dX7_amountOf_14 : decode cX7_amountOf 14 = .ok (.iload_n 1, 1) := by decide +kernel
theorem dX7_amountOf_15 : decode cX7_amountOf 15 = .ok (.imul, 1) := by decide +kernel
theorem dX7_amountOf_16 : decode cX7_amountOf 16 = .ok (.iload_n 2, 1) := by decide +kernel
theorem dX7_amountOf_17 : decode cX7_amountOf 17 = .ok (.iadd, 1) := by decide +kernel
theorem dX7_amountOf_18 : decode cX7_amountOf 18 = .ok (.iconst 1, 1) := by decide +kernel
theorem dX7_amountOf_19 : decode cX7_amountOf 19 = .ok (.isub, 1) := by decide +kernel
theorem dX7_amountOf_20 : decode cX7_amountOf 20 = .ok (.iaload, 1) := by decide +kernel
theorem dX7_amountOf_21 : decode cX7_amountOf 21 = .ok (.i2l, 1) := by decide +kernel
theorem dX7_amountOf_22 : decode cX7_amountOf 22 = .ok (.lmul, 1) := by decide +kernel
theorem dX7_amountOf_23 : decode cX7_amountOf 23 = .ok (.aload_n 0, 1) := by decide +kernel
theorem dX7_amountOf_24 : decode cX7_amountOf 24 = .ok (.getfield 38, 3) := by decide +kernel
theorem dX7_amountOf_27 : decode cX7_amountOf 27 = .ok (.iconst 2, 1) := by decide +kernel
theorem dX7_amountOf_28 : decode cX7_amountOf 28 = .ok (.iload_n 1, 1) := by decide +kernel
theorem dX7_amountOf_29 : decode cX7_amountOf 29 = .ok (.imul, 1) := by decide +kernel
theorem dX7_amountOf_30 : decode cX7_amountOf 30 = .ok (.iload_n 2, 1) := by decide +kernel
theorem dX7_amountOf_31 : decode cX7_amountOf 31 = .ok (.iadd, 1) := by decide +kernel
theorem dX7_amountOf_32 : decode cX7_amountOf 32 = .ok (.iconst 1, 1) := by decide +kernel
theorem dX7_amountOf_33 : decode cX7_amountOf 33 = .ok (.isub, 1) := by decide +kernel
theorem dX7_amountOf_34 : decode cX7_amountOf 34 = .ok (.iaload, 1) := by decide +kernel
theorem dX7_amountOf_35 : decode cX7_amountOf 35 = .ok (.i2l, 1) := by decide +kernel
theorem dX7_amountOf_36 : decode cX7_amountOf 36 = .ok (.ldiv, 1) := by decide +kernel
theorem dX7_amountOf_37 : decode cX7_amountOf 37 = .ok (.lreturn, 1) := by decide +kernel
theorem dX7_goodOf_0 : decode cX7_goodOf 0 = .ok (.iload_n 2, 1) := by decide +kernel
theorem dX7_goodOf_1 : decode cX7_goodOf 1 = .ok (.ifCond .ne 7, 3) := by decide +kernel
theorem dX7_goodOf_4 : decode cX7_goodOf 4 = .ok (.iload_n 1, 1) := by decide +kernel
theorem dX7_goodOf_5 : decode cX7_goodOf 5 = .ok (.goto 15, 3) := by decide +kernel
theorem dX7_goodOf_8 : decode cX7_goodOf 8 = .ok (.aload_n 0, 1) := by decide +kernel
theorem dX7_goodOf_9 : decode cX7_goodOf 9 = .ok (.getfield 32, 3) := by decide +kernel
theorem dX7_goodOf_12 : decode cX7_goodOf 12 = .ok (.iconst 2, 1) := by decide +kernel
theorem dX7_goodOf_13 : decode cX7_goodOf 13 = .ok (.iload_n 1, 1) := by decide +kernel
theorem dX7_goodOf_14 : decode cX7_goodOf 14 = .ok (.imul, 1) := by decide +kernel
theorem dX7_goodOf_15 : decode cX7_goodOf 15 = .ok (.iload_n 2, 1) := by decide +kernel
theorem dX7_goodOf_16 : decode cX7_goodOf 16 = .ok (.iadd, 1) := by decide +kernel
theorem dX7_goodOf_17 : decode cX7_goodOf 17 = .ok (.iconst 1, 1) := by decide +kernel
theorem dX7_goodOf_18 : decode cX7_goodOf 18 = .ok (.isub, 1) := by decide +kernel
theorem dX7_goodOf_19 : decode cX7_goodOf 19 = .ok (.iaload, 1) := by decide +kernel
theorem dX7_goodOf_20 : decode cX7_goodOf 20 = .ok (.ireturn, 1) := by decide +kernel
theorem dX7_share_0 : decode cX7_share 0 = .ok (.aload_n 0, 1) := by decide +kernel
theorem dX7_share_1 : decode cX7_share 1 = .ok (.getfield 63, 3) := by decide +kernel
theorem dX7_share_4 : decode cX7_share 4 = .ok (.iconst 0, 1) := by decide +kernel
theorem dX7_share_5 : decode cX7_share 5 = .ok (.laload, 1) := by decide +kernel
theorem dX7_share_6 : decode cX7_share 6 = .ok (.aload_n 0, 1) := by decide +kernel
theorem dX7_share_7 : decode cX7_share 7 = .ok (.getfield 63, 3) := by decide +kernel
theorem dX7_share_10 : decode cX7_share 10 = .ok (.iconst 1, 1) := by decide +kernel
theorem dX7_share_11 : decode cX7_share 11 = .ok (.laload, 1) := by decide +kernel
theorem dX7_share_12 : decode cX7_share 12 = .ok (.ladd, 1) := by decide +kernel
theorem dX7_share_13 : decode cX7_share 13 = .ok (.aload_n 0, 1) := by decide +kernel
theorem dX7_share_14 : decode cX7_share 14 = .ok (.getfield 63, 3) := by decide +kernel
theorem dX7_share_17 : decode cX7_share 17 = .ok (.iconst 2, 1) := by decide +kernel
theorem dX7_share_18 : decode cX7_share 18 = .ok (.laload, 1) := by decide +kernel
theorem dX7_share_19 : decode cX7_share 19 = .ok (.ladd, 1) := by decide +kernel
theorem dX7_share_20 : decode cX7_share 20 = .ok (.lstore 5, 2) := by decide +kernel
theorem dX7_share_22 : decode cX7_share 22 = .ok (.lload 5, 2) := by decide +kernel
theorem dX7_share_24 : decode cX7_share 24 = .ok (.lconst 0, 1) := by decide +kernel
theorem dX7_share_25 : decode cX7_share 25 = .ok (.lcmp, 1) := by decide +kernel
theorem dX7_share_26 : decode cX7_share 26 = .ok (.ifCond .ne 13, 3) := by decide +kernel
theorem dX7_share_29 : decode cX7_share 29 = .ok (.iload_n 1, 1) := by decide +kernel
theorem dX7_share_30 : decode cX7_share 30 = .ok (.ifCond .ne 7, 3) := by decide +kernel
theorem dX7_share_33 : decode cX7_share 33 = .ok (.lload_n 3, 1) := by decide +kernel
theorem dX7_share_34 : decode cX7_share 34 = .ok (.goto 4, 3) := by decide +kernel
theorem dX7_share_37 : decode cX7_share 37 = .ok (.lconst 0, 1) := by decide +kernel
theorem dX7_share_38 : decode cX7_share 38 = .ok (.lreturn, 1) := by decide +kernel
theorem dX7_share_39 : decode cX7_share 39 = .ok (.lload_n 3, 1) := by decide +kernel
theorem dX7_share_40 : decode cX7_share 40 = .ok (.lstore 7, 2) := by decide +kernel
theorem dX7_share_42 : decode cX7_share 42 = .ok (.iconst 0, 1) := by decide +kernel
theorem dX7_share_43 : decode cX7_share 43 = .ok (.istore 9, 2) := by decide +kernel
theorem dX7_share_45 : decode cX7_share 45 = .ok (.iconst 0, 1) := by decide +kernel
theorem dX7_share_46 : decode cX7_share 46 = .ok (.istore 10, 2) := by decide +kernel
theorem dX7_share_48 : decode cX7_share 48 = .ok (.iload 10, 2) := by decide +kernel
theorem dX7_share_50 : decode cX7_share 50 = .ok (.iload_n 2, 1) := by decide +kernel
theorem dX7_share_51 : decode cX7_share 51 = .ok (.if_icmp .ge 82, 3) := by decide +kernel
theorem dX7_share_54 : decode cX7_share 54 = .ok (.lload 7, 2) := by decide +kernel
theorem dX7_share_56 : decode cX7_share 56 = .ok (.lload_n 3, 1) := by decide +kernel
theorem dX7_share_57 : decode cX7_share 57 = .ok (.aload_n 0, 1) := by decide +kernel
theorem dX7_share_58 : decode cX7_share 58 = .ok (.getfield 63, 3) := by decide +kernel
theorem dX7_share_61 : decode cX7_share 61 = .ok (.iload 10, 2) := by decide +kernel
theorem dX7_share_63 : decode cX7_share 63 = .ok (.laload, 1) := by decide +kernel
theorem dX7_share_64 : decode cX7_share 64 = .ok (.lmul, 1) := by decide +kernel
theorem dX7_share_65 : decode cX7_share 65 = .ok (.lload 5, 2) := by decide +kernel
theorem dX7_share_67 : decode cX7_share 67 = .ok (.ldiv, 1) := by decide +kernel
theorem dX7_share_68 : decode cX7_share 68 = .ok (.lsub, 1) := by decide +kernel
theorem dX7_share_69 : decode cX7_share 69 = .ok (.lstore 7, 2) := by decide +kernel
theorem dX7_share_71 : decode cX7_share 71 = .ok (.lload_n 3, 1) := by decide +kernel
theorem dX7_share_72 : decode cX7_share 72 = .ok (.aload_n 0, 1) := by decide +kernel
theorem dX7_share_73 : decode cX7_share 73 = .ok (.getfield 63, 3) := by decide +kernel
theorem dX7_share_76 : decode cX7_share 76 = .ok (.iload 10, 2) := by decide +kernel
theorem dX7_share_78 : decode cX7_share 78 = .ok (.laload, 1) := by decide +kernel
theorem dX7_share_79 : decode cX7_share 79 = .ok (.lmul, 1) := by decide +kernel
theorem dX7_share_80 : decode cX7_share 80 = .ok (.lload 5, 2) := by decide +kernel
theorem dX7_share_82 : decode cX7_share 82 = .ok (.lrem, 1) := by decide +kernel
theorem dX7_share_83 : decode cX7_share 83 = .ok (.lload_n 3, 1) := by decide +kernel
theorem dX7_share_84 : decode cX7_share 84 = .ok (.aload_n 0, 1) := by decide +kernel
theorem dX7_share_85 : decode cX7_share 85 = .ok (.getfield 63, 3) := by decide +kernel
theorem dX7_share_88 : decode cX7_share 88 = .ok (.iload_n 1, 1) := by decide +kernel
theorem dX7_share_89 : decode cX7_share 89 = .ok (.laload, 1) := by decide +kernel
theorem dX7_share_90 : decode cX7_share 90 = .ok (.lmul, 1) := by decide +kernel
theorem dX7_share_91 : decode cX7_share 91 = .ok (.lload 5, 2) := by decide +kernel
theorem dX7_share_93 : decode cX7_share 93 = .ok (.lrem, 1) := by decide +kernel
theorem dX7_share_94 : decode cX7_share 94 = .ok (.lsub, 1) := by decide +kernel
theorem dX7_share_95 : decode cX7_share 95 = .ok (.lstore 11, 2) := by decide +kernel
theorem dX7_share_97 : decode cX7_share 97 = .ok (.iload 9, 2) := by decide +kernel
theorem dX7_share_99 : decode cX7_share 99 = .ok (.lload 11, 2) := by decide +kernel
theorem dX7_share_101 : decode cX7_share 101 = .ok (.lconst 0, 1) := by decide +kernel
theorem dX7_share_102 : decode cX7_share 102 = .ok (.lcmp, 1) := by decide +kernel
theorem dX7_share_103 : decode cX7_share 103 = .ok (.ifCond .gt 16, 3) := by decide +kernel
theorem dX7_share_106 : decode cX7_share 106 = .ok (.lload 11, 2) := by decide +kernel
theorem dX7_share_108 : decode cX7_share 108 = .ok (.lconst 0, 1) := by decide +kernel
theorem dX7_share_109 : decode cX7_share 109 = .ok (.lcmp, 1) := by decide +kernel
theorem dX7_share_110 : decode cX7_share 110 = .ok (.ifCond .ne 13, 3) := by decide +kernel
theorem dX7_share_113 : decode cX7_share 113 = .ok (.iload 10, 2) := by decide +kernel
theorem dX7_share_115 : decode cX7_share 115 = .ok (.iload_n 1, 1) := by decide +kernel
theorem dX7_share_116 : decode cX7_share 116 = .ok (.if_icmp .ge 7, 3) := by decide +kernel
theorem dX7_share_119 : decode cX7_share 119 = .ok (.iconst 1, 1) := by decide +kernel
theorem dX7_share_120 : decode cX7_share 120 = .ok (.goto 4, 3) := by decide +kernel
theorem dX7_share_123 : decode cX7_share 123 = .ok (.iconst 0, 1) := by decide +kernel
theorem dX7_share_124 : decode cX7_share 124 = .ok (.iadd, 1) := by decide +kernel
theorem dX7_share_125 : decode cX7_share 125 = .ok (.istore 9, 2) := by decide +kernel
theorem dX7_share_127 : decode cX7_share 127 = .ok (.iinc 10 1, 3) := by decide +kernel
theorem dX7_share_130 : decode cX7_share 130 = .ok (.goto (-82), 3) := by decide +kernel
theorem dX7_share_133 : decode cX7_share 133 = .ok (.lload_n 3, 1) := by decide +kernel
theorem dX7_share_134 : decode cX7_share 134 = .ok (.aload_n 0, 1) := by decide +kernel
theorem dX7_share_135 : decode cX7_share 135 = .ok (.getfield 63, 3) := by decide +kernel
theorem dX7_share_138 : decode cX7_share 138 = .ok (.iload_n 1, 1) := by decide +kernel
theorem dX7_share_139 : decode cX7_share 139 = .ok (.laload, 1) := by decide +kernel
theorem dX7_share_140 : decode cX7_share 140 = .ok (.lmul, 1) := by decide +kernel
theorem dX7_share_141 : decode cX7_share 141 = .ok (.lload 5, 2) := by decide +kernel
theorem dX7_share_143 : decode cX7_share 143 = .ok (.ldiv, 1) := by decide +kernel
theorem dX7_share_144 : decode cX7_share 144 = .ok (.iload 9, 2) := by decide +kernel
theorem dX7_share_146 : decode cX7_share 146 = .ok (.i2l, 1) := by decide +kernel
theorem dX7_share_147 : decode cX7_share 147 = .ok (.lload 7, 2) := by decide +kernel
theorem dX7_share_149 : decode cX7_share 149 = .ok (.lcmp, 1) := by decide +kernel
theorem dX7_share_150 : decode cX7_share 150 = .ok (.ifCond .ge 7, 3) := by decide +kernel
theorem dX7_share_153 : decode cX7_share 153 = .ok (.lconst 1, 1) := by decide +kernel
theorem dX7_share_154 : decode cX7_share 154 = .ok (.goto 4, 3) := by decide +kernel
theorem dX7_share_157 : decode cX7_share 157 = .ok (.lconst 0, 1) := by decide +kernel
theorem dX7_share_158 : decode cX7_share 158 = .ok (.ladd, 1) := by decide +kernel
theorem dX7_share_159 : decode cX7_share 159 = .ok (.lreturn, 1) := by decide +kernel
set_option maxRecDepth 20000 in
theorem ggX7_made_X7_isGood : GoodIn wsX7_made wsX7_isGood := goodIn_r _ [15, 16, 17, 18, 14, 19] (by decide +kernel) (by decide +kernel)
set_option maxRecDepth 20000 in
theorem gX7_made_X7_isGood : GoodIn wsX7_made (va_wsS RX7 79 yX7_isGood wsX7_isGood) := goodIn_app (goodIn_of _ (by decide +kernel)) ggX7_made_X7_isGood
set_option maxRecDepth 20000 in
theorem ggX7_made_X7_within : GoodIn wsX7_made wsX7_within := goodIn_r _ [19] (by decide +kernel) (by decide +kernel)
set_option maxRecDepth 20000 in
theorem gX7_made_X7_within : GoodIn wsX7_made (va_wsS RX7 75 yX7_within wsX7_within) := goodIn_app (goodIn_of _ (by decide +kernel)) ggX7_made_X7_within
set_option maxRecDepth 20000 in
theorem ggX7_made_X7_amountOf : GoodIn wsX7_made wsX7_amountOf := goodIn_r _ [23, 24, 25, 62, 63, 64, 65, 66, 67, 68, 69, 70, 71, 72, 73, 74, 75, 76, 77, 78, 79, 80, 81, 82, 83, 84, 85, 86, 87, 88, 89, 90, 91] (by decide +kernel) (by decide +kernel)
set_option maxRecDepth 20000 in
theorem gX7_made_X7_amountOf : GoodIn wsX7_made (wsV RX7 144 RX7 yX7_amountOf wsX7_amountOf) := goodIn_app (goodIn_of _ (by decide +kernel)) ggX7_made_X7_amountOf
set_option maxRecDepth 20000 in
theorem ggX7_made_X7_stock : GoodIn wsX7_made wsX7_stock := goodIn_r _ [29, 5, 30, 31, 62, 63, 64, 65, 66, 67, 68, 69, 70, 71, 72, 73, 74, 75, 76, 77, 78, 79, 80, 81, 82, 83, 84, 85, 86, 87, 88, 89, 90, 91] (by decide +kernel) (by decide +kernel)
set_option maxRecDepth 20000 in
theorem gX7_made_X7_stock : GoodIn wsX7_made (wsV RX7 148 RX7 yX7_stock wsX7_stock) := goodIn_app (goodIn_of _ (by decide +kernel)) ggX7_made_X7_stock
set_option maxRecDepth 20000 in
theorem ggX7_made_X7_up : GoodIn wsX7_made wsX7_up := goodIn_r _ [34] (by decide +kernel) (by decide +kernel)
set_option maxRecDepth 20000 in
theorem gX7_made_X7_up : GoodIn wsX7_made (va_wsS RX7 123 yX7_up wsX7_up) := goodIn_app (goodIn_of _ (by decide +kernel)) ggX7_made_X7_up
set_option maxRecDepth 20000 in
theorem ggX7_made_X7_take : GoodIn wsX7_made wsX7_take := goodIn_r _ [38, 9, 39, 5, 30, 31, 40, 41, 42, 43, 44, 45, 46, 14, 47, 48, 32, 33, 34, 62, 63, 64, 65, 66, 67, 68, 69, 70, 71, 72, 73, 74, 75, 76, 77, 78, 79, 80, 81, 82, 83, 84, 85, 86, 87, 88, 89, 90, 91] (by decide +kernel) (by decide +kernel)
set_option maxRecDepth 20000 in
theorem gX7_made_X7_take : GoodIn wsX7_made (wsV RX7 152 RX7 yX7_take wsX7_take) := goodIn_app (goodIn_of _ (by decide +kernel)) ggX7_made_X7_take
set_option maxRecDepth 20000 in
theorem ggX7_made_X7_goodOf : GoodIn wsX7_made wsX7_goodOf := goodIn_r _ [52, 53, 62, 63, 64, 65, 66, 67, 68, 69, 70, 71, 72, 73, 74, 75, 76, 77, 78, 79, 80, 81, 82, 83, 84, 85, 86, 87, 88, 89, 90, 91] (by decide +kernel) (by decide +kernel)
set_option maxRecDepth 20000 in
theorem gX7_made_X7_goodOf : GoodIn wsX7_made (wsV RX7 156 RX7 yX7_goodOf wsX7_goodOf) := goodIn_app (goodIn_of _ (by decide +kernel)) ggX7_made_X7_goodOf
set_option maxRecDepth 20000 in
theorem ggX7_made_X7_share : GoodIn wsX7_made wsX7_share := goodIn_r _ [57, 10, 62, 63, 64, 65, 66, 67, 68, 69, 70, 71, 72, 73, 74, 75, 76, 77, 78, 79, 80, 81, 82, 83, 84, 85, 86, 87, 88, 89, 90, 91] (by decide +kernel) (by decide +kernel)
set_option maxRecDepth 20000 in
theorem gX7_made_X7_share : GoodIn wsX7_made (wsV RX7 160 RX7 yX7_share wsX7_share) := goodIn_app (goodIn_of _ (by decide +kernel)) ggX7_made_X7_share
set_option maxRecDepth 20000 in
theorem ggX7_made_X7_newLot : GoodIn wsX7_made wsX7_newLot := goodIn_r _ [61, 30, 5, 41, 40, 31, 48, 62, 63, 64, 65, 66, 67, 68, 69, 70, 71, 72, 73, 74, 75, 76, 77, 78, 79, 80, 81, 82, 83, 84, 85, 86, 87, 88, 89, 90, 91] (by decide +kernel) (by decide +kernel)
set_option maxRecDepth 20000 in
theorem gX7_made_X7_newLot : GoodIn wsX7_made (wsV RX7 134 RX7 yX7_newLot wsX7_newLot) := goodIn_app (goodIn_of _ (by decide +kernel)) ggX7_made_X7_newLot
theorem dX7_made_0 : decode cX7_made 0 = .ok (.aload_n 0, 1) := by decide +kernel
theorem dX7_made_1 : decode cX7_made 1 = .ok (.iload_n 1, 1) := by decide +kernel
theorem dX7_made_2 : decode cX7_made 2 = .ok (.invokestatic 79, 3) := by decide +kernel
theorem dX7_made_5 : decode cX7_made 5 = .ok (.ifCond .eq 28, 3) := by decide +kernel
theorem dX7_made_8 : decode cX7_made 8 = .ok (.aload_n 0, 1) := by decide +kernel
theorem dX7_made_9 : decode cX7_made 9 = .ok (.getfield 17, 3) := by decide +kernel
theorem dX7_made_12 : decode cX7_made 12 = .ok (.iload_n 1, 1) := by decide +kernel
theorem dX7_made_13 : decode cX7_made 13 = .ok (.iaload, 1) := by decide +kernel
theorem dX7_made_14 : decode cX7_made 14 = .ok (.ifCond .le 19, 3) := by decide +kernel
theorem dX7_made_17 : decode cX7_made 17 = .ok (.iload_n 2, 1) := by decide +kernel
theorem dX7_made_18 : decode cX7_made 18 = .ok (.i2l, 1) := by decide +kernel
theorem dX7_made_19 : decode cX7_made 19 = .ok (.lconst 1, 1) := by decide +kernel
theorem dX7_made_20 : decode cX7_made 20 = .ok (.ldc2_w 83, 3) := by decide +kernel
theorem dX7_made_23 : decode cX7_made 23 = .ok (.invokestatic 75, 3) := by decide +kernel
theorem dX7_made_26 : decode cX7_made 26 = .ok (.ifCond .eq 7, 3) := by decide +kernel
theorem dX7_made_29 : decode cX7_made 29 = .ok (.iconst 0, 1) := by decide +kernel
theorem dX7_made_30 : decode cX7_made 30 = .ok (.goto 4, 3) := by decide +kernel
theorem dX7_made_33 : decode cX7_made 33 = .ok (.iconst 1, 1) := by decide +kernel
theorem dX7_made_34 : decode cX7_made 34 = .ok (.putfield 69, 3) := by decide +kernel
theorem dX7_made_37 : decode cX7_made 37 = .ok (.aload_n 0, 1) := by decide +kernel
theorem dX7_made_38 : decode cX7_made 38 = .ok (.getfield 69, 3) := by decide +kernel
theorem dX7_made_41 : decode cX7_made 41 = .ok (.ifCond .le 5, 3) := by decide +kernel
theorem dX7_made_44 : decode cX7_made 44 = .ok (.iconst 0, 1) := by decide +kernel
theorem dX7_made_45 : decode cX7_made 45 = .ok (.ireturn, 1) := by decide +kernel
theorem dX7_made_46 : decode cX7_made 46 = .ok (.aload_n 0, 1) := by decide +kernel
theorem dX7_made_47 : decode cX7_made 47 = .ok (.getfield 20, 3) := by decide +kernel
theorem dX7_made_50 : decode cX7_made 50 = .ok (.iload_n 1, 1) := by decide +kernel
theorem dX7_made_51 : decode cX7_made 51 = .ok (.iaload, 1) := by decide +kernel
theorem dX7_made_52 : decode cX7_made 52 = .ok (.iconst 1, 1) := by decide +kernel
theorem dX7_made_53 : decode cX7_made 53 = .ok (.iadd, 1) := by decide +kernel
theorem dX7_made_54 : decode cX7_made 54 = .ok (.istore 4, 2) := by decide +kernel
theorem dX7_made_56 : decode cX7_made 56 = .ok (.iconst 0, 1) := by decide +kernel
theorem dX7_made_57 : decode cX7_made 57 = .ok (.istore 5, 2) := by decide +kernel
theorem dX7_made_59 : decode cX7_made 59 = .ok (.iconst 0, 1) := by decide +kernel
theorem dX7_made_60 : decode cX7_made 60 = .ok (.istore 6, 2) := by decide +kernel
theorem dX7_made_62 : decode cX7_made 62 = .ok (.iload 6, 2) := by decide +kernel
theorem dX7_made_64 : decode cX7_made 64 = .ok (.iload 4, 2) := by decide +kernel
theorem dX7_made_66 : decode cX7_made 66 = .ok (.if_icmp .ge 33, 3) := by decide +kernel
theorem dX7_made_69 : decode cX7_made 69 = .ok (.iload 5, 2) := by decide +kernel
theorem dX7_made_71 : decode cX7_made 71 = .ok (.aload_n 0, 1) := by decide +kernel
theorem dX7_made_72 : decode cX7_made 72 = .ok (.iload_n 1, 1) := by decide +kernel
theorem dX7_made_73 : decode cX7_made 73 = .ok (.iload 6, 2) := by decide +kernel
theorem dX7_made_75 : decode cX7_made 75 = .ok (.iload_n 2, 1) := by decide +kernel
theorem dX7_made_76 : decode cX7_made 76 = .ok (.i2l, 1) := by decide +kernel
theorem dX7_made_77 : decode cX7_made 77 = .ok (.invokevirtual 144, 3) := by decide +kernel
theorem dX7_made_80 : decode cX7_made 80 = .ok (.lconst 0, 1) := by decide +kernel
theorem dX7_made_81 : decode cX7_made 81 = .ok (.lcmp, 1) := by decide +kernel
theorem dX7_made_82 : decode cX7_made 82 = .ok (.ifCond .le 7, 3) := by decide +kernel
theorem dX7_made_85 : decode cX7_made 85 = .ok (.iconst 1, 1) := by decide +kernel
theorem dX7_made_86 : decode cX7_made 86 = .ok (.goto 4, 3) := by decide +kernel
theorem dX7_made_89 : decode cX7_made 89 = .ok (.iconst 0, 1) := by decide +kernel
theorem dX7_made_90 : decode cX7_made 90 = .ok (.iadd, 1) := by decide +kernel
theorem dX7_made_91 : decode cX7_made 91 = .ok (.istore 5, 2) := by decide +kernel
theorem dX7_made_93 : decode cX7_made 93 = .ok (.iinc 6 1, 3) := by decide +kernel
theorem dX7_made_96 : decode cX7_made 96 = .ok (.goto (-34), 3) := by decide +kernel
theorem dX7_made_99 : decode cX7_made 99 = .ok (.aload_n 0, 1) := by decide +kernel
theorem dX7_made_100 : decode cX7_made 100 = .ok (.getfield 104, 3) := by decide +kernel
theorem dX7_made_103 : decode cX7_made 103 = .ok (.iload 5, 2) := by decide +kernel
theorem dX7_made_105 : decode cX7_made 105 = .ok (.iadd, 1) := by decide +kernel
theorem dX7_made_106 : decode cX7_made 106 = .ok (.sipush 200, 3) := by decide +kernel
theorem dX7_made_109 : decode cX7_made 109 = .ok (.if_icmp .gt 7, 3) := by decide +kernel
theorem dX7_made_112 : decode cX7_made 112 = .ok (.iconst 1, 1) := by decide +kernel
theorem dX7_made_113 : decode cX7_made 113 = .ok (.goto 4, 3) := by decide +kernel
theorem dX7_made_116 : decode cX7_made 116 = .ok (.iconst 0, 1) := by decide +kernel
theorem dX7_made_117 : decode cX7_made 117 = .ok (.istore 6, 2) := by decide +kernel
theorem dX7_made_119 : decode cX7_made 119 = .ok (.iconst 4, 1) := by decide +kernel
theorem dX7_made_120 : decode cX7_made 120 = .ok (.iload_n 1, 1) := by decide +kernel
theorem dX7_made_121 : decode cX7_made 121 = .ok (.imul, 1) := by decide +kernel
theorem dX7_made_122 : decode cX7_made 122 = .ok (.istore 7, 2) := by decide +kernel
theorem dX7_made_124 : decode cX7_made 124 = .ok (.iload 7, 2) := by decide +kernel
theorem dX7_made_126 : decode cX7_made 126 = .ok (.iconst 4, 1) := by decide +kernel
theorem dX7_made_127 : decode cX7_made 127 = .ok (.iload_n 1, 1) := by decide +kernel
theorem dX7_made_128 : decode cX7_made 128 = .ok (.imul, 1) := by decide +kernel
theorem dX7_made_129 : decode cX7_made 129 = .ok (.aload_n 0, 1) := by decide +kernel
theorem dX7_made_130 : decode cX7_made 130 = .ok (.getfield 17, 3) := by decide +kernel
theorem dX7_made_133 : decode cX7_made 133 = .ok (.iload_n 1, 1) := by decide +kernel
theorem dX7_made_134 : decode cX7_made 134 = .ok (.iaload, 1) := by decide +kernel
theorem dX7_made_135 : decode cX7_made 135 = .ok (.iadd, 1) := by decide +kernel
theorem dX7_made_136 : decode cX7_made 136 = .ok (.if_icmp .ge 58, 3) := by decide +kernel
theorem dX7_made_139 : decode cX7_made 139 = .ok (.iload 6, 2) := by decide +kernel
theorem dX7_made_141 : decode cX7_made 141 = .ok (.ifCond .eq 44, 3) := by decide +kernel
theorem dX7_made_144 : decode cX7_made 144 = .ok (.aload_n 0, 1) := by decide +kernel
theorem dX7_made_145 : decode cX7_made 145 = .ok (.aload_n 0, 1) := by decide +kernel
theorem dX7_made_146 : decode cX7_made 146 = .ok (.getfield 23, 3) := by decide +kernel
theorem dX7_made_149 : decode cX7_made 149 = .ok (.iload 7, 2) := by decide +kernel
theorem dX7_made_151 : decode cX7_made 151 = .ok (.iaload, 1) := by decide +kernel
theorem dX7_made_152 : decode cX7_made 152 = .ok (.invokevirtual 148, 3) := by decide +kernel
theorem dX7_made_155 : decode cX7_made 155 = .ok (.iload_n 2, 1) := by decide +kernel
theorem dX7_made_156 : decode cX7_made 156 = .ok (.i2l, 1) := by decide +kernel
theorem dX7_made_157 : decode cX7_made 157 = .ok (.aload_n 0, 1) := by decide +kernel
theorem dX7_made_158 : decode cX7_made 158 = .ok (.getfield 26, 3) := by decide +kernel
theorem dX7_made_161 : decode cX7_made 161 = .ok (.iload 7, 2) := by decide +kernel
theorem dX7_made_163 : decode cX7_made 163 = .ok (.iaload, 1) := by decide +kernel
theorem dX7_made_164 : decode cX7_made 164 = .ok (.i2l, 1) := by decide +kernel
theorem dX7_made_165 : decode cX7_made 165 = .ok (.lmul, 1) := by decide +kernel
theorem dX7_made_166 : decode cX7_made 166 = .ok (.aload_n 0, 1) := by decide +kernel
theorem dX7_made_167 : decode cX7_made 167 = .ok (.getfield 29, 3) := by decide +kernel
theorem dX7_made_170 : decode cX7_made 170 = .ok (.iload 7, 2) := by decide +kernel
theorem dX7_made_172 : decode cX7_made 172 = .ok (.iaload, 1) := by decide +kernel
theorem dX7_made_173 : decode cX7_made 173 = .ok (.i2l, 1) := by decide +kernel
theorem dX7_made_174 : decode cX7_made 174 = .ok (.invokestatic 123, 3) := by decide +kernel
theorem dX7_made_177 : decode cX7_made 177 = .ok (.lcmp, 1) := by decide +kernel
theorem dX7_made_178 : decode cX7_made 178 = .ok (.ifCond .lt 7, 3) := by decide +kernel
theorem dX7_made_181 : decode cX7_made 181 = .ok (.iconst 1, 1) := by decide +kernel
theorem dX7_made_182 : decode cX7_made 182 = .ok (.goto 4, 3) := by decide +kernel
theorem dX7_made_185 : decode cX7_made 185 = .ok (.iconst 0, 1) := by decide +kernel
theorem dX7_made_186 : decode cX7_made 186 = .ok (.istore 6, 2) := by decide +kernel
theorem dX7_made_188 : decode cX7_made 188 = .ok (.iinc 7 1, 3) := by decide +kernel
theorem dX7_made_191 : decode cX7_made 191 = .ok (.goto (-67), 3) := by decide +kernel
theorem dX7_made_194 : decode cX7_made 194 = .ok (.iload 6, 2) := by decide +kernel
theorem dX7_made_196 : decode cX7_made 196 = .ok (.ifCond .ne 5, 3) := by decide +kernel
theorem dX7_made_199 : decode cX7_made 199 = .ok (.iconst 0, 1) := by decide +kernel
theorem dX7_made_200 : decode cX7_made 200 = .ok (.ireturn, 1) := by decide +kernel
theorem dX7_made_201 : decode cX7_made 201 = .ok (.lconst 0, 1) := by decide +kernel
theorem dX7_made_202 : decode cX7_made 202 = .ok (.lstore 7, 2) := by decide +kernel
theorem dX7_made_204 : decode cX7_made 204 = .ok (.iconst 4, 1) := by decide +kernel
theorem dX7_made_205 : decode cX7_made 205 = .ok (.iload_n 1, 1) := by decide +kernel
theorem dX7_made_206 : decode cX7_made 206 = .ok (.imul, 1) := by decide +kernel
theorem dX7_made_207 : decode cX7_made 207 = .ok (.istore 9, 2) := by decide +kernel
theorem dX7_made_209 : decode cX7_made 209 = .ok (.iload 9, 2) := by decide +kernel
theorem dX7_made_211 : decode cX7_made 211 = .ok (.iconst 4, 1) := by decide +kernel
theorem dX7_made_212 : decode cX7_made 212 = .ok (.iload_n 1, 1) := by decide +kernel
theorem dX7_made_213 : decode cX7_made 213 = .ok (.imul, 1) := by decide +kernel
theorem dX7_made_214 : decode cX7_made 214 = .ok (.aload_n 0, 1) := by decide +kernel
theorem dX7_made_215 : decode cX7_made 215 = .ok (.getfield 17, 3) := by decide +kernel
theorem dX7_made_218 : decode cX7_made 218 = .ok (.iload_n 1, 1) := by decide +kernel
theorem dX7_made_219 : decode cX7_made 219 = .ok (.iaload, 1) := by decide +kernel
theorem dX7_made_220 : decode cX7_made 220 = .ok (.iadd, 1) := by decide +kernel
theorem dX7_made_221 : decode cX7_made 221 = .ok (.if_icmp .ge 51, 3) := by decide +kernel
theorem dX7_made_224 : decode cX7_made 224 = .ok (.aload_n 0, 1) := by decide +kernel
theorem dX7_made_225 : decode cX7_made 225 = .ok (.aload_n 0, 1) := by decide +kernel
theorem dX7_made_226 : decode cX7_made 226 = .ok (.getfield 23, 3) := by decide +kernel
theorem dX7_made_229 : decode cX7_made 229 = .ok (.iload 9, 2) := by decide +kernel
theorem dX7_made_231 : decode cX7_made 231 = .ok (.iaload, 1) := by decide +kernel
theorem dX7_made_232 : decode cX7_made 232 = .ok (.iload_n 2, 1) := by decide +kernel
theorem dX7_made_233 : decode cX7_made 233 = .ok (.i2l, 1) := by decide +kernel
theorem dX7_made_234 : decode cX7_made 234 = .ok (.aload_n 0, 1) := by decide +kernel
theorem dX7_made_235 : decode cX7_made 235 = .ok (.getfield 26, 3) := by decide +kernel
theorem dX7_made_238 : decode cX7_made 238 = .ok (.iload 9, 2) := by decide +kernel
theorem dX7_made_240 : decode cX7_made 240 = .ok (.iaload, 1) := by decide +kernel
theorem dX7_made_241 : decode cX7_made 241 = .ok (.i2l, 1) := by decide +kernel
theorem dX7_made_242 : decode cX7_made 242 = .ok (.lmul, 1) := by decide +kernel
theorem dX7_made_243 : decode cX7_made 243 = .ok (.aload_n 0, 1) := by decide +kernel
theorem dX7_made_244 : decode cX7_made 244 = .ok (.getfield 29, 3) := by decide +kernel
theorem dX7_made_247 : decode cX7_made 247 = .ok (.iload 9, 2) := by decide +kernel
theorem dX7_made_249 : decode cX7_made 249 = .ok (.iaload, 1) := by decide +kernel
theorem dX7_made_250 : decode cX7_made 250 = .ok (.i2l, 1) := by decide +kernel
theorem dX7_made_251 : decode cX7_made 251 = .ok (.invokestatic 123, 3) := by decide +kernel
theorem dX7_made_254 : decode cX7_made 254 = .ok (.invokevirtual 152, 3) := by decide +kernel
theorem dX7_made_257 : decode cX7_made 257 = .ok (.lload 7, 2) := by decide +kernel
theorem dX7_made_259 : decode cX7_made 259 = .ok (.aload_n 0, 1) := by decide +kernel
theorem dX7_made_260 : decode cX7_made 260 = .ok (.getfield 110, 3) := by decide +kernel
theorem dX7_made_263 : decode cX7_made 263 = .ok (.ladd, 1) := by decide +kernel
theorem dX7_made_264 : decode cX7_made 264 = .ok (.lstore 7, 2) := by decide +kernel
theorem dX7_made_266 : decode cX7_made 266 = .ok (.iinc 9 1, 3) := by decide +kernel
theorem dX7_made_269 : decode cX7_made 269 = .ok (.goto (-60), 3) := by decide +kernel
theorem dX7_made_272 : decode cX7_made 272 = .ok (.iconst 0, 1) := by decide +kernel
theorem dX7_made_273 : decode cX7_made 273 = .ok (.istore 9, 2) := by decide +kernel
theorem dX7_made_275 : decode cX7_made 275 = .ok (.iload 9, 2) := by decide +kernel
theorem dX7_made_277 : decode cX7_made 277 = .ok (.iconst 3, 1) := by decide +kernel
theorem dX7_made_278 : decode cX7_made 278 = .ok (.if_icmp .ge 58, 3) := by decide +kernel
theorem dX7_made_281 : decode cX7_made 281 = .ok (.aload_n 0, 1) := by decide +kernel
theorem dX7_made_282 : decode cX7_made 282 = .ok (.getfield 63, 3) := by decide +kernel
theorem dX7_made_285 : decode cX7_made 285 = .ok (.iload 9, 2) := by decide +kernel
theorem dX7_made_287 : decode cX7_made 287 = .ok (.iload 9, 2) := by decide +kernel
theorem dX7_made_289 : decode cX7_made 289 = .ok (.iload 4, 2) := by decide +kernel
theorem dX7_made_291 : decode cX7_made 291 = .ok (.if_icmp .ge 37, 3) := by decide +kernel
theorem dX7_made_294 : decode cX7_made 294 = .ok (.aload_n 0, 1) := by decide +kernel
theorem dX7_made_295 : decode cX7_made 295 = .ok (.iload_n 1, 1) := by decide +kernel
theorem dX7_made_296 : decode cX7_made 296 = .ok (.iload 9, 2) := by decide +kernel
theorem dX7_made_298 : decode cX7_made 298 = .ok (.iload_n 2, 1) := by decide +kernel
theorem dX7_made_299 : decode cX7_made 299 = .ok (.i2l, 1) := by decide +kernel
theorem dX7_made_300 : decode cX7_made 300 = .ok (.invokevirtual 144, 3) := by decide +kernel
theorem dX7_made_303 : decode cX7_made 303 = .ok (.iload_n 3, 1) := by decide +kernel
theorem dX7_made_304 : decode cX7_made 304 = .ok (.ifCond .eq 19, 3) := by decide +kernel
theorem dX7_made_307 : decode cX7_made 307 = .ok (.aload_n 0, 1) := by decide +kernel
theorem dX7_made_308 : decode cX7_made 308 = .ok (.getfield 7, 3) := by decide +kernel
theorem dX7_made_311 : decode cX7_made 311 = .ok (.aload_n 0, 1) := by decide +kernel
theorem dX7_made_312 : decode cX7_made 312 = .ok (.iload_n 1, 1) := by decide +kernel
theorem dX7_made_313 : decode cX7_made 313 = .ok (.iload 9, 2) := by decide +kernel
theorem dX7_made_315 : decode cX7_made 315 = .ok (.invokevirtual 156, 3) := by decide +kernel
theorem dX7_made_318 : decode cX7_made 318 = .ok (.iaload, 1) := by decide +kernel
theorem dX7_made_319 : decode cX7_made 319 = .ok (.i2l, 1) := by decide +kernel
theorem dX7_made_320 : decode cX7_made 320 = .ok (.goto 4, 3) := by decide +kernel
theorem dX7_made_323 : decode cX7_made 323 = .ok (.lconst 1, 1) := by decide +kernel
theorem dX7_made_324 : decode cX7_made 324 = .ok (.lmul, 1) := by decide +kernel
theorem dX7_made_325 : decode cX7_made 325 = .ok (.goto 4, 3) := by decide +kernel
theorem dX7_made_328 : decode cX7_made 328 = .ok (.lconst 0, 1) := by decide +kernel
theorem dX7_made_329 : decode cX7_made 329 = .ok (.lastore, 1) := by decide +kernel
theorem dX7_made_330 : decode cX7_made 330 = .ok (.iinc 9 1, 3) := by decide +kernel
theorem dX7_made_333 : decode cX7_made 333 = .ok (.goto (-58), 3) := by decide +kernel
theorem dX7_made_336 : decode cX7_made 336 = .ok (.iconst 0, 1) := by decide +kernel
theorem dX7_made_337 : decode cX7_made 337 = .ok (.istore 9, 2) := by decide +kernel
theorem dX7_made_339 : decode cX7_made 339 = .ok (.iload 9, 2) := by decide +kernel
theorem dX7_made_341 : decode cX7_made 341 = .ok (.iload 4, 2) := by decide +kernel
theorem dX7_made_343 : decode cX7_made 343 = .ok (.if_icmp .ge 59, 3) := by decide +kernel
theorem dX7_made_346 : decode cX7_made 346 = .ok (.aload_n 0, 1) := by decide +kernel
theorem dX7_made_347 : decode cX7_made 347 = .ok (.iload_n 1, 1) := by decide +kernel
theorem dX7_made_348 : decode cX7_made 348 = .ok (.iload 9, 2) := by decide +kernel
theorem dX7_made_350 : decode cX7_made 350 = .ok (.iload_n 2, 1) := by decide +kernel
theorem dX7_made_351 : decode cX7_made 351 = .ok (.i2l, 1) := by decide +kernel
theorem dX7_made_352 : decode cX7_made 352 = .ok (.invokevirtual 144, 3) := by decide +kernel
theorem dX7_made_355 : decode cX7_made 355 = .ok (.lconst 0, 1) := by decide +kernel
theorem dX7_made_356 : decode cX7_made 356 = .ok (.lcmp, 1) := by decide +kernel
theorem dX7_made_357 : decode cX7_made 357 = .ok (.ifCond .le 36, 3) := by decide +kernel
theorem dX7_made_360 : decode cX7_made 360 = .ok (.aload_n 0, 1) := by decide +kernel
theorem dX7_made_361 : decode cX7_made 361 = .ok (.aload_n 0, 1) := by decide +kernel
theorem dX7_made_362 : decode cX7_made 362 = .ok (.iload_n 1, 1) := by decide +kernel
theorem dX7_made_363 : decode cX7_made 363 = .ok (.iload 9, 2) := by decide +kernel
theorem dX7_made_365 : decode cX7_made 365 = .ok (.invokevirtual 156, 3) := by decide +kernel
theorem dX7_made_368 : decode cX7_made 368 = .ok (.aload_n 0, 1) := by decide +kernel
theorem dX7_made_369 : decode cX7_made 369 = .ok (.iload_n 1, 1) := by decide +kernel
theorem dX7_made_370 : decode cX7_made 370 = .ok (.iload 9, 2) := by decide +kernel
theorem dX7_made_372 : decode cX7_made 372 = .ok (.iload_n 2, 1) := by decide +kernel
theorem dX7_made_373 : decode cX7_made 373 = .ok (.i2l, 1) := by decide +kernel
theorem dX7_made_374 : decode cX7_made 374 = .ok (.invokevirtual 144, 3) := by decide +kernel
theorem dX7_made_377 : decode cX7_made 377 = .ok (.aload_n 0, 1) := by decide +kernel
theorem dX7_made_378 : decode cX7_made 378 = .ok (.iload 9, 2) := by decide +kernel
theorem dX7_made_380 : decode cX7_made 380 = .ok (.iload 4, 2) := by decide +kernel
theorem dX7_made_382 : decode cX7_made 382 = .ok (.lload 7, 2) := by decide +kernel
theorem dX7_made_384 : decode cX7_made 384 = .ok (.invokevirtual 160, 3) := by decide +kernel
theorem dX7_made_387 : decode cX7_made 387 = .ok (.invokevirtual 134, 3) := by decide +kernel
theorem dX7_made_390 : decode cX7_made 390 = .ok (.goto 4, 3) := by decide +kernel
theorem dX7_made_393 : decode cX7_made 393 = .ok (.iconst (-1), 1) := by decide +kernel
theorem dX7_made_394 : decode cX7_made 394 = .ok (.istore 10, 2) := by decide +kernel
theorem dX7_made_396 : decode cX7_made 396 = .ok (.iinc 9 1, 3) := by decide +kernel
theorem dX7_made_399 : decode cX7_made 399 = .ok (.goto (-60), 3) := by decide +kernel
theorem dX7_made_402 : decode cX7_made 402 = .ok (.iconst 1, 1) := by decide +kernel
theorem dX7_made_403 : decode cX7_made 403 = .ok (.ireturn, 1) := by decide +kernel
set_option maxRecDepth 20000 in
theorem ggX7_export_X7_isGood : GoodIn wsX7_export wsX7_isGood := goodIn_r _ [8, 9, 10, 11, 7, 12] (by decide +kernel) (by decide +kernel)
set_option maxRecDepth 20000 in
theorem gX7_export_X7_isGood : GoodIn wsX7_export (va_wsS RX7 79 yX7_isGood wsX7_isGood) := goodIn_app (goodIn_of _ (by decide +kernel)) ggX7_export_X7_isGood
set_option maxRecDepth 20000 in
theorem ggX7_export_X7_stock : GoodIn wsX7_export wsX7_stock := goodIn_r _ [16, 17, 18, 19, 37, 38, 39, 40, 41, 42, 43, 44, 45, 46, 47, 48, 49, 50, 51, 52, 53, 54, 55, 56, 57, 58, 59, 60, 61, 62, 63, 64, 65, 66] (by decide +kernel) (by decide +kernel)
set_option maxRecDepth 20000 in
theorem gX7_export_X7_stock : GoodIn wsX7_export (wsV RX7 148 RX7 yX7_stock wsX7_stock) := goodIn_app (goodIn_of _ (by decide +kernel)) ggX7_export_X7_stock
set_option maxRecDepth 20000 in
theorem ggX7_export_X7_take : GoodIn wsX7_export wsX7_take := goodIn_r _ [23, 4, 24, 17, 18, 19, 25, 26, 27, 28, 29, 30, 31, 7, 32, 33, 34, 35, 36, 37, 38, 39, 40, 41, 42, 43, 44, 45, 46, 47, 48, 49, 50, 51, 52, 53, 54, 55, 56, 57, 58, 59, 60, 61, 62, 63, 64, 65, 66] (by decide +kernel) (by decide +kernel)
set_option maxRecDepth 20000 in
theorem gX7_export_X7_take : GoodIn wsX7_export (wsV RX7 152 RX7 yX7_take wsX7_take) := goodIn_app (goodIn_of _ (by decide +kernel)) ggX7_export_X7_take
theorem dX7_export_0 : decode cX7_export 0 = .ok (.aload_n 0, 1) := by decide +kernel
theorem dX7_export_1 : decode cX7_export 1 = .ok (.iload_n 1, 1) := by decide +kernel
theorem dX7_export_2 : decode cX7_export 2 = .ok (.invokestatic 79, 3) := by decide +kernel
theorem dX7_export_5 : decode cX7_export 5 = .ok (.ifCond .eq 12, 3) := by decide +kernel
theorem dX7_export_8 : decode cX7_export 8 = .ok (.iload_n 2, 1) := by decide +kernel
theorem dX7_export_9 : decode cX7_export 9 = .ok (.iconst 1, 1) := by decide +kernel
theorem dX7_export_10 : decode cX7_export 10 = .ok (.if_icmp .lt 7, 3) := by decide +kernel
theorem dX7_export_13 : decode cX7_export 13 = .ok (.iconst 0, 1) := by decide +kernel
theorem dX7_export_14 : decode cX7_export 14 = .ok (.goto 4, 3) := by decide +kernel
theorem dX7_export_17 : decode cX7_export 17 = .ok (.iconst 1, 1) := by decide +kernel
theorem dX7_export_18 : decode cX7_export 18 = .ok (.putfield 69, 3) := by decide +kernel
theorem dX7_export_21 : decode cX7_export 21 = .ok (.aload_n 0, 1) := by decide +kernel
theorem dX7_export_22 : decode cX7_export 22 = .ok (.getfield 69, 3) := by decide +kernel
theorem dX7_export_25 : decode cX7_export 25 = .ok (.ifCond .le 5, 3) := by decide +kernel
theorem dX7_export_28 : decode cX7_export 28 = .ok (.lconst 0, 1) := by decide +kernel
theorem dX7_export_29 : decode cX7_export 29 = .ok (.lreturn, 1) := by decide +kernel
theorem dX7_export_30 : decode cX7_export 30 = .ok (.aload_n 0, 1) := by decide +kernel
theorem dX7_export_31 : decode cX7_export 31 = .ok (.iload_n 1, 1) := by decide +kernel
theorem dX7_export_32 : decode cX7_export 32 = .ok (.invokevirtual 148, 3) := by decide +kernel
theorem dX7_export_35 : decode cX7_export 35 = .ok (.iload_n 2, 1) := by decide +kernel
theorem dX7_export_36 : decode cX7_export 36 = .ok (.i2l, 1) := by decide +kernel
theorem dX7_export_37 : decode cX7_export 37 = .ok (.lcmp, 1) := by decide +kernel
theorem dX7_export_38 : decode cX7_export 38 = .ok (.ifCond .ge 7, 3) := by decide +kernel
theorem dX7_export_41 : decode cX7_export 41 = .ok (.ldc2_w 163, 3) := by decide +kernel
theorem dX7_export_44 : decode cX7_export 44 = .ok (.lreturn, 1) := by decide +kernel
theorem dX7_export_45 : decode cX7_export 45 = .ok (.aload_n 0, 1) := by decide +kernel
theorem dX7_export_46 : decode cX7_export 46 = .ok (.iload_n 1, 1) := by decide +kernel
theorem dX7_export_47 : decode cX7_export 47 = .ok (.iload_n 2, 1) := by decide +kernel
theorem dX7_export_48 : decode cX7_export 48 = .ok (.i2l, 1) := by decide +kernel
theorem dX7_export_49 : decode cX7_export 49 = .ok (.invokevirtual 152, 3) := by decide +kernel
theorem dX7_export_52 : decode cX7_export 52 = .ok (.aload_n 0, 1) := by decide +kernel
theorem dX7_export_53 : decode cX7_export 53 = .ok (.dup, 1) := by decide +kernel
theorem dX7_export_54 : decode cX7_export 54 = .ok (.getfield 141, 3) := by decide +kernel
theorem dX7_export_57 : decode cX7_export 57 = .ok (.aload_n 0, 1) := by decide +kernel
theorem dX7_export_58 : decode cX7_export 58 = .ok (.getfield 110, 3) := by decide +kernel
theorem dX7_export_61 : decode cX7_export 61 = .ok (.ladd, 1) := by decide +kernel
theorem dX7_export_62 : decode cX7_export 62 = .ok (.putfield 141, 3) := by decide +kernel
theorem dX7_export_65 : decode cX7_export 65 = .ok (.aload_n 0, 1) := by decide +kernel
theorem dX7_export_66 : decode cX7_export 66 = .ok (.getfield 110, 3) := by decide +kernel
theorem dX7_export_69 : decode cX7_export 69 = .ok (.lreturn, 1) := by decide +kernel
set_option maxRecDepth 20000 in
theorem ggX7_release_X7_isGood : GoodIn wsX7_release wsX7_isGood := goodIn_r _ [10, 11, 12, 13, 9, 14] (by decide +kernel) (by decide +kernel)
set_option maxRecDepth 20000 in
theorem gX7_release_X7_isGood : GoodIn wsX7_release (va_wsS RX7 79 yX7_isGood wsX7_isGood) := goodIn_app (goodIn_of _ (by decide +kernel)) ggX7_release_X7_isGood
set_option maxRecDepth 20000 in
theorem ggX7_release_X7_stock : GoodIn wsX7_release wsX7_stock := goodIn_r _ [18, 19, 20, 21, 38, 39, 40, 41, 42, 43, 44, 45, 46, 47, 48, 49, 50, 51, 52, 53, 54, 55, 56, 57, 58, 59, 60, 61, 62, 63, 64, 65, 66, 67] (by decide +kernel) (by decide +kernel)
set_option maxRecDepth 20000 in
theorem gX7_release_X7_stock : GoodIn wsX7_release (wsV RX7 148 RX7 yX7_stock wsX7_stock) := goodIn_app (goodIn_of _ (by decide +kernel)) ggX7_release_X7_stock
set_option maxRecDepth 20000 in
theorem ggX7_release_X7_take : GoodIn wsX7_release wsX7_take := goodIn_r _ [25, 4, 6, 19, 20, 21, 26, 27, 28, 29, 30, 31, 32, 9, 33, 34, 35, 36, 37, 38, 39, 40, 41, 42, 43, 44, 45, 46, 47, 48, 49, 50, 51, 52, 53, 54, 55, 56, 57, 58, 59, 60, 61, 62, 63, 64, 65, 66, 67] (by decide +kernel) (by decide +kernel)
set_option maxRecDepth 20000 in
theorem gX7_release_X7_take : GoodIn wsX7_release (wsV RX7 152 RX7 yX7_take wsX7_take) := goodIn_app (goodIn_of _ (by decide +kernel)) ggX7_release_X7_take
theorem dX7_release_0 : decode cX7_release 0 = .ok (.aload_n 0, 1) := by decide +kernel
theorem dX7_release_1 : decode cX7_release 1 = .ok (.iload_n 1, 1) := by decide +kernel
theorem dX7_release_2 : decode cX7_release 2 = .ok (.invokestatic 79, 3) := by decide +kernel
theorem dX7_release_5 : decode cX7_release 5 = .ok (.ifCond .eq 12, 3) := by decide +kernel
theorem dX7_release_8 : decode cX7_release 8 = .ok (.iload_n 2, 1) := by decide +kernel
theorem dX7_release_9 : decode cX7_release 9 = .ok (.iconst 1, 1) := by decide +kernel
theorem dX7_release_10 : decode cX7_release 10 = .ok (.if_icmp .lt 7, 3) := by decide +kernel
theorem dX7_release_13 : decode cX7_release 13 = .ok (.iconst 0, 1) := by decide +kernel
theorem dX7_release_14 : decode cX7_release 14 = .ok (.goto 4, 3) := by decide +kernel
theorem dX7_release_17 : decode cX7_release 17 = .ok (.iconst 1, 1) := by decide +kernel
theorem dX7_release_18 : decode cX7_release 18 = .ok (.putfield 69, 3) := by decide +kernel
theorem dX7_release_21 : decode cX7_release 21 = .ok (.aload_n 0, 1) := by decide +kernel
theorem dX7_release_22 : decode cX7_release 22 = .ok (.getfield 69, 3) := by decide +kernel
theorem dX7_release_25 : decode cX7_release 25 = .ok (.ifCond .le 5, 3) := by decide +kernel
theorem dX7_release_28 : decode cX7_release 28 = .ok (.lconst 0, 1) := by decide +kernel
theorem dX7_release_29 : decode cX7_release 29 = .ok (.lreturn, 1) := by decide +kernel
theorem dX7_release_30 : decode cX7_release 30 = .ok (.aload_n 0, 1) := by decide +kernel
theorem dX7_release_31 : decode cX7_release 31 = .ok (.iload_n 1, 1) := by decide +kernel
theorem dX7_release_32 : decode cX7_release 32 = .ok (.invokevirtual 148, 3) := by decide +kernel
theorem dX7_release_35 : decode cX7_release 35 = .ok (.iload_n 2, 1) := by decide +kernel
theorem dX7_release_36 : decode cX7_release 36 = .ok (.i2l, 1) := by decide +kernel
theorem dX7_release_37 : decode cX7_release 37 = .ok (.lcmp, 1) := by decide +kernel
theorem dX7_release_38 : decode cX7_release 38 = .ok (.ifCond .ge 7, 3) := by decide +kernel
theorem dX7_release_41 : decode cX7_release 41 = .ok (.ldc2_w 163, 3) := by decide +kernel
theorem dX7_release_44 : decode cX7_release 44 = .ok (.lreturn, 1) := by decide +kernel
theorem dX7_release_45 : decode cX7_release 45 = .ok (.aload_n 0, 1) := by decide +kernel
theorem dX7_release_46 : decode cX7_release 46 = .ok (.iload_n 1, 1) := by decide +kernel
theorem dX7_release_47 : decode cX7_release 47 = .ok (.iload_n 2, 1) := by decide +kernel
theorem dX7_release_48 : decode cX7_release 48 = .ok (.i2l, 1) := by decide +kernel
theorem dX7_release_49 : decode cX7_release 49 = .ok (.invokevirtual 152, 3) := by decide +kernel
theorem dX7_release_52 : decode cX7_release 52 = .ok (.aload_n 0, 1) := by decide +kernel
theorem dX7_release_53 : decode cX7_release 53 = .ok (.dup, 1) := by decide +kernel
theorem dX7_release_54 : decode cX7_release 54 = .ok (.getfield 165, 3) := by decide +kernel
theorem dX7_release_57 : decode cX7_release 57 = .ok (.aload_n 0, 1) := by decide +kernel
theorem dX7_release_58 : decode cX7_release 58 = .ok (.getfield 110, 3) := by decide +kernel
theorem dX7_release_61 : decode cX7_release 61 = .ok (.ladd, 1) := by decide +kernel
theorem dX7_release_62 : decode cX7_release 62 = .ok (.putfield 165, 3) := by decide +kernel
theorem dX7_release_65 : decode cX7_release 65 = .ok (.aload_n 0, 1) := by decide +kernel
theorem dX7_release_66 : decode cX7_release 66 = .ok (.dup, 1) := by decide +kernel
theorem dX7_release_67 : decode cX7_release 67 = .ok (.getfield 168, 3) := by decide +kernel
theorem dX7_release_70 : decode cX7_release 70 = .ok (.aload_n 0, 1) := by decide +kernel
theorem dX7_release_71 : decode cX7_release 71 = .ok (.getfield 114, 3) := by decide +kernel
theorem dX7_release_74 : decode cX7_release 74 = .ok (.ladd, 1) := by decide +kernel
theorem dX7_release_75 : decode cX7_release 75 = .ok (.putfield 168, 3) := by decide +kernel
theorem dX7_release_78 : decode cX7_release 78 = .ok (.aload_n 0, 1) := by decide +kernel
theorem dX7_release_79 : decode cX7_release 79 = .ok (.getfield 110, 3) := by decide +kernel
theorem dX7_release_82 : decode cX7_release 82 = .ok (.aload_n 0, 1) := by decide +kernel
theorem dX7_release_83 : decode cX7_release 83 = .ok (.getfield 114, 3) := by decide +kernel
theorem dX7_release_86 : decode cX7_release 86 = .ok (.ladd, 1) := by decide +kernel
theorem dX7_release_87 : decode cX7_release 87 = .ok (.lreturn, 1) := by decide +kernel
set_option maxRecDepth 20000 in
theorem ggX7_prior_X7_isGood : GoodIn wsX7_prior wsX7_isGood := goodIn_r _ [11, 12, 13, 14, 10, 15] (by decide +kernel) (by decide +kernel)
set_option maxRecDepth 20000 in
theorem gX7_prior_X7_isGood : GoodIn wsX7_prior (va_wsS RX7 79 yX7_isGood wsX7_isGood) := goodIn_app (goodIn_of _ (by decide +kernel)) ggX7_prior_X7_isGood
set_option maxRecDepth 20000 in
theorem ggX7_prior_X7_within : GoodIn wsX7_prior wsX7_within := goodIn_r _ [15] (by decide +kernel) (by decide +kernel)
set_option maxRecDepth 20000 in
theorem gX7_prior_X7_within : GoodIn wsX7_prior (va_wsS RX7 75 yX7_within wsX7_within) := goodIn_app (goodIn_of _ (by decide +kernel)) ggX7_prior_X7_within
theorem dX7_prior_0 : decode cX7_prior 0 = .ok (.aload_n 0, 1) := by decide +kernel
theorem dX7_prior_1 : decode cX7_prior 1 = .ok (.iload_n 1, 1) := by decide +kernel
theorem dX7_prior_2 : decode cX7_prior 2 = .ok (.invokestatic 79, 3) := by decide +kernel
theorem dX7_prior_5 : decode cX7_prior 5 = .ok (.ifCond .eq 27, 3) := by decide +kernel
theorem dX7_prior_8 : decode cX7_prior 8 = .ok (.iload_n 2, 1) := by decide +kernel
theorem dX7_prior_9 : decode cX7_prior 9 = .ok (.i2l, 1) := by decide +kernel
theorem dX7_prior_10 : decode cX7_prior 10 = .ok (.lconst 1, 1) := by decide +kernel
theorem dX7_prior_11 : decode cX7_prior 11 = .ok (.ldc2_w 83, 3) := by decide +kernel
theorem dX7_prior_14 : decode cX7_prior 14 = .ok (.invokestatic 75, 3) := by decide +kernel
theorem dX7_prior_17 : decode cX7_prior 17 = .ok (.ifCond .eq 15, 3) := by decide +kernel
theorem dX7_prior_20 : decode cX7_prior 20 = .ok (.iload_n 3, 1) := by decide +kernel
theorem dX7_prior_21 : decode cX7_prior 21 = .ok (.i2l, 1) := by decide +kernel
theorem dX7_prior_22 : decode cX7_prior 22 = .ok (.lconst 0, 1) := by decide +kernel
theorem dX7_prior_23 : decode cX7_prior 23 = .ok (.ldc2_w 171, 3) := by decide +kernel
theorem dX7_prior_26 : decode cX7_prior 26 = .ok (.invokestatic 75, 3) := by decide +kernel
theorem dX7_prior_29 : decode cX7_prior 29 = .ok (.ifCond .ne 7, 3) := by decide +kernel
theorem dX7_prior_32 : decode cX7_prior 32 = .ok (.iconst 1, 1) := by decide +kernel
theorem dX7_prior_33 : decode cX7_prior 33 = .ok (.goto 17, 3) := by decide +kernel
theorem dX7_prior_36 : decode cX7_prior 36 = .ok (.aload_n 0, 1) := by decide +kernel
theorem dX7_prior_37 : decode cX7_prior 37 = .ok (.getfield 138, 3) := by decide +kernel
theorem dX7_prior_40 : decode cX7_prior 40 = .ok (.bipush 40, 2) := by decide +kernel
theorem dX7_prior_42 : decode cX7_prior 42 = .ok (.if_icmp .ne 7, 3) := by decide +kernel
theorem dX7_prior_45 : decode cX7_prior 45 = .ok (.iconst 2, 1) := by decide +kernel
theorem dX7_prior_46 : decode cX7_prior 46 = .ok (.goto 4, 3) := by decide +kernel
theorem dX7_prior_49 : decode cX7_prior 49 = .ok (.iconst 0, 1) := by decide +kernel
theorem dX7_prior_50 : decode cX7_prior 50 = .ok (.putfield 69, 3) := by decide +kernel
theorem dX7_prior_53 : decode cX7_prior 53 = .ok (.aload_n 0, 1) := by decide +kernel
theorem dX7_prior_54 : decode cX7_prior 54 = .ok (.getfield 69, 3) := by decide +kernel
theorem dX7_prior_57 : decode cX7_prior 57 = .ok (.ifCond .le 5, 3) := by decide +kernel
theorem dX7_prior_60 : decode cX7_prior 60 = .ok (.iconst 0, 1) := by decide +kernel
theorem dX7_prior_61 : decode cX7_prior 61 = .ok (.ireturn, 1) := by decide +kernel
theorem dX7_prior_62 : decode cX7_prior 62 = .ok (.aload_n 0, 1) := by decide +kernel
theorem dX7_prior_63 : decode cX7_prior 63 = .ok (.getfield 54, 3) := by decide +kernel
theorem dX7_prior_66 : decode cX7_prior 66 = .ok (.aload_n 0, 1) := by decide +kernel
theorem dX7_prior_67 : decode cX7_prior 67 = .ok (.getfield 138, 3) := by decide +kernel
theorem dX7_prior_70 : decode cX7_prior 70 = .ok (.iload_n 1, 1) := by decide +kernel
theorem dX7_prior_71 : decode cX7_prior 71 = .ok (.iastore, 1) := by decide +kernel
theorem dX7_prior_72 : decode cX7_prior 72 = .ok (.aload_n 0, 1) := by decide +kernel
theorem dX7_prior_73 : decode cX7_prior 73 = .ok (.getfield 57, 3) := by decide +kernel
theorem dX7_prior_76 : decode cX7_prior 76 = .ok (.aload_n 0, 1) := by decide +kernel
theorem dX7_prior_77 : decode cX7_prior 77 = .ok (.getfield 138, 3) := by decide +kernel
theorem dX7_prior_80 : decode cX7_prior 80 = .ok (.iload_n 3, 1) := by decide +kernel
theorem dX7_prior_81 : decode cX7_prior 81 = .ok (.iastore, 1) := by decide +kernel
theorem dX7_prior_82 : decode cX7_prior 82 = .ok (.aload_n 0, 1) := by decide +kernel
theorem dX7_prior_83 : decode cX7_prior 83 = .ok (.getfield 60, 3) := by decide +kernel
theorem dX7_prior_86 : decode cX7_prior 86 = .ok (.aload_n 0, 1) := by decide +kernel
theorem dX7_prior_87 : decode cX7_prior 87 = .ok (.getfield 138, 3) := by decide +kernel
theorem dX7_prior_90 : decode cX7_prior 90 = .ok (.iload_n 2, 1) := by decide +kernel
theorem dX7_prior_91 : decode cX7_prior 91 = .ok (.i2l, 1) := by decide +kernel
theorem dX7_prior_92 : decode cX7_prior 92 = .ok (.lastore, 1) := by decide +kernel
theorem dX7_prior_93 : decode cX7_prior 93 = .ok (.aload_n 0, 1) := by decide +kernel
theorem dX7_prior_94 : decode cX7_prior 94 = .ok (.dup, 1) := by decide +kernel
theorem dX7_prior_95 : decode cX7_prior 95 = .ok (.getfield 138, 3) := by decide +kernel
theorem dX7_prior_98 : decode cX7_prior 98 = .ok (.iconst 1, 1) := by decide +kernel
theorem dX7_prior_99 : decode cX7_prior 99 = .ok (.iadd, 1) := by decide +kernel
theorem dX7_prior_100 : decode cX7_prior 100 = .ok (.putfield 138, 3) := by decide +kernel
theorem dX7_prior_103 : decode cX7_prior 103 = .ok (.aload_n 0, 1) := by decide +kernel
theorem dX7_prior_104 : decode cX7_prior 104 = .ok (.getfield 138, 3) := by decide +kernel
theorem dX7_prior_107 : decode cX7_prior 107 = .ok (.ireturn, 1) := by decide +kernel
theorem dX7_day_0 : decode cX7_day 0 = .ok (.aload_n 0, 1) := by decide +kernel
theorem dX7_day_1 : decode cX7_day 1 = .ok (.iconst 0, 1) := by decide +kernel
theorem dX7_day_2 : decode cX7_day 2 = .ok (.putfield 69, 3) := by decide +kernel
theorem dX7_day_5 : decode cX7_day 5 = .ok (.iload_n 1, 1) := by decide +kernel
theorem dX7_day_6 : decode cX7_day 6 = .ok (.aload_n 0, 1) := by decide +kernel
theorem dX7_day_7 : decode cX7_day 7 = .ok (.getfield 107, 3) := by decide +kernel
theorem dX7_day_10 : decode cX7_day 10 = .ok (.if_icmp .lt 9, 3) := by decide +kernel
theorem dX7_day_13 : decode cX7_day 13 = .ok (.iload_n 1, 1) := by decide +kernel
theorem dX7_day_14 : decode cX7_day 14 = .ok (.ldc 173, 2) := by decide +kernel
theorem dX7_day_16 : decode cX7_day 16 = .ok (.if_icmp .le 5, 3) := by decide +kernel
theorem dX7_day_19 : decode cX7_day 19 = .ok (.iconst 0, 1) := by decide +kernel
theorem dX7_day_20 : decode cX7_day 20 = .ok (.ireturn, 1) := by decide +kernel
theorem dX7_day_21 : decode cX7_day 21 = .ok (.aload_n 0, 1) := by decide +kernel
theorem dX7_day_22 : decode cX7_day 22 = .ok (.iload_n 1, 1) := by decide +kernel
theorem dX7_day_23 : decode cX7_day 23 = .ok (.putfield 107, 3) := by decide +kernel
theorem dX7_day_26 : decode cX7_day 26 = .ok (.iconst 1, 1) := by decide +kernel
theorem dX7_day_27 : decode cX7_day 27 = .ok (.ireturn, 1) := by decide +kernel
theorem dX7_common_0 : decode cX7_common 0 = .ok (.lload_n 0, 1) := by decide +kernel
theorem dX7_common_1 : decode cX7_common 1 = .ok (.lstore 4, 2) := by decide +kernel
theorem dX7_common_3 : decode cX7_common 3 = .ok (.lload_n 2, 1) := by decide +kernel
theorem dX7_common_4 : decode cX7_common 4 = .ok (.lstore 6, 2) := by decide +kernel
theorem dX7_common_6 : decode cX7_common 6 = .ok (.lload 6, 2) := by decide +kernel
theorem dX7_common_8 : decode cX7_common 8 = .ok (.lconst 0, 1) := by decide +kernel
theorem dX7_common_9 : decode cX7_common 9 = .ok (.lcmp, 1) := by decide +kernel
theorem dX7_common_10 : decode cX7_common 10 = .ok (.ifCond .le 21, 3) := by decide +kernel
theorem dX7_common_13 : decode cX7_common 13 = .ok (.lload 4, 2) := by decide +kernel
theorem dX7_common_15 : decode cX7_common 15 = .ok (.lload 6, 2) := by decide +kernel
theorem dX7_common_17 : decode cX7_common 17 = .ok (.lrem, 1) := by decide +kernel
theorem dX7_common_18 : decode cX7_common 18 = .ok (.lstore 8, 2) := by decide +kernel
theorem dX7_common_20 : decode cX7_common 20 = .ok (.lload 6, 2) := by decide +kernel
theorem dX7_common_22 : decode cX7_common 22 = .ok (.lstore 4, 2) := by decide +kernel
theorem dX7_common_24 : decode cX7_common 24 = .ok (.lload 8, 2) := by decide +kernel
theorem dX7_common_26 : decode cX7_common 26 = .ok (.lstore 6, 2) := by decide +kernel
theorem dX7_common_28 : decode cX7_common 28 = .ok (.goto (-22), 3) := by decide +kernel
theorem dX7_common_31 : decode cX7_common 31 = .ok (.lload 4, 2) := by decide +kernel
theorem dX7_common_33 : decode cX7_common 33 = .ok (.lreturn, 1) := by decide +kernel
set_option maxRecDepth 20000 in
theorem ggX7_chain_X7_isGood : GoodIn wsX7_chain wsX7_isGood := goodIn_r _ [11, 12, 13, 14, 10, 15] (by decide +kernel) (by decide +kernel)
set_option maxRecDepth 20000 in
theorem gX7_chain_X7_isGood : GoodIn wsX7_chain (va_wsS RX7 79 yX7_isGood wsX7_isGood) := goodIn_app (goodIn_of _ (by decide +kernel)) ggX7_chain_X7_isGood
set_option maxRecDepth 20000 in
theorem ggX7_chain_X7_depthOf : GoodIn wsX7_chain wsX7_depthOf := goodIn_r _ [19, 4, 5, 23, 24, 25, 26, 27, 28, 29, 30, 31, 32, 33, 34, 35, 36, 37, 38, 39, 40, 41, 42, 43, 44, 45, 46, 47, 48, 49, 50, 51, 52] (by decide +kernel) (by decide +kernel)
set_option maxRecDepth 20000 in
theorem gX7_chain_X7_depthOf : GoodIn wsX7_chain (wsV RX7 100 RX7 yX7_depthOf wsX7_depthOf) := goodIn_app (goodIn_of _ (by decide +kernel)) ggX7_chain_X7_depthOf
set_option maxRecDepth 20000 in
theorem ggX7_chain_X7_common : GoodIn wsX7_chain wsX7_common := goodIn_r _ [22] (by decide +kernel) (by decide +kernel)
set_option maxRecDepth 20000 in
theorem gX7_chain_X7_common : GoodIn wsX7_chain (va_wsS RX7 176 yX7_common wsX7_common) := goodIn_app (goodIn_of _ (by decide +kernel)) ggX7_chain_X7_common
theorem dX7_chain_0 : decode cX7_chain 0 = .ok (.aload_n 0, 1) := by decide +kernel
theorem dX7_chain_1 : decode cX7_chain 1 = .ok (.iload_n 1, 1) := by decide +kernel
theorem dX7_chain_2 : decode cX7_chain 2 = .ok (.invokestatic 79, 3) := by decide +kernel
theorem dX7_chain_5 : decode cX7_chain 5 = .ok (.ifCond .eq 23, 3) := by decide +kernel
theorem dX7_chain_8 : decode cX7_chain 8 = .ok (.iload_n 2, 1) := by decide +kernel
theorem dX7_chain_9 : decode cX7_chain 9 = .ok (.invokestatic 79, 3) := by decide +kernel
theorem dX7_chain_12 : decode cX7_chain 12 = .ok (.ifCond .eq 16, 3) := by decide +kernel
theorem dX7_chain_15 : decode cX7_chain 15 = .ok (.iload_n 3, 1) := by decide +kernel
theorem dX7_chain_16 : decode cX7_chain 16 = .ok (.ifCond .eq 8, 3) := by decide +kernel
theorem dX7_chain_19 : decode cX7_chain 19 = .ok (.iload_n 3, 1) := by decide +kernel
theorem dX7_chain_20 : decode cX7_chain 20 = .ok (.iconst 1, 1) := by decide +kernel
theorem dX7_chain_21 : decode cX7_chain 21 = .ok (.if_icmp .ne 7, 3) := by decide +kernel
theorem dX7_chain_24 : decode cX7_chain 24 = .ok (.iconst 0, 1) := by decide +kernel
theorem dX7_chain_25 : decode cX7_chain 25 = .ok (.goto 4, 3) := by decide +kernel
theorem dX7_chain_28 : decode cX7_chain 28 = .ok (.iconst 1, 1) := by decide +kernel
theorem dX7_chain_29 : decode cX7_chain 29 = .ok (.putfield 69, 3) := by decide +kernel
theorem dX7_chain_32 : decode cX7_chain 32 = .ok (.aload_n 0, 1) := by decide +kernel
theorem dX7_chain_33 : decode cX7_chain 33 = .ok (.getfield 69, 3) := by decide +kernel
theorem dX7_chain_36 : decode cX7_chain 36 = .ok (.ifCond .le 5, 3) := by decide +kernel
theorem dX7_chain_39 : decode cX7_chain 39 = .ok (.lconst 0, 1) := by decide +kernel
theorem dX7_chain_40 : decode cX7_chain 40 = .ok (.lreturn, 1) := by decide +kernel
theorem dX7_chain_41 : decode cX7_chain 41 = .ok (.iconst 0, 1) := by decide +kernel
theorem dX7_chain_42 : decode cX7_chain 42 = .ok (.istore 4, 2) := by decide +kernel
theorem dX7_chain_44 : decode cX7_chain 44 = .ok (.iload 4, 2) := by decide +kernel
theorem dX7_chain_46 : decode cX7_chain 46 = .ok (.iconst 4, 1) := by decide +kernel
theorem dX7_chain_47 : decode cX7_chain 47 = .ok (.if_icmp .ge 128, 3) := by decide +kernel
theorem dX7_chain_50 : decode cX7_chain 50 = .ok (.iconst 0, 1) := by decide +kernel
theorem dX7_chain_51 : decode cX7_chain 51 = .ok (.istore 5, 2) := by decide +kernel
theorem dX7_chain_53 : decode cX7_chain 53 = .ok (.iload 5, 2) := by decide +kernel
theorem dX7_chain_55 : decode cX7_chain 55 = .ok (.bipush 12, 2) := by decide +kernel
theorem dX7_chain_57 : decode cX7_chain 57 = .ok (.if_icmp .ge 112, 3) := by decide +kernel
theorem dX7_chain_60 : decode cX7_chain 60 = .ok (.aload_n 0, 1) := by decide +kernel
theorem dX7_chain_61 : decode cX7_chain 61 = .ok (.iload 5, 2) := by decide +kernel
theorem dX7_chain_63 : decode cX7_chain 63 = .ok (.invokevirtual 100, 3) := by decide +kernel
theorem dX7_chain_66 : decode cX7_chain 66 = .ok (.iload 4, 2) := by decide +kernel
theorem dX7_chain_68 : decode cX7_chain 68 = .ok (.if_icmp .eq 6, 3) := by decide +kernel
theorem dX7_chain_71 : decode cX7_chain 71 = .ok (.goto 92, 3) := by decide +kernel
theorem dX7_chain_74 : decode cX7_chain 74 = .ok (.aload_n 0, 1) := by decide +kernel
theorem dX7_chain_75 : decode cX7_chain 75 = .ok (.getfield 66, 3) := by decide +kernel
theorem dX7_chain_78 : decode cX7_chain 78 = .ok (.iload 5, 2) := by decide +kernel
theorem dX7_chain_80 : decode cX7_chain 80 = .ok (.iload 5, 2) := by decide +kernel
theorem dX7_chain_82 : decode cX7_chain 82 = .ok (.iload_n 2, 1) := by decide +kernel
theorem dX7_chain_83 : decode cX7_chain 83 = .ok (.if_icmp .ne 9, 3) := by decide +kernel
theorem dX7_chain_86 : decode cX7_chain 86 = .ok (.ldc2_w 174, 3) := by decide +kernel
theorem dX7_chain_89 : decode cX7_chain 89 = .ok (.goto 4, 3) := by decide +kernel
theorem dX7_chain_92 : decode cX7_chain 92 = .ok (.lconst 0, 1) := by decide +kernel
theorem dX7_chain_93 : decode cX7_chain 93 = .ok (.lastore, 1) := by decide +kernel
theorem dX7_chain_94 : decode cX7_chain 94 = .ok (.iconst 4, 1) := by decide +kernel
theorem dX7_chain_95 : decode cX7_chain 95 = .ok (.iload 5, 2) := by decide +kernel
theorem dX7_chain_97 : decode cX7_chain 97 = .ok (.imul, 1) := by decide +kernel
theorem dX7_chain_98 : decode cX7_chain 98 = .ok (.istore 6, 2) := by decide +kernel
theorem dX7_chain_100 : decode cX7_chain 100 = .ok (.iload 6, 2) := by decide +kernel
theorem dX7_chain_102 : decode cX7_chain 102 = .ok (.iconst 4, 1) := by decide +kernel
theorem dX7_chain_103 : decode cX7_chain 103 = .ok (.iload 5, 2) := by decide +kernel
theorem dX7_chain_105 : decode cX7_chain 105 = .ok (.imul, 1) := by decide +kernel
theorem dX7_chain_106 : decode cX7_chain 106 = .ok (.aload_n 0, 1) := by decide +kernel
theorem dX7_chain_107 : decode cX7_chain 107 = .ok (.getfield 17, 3) := by decide +kernel
theorem dX7_chain_110 : decode cX7_chain 110 = .ok (.iload 5, 2) := by decide +kernel
theorem dX7_chain_112 : decode cX7_chain 112 = .ok (.iaload, 1) := by decide +kernel
theorem dX7_chain_113 : decode cX7_chain 113 = .ok (.iadd, 1) := by decide +kernel
theorem dX7_chain_114 : decode cX7_chain 114 = .ok (.if_icmp .ge 49, 3) := by decide +kernel
theorem dX7_chain_117 : decode cX7_chain 117 = .ok (.aload_n 0, 1) := by decide +kernel
theorem dX7_chain_118 : decode cX7_chain 118 = .ok (.getfield 66, 3) := by decide +kernel
theorem dX7_chain_121 : decode cX7_chain 121 = .ok (.iload 5, 2) := by decide +kernel
theorem dX7_chain_123 : decode cX7_chain 123 = .ok (.dup2, 1) := by decide +kernel
theorem dX7_chain_124 : decode cX7_chain 124 = .ok (.laload, 1) := by decide +kernel
theorem dX7_chain_125 : decode cX7_chain 125 = .ok (.aload_n 0, 1) := by decide +kernel
theorem dX7_chain_126 : decode cX7_chain 126 = .ok (.getfield 66, 3) := by decide +kernel
theorem dX7_chain_129 : decode cX7_chain 129 = .ok (.aload_n 0, 1) := by decide +kernel
theorem dX7_chain_130 : decode cX7_chain 130 = .ok (.getfield 23, 3) := by decide +kernel
theorem dX7_chain_133 : decode cX7_chain 133 = .ok (.iload 6, 2) := by decide +kernel
theorem dX7_chain_135 : decode cX7_chain 135 = .ok (.iaload, 1) := by decide +kernel
theorem dX7_chain_136 : decode cX7_chain 136 = .ok (.laload, 1) := by decide +kernel
theorem dX7_chain_137 : decode cX7_chain 137 = .ok (.aload_n 0, 1) := by decide +kernel
theorem dX7_chain_138 : decode cX7_chain 138 = .ok (.getfield 26, 3) := by decide +kernel
theorem dX7_chain_141 : decode cX7_chain 141 = .ok (.iload 6, 2) := by decide +kernel
theorem dX7_chain_143 : decode cX7_chain 143 = .ok (.iaload, 1) := by decide +kernel
theorem dX7_chain_144 : decode cX7_chain 144 = .ok (.i2l, 1) := by decide +kernel
theorem dX7_chain_145 : decode cX7_chain 145 = .ok (.lmul, 1) := by decide +kernel
theorem dX7_chain_146 : decode cX7_chain 146 = .ok (.aload_n 0, 1) := by decide +kernel
theorem dX7_chain_147 : decode cX7_chain 147 = .ok (.getfield 29, 3) := by decide +kernel
theorem dX7_chain_150 : decode cX7_chain 150 = .ok (.iload 6, 2) := by decide +kernel
theorem dX7_chain_152 : decode cX7_chain 152 = .ok (.iaload, 1) := by decide +kernel
theorem dX7_chain_153 : decode cX7_chain 153 = .ok (.i2l, 1) := by decide +kernel
theorem dX7_chain_154 : decode cX7_chain 154 = .ok (.ldiv, 1) := by decide +kernel
theorem dX7_chain_155 : decode cX7_chain 155 = .ok (.ladd, 1) := by decide +kernel
theorem dX7_chain_156 : decode cX7_chain 156 = .ok (.lastore, 1) := by decide +kernel
theorem dX7_chain_157 : decode cX7_chain 157 = .ok (.iinc 6 1, 3) := by decide +kernel
theorem dX7_chain_160 : decode cX7_chain 160 = .ok (.goto (-60), 3) := by decide +kernel
theorem dX7_chain_163 : decode cX7_chain 163 = .ok (.iinc 5 1, 3) := by decide +kernel
theorem dX7_chain_166 : decode cX7_chain 166 = .ok (.goto (-113), 3) := by decide +kernel
theorem dX7_chain_169 : decode cX7_chain 169 = .ok (.iinc 4 1, 3) := by decide +kernel
theorem dX7_chain_172 : decode cX7_chain 172 = .ok (.goto (-128), 3) := by decide +kernel
theorem dX7_chain_175 : decode cX7_chain 175 = .ok (.aload_n 0, 1) := by decide +kernel
theorem dX7_chain_176 : decode cX7_chain 176 = .ok (.getfield 66, 3) := by decide +kernel
theorem dX7_chain_179 : decode cX7_chain 179 = .ok (.iload_n 1, 1) := by decide +kernel
theorem dX7_chain_180 : decode cX7_chain 180 = .ok (.laload, 1) := by decide +kernel
theorem dX7_chain_181 : decode cX7_chain 181 = .ok (.ldc2_w 174, 3) := by decide +kernel
theorem dX7_chain_184 : decode cX7_chain 184 = .ok (.invokestatic 176, 3) := by decide +kernel
theorem dX7_chain_187 : decode cX7_chain 187 = .ok (.lstore 4, 2) := by decide +kernel
theorem dX7_chain_189 : decode cX7_chain 189 = .ok (.iload_n 3, 1) := by decide +kernel
theorem dX7_chain_190 : decode cX7_chain 190 = .ok (.ifCond .ne 15, 3) := by decide +kernel
theorem dX7_chain_193 : decode cX7_chain 193 = .ok (.aload_n 0, 1) := by decide +kernel
theorem dX7_chain_194 : decode cX7_chain 194 = .ok (.getfield 66, 3) := by decide +kernel
theorem dX7_chain_197 : decode cX7_chain 197 = .ok (.iload_n 1, 1) := by decide +kernel
theorem dX7_chain_198 : decode cX7_chain 198 = .ok (.laload, 1) := by decide +kernel
theorem dX7_chain_199 : decode cX7_chain 199 = .ok (.lload 4, 2) := by decide +kernel
theorem dX7_chain_201 : decode cX7_chain 201 = .ok (.ldiv, 1) := by decide +kernel
theorem dX7_chain_202 : decode cX7_chain 202 = .ok (.goto 9, 3) := by decide +kernel
theorem dX7_chain_205 : decode cX7_chain 205 = .ok (.ldc2_w 174, 3) := by decide +kernel
theorem dX7_chain_208 : decode cX7_chain 208 = .ok (.lload 4, 2) := by decide +kernel
theorem dX7_chain_210 : decode cX7_chain 210 = .ok (.ldiv, 1) := by decide +kernel
theorem dX7_chain_211 : decode cX7_chain 211 = .ok (.lreturn, 1) := by decide +kernel
set_option maxRecDepth 20000 in
theorem ggX7_look_X7_isGood : GoodIn wsX7_look wsX7_isGood := goodIn_r _ [19, 20, 21, 22, 18, 23] (by decide +kernel) (by decide +kernel)
set_option maxRecDepth 20000 in
theorem gX7_look_X7_isGood : GoodIn wsX7_look (va_wsS RX7 79 yX7_isGood wsX7_isGood) := goodIn_app (goodIn_of _ (by decide +kernel)) ggX7_look_X7_isGood
set_option maxRecDepth 20000 in
theorem ggX7_look_X7_within : GoodIn wsX7_look wsX7_within := goodIn_r _ [23] (by decide +kernel) (by decide +kernel)
set_option maxRecDepth 20000 in
theorem gX7_look_X7_within : GoodIn wsX7_look (va_wsS RX7 75 yX7_within wsX7_within) := goodIn_app (goodIn_of _ (by decide +kernel)) ggX7_look_X7_within
set_option maxRecDepth 20000 in
theorem ggX7_look_X7_stock : GoodIn wsX7_look wsX7_stock := goodIn_r _ [27, 3, 4, 5, 38, 39, 40, 41, 42, 43, 44, 45, 46, 47, 48, 49, 50, 51, 52, 53, 54, 55, 56, 57, 58, 59, 60, 61, 62, 63, 64, 65, 66, 67] (by decide +kernel) (by decide +kernel)
set_option maxRecDepth 20000 in
theorem gX7_look_X7_stock : GoodIn wsX7_look (wsV RX7 148 RX7 yX7_stock wsX7_stock) := goodIn_app (goodIn_of _ (by decide +kernel)) ggX7_look_X7_stock
set_option maxRecDepth 20000 in
theorem ggX7_look_X7_debtOn : GoodIn wsX7_look wsX7_debtOn := goodIn_r _ [31, 3, 4, 32, 38, 39, 40, 41, 42, 43, 44, 45, 46, 47, 48, 49, 50, 51, 52, 53, 54, 55, 56, 57, 58, 59, 60, 61, 62, 63, 64, 65, 66, 67] (by decide +kernel) (by decide +kernel)
set_option maxRecDepth 20000 in
theorem gX7_look_X7_debtOn : GoodIn wsX7_look (wsV RX7 181 RX7 yX7_debtOn wsX7_debtOn) := goodIn_app (goodIn_of _ (by decide +kernel)) ggX7_look_X7_debtOn
set_option maxRecDepth 20000 in
theorem ggX7_look_X7_depthOf : GoodIn wsX7_look wsX7_depthOf := goodIn_r _ [36, 12, 37, 38, 39, 40, 41, 42, 43, 44, 45, 46, 47, 48, 49, 50, 51, 52, 53, 54, 55, 56, 57, 58, 59, 60, 61, 62, 63, 64, 65, 66, 67] (by decide +kernel) (by decide +kernel)
set_option maxRecDepth 20000 in
theorem gX7_look_X7_depthOf : GoodIn wsX7_look (wsV RX7 100 RX7 yX7_depthOf wsX7_depthOf) := goodIn_app (goodIn_of _ (by decide +kernel)) ggX7_look_X7_depthOf
theorem dX7_look_0 : decode cX7_look 0 = .ok (.aload_n 0, 1) := by decide +kernel
theorem dX7_look_1 : decode cX7_look 1 = .ok (.iload_n 1, 1) := by decide +kernel
theorem dX7_look_2 : decode cX7_look 2 = .ok (.invokestatic 79, 3) := by decide +kernel
theorem dX7_look_5 : decode cX7_look 5 = .ok (.ifCond .eq 19, 3) := by decide +kernel
theorem dX7_look_8 : decode cX7_look 8 = .ok (.iload_n 2, 1) := by decide +kernel
theorem dX7_look_9 : decode cX7_look 9 = .ok (.i2l, 1) := by decide +kernel
theorem dX7_look_10 : decode cX7_look 10 = .ok (.lconst 0, 1) := by decide +kernel
theorem dX7_look_11 : decode cX7_look 11 = .ok (.ldc2_w 179, 3) := by decide +kernel
theorem dX7_look_14 : decode cX7_look 14 = .ok (.invokestatic 75, 3) := by decide +kernel
theorem dX7_look_17 : decode cX7_look 17 = .ok (.ifCond .eq 7, 3) := by decide +kernel
theorem dX7_look_20 : decode cX7_look 20 = .ok (.iconst 0, 1) := by decide +kernel
theorem dX7_look_21 : decode cX7_look 21 = .ok (.goto 4, 3) := by decide +kernel
theorem dX7_look_24 : decode cX7_look 24 = .ok (.iconst 1, 1) := by decide +kernel
theorem dX7_look_25 : decode cX7_look 25 = .ok (.putfield 69, 3) := by decide +kernel
theorem dX7_look_28 : decode cX7_look 28 = .ok (.aload_n 0, 1) := by decide +kernel
theorem dX7_look_29 : decode cX7_look 29 = .ok (.getfield 69, 3) := by decide +kernel
theorem dX7_look_32 : decode cX7_look 32 = .ok (.ifCond .le 5, 3) := by decide +kernel
theorem dX7_look_35 : decode cX7_look 35 = .ok (.lconst 0, 1) := by decide +kernel
theorem dX7_look_36 : decode cX7_look 36 = .ok (.lreturn, 1) := by decide +kernel
theorem dX7_look_37 : decode cX7_look 37 = .ok (.iconst 0, 1) := by decide +kernel
theorem dX7_look_38 : decode cX7_look 38 = .ok (.istore_n 3, 1) := by decide +kernel
theorem dX7_look_39 : decode cX7_look 39 = .ok (.iconst 0, 1) := by decide +kernel
theorem dX7_look_40 : decode cX7_look 40 = .ok (.istore 4, 2) := by decide +kernel
theorem dX7_look_42 : decode cX7_look 42 = .ok (.iload 4, 2) := by decide +kernel
theorem dX7_look_44 : decode cX7_look 44 = .ok (.aload_n 0, 1) := by decide +kernel
theorem dX7_look_45 : decode cX7_look 45 = .ok (.getfield 104, 3) := by decide +kernel
theorem dX7_look_48 : decode cX7_look 48 = .ok (.if_icmp .ge 40, 3) := by decide +kernel
theorem dX7_look_51 : decode cX7_look 51 = .ok (.iload_n 3, 1) := by decide +kernel
theorem dX7_look_52 : decode cX7_look 52 = .ok (.aload_n 0, 1) := by decide +kernel
theorem dX7_look_53 : decode cX7_look 53 = .ok (.getfield 41, 3) := by decide +kernel
theorem dX7_look_56 : decode cX7_look 56 = .ok (.iload 4, 2) := by decide +kernel
theorem dX7_look_58 : decode cX7_look 58 = .ok (.iaload, 1) := by decide +kernel
theorem dX7_look_59 : decode cX7_look 59 = .ok (.iload_n 1, 1) := by decide +kernel
theorem dX7_look_60 : decode cX7_look 60 = .ok (.if_icmp .ne 19, 3) := by decide +kernel
theorem dX7_look_63 : decode cX7_look 63 = .ok (.aload_n 0, 1) := by decide +kernel
theorem dX7_look_64 : decode cX7_look 64 = .ok (.getfield 47, 3) := by decide +kernel
theorem dX7_look_67 : decode cX7_look 67 = .ok (.iload 4, 2) := by decide +kernel
theorem dX7_look_69 : decode cX7_look 69 = .ok (.laload, 1) := by decide +kernel
theorem dX7_look_70 : decode cX7_look 70 = .ok (.lconst 0, 1) := by decide +kernel
theorem dX7_look_71 : decode cX7_look 71 = .ok (.lcmp, 1) := by decide +kernel
theorem dX7_look_72 : decode cX7_look 72 = .ok (.ifCond .le 7, 3) := by decide +kernel
theorem dX7_look_75 : decode cX7_look 75 = .ok (.iconst 1, 1) := by decide +kernel
theorem dX7_look_76 : decode cX7_look 76 = .ok (.goto 4, 3) := by decide +kernel
theorem dX7_look_79 : decode cX7_look 79 = .ok (.iconst 0, 1) := by decide +kernel
theorem dX7_look_80 : decode cX7_look 80 = .ok (.iadd, 1) := by decide +kernel
theorem dX7_look_81 : decode cX7_look 81 = .ok (.istore_n 3, 1) := by decide +kernel
theorem dX7_look_82 : decode cX7_look 82 = .ok (.iinc 4 1, 3) := by decide +kernel
theorem dX7_look_85 : decode cX7_look 85 = .ok (.goto (-43), 3) := by decide +kernel
theorem dX7_look_88 : decode cX7_look 88 = .ok (.lconst 0, 1) := by decide +kernel
theorem dX7_look_89 : decode cX7_look 89 = .ok (.lstore 4, 2) := by decide +kernel
theorem dX7_look_91 : decode cX7_look 91 = .ok (.iconst 0, 1) := by decide +kernel
theorem dX7_look_92 : decode cX7_look 92 = .ok (.istore 6, 2) := by decide +kernel
theorem dX7_look_94 : decode cX7_look 94 = .ok (.iload 6, 2) := by decide +kernel
theorem dX7_look_96 : decode cX7_look 96 = .ok (.aload_n 0, 1) := by decide +kernel
theorem dX7_look_97 : decode cX7_look 97 = .ok (.getfield 138, 3) := by decide +kernel
theorem dX7_look_100 : decode cX7_look 100 = .ok (.if_icmp .ge 50, 3) := by decide +kernel
theorem dX7_look_103 : decode cX7_look 103 = .ok (.lload 4, 2) := by decide +kernel
theorem dX7_look_105 : decode cX7_look 105 = .ok (.aload_n 0, 1) := by decide +kernel
theorem dX7_look_106 : decode cX7_look 106 = .ok (.getfield 54, 3) := by decide +kernel
theorem dX7_look_109 : decode cX7_look 109 = .ok (.iload 6, 2) := by decide +kernel
theorem dX7_look_111 : decode cX7_look 111 = .ok (.iaload, 1) := by decide +kernel
theorem dX7_look_112 : decode cX7_look 112 = .ok (.iload_n 1, 1) := by decide +kernel
theorem dX7_look_113 : decode cX7_look 113 = .ok (.if_icmp .ne 27, 3) := by decide +kernel
theorem dX7_look_116 : decode cX7_look 116 = .ok (.aload_n 0, 1) := by decide +kernel
theorem dX7_look_117 : decode cX7_look 117 = .ok (.getfield 57, 3) := by decide +kernel
theorem dX7_look_120 : decode cX7_look 120 = .ok (.iload 6, 2) := by decide +kernel
theorem dX7_look_122 : decode cX7_look 122 = .ok (.iaload, 1) := by decide +kernel
theorem dX7_look_123 : decode cX7_look 123 = .ok (.aload_n 0, 1) := by decide +kernel
theorem dX7_look_124 : decode cX7_look 124 = .ok (.getfield 107, 3) := by decide +kernel
theorem dX7_look_127 : decode cX7_look 127 = .ok (.if_icmp .lt 13, 3) := by decide +kernel
theorem dX7_look_130 : decode cX7_look 130 = .ok (.aload_n 0, 1) := by decide +kernel
theorem dX7_look_131 : decode cX7_look 131 = .ok (.getfield 60, 3) := by decide +kernel
theorem dX7_look_134 : decode cX7_look 134 = .ok (.iload 6, 2) := by decide +kernel
theorem dX7_look_136 : decode cX7_look 136 = .ok (.laload, 1) := by decide +kernel
theorem dX7_look_137 : decode cX7_look 137 = .ok (.goto 4, 3) := by decide +kernel
theorem dX7_look_140 : decode cX7_look 140 = .ok (.lconst 0, 1) := by decide +kernel
theorem dX7_look_141 : decode cX7_look 141 = .ok (.ladd, 1) := by decide +kernel
theorem dX7_look_142 : decode cX7_look 142 = .ok (.lstore 4, 2) := by decide +kernel
theorem dX7_look_144 : decode cX7_look 144 = .ok (.iinc 6 1, 3) := by decide +kernel
theorem dX7_look_147 : decode cX7_look 147 = .ok (.goto (-53), 3) := by decide +kernel
theorem dX7_look_150 : decode cX7_look 150 = .ok (.iload_n 2, 1) := by decide +kernel
theorem dX7_look_151 : decode cX7_look 151 = .ok (.tableswitch 117 0 6 #[41, 47, 53, 56, 79, 102, 109], 41) := by decide +kernel
theorem dX7_look_192 : decode cX7_look 192 = .ok (.aload_n 0, 1) := by decide +kernel
theorem dX7_look_193 : decode cX7_look 193 = .ok (.iload_n 1, 1) := by decide +kernel
theorem dX7_look_194 : decode cX7_look 194 = .ok (.invokevirtual 148, 3) := by decide +kernel
theorem dX7_look_197 : decode cX7_look 197 = .ok (.lreturn, 1) := by decide +kernel
theorem dX7_look_198 : decode cX7_look 198 = .ok (.aload_n 0, 1) := by decide +kernel
theorem dX7_look_199 : decode cX7_look 199 = .ok (.iload_n 1, 1) := by decide +kernel
theorem dX7_look_200 : decode cX7_look 200 = .ok (.invokevirtual 181, 3) := by decide +kernel
theorem dX7_look_203 : decode cX7_look 203 = .ok (.lreturn, 1) := by decide +kernel
theorem dX7_look_204 : decode cX7_look 204 = .ok (.iload_n 3, 1) := by decide +kernel
theorem dX7_look_205 : decode cX7_look 205 = .ok (.i2l, 1) := by decide +kernel
theorem dX7_look_206 : decode cX7_look 206 = .ok (.lreturn, 1) := by decide +kernel
theorem dX7_look_207 : decode cX7_look 207 = .ok (.aload_n 0, 1) := by decide +kernel
theorem dX7_look_208 : decode cX7_look 208 = .ok (.getfield 13, 3) := by decide +kernel
theorem dX7_look_211 : decode cX7_look 211 = .ok (.iload_n 1, 1) := by decide +kernel
theorem dX7_look_212 : decode cX7_look 212 = .ok (.baload, 1) := by decide +kernel
theorem dX7_look_213 : decode cX7_look 213 = .ok (.ifCond .eq 13, 3) := by decide +kernel
theorem dX7_look_216 : decode cX7_look 216 = .ok (.aload_n 0, 1) := by decide +kernel
theorem dX7_look_217 : decode cX7_look 217 = .ok (.getfield 17, 3) := by decide +kernel
theorem dX7_look_220 : decode cX7_look 220 = .ok (.iload_n 1, 1) := by decide +kernel
theorem dX7_look_221 : decode cX7_look 221 = .ok (.iaload, 1) := by decide +kernel
theorem dX7_look_222 : decode cX7_look 222 = .ok (.i2l, 1) := by decide +kernel
theorem dX7_look_223 : decode cX7_look 223 = .ok (.goto 6, 3) := by decide +kernel
theorem dX7_look_226 : decode cX7_look 226 = .ok (.ldc2_w 163, 3) := by decide +kernel
theorem dX7_look_229 : decode cX7_look 229 = .ok (.lreturn, 1) := by decide +kernel
theorem dX7_look_230 : decode cX7_look 230 = .ok (.aload_n 0, 1) := by decide +kernel
theorem dX7_look_231 : decode cX7_look 231 = .ok (.getfield 13, 3) := by decide +kernel
theorem dX7_look_234 : decode cX7_look 234 = .ok (.iload_n 1, 1) := by decide +kernel
theorem dX7_look_235 : decode cX7_look 235 = .ok (.baload, 1) := by decide +kernel
theorem dX7_look_236 : decode cX7_look 236 = .ok (.ifCond .eq 13, 3) := by decide +kernel
theorem dX7_look_239 : decode cX7_look 239 = .ok (.aload_n 0, 1) := by decide +kernel
theorem dX7_look_240 : decode cX7_look 240 = .ok (.getfield 20, 3) := by decide +kernel
theorem dX7_look_243 : decode cX7_look 243 = .ok (.iload_n 1, 1) := by decide +kernel
theorem dX7_look_244 : decode cX7_look 244 = .ok (.iaload, 1) := by decide +kernel
theorem dX7_look_245 : decode cX7_look 245 = .ok (.i2l, 1) := by decide +kernel
theorem dX7_look_246 : decode cX7_look 246 = .ok (.goto 6, 3) := by decide +kernel
theorem dX7_look_249 : decode cX7_look 249 = .ok (.ldc2_w 163, 3) := by decide +kernel
theorem dX7_look_252 : decode cX7_look 252 = .ok (.lreturn, 1) := by decide +kernel
theorem dX7_look_253 : decode cX7_look 253 = .ok (.aload_n 0, 1) := by decide +kernel
theorem dX7_look_254 : decode cX7_look 254 = .ok (.iload_n 1, 1) := by decide +kernel
theorem dX7_look_255 : decode cX7_look 255 = .ok (.invokevirtual 100, 3) := by decide +kernel
theorem dX7_look_258 : decode cX7_look 258 = .ok (.i2l, 1) := by decide +kernel
theorem dX7_look_259 : decode cX7_look 259 = .ok (.lreturn, 1) := by decide +kernel
theorem dX7_look_260 : decode cX7_look 260 = .ok (.aload_n 0, 1) := by decide +kernel
theorem dX7_look_261 : decode cX7_look 261 = .ok (.getfield 7, 3) := by decide +kernel
theorem dX7_look_264 : decode cX7_look 264 = .ok (.iload_n 1, 1) := by decide +kernel
theorem dX7_look_265 : decode cX7_look 265 = .ok (.iaload, 1) := by decide +kernel
theorem dX7_look_266 : decode cX7_look 266 = .ok (.i2l, 1) := by decide +kernel
theorem dX7_look_267 : decode cX7_look 267 = .ok (.lreturn, 1) := by decide +kernel
theorem dX7_look_268 : decode cX7_look 268 = .ok (.lload 4, 2) := by decide +kernel
theorem dX7_look_270 : decode cX7_look 270 = .ok (.lreturn, 1) := by decide +kernel
theorem dX7_lot_0 : decode cX7_lot 0 = .ok (.aload_n 0, 1) := by decide +kernel
theorem dX7_lot_1 : decode cX7_lot 1 = .ok (.iload_n 1, 1) := by decide +kernel
theorem dX7_lot_2 : decode cX7_lot 2 = .ok (.ifCond .lt 24, 3) := by decide +kernel
theorem dX7_lot_5 : decode cX7_lot 5 = .ok (.iload_n 1, 1) := by decide +kernel
theorem dX7_lot_6 : decode cX7_lot 6 = .ok (.aload_n 0, 1) := by decide +kernel
theorem dX7_lot_7 : decode cX7_lot 7 = .ok (.getfield 104, 3) := by decide +kernel
theorem dX7_lot_10 : decode cX7_lot 10 = .ok (.if_icmp .ge 16, 3) := by decide +kernel
theorem dX7_lot_13 : decode cX7_lot 13 = .ok (.iload_n 2, 1) := by decide +kernel
theorem dX7_lot_14 : decode cX7_lot 14 = .ok (.ifCond .lt 12, 3) := by decide +kernel
theorem dX7_lot_17 : decode cX7_lot 17 = .ok (.iload_n 2, 1) := by decide +kernel
theorem dX7_lot_18 : decode cX7_lot 18 = .ok (.iconst 4, 1) := by decide +kernel
theorem dX7_lot_19 : decode cX7_lot 19 = .ok (.if_icmp .ge 7, 3) := by decide +kernel
theorem dX7_lot_22 : decode cX7_lot 22 = .ok (.iconst 0, 1) := by decide +kernel
theorem dX7_lot_23 : decode cX7_lot 23 = .ok (.goto 4, 3) := by decide +kernel
theorem dX7_lot_26 : decode cX7_lot 26 = .ok (.iconst 1, 1) := by decide +kernel
theorem dX7_lot_27 : decode cX7_lot 27 = .ok (.putfield 69, 3) := by decide +kernel
theorem dX7_lot_30 : decode cX7_lot 30 = .ok (.aload_n 0, 1) := by decide +kernel
theorem dX7_lot_31 : decode cX7_lot 31 = .ok (.getfield 69, 3) := by decide +kernel
theorem dX7_lot_34 : decode cX7_lot 34 = .ok (.ifCond .le 7, 3) := by decide +kernel
theorem dX7_lot_37 : decode cX7_lot 37 = .ok (.lconst 0, 1) := by decide +kernel
theorem dX7_lot_38 : decode cX7_lot 38 = .ok (.goto 52, 3) := by decide +kernel
theorem dX7_lot_41 : decode cX7_lot 41 = .ok (.iload_n 2, 1) := by decide +kernel
theorem dX7_lot_42 : decode cX7_lot 42 = .ok (.ifCond .ne 13, 3) := by decide +kernel
theorem dX7_lot_45 : decode cX7_lot 45 = .ok (.aload_n 0, 1) := by decide +kernel
theorem dX7_lot_46 : decode cX7_lot 46 = .ok (.getfield 41, 3) := by decide +kernel
theorem dX7_lot_49 : decode cX7_lot 49 = .ok (.iload_n 1, 1) := by decide +kernel
theorem dX7_lot_50 : decode cX7_lot 50 = .ok (.iaload, 1) := by decide +kernel
theorem dX7_lot_51 : decode cX7_lot 51 = .ok (.i2l, 1) := by decide +kernel
theorem dX7_lot_52 : decode cX7_lot 52 = .ok (.goto 38, 3) := by decide +kernel
theorem dX7_lot_55 : decode cX7_lot 55 = .ok (.iload_n 2, 1) := by decide +kernel
theorem dX7_lot_56 : decode cX7_lot 56 = .ok (.iconst 1, 1) := by decide +kernel
theorem dX7_lot_57 : decode cX7_lot 57 = .ok (.if_icmp .ne 12, 3) := by decide +kernel
theorem dX7_lot_60 : decode cX7_lot 60 = .ok (.aload_n 0, 1) := by decide +kernel
theorem dX7_lot_61 : decode cX7_lot 61 = .ok (.getfield 47, 3) := by decide +kernel
theorem dX7_lot_64 : decode cX7_lot 64 = .ok (.iload_n 1, 1) := by decide +kernel
theorem dX7_lot_65 : decode cX7_lot 65 = .ok (.laload, 1) := by decide +kernel
theorem dX7_lot_66 : decode cX7_lot 66 = .ok (.goto 24, 3) := by decide +kernel
theorem dX7_lot_69 : decode cX7_lot 69 = .ok (.iload_n 2, 1) := by decide +kernel
theorem dX7_lot_70 : decode cX7_lot 70 = .ok (.iconst 2, 1) := by decide +kernel
theorem dX7_lot_71 : decode cX7_lot 71 = .ok (.if_icmp .ne 12, 3) := by decide +kernel
theorem dX7_lot_74 : decode cX7_lot 74 = .ok (.aload_n 0, 1) := by decide +kernel
theorem dX7_lot_75 : decode cX7_lot 75 = .ok (.getfield 51, 3) := by decide +kernel
theorem dX7_lot_78 : decode cX7_lot 78 = .ok (.iload_n 1, 1) := by decide +kernel
theorem dX7_lot_79 : decode cX7_lot 79 = .ok (.laload, 1) := by decide +kernel
theorem dX7_lot_80 : decode cX7_lot 80 = .ok (.goto 10, 3) := by decide +kernel
theorem dX7_lot_83 : decode cX7_lot 83 = .ok (.aload_n 0, 1) := by decide +kernel
theorem dX7_lot_84 : decode cX7_lot 84 = .ok (.getfield 44, 3) := by decide +kernel
theorem dX7_lot_87 : decode cX7_lot 87 = .ok (.iload_n 1, 1) := by decide +kernel
theorem dX7_lot_88 : decode cX7_lot 88 = .ok (.iaload, 1) := by decide +kernel
theorem dX7_lot_89 : decode cX7_lot 89 = .ok (.i2l, 1) := by decide +kernel
theorem dX7_lot_90 : decode cX7_lot 90 = .ok (.lreturn, 1) := by decide +kernel
set_option maxRecDepth 20000 in
theorem ggX7_sum_X7_debtOn : GoodIn wsX7_sum wsX7_debtOn := goodIn_r _ [11, 12, 13, 14, 15, 16, 17, 18, 19, 20, 21, 22, 23, 24, 25, 26, 27, 28, 29, 30, 31, 32, 33, 34, 35, 36, 37, 38, 39, 40, 41, 42, 43, 44] (by decide +kernel) (by decide +kernel)
set_option maxRecDepth 20000 in
theorem gX7_sum_X7_debtOn : GoodIn wsX7_sum (wsV RX7 181 RX7 yX7_debtOn wsX7_debtOn) := goodIn_app (goodIn_of _ (by decide +kernel)) ggX7_sum_X7_debtOn
theorem dX7_sum_0 : decode cX7_sum 0 = .ok (.aload_n 0, 1) := by decide +kernel
theorem dX7_sum_1 : decode cX7_sum 1 = .ok (.iconst 0, 1) := by decide +kernel
theorem dX7_sum_2 : decode cX7_sum 2 = .ok (.putfield 69, 3) := by decide +kernel
theorem dX7_sum_5 : decode cX7_sum 5 = .ok (.lconst 0, 1) := by decide +kernel
theorem dX7_sum_6 : decode cX7_sum 6 = .ok (.lstore_n 2, 1) := by decide +kernel
theorem dX7_sum_7 : decode cX7_sum 7 = .ok (.iconst 0, 1) := by decide +kernel
theorem dX7_sum_8 : decode cX7_sum 8 = .ok (.istore 4, 2) := by decide +kernel
theorem dX7_sum_10 : decode cX7_sum 10 = .ok (.iload 4, 2) := by decide +kernel
theorem dX7_sum_12 : decode cX7_sum 12 = .ok (.bipush 12, 2) := by decide +kernel
theorem dX7_sum_14 : decode cX7_sum 14 = .ok (.if_icmp .ge 18, 3) := by decide +kernel
theorem dX7_sum_17 : decode cX7_sum 17 = .ok (.lload_n 2, 1) := by decide +kernel
theorem dX7_sum_18 : decode cX7_sum 18 = .ok (.aload_n 0, 1) := by decide +kernel
theorem dX7_sum_19 : decode cX7_sum 19 = .ok (.iload 4, 2) := by decide +kernel
theorem dX7_sum_21 : decode cX7_sum 21 = .ok (.invokevirtual 181, 3) := by decide +kernel
theorem dX7_sum_24 : decode cX7_sum 24 = .ok (.ladd, 1) := by decide +kernel
theorem dX7_sum_25 : decode cX7_sum 25 = .ok (.lstore_n 2, 1) := by decide +kernel
theorem dX7_sum_26 : decode cX7_sum 26 = .ok (.iinc 4 1, 3) := by decide +kernel
theorem dX7_sum_29 : decode cX7_sum 29 = .ok (.goto (-19), 3) := by decide +kernel
theorem dX7_sum_32 : decode cX7_sum 32 = .ok (.iload_n 1, 1) := by decide +kernel
theorem dX7_sum_33 : decode cX7_sum 33 = .ok (.tableswitch 57 0 4 #[35, 40, 45, 50, 55], 35) := by decide +kernel
theorem dX7_sum_68 : decode cX7_sum 68 = .ok (.aload_n 0, 1) := by decide +kernel
theorem dX7_sum_69 : decode cX7_sum 69 = .ok (.getfield 131, 3) := by decide +kernel
theorem dX7_sum_72 : decode cX7_sum 72 = .ok (.lreturn, 1) := by decide +kernel
theorem dX7_sum_73 : decode cX7_sum 73 = .ok (.aload_n 0, 1) := by decide +kernel
theorem dX7_sum_74 : decode cX7_sum 74 = .ok (.getfield 141, 3) := by decide +kernel
theorem dX7_sum_77 : decode cX7_sum 77 = .ok (.lreturn, 1) := by decide +kernel
theorem dX7_sum_78 : decode cX7_sum 78 = .ok (.aload_n 0, 1) := by decide +kernel
theorem dX7_sum_79 : decode cX7_sum 79 = .ok (.getfield 165, 3) := by decide +kernel
theorem dX7_sum_82 : decode cX7_sum 82 = .ok (.lreturn, 1) := by decide +kernel
theorem dX7_sum_83 : decode cX7_sum 83 = .ok (.aload_n 0, 1) := by decide +kernel
theorem dX7_sum_84 : decode cX7_sum 84 = .ok (.getfield 168, 3) := by decide +kernel
theorem dX7_sum_87 : decode cX7_sum 87 = .ok (.lreturn, 1) := by decide +kernel
theorem dX7_sum_88 : decode cX7_sum 88 = .ok (.lload_n 2, 1) := by decide +kernel
theorem dX7_sum_89 : decode cX7_sum 89 = .ok (.lreturn, 1) := by decide +kernel
theorem dX7_sum_90 : decode cX7_sum 90 = .ok (.ldc2_w 163, 3) := by decide +kernel
theorem dX7_sum_93 : decode cX7_sum 93 = .ok (.lreturn, 1) := by decide +kernel
set_option maxRecDepth 20000 in
theorem ggX7_quotient_X7_within : GoodIn wsX7_quotient wsX7_within := goodIn_r _ [6] (by decide +kernel) (by decide +kernel)
set_option maxRecDepth 20000 in
theorem gX7_quotient_X7_within : GoodIn wsX7_quotient (va_wsS RX7 75 yX7_within wsX7_within) := goodIn_app (goodIn_of _ (by decide +kernel)) ggX7_quotient_X7_within
theorem dX7_quotient_0 : decode cX7_quotient 0 = .ok (.aload_n 0, 1) := by decide +kernel
theorem dX7_quotient_1 : decode cX7_quotient 1 = .ok (.iload_n 1, 1) := by decide +kernel
theorem dX7_quotient_2 : decode cX7_quotient 2 = .ok (.i2l, 1) := by decide +kernel
theorem dX7_quotient_3 : decode cX7_quotient 3 = .ok (.lconst 0, 1) := by decide +kernel
theorem dX7_quotient_4 : decode cX7_quotient 4 = .ok (.ldc2_w 184, 3) := by decide +kernel
theorem dX7_quotient_7 : decode cX7_quotient 7 = .ok (.invokestatic 75, 3) := by decide +kernel
theorem dX7_quotient_10 : decode cX7_quotient 10 = .ok (.ifCond .eq 15, 3) := by decide +kernel
theorem dX7_quotient_13 : decode cX7_quotient 13 = .ok (.iload_n 2, 1) := by decide +kernel
theorem dX7_quotient_14 : decode cX7_quotient 14 = .ok (.i2l, 1) := by decide +kernel
theorem dX7_quotient_15 : decode cX7_quotient 15 = .ok (.lconst 0, 1) := by decide +kernel
theorem dX7_quotient_16 : decode cX7_quotient 16 = .ok (.ldc2_w 184, 3) := by decide +kernel
theorem dX7_quotient_19 : decode cX7_quotient 19 = .ok (.invokestatic 75, 3) := by decide +kernel
theorem dX7_quotient_22 : decode cX7_quotient 22 = .ok (.ifCond .ne 7, 3) := by decide +kernel
theorem dX7_quotient_25 : decode cX7_quotient 25 = .ok (.iconst 1, 1) := by decide +kernel
theorem dX7_quotient_26 : decode cX7_quotient 26 = .ok (.goto 12, 3) := by decide +kernel
theorem dX7_quotient_29 : decode cX7_quotient 29 = .ok (.iload_n 2, 1) := by decide +kernel
theorem dX7_quotient_30 : decode cX7_quotient 30 = .ok (.ifCond .ne 7, 3) := by decide +kernel
theorem dX7_quotient_33 : decode cX7_quotient 33 = .ok (.iconst 2, 1) := by decide +kernel
theorem dX7_quotient_34 : decode cX7_quotient 34 = .ok (.goto 4, 3) := by decide +kernel
theorem dX7_quotient_37 : decode cX7_quotient 37 = .ok (.iconst 0, 1) := by decide +kernel
theorem dX7_quotient_38 : decode cX7_quotient 38 = .ok (.putfield 69, 3) := by decide +kernel
theorem dX7_quotient_41 : decode cX7_quotient 41 = .ok (.aload_n 0, 1) := by decide +kernel
theorem dX7_quotient_42 : decode cX7_quotient 42 = .ok (.getfield 69, 3) := by decide +kernel
theorem dX7_quotient_45 : decode cX7_quotient 45 = .ok (.ifCond .le 7, 3) := by decide +kernel
theorem dX7_quotient_48 : decode cX7_quotient 48 = .ok (.lconst 0, 1) := by decide +kernel
theorem dX7_quotient_49 : decode cX7_quotient 49 = .ok (.goto 7, 3) := by decide +kernel
theorem dX7_quotient_52 : decode cX7_quotient 52 = .ok (.iload_n 1, 1) := by decide +kernel
theorem dX7_quotient_53 : decode cX7_quotient 53 = .ok (.iload_n 2, 1) := by decide +kernel
theorem dX7_quotient_54 : decode cX7_quotient 54 = .ok (.idiv, 1) := by decide +kernel
theorem dX7_quotient_55 : decode cX7_quotient 55 = .ok (.i2l, 1) := by decide +kernel
theorem dX7_quotient_56 : decode cX7_quotient 56 = .ok (.lreturn, 1) := by decide +kernel
theorem dX7_count_0 : decode cX7_count 0 = .ok (.aload_n 0, 1) := by decide +kernel
theorem dX7_count_1 : decode cX7_count 1 = .ok (.iconst 0, 1) := by decide +kernel
theorem dX7_count_2 : decode cX7_count 2 = .ok (.putfield 69, 3) := by decide +kernel
theorem dX7_count_5 : decode cX7_count 5 = .ok (.iload_n 1, 1) := by decide +kernel
theorem dX7_count_6 : decode cX7_count 6 = .ok (.tableswitch 50 0 3 #[30, 35, 40, 45], 30) := by decide +kernel
theorem dX7_count_36 : decode cX7_count 36 = .ok (.aload_n 0, 1) := by decide +kernel
theorem dX7_count_37 : decode cX7_count 37 = .ok (.getfield 104, 3) := by decide +kernel
theorem dX7_count_40 : decode cX7_count 40 = .ok (.ireturn, 1) := by decide +kernel
theorem dX7_count_41 : decode cX7_count 41 = .ok (.aload_n 0, 1) := by decide +kernel
theorem dX7_count_42 : decode cX7_count 42 = .ok (.getfield 85, 3) := by decide +kernel
theorem dX7_count_45 : decode cX7_count 45 = .ok (.ireturn, 1) := by decide +kernel
theorem dX7_count_46 : decode cX7_count 46 = .ok (.aload_n 0, 1) := by decide +kernel
theorem dX7_count_47 : decode cX7_count 47 = .ok (.getfield 138, 3) := by decide +kernel
theorem dX7_count_50 : decode cX7_count 50 = .ok (.ireturn, 1) := by decide +kernel
theorem dX7_count_51 : decode cX7_count 51 = .ok (.aload_n 0, 1) := by decide +kernel
theorem dX7_count_52 : decode cX7_count 52 = .ok (.getfield 107, 3) := by decide +kernel
theorem dX7_count_55 : decode cX7_count 55 = .ok (.ireturn, 1) := by decide +kernel
theorem dX7_count_56 : decode cX7_count 56 = .ok (.iconst (-1), 1) := by decide +kernel
theorem dX7_count_57 : decode cX7_count 57 = .ok (.ireturn, 1) := by decide +kernel
theorem dJ9_max_7cf53_0 : decode cJ9_max_7cf53 0 = .ok (.iload_n 0, 1) := by decide +kernel
theorem dJ9_max_7cf53_1 : decode cJ9_max_7cf53 1 = .ok (.iload_n 1, 1) := by decide +kernel
theorem dJ9_max_7cf53_2 : decode cJ9_max_7cf53 2 = .ok (.if_icmp .lt 7, 3) := by decide +kernel
theorem dJ9_max_7cf53_5 : decode cJ9_max_7cf53 5 = .ok (.iload_n 0, 1) := by decide +kernel
theorem dJ9_max_7cf53_6 : decode cJ9_max_7cf53 6 = .ok (.goto 4, 3) := by decide +kernel
theorem dJ9_max_7cf53_9 : decode cJ9_max_7cf53 9 = .ok (.iload_n 1, 1) := by decide +kernel
theorem dJ9_max_7cf53_10 : decode cJ9_max_7cf53 10 = .ok (.ireturn, 1) := by decide +kernel
theorem dJ9_min_7cf53_0 : decode cJ9_min_7cf53 0 = .ok (.iload_n 0, 1) := by decide +kernel
theorem dJ9_min_7cf53_1 : decode cJ9_min_7cf53 1 = .ok (.iload_n 1, 1) := by decide +kernel
theorem dJ9_min_7cf53_2 : decode cJ9_min_7cf53 2 = .ok (.if_icmp .gt 7, 3) := by decide +kernel
theorem dJ9_min_7cf53_5 : decode cJ9_min_7cf53 5 = .ok (.iload_n 0, 1) := by decide +kernel
theorem dJ9_min_7cf53_6 : decode cJ9_min_7cf53 6 = .ok (.goto 4, 3) := by decide +kernel
theorem dJ9_min_7cf53_9 : decode cJ9_min_7cf53 9 = .ok (.iload_n 1, 1) := by decide +kernel
theorem dJ9_min_7cf53_10 : decode cJ9_min_7cf53 10 = .ok (.ireturn, 1) := by decide +kernel
theorem dJ9_min_f86c9_0 : decode cJ9_min_f86c9 0 = .ok (.lload_n 0, 1) := by decide +kernel
theorem dJ9_min_f86c9_1 : decode cJ9_min_f86c9 1 = .ok (.lload_n 2, 1) := by decide +kernel
theorem dJ9_min_f86c9_2 : decode cJ9_min_f86c9 2 = .ok (.lcmp, 1) := by decide +kernel
theorem dJ9_min_f86c9_3 : decode cJ9_min_f86c9 3 = .ok (.ifCond .gt 7, 3) := by decide +kernel
theorem dJ9_min_f86c9_6 : decode cJ9_min_f86c9 6 = .ok (.lload_n 0, 1) := by decide +kernel
theorem dJ9_min_f86c9_7 : decode cJ9_min_f86c9 7 = .ok (.goto 4, 3) := by decide +kernel
theorem dJ9_min_f86c9_10 : decode cJ9_min_f86c9 10 = .ok (.lload_n 2, 1) := by decide +kernel
theorem dJ9_min_f86c9_11 : decode cJ9_min_f86c9 11 = .ok (.lreturn, 1) := by decide +kernel
set_option maxRecDepth 20000 in
theorem ggL_needs_X6_needs : GoodIn wsL_needs wsX6_needs := goodIn_ca (goodIn_r _ [6, 7, 8, 9, 5, 10, 11, 12, 13, 14, 15, 16, 17, 18, 19, 20, 21, 22, 23, 24, 25, 26, 27, 28, 29, 30, 31, 32, 33, 34, 35, 36, 37, 38, 39, 40, 41, 42, 43, 44, 45, 46, 47, 48, 49, 50, 51, 52, 53, 54, 55, 56, 57, 58, 59, 60, 61, 62, 63, 64, 65, 66, 67, 68, 69, 70, 71, 72, 73, 74, 75, 76, 77, 78, 79, 80, 81, 82, 83, 84, 85, 86] (by decide +kernel) (by decide +kernel)) (goodIn_sub (fun _ h => List.mem_cons_of_mem _ (List.mem_append_right _ h)) (by decide +kernel))
set_option maxRecDepth 20000 in
theorem gL_needs_X6_needs : GoodIn wsL_needs (wsV RL 7 RX6 yX6_needs wsX6_needs) := goodIn_app (goodIn_of _ (by decide +kernel)) ggL_needs_X6_needs
