theorem d_Md_new_0 : decode b_Md_new 0 = .ok (.aload_n 0, 1) := by decide +kernel
theorem d_Md_new_1 : decode b_Md_new 1 = .ok (.invokespecial 1, 3) := by decide +kernel
theorem d_Md_new_4 : decode b_Md_new 4 = .ok (.aload_n 0, 1) := by decide +kernel
theorem d_Md_new_5 : decode b_Md_new 5 = .ok (.bipush 48, 2) := by decide +kernel
theorem d_Md_new_7 : decode b_Md_new 7 = .ok (.putfield 9, 3) := by decide +kernel
theorem d_Md_new_10 : decode b_Md_new 10 = .ok (.aload_n 0, 1) := by decide +kernel
theorem d_Md_new_11 : decode b_Md_new 11 = .ok (.sipush 200, 3) := by decide +kernel
theorem d_Md_new_14 : decode b_Md_new 14 = .ok (.putfield 13, 3) := by decide +kernel
theorem d_Md_new_17 : decode b_Md_new 17 = .ok (.aload_n 0, 1) := by decide +kernel
theorem d_Md_new_18 : decode b_Md_new 18 = .ok (.bipush 6, 2) := by decide +kernel
theorem d_Md_new_20 : decode b_Md_new 20 = .ok (.newarray .int, 2) := by decide +kernel
theorem d_Md_new_22 : decode b_Md_new 22 = .ok (.putfield 16, 3) := by decide +kernel
theorem d_Md_new_25 : decode b_Md_new 25 = .ok (.aload_n 0, 1) := by decide +kernel
theorem d_Md_new_26 : decode b_Md_new 26 = .ok (.bipush 6, 2) := by decide +kernel
theorem d_Md_new_28 : decode b_Md_new 28 = .ok (.newarray .int, 2) := by decide +kernel
theorem d_Md_new_30 : decode b_Md_new 30 = .ok (.putfield 20, 3) := by decide +kernel
theorem d_Md_new_33 : decode b_Md_new 33 = .ok (.aload_n 0, 1) := by decide +kernel
theorem d_Md_new_34 : decode b_Md_new 34 = .ok (.bipush 6, 2) := by decide +kernel
theorem d_Md_new_36 : decode b_Md_new 36 = .ok (.newarray .int, 2) := by decide +kernel
theorem d_Md_new_38 : decode b_Md_new 38 = .ok (.putfield 23, 3) := by decide +kernel
theorem d_Md_new_41 : decode b_Md_new 41 = .ok (.aload_n 0, 1) := by decide +kernel
theorem d_Md_new_42 : decode b_Md_new 42 = .ok (.bipush 6, 2) := by decide +kernel
theorem d_Md_new_44 : decode b_Md_new 44 = .ok (.newarray .int, 2) := by decide +kernel
theorem d_Md_new_46 : decode b_Md_new 46 = .ok (.putfield 26, 3) := by decide +kernel
theorem d_Md_new_49 : decode b_Md_new 49 = .ok (.aload_n 0, 1) := by decide +kernel
theorem d_Md_new_50 : decode b_Md_new 50 = .ok (.bipush 6, 2) := by decide +kernel
theorem d_Md_new_52 : decode b_Md_new 52 = .ok (.newarray .int, 2) := by decide +kernel
theorem d_Md_new_54 : decode b_Md_new 54 = .ok (.putfield 29, 3) := by decide +kernel
theorem d_Md_new_57 : decode b_Md_new 57 = .ok (.aload_n 0, 1) := by decide +kernel
theorem d_Md_new_58 : decode b_Md_new 58 = .ok (.bipush 24, 2) := by decide +kernel
theorem d_Md_new_60 : decode b_Md_new 60 = .ok (.newarray .int, 2) := by decide +kernel
theorem d_Md_new_62 : decode b_Md_new 62 = .ok (.putfield 32, 3) := by decide +kernel
theorem d_Md_new_65 : decode b_Md_new 65 = .ok (.aload_n 0, 1) := by decide +kernel
theorem d_Md_new_66 : decode b_Md_new 66 = .ok (.bipush 24, 2) := by decide +kernel
theorem d_Md_new_68 : decode b_Md_new 68 = .ok (.newarray .int, 2) := by decide +kernel
theorem d_Md_new_70 : decode b_Md_new 70 = .ok (.putfield 35, 3) := by decide +kernel
theorem d_Md_new_73 : decode b_Md_new 73 = .ok (.aload_n 0, 1) := by decide +kernel
theorem d_Md_new_74 : decode b_Md_new 74 = .ok (.bipush 24, 2) := by decide +kernel
theorem d_Md_new_76 : decode b_Md_new 76 = .ok (.newarray .boolean, 2) := by decide +kernel
theorem d_Md_new_78 : decode b_Md_new 78 = .ok (.putfield 38, 3) := by decide +kernel
theorem d_Md_new_81 : decode b_Md_new 81 = .ok (.aload_n 0, 1) := by decide +kernel
theorem d_Md_new_82 : decode b_Md_new 82 = .ok (.sipush 600, 3) := by decide +kernel
theorem d_Md_new_85 : decode b_Md_new 85 = .ok (.newarray .int, 2) := by decide +kernel
theorem d_Md_new_87 : decode b_Md_new 87 = .ok (.putfield 42, 3) := by decide +kernel
theorem d_Md_new_90 : decode b_Md_new 90 = .ok (.aload_n 0, 1) := by decide +kernel
theorem d_Md_new_91 : decode b_Md_new 91 = .ok (.bipush 24, 2) := by decide +kernel
theorem d_Md_new_93 : decode b_Md_new 93 = .ok (.newarray .int, 2) := by decide +kernel
theorem d_Md_new_95 : decode b_Md_new 95 = .ok (.putfield 45, 3) := by decide +kernel
theorem d_Md_new_98 : decode b_Md_new 98 = .ok (.aload_n 0, 1) := by decide +kernel
theorem d_Md_new_99 : decode b_Md_new 99 = .ok (.bipush 24, 2) := by decide +kernel
theorem d_Md_new_101 : decode b_Md_new 101 = .ok (.newarray .int, 2) := by decide +kernel
theorem d_Md_new_103 : decode b_Md_new 103 = .ok (.putfield 48, 3) := by decide +kernel
theorem d_Md_new_106 : decode b_Md_new 106 = .ok (.aload_n 0, 1) := by decide +kernel
theorem d_Md_new_107 : decode b_Md_new 107 = .ok (.bipush 24, 2) := by decide +kernel
theorem d_Md_new_109 : decode b_Md_new 109 = .ok (.newarray .boolean, 2) := by decide +kernel
theorem d_Md_new_111 : decode b_Md_new 111 = .ok (.putfield 51, 3) := by decide +kernel
theorem d_Md_new_114 : decode b_Md_new 114 = .ok (.aload_n 0, 1) := by decide +kernel
theorem d_Md_new_115 : decode b_Md_new 115 = .ok (.sipush 200, 3) := by decide +kernel
theorem d_Md_new_118 : decode b_Md_new 118 = .ok (.newarray .int, 2) := by decide +kernel
theorem d_Md_new_120 : decode b_Md_new 120 = .ok (.putfield 54, 3) := by decide +kernel
theorem d_Md_new_123 : decode b_Md_new 123 = .ok (.aload_n 0, 1) := by decide +kernel
theorem d_Md_new_124 : decode b_Md_new 124 = .ok (.sipush 520, 3) := by decide +kernel
theorem d_Md_new_127 : decode b_Md_new 127 = .ok (.newarray .int, 2) := by decide +kernel
theorem d_Md_new_129 : decode b_Md_new 129 = .ok (.putfield 57, 3) := by decide +kernel
theorem d_Md_new_132 : decode b_Md_new 132 = .ok (.aload_n 0, 1) := by decide +kernel
theorem d_Md_new_133 : decode b_Md_new 133 = .ok (.sipush 520, 3) := by decide +kernel
theorem d_Md_new_136 : decode b_Md_new 136 = .ok (.newarray .int, 2) := by decide +kernel
theorem d_Md_new_138 : decode b_Md_new 138 = .ok (.putfield 60, 3) := by decide +kernel
theorem d_Md_new_141 : decode b_Md_new 141 = .ok (.aload_n 0, 1) := by decide +kernel
theorem d_Md_new_142 : decode b_Md_new 142 = .ok (.sipush 520, 3) := by decide +kernel
theorem d_Md_new_145 : decode b_Md_new 145 = .ok (.newarray .int, 2) := by decide +kernel
theorem d_Md_new_147 : decode b_Md_new 147 = .ok (.putfield 63, 3) := by decide +kernel
theorem d_Md_new_150 : decode b_Md_new 150 = .ok (.aload_n 0, 1) := by decide +kernel
theorem d_Md_new_151 : decode b_Md_new 151 = .ok (.sipush 520, 3) := by decide +kernel
theorem d_Md_new_154 : decode b_Md_new 154 = .ok (.newarray .int, 2) := by decide +kernel
theorem d_Md_new_156 : decode b_Md_new 156 = .ok (.putfield 66, 3) := by decide +kernel
theorem d_Md_new_159 : decode b_Md_new 159 = .ok (.aload_n 0, 1) := by decide +kernel
theorem d_Md_new_160 : decode b_Md_new 160 = .ok (.sipush 520, 3) := by decide +kernel
theorem d_Md_new_163 : decode b_Md_new 163 = .ok (.newarray .int, 2) := by decide +kernel
theorem d_Md_new_165 : decode b_Md_new 165 = .ok (.putfield 69, 3) := by decide +kernel
theorem d_Md_new_168 : decode b_Md_new 168 = .ok (.aload_n 0, 1) := by decide +kernel
theorem d_Md_new_169 : decode b_Md_new 169 = .ok (.sipush 520, 3) := by decide +kernel
theorem d_Md_new_172 : decode b_Md_new 172 = .ok (.newarray .long, 2) := by decide +kernel
theorem d_Md_new_174 : decode b_Md_new 174 = .ok (.putfield 72, 3) := by decide +kernel
theorem d_Md_new_177 : decode b_Md_new 177 = .ok (.aload_n 0, 1) := by decide +kernel
theorem d_Md_new_178 : decode b_Md_new 178 = .ok (.sipush 520, 3) := by decide +kernel
theorem d_Md_new_181 : decode b_Md_new 181 = .ok (.newarray .int, 2) := by decide +kernel
theorem d_Md_new_183 : decode b_Md_new 183 = .ok (.putfield 76, 3) := by decide +kernel
theorem d_Md_new_186 : decode b_Md_new 186 = .ok (.aload_n 0, 1) := by decide +kernel
theorem d_Md_new_187 : decode b_Md_new 187 = .ok (.sipush 520, 3) := by decide +kernel
theorem d_Md_new_190 : decode b_Md_new 190 = .ok (.newarray .int, 2) := by decide +kernel
theorem d_Md_new_192 : decode b_Md_new 192 = .ok (.putfield 79, 3) := by decide +kernel
theorem d_Md_new_195 : decode b_Md_new 195 = .ok (.aload_n 0, 1) := by decide +kernel
theorem d_Md_new_196 : decode b_Md_new 196 = .ok (.sipush 520, 3) := by decide +kernel
theorem d_Md_new_199 : decode b_Md_new 199 = .ok (.newarray .int, 2) := by decide +kernel
theorem d_Md_new_201 : decode b_Md_new 201 = .ok (.putfield 82, 3) := by decide +kernel
theorem d_Md_new_204 : decode b_Md_new 204 = .ok (.aload_n 0, 1) := by decide +kernel
theorem d_Md_new_205 : decode b_Md_new 205 = .ok (.sipush 520, 3) := by decide +kernel
theorem d_Md_new_208 : decode b_Md_new 208 = .ok (.newarray .int, 2) := by decide +kernel
theorem d_Md_new_210 : decode b_Md_new 210 = .ok (.putfield 85, 3) := by decide +kernel
theorem d_Md_new_213 : decode b_Md_new 213 = .ok (.aload_n 0, 1) := by decide +kernel
theorem d_Md_new_214 : decode b_Md_new 214 = .ok (.sipush 520, 3) := by decide +kernel
theorem d_Md_new_217 : decode b_Md_new 217 = .ok (.newarray .int, 2) := by decide +kernel
theorem d_Md_new_219 : decode b_Md_new 219 = .ok (.putfield 88, 3) := by decide +kernel
theorem d_Md_new_222 : decode b_Md_new 222 = .ok (.aload_n 0, 1) := by decide +kernel
theorem d_Md_new_223 : decode b_Md_new 223 = .ok (.sipush 520, 3) := by decide +kernel
theorem d_Md_new_226 : decode b_Md_new 226 = .ok (.newarray .int, 2) := by decide +kernel
theorem d_Md_new_228 : decode b_Md_new 228 = .ok (.putfield 91, 3) := by decide +kernel
theorem d_Md_new_231 : decode b_Md_new 231 = .ok (.return_, 1) := by decide +kernel
theorem d_Md_thrown_0 : decode b_Md_thrown 0 = .ok (.aload_n 0, 1) := by decide +kernel
theorem d_Md_thrown_1 : decode b_Md_thrown 1 = .ok (.getfield 94, 3) := by decide +kernel
theorem d_Md_thrown_4 : decode b_Md_thrown 4 = .ok (.ireturn, 1) := by decide +kernel
theorem d_Md_memory_0 : decode b_Md_memory 0 = .ok (.aload_n 0, 1) := by decide +kernel
theorem d_Md_memory_1 : decode b_Md_memory 1 = .ok (.iconst 0, 1) := by decide +kernel
theorem d_Md_memory_2 : decode b_Md_memory 2 = .ok (.putfield 94, 3) := by decide +kernel
theorem d_Md_memory_5 : decode b_Md_memory 5 = .ok (.aload_n 0, 1) := by decide +kernel
theorem d_Md_memory_6 : decode b_Md_memory 6 = .ok (.getfield 99, 3) := by decide +kernel
theorem d_Md_memory_9 : decode b_Md_memory 9 = .ok (.bipush 6, 2) := by decide +kernel
theorem d_Md_memory_11 : decode b_Md_memory 11 = .ok (.if_icmp .eq 26, 3) := by decide +kernel
theorem d_Md_memory_14 : decode b_Md_memory 14 = .ok (.iload_n 1, 1) := by decide +kernel
theorem d_Md_memory_15 : decode b_Md_memory 15 = .ok (.ifCond .lt 22, 3) := by decide +kernel
theorem d_Md_memory_18 : decode b_Md_memory 18 = .ok (.iload_n 1, 1) := by decide +kernel
theorem d_Md_memory_19 : decode b_Md_memory 19 = .ok (.iload_n 2, 1) := by decide +kernel
theorem d_Md_memory_20 : decode b_Md_memory 20 = .ok (.if_icmp .gt 17, 3) := by decide +kernel
theorem d_Md_memory_23 : decode b_Md_memory 23 = .ok (.iload_n 2, 1) := by decide +kernel
theorem d_Md_memory_24 : decode b_Md_memory 24 = .ok (.ldc 118, 2) := by decide +kernel
theorem d_Md_memory_26 : decode b_Md_memory 26 = .ok (.if_icmp .gt 11, 3) := by decide +kernel
theorem d_Md_memory_29 : decode b_Md_memory 29 = .ok (.iload_n 1, 1) := by decide +kernel
theorem d_Md_memory_30 : decode b_Md_memory 30 = .ok (.aload_n 0, 1) := by decide +kernel
theorem d_Md_memory_31 : decode b_Md_memory 31 = .ok (.getfield 9, 3) := by decide +kernel
theorem d_Md_memory_34 : decode b_Md_memory 34 = .ok (.if_icmp .le 5, 3) := by decide +kernel
theorem d_Md_memory_37 : decode b_Md_memory 37 = .ok (.iconst (-1), 1) := by decide +kernel
theorem d_Md_memory_38 : decode b_Md_memory 38 = .ok (.ireturn, 1) := by decide +kernel
theorem d_Md_memory_39 : decode b_Md_memory 39 = .ok (.aload_n 0, 1) := by decide +kernel
theorem d_Md_memory_40 : decode b_Md_memory 40 = .ok (.getfield 16, 3) := by decide +kernel
theorem d_Md_memory_43 : decode b_Md_memory 43 = .ok (.aload_n 0, 1) := by decide +kernel
theorem d_Md_memory_44 : decode b_Md_memory 44 = .ok (.getfield 99, 3) := by decide +kernel
theorem d_Md_memory_47 : decode b_Md_memory 47 = .ok (.iload_n 1, 1) := by decide +kernel
theorem d_Md_memory_48 : decode b_Md_memory 48 = .ok (.iastore, 1) := by decide +kernel
theorem d_Md_memory_49 : decode b_Md_memory 49 = .ok (.aload_n 0, 1) := by decide +kernel
theorem d_Md_memory_50 : decode b_Md_memory 50 = .ok (.getfield 20, 3) := by decide +kernel
theorem d_Md_memory_53 : decode b_Md_memory 53 = .ok (.aload_n 0, 1) := by decide +kernel
theorem d_Md_memory_54 : decode b_Md_memory 54 = .ok (.getfield 99, 3) := by decide +kernel
theorem d_Md_memory_57 : decode b_Md_memory 57 = .ok (.iload_n 2, 1) := by decide +kernel
theorem d_Md_memory_58 : decode b_Md_memory 58 = .ok (.iastore, 1) := by decide +kernel
theorem d_Md_memory_59 : decode b_Md_memory 59 = .ok (.aload_n 0, 1) := by decide +kernel
theorem d_Md_memory_60 : decode b_Md_memory 60 = .ok (.dup, 1) := by decide +kernel
theorem d_Md_memory_61 : decode b_Md_memory 61 = .ok (.getfield 9, 3) := by decide +kernel
theorem d_Md_memory_64 : decode b_Md_memory 64 = .ok (.iload_n 1, 1) := by decide +kernel
theorem d_Md_memory_65 : decode b_Md_memory 65 = .ok (.isub, 1) := by decide +kernel
theorem d_Md_memory_66 : decode b_Md_memory 66 = .ok (.putfield 9, 3) := by decide +kernel
theorem d_Md_memory_69 : decode b_Md_memory 69 = .ok (.aload_n 0, 1) := by decide +kernel
theorem d_Md_memory_70 : decode b_Md_memory 70 = .ok (.dup, 1) := by decide +kernel
theorem d_Md_memory_71 : decode b_Md_memory 71 = .ok (.getfield 99, 3) := by decide +kernel
theorem d_Md_memory_74 : decode b_Md_memory 74 = .ok (.iconst 1, 1) := by decide +kernel
theorem d_Md_memory_75 : decode b_Md_memory 75 = .ok (.iadd, 1) := by decide +kernel
theorem d_Md_memory_76 : decode b_Md_memory 76 = .ok (.putfield 99, 3) := by decide +kernel
theorem d_Md_memory_79 : decode b_Md_memory 79 = .ok (.aload_n 0, 1) := by decide +kernel
theorem d_Md_memory_80 : decode b_Md_memory 80 = .ok (.getfield 99, 3) := by decide +kernel
theorem d_Md_memory_83 : decode b_Md_memory 83 = .ok (.iconst 1, 1) := by decide +kernel
theorem d_Md_memory_84 : decode b_Md_memory 84 = .ok (.isub, 1) := by decide +kernel
theorem d_Md_memory_85 : decode b_Md_memory 85 = .ok (.ireturn, 1) := by decide +kernel
theorem d_Md_grow_0 : decode b_Md_grow 0 = .ok (.aload_n 0, 1) := by decide +kernel
theorem d_Md_grow_1 : decode b_Md_grow 1 = .ok (.iconst 0, 1) := by decide +kernel
theorem d_Md_grow_2 : decode b_Md_grow 2 = .ok (.putfield 94, 3) := by decide +kernel
theorem d_Md_grow_5 : decode b_Md_grow 5 = .ok (.aload_n 0, 1) := by decide +kernel
theorem d_Md_grow_6 : decode b_Md_grow 6 = .ok (.iload_n 1, 1) := by decide +kernel
theorem d_Md_grow_7 : decode b_Md_grow 7 = .ok (.invokevirtual 119, 3) := by decide +kernel
theorem d_Md_grow_10 : decode b_Md_grow 10 = .ok (.ifCond .eq 39, 3) := by decide +kernel
theorem d_Md_grow_13 : decode b_Md_grow 13 = .ok (.aload_n 0, 1) := by decide +kernel
theorem d_Md_grow_14 : decode b_Md_grow 14 = .ok (.getfield 16, 3) := by decide +kernel
theorem d_Md_grow_17 : decode b_Md_grow 17 = .ok (.iload_n 1, 1) := by decide +kernel
theorem d_Md_grow_18 : decode b_Md_grow 18 = .ok (.iaload, 1) := by decide +kernel
theorem d_Md_grow_19 : decode b_Md_grow 19 = .ok (.i2l, 1) := by decide +kernel
theorem d_Md_grow_20 : decode b_Md_grow 20 = .ok (.iload_n 2, 1) := by decide +kernel
theorem d_Md_grow_21 : decode b_Md_grow 21 = .ok (.invokestatic 123, 3) := by decide +kernel
theorem d_Md_grow_24 : decode b_Md_grow 24 = .ok (.ladd, 1) := by decide +kernel
theorem d_Md_grow_25 : decode b_Md_grow 25 = .ok (.aload_n 0, 1) := by decide +kernel
theorem d_Md_grow_26 : decode b_Md_grow 26 = .ok (.getfield 20, 3) := by decide +kernel
theorem d_Md_grow_29 : decode b_Md_grow 29 = .ok (.iload_n 1, 1) := by decide +kernel
theorem d_Md_grow_30 : decode b_Md_grow 30 = .ok (.iaload, 1) := by decide +kernel
theorem d_Md_grow_31 : decode b_Md_grow 31 = .ok (.i2l, 1) := by decide +kernel
theorem d_Md_grow_32 : decode b_Md_grow 32 = .ok (.lcmp, 1) := by decide +kernel
theorem d_Md_grow_33 : decode b_Md_grow 33 = .ok (.ifCond .gt 16, 3) := by decide +kernel
theorem d_Md_grow_36 : decode b_Md_grow 36 = .ok (.iload_n 2, 1) := by decide +kernel
theorem d_Md_grow_37 : decode b_Md_grow 37 = .ok (.invokestatic 123, 3) := by decide +kernel
theorem d_Md_grow_40 : decode b_Md_grow 40 = .ok (.aload_n 0, 1) := by decide +kernel
theorem d_Md_grow_41 : decode b_Md_grow 41 = .ok (.getfield 9, 3) := by decide +kernel
theorem d_Md_grow_44 : decode b_Md_grow 44 = .ok (.i2l, 1) := by decide +kernel
theorem d_Md_grow_45 : decode b_Md_grow 45 = .ok (.lcmp, 1) := by decide +kernel
theorem d_Md_grow_46 : decode b_Md_grow 46 = .ok (.ifCond .le 5, 3) := by decide +kernel
theorem d_Md_grow_49 : decode b_Md_grow 49 = .ok (.iconst (-1), 1) := by decide +kernel
theorem d_Md_grow_50 : decode b_Md_grow 50 = .ok (.ireturn, 1) := by decide +kernel
theorem d_Md_grow_51 : decode b_Md_grow 51 = .ok (.aload_n 0, 1) := by decide +kernel
theorem d_Md_grow_52 : decode b_Md_grow 52 = .ok (.getfield 16, 3) := by decide +kernel
theorem d_Md_grow_55 : decode b_Md_grow 55 = .ok (.iload_n 1, 1) := by decide +kernel
theorem d_Md_grow_56 : decode b_Md_grow 56 = .ok (.iaload, 1) := by decide +kernel
theorem d_Md_grow_57 : decode b_Md_grow 57 = .ok (.istore_n 3, 1) := by decide +kernel
theorem d_Md_grow_58 : decode b_Md_grow 58 = .ok (.aload_n 0, 1) := by decide +kernel
theorem d_Md_grow_59 : decode b_Md_grow 59 = .ok (.getfield 16, 3) := by decide +kernel
theorem d_Md_grow_62 : decode b_Md_grow 62 = .ok (.iload_n 1, 1) := by decide +kernel
theorem d_Md_grow_63 : decode b_Md_grow 63 = .ok (.dup2, 1) := by decide +kernel
theorem d_Md_grow_64 : decode b_Md_grow 64 = .ok (.iaload, 1) := by decide +kernel
theorem d_Md_grow_65 : decode b_Md_grow 65 = .ok (.iload_n 2, 1) := by decide +kernel
theorem d_Md_grow_66 : decode b_Md_grow 66 = .ok (.iadd, 1) := by decide +kernel
theorem d_Md_grow_67 : decode b_Md_grow 67 = .ok (.iastore, 1) := by decide +kernel
theorem d_Md_grow_68 : decode b_Md_grow 68 = .ok (.aload_n 0, 1) := by decide +kernel
theorem d_Md_grow_69 : decode b_Md_grow 69 = .ok (.dup, 1) := by decide +kernel
theorem d_Md_grow_70 : decode b_Md_grow 70 = .ok (.getfield 9, 3) := by decide +kernel
theorem d_Md_grow_73 : decode b_Md_grow 73 = .ok (.iload_n 2, 1) := by decide +kernel
theorem d_Md_grow_74 : decode b_Md_grow 74 = .ok (.isub, 1) := by decide +kernel
theorem d_Md_grow_75 : decode b_Md_grow 75 = .ok (.putfield 9, 3) := by decide +kernel
theorem d_Md_grow_78 : decode b_Md_grow 78 = .ok (.iload_n 3, 1) := by decide +kernel
theorem d_Md_grow_79 : decode b_Md_grow 79 = .ok (.ireturn, 1) := by decide +kernel
theorem d_Md_isMemory_0 : decode b_Md_isMemory 0 = .ok (.iload_n 1, 1) := by decide +kernel
theorem d_Md_isMemory_1 : decode b_Md_isMemory 1 = .ok (.ifCond .lt 15, 3) := by decide +kernel
theorem d_Md_isMemory_4 : decode b_Md_isMemory 4 = .ok (.iload_n 1, 1) := by decide +kernel
theorem d_Md_isMemory_5 : decode b_Md_isMemory 5 = .ok (.aload_n 0, 1) := by decide +kernel
theorem d_Md_isMemory_6 : decode b_Md_isMemory 6 = .ok (.getfield 99, 3) := by decide +kernel
theorem d_Md_isMemory_9 : decode b_Md_isMemory 9 = .ok (.if_icmp .ge 7, 3) := by decide +kernel
theorem d_Md_isMemory_12 : decode b_Md_isMemory 12 = .ok (.iconst 1, 1) := by decide +kernel
theorem d_Md_isMemory_13 : decode b_Md_isMemory 13 = .ok (.goto 4, 3) := by decide +kernel
theorem d_Md_isMemory_16 : decode b_Md_isMemory 16 = .ok (.iconst 0, 1) := by decide +kernel
theorem d_Md_isMemory_17 : decode b_Md_isMemory 17 = .ok (.ireturn, 1) := by decide +kernel
theorem d_Md_wide_0 : decode b_Md_wide 0 = .ok (.iload_n 0, 1) := by decide +kernel
theorem d_Md_wide_1 : decode b_Md_wide 1 = .ok (.i2l, 1) := by decide +kernel
theorem d_Md_wide_2 : decode b_Md_wide 2 = .ok (.ldc2_w 97, 3) := by decide +kernel
theorem d_Md_wide_5 : decode b_Md_wide 5 = .ok (.land, 1) := by decide +kernel
theorem d_Md_wide_6 : decode b_Md_wide 6 = .ok (.lreturn, 1) := by decide +kernel
theorem d_Md_load_0 : decode b_Md_load 0 = .ok (.iload_n 2, 1) := by decide +kernel
theorem d_Md_load_1 : decode b_Md_load 1 = .ok (.invokestatic 127, 3) := by decide +kernel
theorem d_Md_load_4 : decode b_Md_load 4 = .ok (.istore 5, 2) := by decide +kernel
theorem d_Md_load_6 : decode b_Md_load 6 = .ok (.aload_n 0, 1) := by decide +kernel
theorem d_Md_load_7 : decode b_Md_load 7 = .ok (.aload_n 0, 1) := by decide +kernel
theorem d_Md_load_8 : decode b_Md_load 8 = .ok (.iload_n 1, 1) := by decide +kernel
theorem d_Md_load_9 : decode b_Md_load 9 = .ok (.invokevirtual 119, 3) := by decide +kernel
theorem d_Md_load_12 : decode b_Md_load 12 = .ok (.ifCond .eq 12, 3) := by decide +kernel
theorem d_Md_load_15 : decode b_Md_load 15 = .ok (.iload 5, 2) := by decide +kernel
theorem d_Md_load_17 : decode b_Md_load 17 = .ok (.ifCond .le 7, 3) := by decide +kernel
theorem d_Md_load_20 : decode b_Md_load 20 = .ok (.iconst 1, 1) := by decide +kernel
theorem d_Md_load_21 : decode b_Md_load 21 = .ok (.goto 4, 3) := by decide +kernel
theorem d_Md_load_24 : decode b_Md_load 24 = .ok (.iconst 0, 1) := by decide +kernel
theorem d_Md_load_25 : decode b_Md_load 25 = .ok (.invokevirtual 131, 3) := by decide +kernel
theorem d_Md_load_28 : decode b_Md_load 28 = .ok (.ifCond .ne 5, 3) := by decide +kernel
theorem d_Md_load_31 : decode b_Md_load 31 = .ok (.lconst 0, 1) := by decide +kernel
theorem d_Md_load_32 : decode b_Md_load 32 = .ok (.lreturn, 1) := by decide +kernel
theorem d_Md_load_33 : decode b_Md_load 33 = .ok (.iload_n 3, 1) := by decide +kernel
theorem d_Md_load_34 : decode b_Md_load 34 = .ok (.invokestatic 123, 3) := by decide +kernel
theorem d_Md_load_37 : decode b_Md_load 37 = .ok (.iload 4, 2) := by decide +kernel
theorem d_Md_load_39 : decode b_Md_load 39 = .ok (.invokestatic 123, 3) := by decide +kernel
theorem d_Md_load_42 : decode b_Md_load 42 = .ok (.ladd, 1) := by decide +kernel
theorem d_Md_load_43 : decode b_Md_load 43 = .ok (.lstore 6, 2) := by decide +kernel
theorem d_Md_load_45 : decode b_Md_load 45 = .ok (.aload_n 0, 1) := by decide +kernel
theorem d_Md_load_46 : decode b_Md_load 46 = .ok (.iconst 4, 1) := by decide +kernel
theorem d_Md_load_47 : decode b_Md_load 47 = .ok (.lload 6, 2) := by decide +kernel
theorem d_Md_load_49 : decode b_Md_load 49 = .ok (.iload 5, 2) := by decide +kernel
theorem d_Md_load_51 : decode b_Md_load 51 = .ok (.i2l, 1) := by decide +kernel
theorem d_Md_load_52 : decode b_Md_load 52 = .ok (.aload_n 0, 1) := by decide +kernel
theorem d_Md_load_53 : decode b_Md_load 53 = .ok (.iload_n 1, 1) := by decide +kernel
theorem d_Md_load_54 : decode b_Md_load 54 = .ok (.invokevirtual 135, 3) := by decide +kernel
theorem d_Md_load_57 : decode b_Md_load 57 = .ok (.invokevirtual 138, 3) := by decide +kernel
theorem d_Md_load_60 : decode b_Md_load 60 = .ok (.pop, 1) := by decide +kernel
theorem d_Md_load_61 : decode b_Md_load 61 = .ok (.aload_n 0, 1) := by decide +kernel
theorem d_Md_load_62 : decode b_Md_load 62 = .ok (.invokevirtual 142, 3) := by decide +kernel
theorem d_Md_load_65 : decode b_Md_load 65 = .ok (.ifCond .eq 5, 3) := by decide +kernel
theorem d_Md_load_68 : decode b_Md_load 68 = .ok (.lconst 0, 1) := by decide +kernel
theorem d_Md_load_69 : decode b_Md_load 69 = .ok (.lreturn, 1) := by decide +kernel
theorem d_Md_load_70 : decode b_Md_load 70 = .ok (.lconst 0, 1) := by decide +kernel
theorem d_Md_load_71 : decode b_Md_load 71 = .ok (.lstore 8, 2) := by decide +kernel
theorem d_Md_load_73 : decode b_Md_load 73 = .ok (.iload 5, 2) := by decide +kernel
theorem d_Md_load_75 : decode b_Md_load 75 = .ok (.iconst 1, 1) := by decide +kernel
theorem d_Md_load_76 : decode b_Md_load 76 = .ok (.isub, 1) := by decide +kernel
theorem d_Md_load_77 : decode b_Md_load 77 = .ok (.istore 10, 2) := by decide +kernel
theorem d_Md_load_79 : decode b_Md_load 79 = .ok (.iload 10, 2) := by decide +kernel
theorem d_Md_load_81 : decode b_Md_load 81 = .ok (.ifCond .lt 29, 3) := by decide +kernel
theorem d_Md_load_84 : decode b_Md_load 84 = .ok (.lload 8, 2) := by decide +kernel
theorem d_Md_load_86 : decode b_Md_load 86 = .ok (.bipush 8, 2) := by decide +kernel
theorem d_Md_load_88 : decode b_Md_load 88 = .ok (.lshl, 1) := by decide +kernel
theorem d_Md_load_89 : decode b_Md_load 89 = .ok (.aload_n 0, 1) := by decide +kernel
theorem d_Md_load_90 : decode b_Md_load 90 = .ok (.iload_n 1, 1) := by decide +kernel
theorem d_Md_load_91 : decode b_Md_load 91 = .ok (.lload 6, 2) := by decide +kernel
theorem d_Md_load_93 : decode b_Md_load 93 = .ok (.l2i, 1) := by decide +kernel
theorem d_Md_load_94 : decode b_Md_load 94 = .ok (.iload 10, 2) := by decide +kernel
theorem d_Md_load_96 : decode b_Md_load 96 = .ok (.iadd, 1) := by decide +kernel
theorem d_Md_load_97 : decode b_Md_load 97 = .ok (.invokevirtual 146, 3) := by decide +kernel
theorem d_Md_load_100 : decode b_Md_load 100 = .ok (.i2l, 1) := by decide +kernel
theorem d_Md_load_101 : decode b_Md_load 101 = .ok (.lor, 1) := by decide +kernel
theorem d_Md_load_102 : decode b_Md_load 102 = .ok (.lstore 8, 2) := by decide +kernel
theorem d_Md_load_104 : decode b_Md_load 104 = .ok (.iinc 10 (-1), 3) := by decide +kernel
theorem d_Md_load_107 : decode b_Md_load 107 = .ok (.goto (-28), 3) := by decide +kernel
theorem d_Md_load_110 : decode b_Md_load 110 = .ok (.iload_n 2, 1) := by decide +kernel
theorem d_Md_load_111 : decode b_Md_load 111 = .ok (.bipush 43, 2) := by decide +kernel
theorem d_Md_load_113 : decode b_Md_load 113 = .ok (.if_icmp .le 13, 3) := by decide +kernel
theorem d_Md_load_116 : decode b_Md_load 116 = .ok (.iload_n 2, 1) := by decide +kernel
theorem d_Md_load_117 : decode b_Md_load 117 = .ok (.iconst 2, 1) := by decide +kernel
theorem d_Md_load_118 : decode b_Md_load 118 = .ok (.irem, 1) := by decide +kernel
theorem d_Md_load_119 : decode b_Md_load 119 = .ok (.ifCond .ne 7, 3) := by decide +kernel
theorem d_Md_load_122 : decode b_Md_load 122 = .ok (.iconst 1, 1) := by decide +kernel
theorem d_Md_load_123 : decode b_Md_load 123 = .ok (.goto 4, 3) := by decide +kernel
theorem d_Md_load_126 : decode b_Md_load 126 = .ok (.iconst 0, 1) := by decide +kernel
theorem d_Md_load_127 : decode b_Md_load 127 = .ok (.istore 10, 2) := by decide +kernel
theorem d_Md_load_129 : decode b_Md_load 129 = .ok (.bipush 64, 2) := by decide +kernel
theorem d_Md_load_131 : decode b_Md_load 131 = .ok (.bipush 8, 2) := by decide +kernel
theorem d_Md_load_133 : decode b_Md_load 133 = .ok (.iload 5, 2) := by decide +kernel
theorem d_Md_load_135 : decode b_Md_load 135 = .ok (.imul, 1) := by decide +kernel
theorem d_Md_load_136 : decode b_Md_load 136 = .ok (.isub, 1) := by decide +kernel
theorem d_Md_load_137 : decode b_Md_load 137 = .ok (.istore 11, 2) := by decide +kernel
theorem d_Md_load_139 : decode b_Md_load 139 = .ok (.iload 10, 2) := by decide +kernel
theorem d_Md_load_141 : decode b_Md_load 141 = .ok (.ifCond .eq 14, 3) := by decide +kernel
theorem d_Md_load_144 : decode b_Md_load 144 = .ok (.lload 8, 2) := by decide +kernel
theorem d_Md_load_146 : decode b_Md_load 146 = .ok (.iload 11, 2) := by decide +kernel
theorem d_Md_load_148 : decode b_Md_load 148 = .ok (.lshl, 1) := by decide +kernel
theorem d_Md_load_149 : decode b_Md_load 149 = .ok (.iload 11, 2) := by decide +kernel
theorem d_Md_load_151 : decode b_Md_load 151 = .ok (.lshr, 1) := by decide +kernel
theorem d_Md_load_152 : decode b_Md_load 152 = .ok (.goto 5, 3) := by decide +kernel
theorem d_Md_load_155 : decode b_Md_load 155 = .ok (.lload 8, 2) := by decide +kernel
theorem d_Md_load_157 : decode b_Md_load 157 = .ok (.lstore 8, 2) := by decide +kernel
theorem d_Md_load_159 : decode b_Md_load 159 = .ok (.iload_n 2, 1) := by decide +kernel
theorem d_Md_load_160 : decode b_Md_load 160 = .ok (.bipush 44, 2) := by decide +kernel
theorem d_Md_load_162 : decode b_Md_load 162 = .ok (.if_icmp .eq 9, 3) := by decide +kernel
theorem d_Md_load_165 : decode b_Md_load 165 = .ok (.iload_n 2, 1) := by decide +kernel
theorem d_Md_load_166 : decode b_Md_load 166 = .ok (.bipush 46, 2) := by decide +kernel
theorem d_Md_load_168 : decode b_Md_load 168 = .ok (.if_icmp .ne 12, 3) := by decide +kernel
theorem d_Md_load_171 : decode b_Md_load 171 = .ok (.lload 8, 2) := by decide +kernel
theorem d_Md_load_173 : decode b_Md_load 173 = .ok (.ldc2_w 97, 3) := by decide +kernel
theorem d_Md_load_176 : decode b_Md_load 176 = .ok (.land, 1) := by decide +kernel
theorem d_Md_load_177 : decode b_Md_load 177 = .ok (.goto 5, 3) := by decide +kernel
theorem d_Md_load_180 : decode b_Md_load 180 = .ok (.lload 8, 2) := by decide +kernel
theorem d_Md_load_182 : decode b_Md_load 182 = .ok (.lreturn, 1) := by decide +kernel
theorem d_Md_loads_0 : decode b_Md_loads 0 = .ok (.iload_n 0, 1) := by decide +kernel
theorem d_Md_loads_1 : decode b_Md_loads 1 = .ok (.bipush 41, 2) := by decide +kernel
theorem d_Md_loads_3 : decode b_Md_loads 3 = .ok (.if_icmp .eq 9, 3) := by decide +kernel
theorem d_Md_loads_6 : decode b_Md_loads 6 = .ok (.iload_n 0, 1) := by decide +kernel
theorem d_Md_loads_7 : decode b_Md_loads 7 = .ok (.bipush 43, 2) := by decide +kernel
theorem d_Md_loads_9 : decode b_Md_loads 9 = .ok (.if_icmp .ne 8, 3) := by decide +kernel
theorem d_Md_loads_12 : decode b_Md_loads 12 = .ok (.bipush 8, 2) := by decide +kernel
theorem d_Md_loads_14 : decode b_Md_loads 14 = .ok (.goto 76, 3) := by decide +kernel
theorem d_Md_loads_17 : decode b_Md_loads 17 = .ok (.iload_n 0, 1) := by decide +kernel
theorem d_Md_loads_18 : decode b_Md_loads 18 = .ok (.bipush 40, 2) := by decide +kernel
theorem d_Md_loads_20 : decode b_Md_loads 20 = .ok (.if_icmp .eq 21, 3) := by decide +kernel
theorem d_Md_loads_23 : decode b_Md_loads 23 = .ok (.iload_n 0, 1) := by decide +kernel
theorem d_Md_loads_24 : decode b_Md_loads 24 = .ok (.bipush 42, 2) := by decide +kernel
theorem d_Md_loads_26 : decode b_Md_loads 26 = .ok (.if_icmp .eq 15, 3) := by decide +kernel
theorem d_Md_loads_29 : decode b_Md_loads 29 = .ok (.iload_n 0, 1) := by decide +kernel
theorem d_Md_loads_30 : decode b_Md_loads 30 = .ok (.bipush 52, 2) := by decide +kernel
theorem d_Md_loads_32 : decode b_Md_loads 32 = .ok (.if_icmp .eq 9, 3) := by decide +kernel
theorem d_Md_loads_35 : decode b_Md_loads 35 = .ok (.iload_n 0, 1) := by decide +kernel
theorem d_Md_loads_36 : decode b_Md_loads 36 = .ok (.bipush 53, 2) := by decide +kernel
theorem d_Md_loads_38 : decode b_Md_loads 38 = .ok (.if_icmp .ne 7, 3) := by decide +kernel
theorem d_Md_loads_41 : decode b_Md_loads 41 = .ok (.iconst 4, 1) := by decide +kernel
theorem d_Md_loads_42 : decode b_Md_loads 42 = .ok (.goto 48, 3) := by decide +kernel
theorem d_Md_loads_45 : decode b_Md_loads 45 = .ok (.iload_n 0, 1) := by decide +kernel
theorem d_Md_loads_46 : decode b_Md_loads 46 = .ok (.bipush 46, 2) := by decide +kernel
theorem d_Md_loads_48 : decode b_Md_loads 48 = .ok (.if_icmp .eq 21, 3) := by decide +kernel
theorem d_Md_loads_51 : decode b_Md_loads 51 = .ok (.iload_n 0, 1) := by decide +kernel
theorem d_Md_loads_52 : decode b_Md_loads 52 = .ok (.bipush 47, 2) := by decide +kernel
theorem d_Md_loads_54 : decode b_Md_loads 54 = .ok (.if_icmp .eq 15, 3) := by decide +kernel
theorem d_Md_loads_57 : decode b_Md_loads 57 = .ok (.iload_n 0, 1) := by decide +kernel
theorem d_Md_loads_58 : decode b_Md_loads 58 = .ok (.bipush 50, 2) := by decide +kernel
theorem d_Md_loads_60 : decode b_Md_loads 60 = .ok (.if_icmp .eq 9, 3) := by decide +kernel
theorem d_Md_loads_63 : decode b_Md_loads 63 = .ok (.iload_n 0, 1) := by decide +kernel
theorem d_Md_loads_64 : decode b_Md_loads 64 = .ok (.bipush 51, 2) := by decide +kernel
theorem d_Md_loads_66 : decode b_Md_loads 66 = .ok (.if_icmp .ne 7, 3) := by decide +kernel
theorem d_Md_loads_69 : decode b_Md_loads 69 = .ok (.iconst 2, 1) := by decide +kernel
theorem d_Md_loads_70 : decode b_Md_loads 70 = .ok (.goto 20, 3) := by decide +kernel
theorem d_Md_loads_73 : decode b_Md_loads 73 = .ok (.iload_n 0, 1) := by decide +kernel
theorem d_Md_loads_74 : decode b_Md_loads 74 = .ok (.bipush 43, 2) := by decide +kernel
theorem d_Md_loads_76 : decode b_Md_loads 76 = .ok (.if_icmp .le 13, 3) := by decide +kernel
theorem d_Md_loads_79 : decode b_Md_loads 79 = .ok (.iload_n 0, 1) := by decide +kernel
theorem d_Md_loads_80 : decode b_Md_loads 80 = .ok (.bipush 50, 2) := by decide +kernel
theorem d_Md_loads_82 : decode b_Md_loads 82 = .ok (.if_icmp .ge 7, 3) := by decide +kernel
theorem d_Md_loads_85 : decode b_Md_loads 85 = .ok (.iconst 1, 1) := by decide +kernel
theorem d_Md_loads_86 : decode b_Md_loads 86 = .ok (.goto 4, 3) := by decide +kernel
theorem d_Md_loads_89 : decode b_Md_loads 89 = .ok (.iconst 0, 1) := by decide +kernel
theorem d_Md_loads_90 : decode b_Md_loads 90 = .ok (.ireturn, 1) := by decide +kernel
theorem d_Md_begin_0 : decode b_Md_begin 0 = .ok (.aload_n 0, 1) := by decide +kernel
theorem d_Md_begin_1 : decode b_Md_begin 1 = .ok (.iconst 0, 1) := by decide +kernel
theorem d_Md_begin_2 : decode b_Md_begin 2 = .ok (.putfield 105, 3) := by decide +kernel
theorem d_Md_begin_5 : decode b_Md_begin 5 = .ok (.aload_n 0, 1) := by decide +kernel
theorem d_Md_begin_6 : decode b_Md_begin 6 = .ok (.iload_n 1, 1) := by decide +kernel
theorem d_Md_begin_7 : decode b_Md_begin 7 = .ok (.ifCond .eq 7, 3) := by decide +kernel
theorem d_Md_begin_10 : decode b_Md_begin 10 = .ok (.iconst 0, 1) := by decide +kernel
theorem d_Md_begin_11 : decode b_Md_begin 11 = .ok (.goto 4, 3) := by decide +kernel
theorem d_Md_begin_14 : decode b_Md_begin 14 = .ok (.iconst 1, 1) := by decide +kernel
theorem d_Md_begin_15 : decode b_Md_begin 15 = .ok (.putfield 94, 3) := by decide +kernel
theorem d_Md_begin_18 : decode b_Md_begin 18 = .ok (.iload_n 1, 1) := by decide +kernel
theorem d_Md_begin_19 : decode b_Md_begin 19 = .ok (.ireturn, 1) := by decide +kernel
theorem d_Md_all_0 : decode b_Md_all 0 = .ok (.aload_n 0, 1) := by decide +kernel
theorem d_Md_all_1 : decode b_Md_all 1 = .ok (.getfield 16, 3) := by decide +kernel
theorem d_Md_all_4 : decode b_Md_all 4 = .ok (.iload_n 1, 1) := by decide +kernel
theorem d_Md_all_5 : decode b_Md_all 5 = .ok (.iaload, 1) := by decide +kernel
theorem d_Md_all_6 : decode b_Md_all 6 = .ok (.i2l, 1) := by decide +kernel
theorem d_Md_all_7 : decode b_Md_all 7 = .ok (.ldc2_w 108, 3) := by decide +kernel
theorem d_Md_all_10 : decode b_Md_all 10 = .ok (.lmul, 1) := by decide +kernel
theorem d_Md_all_11 : decode b_Md_all 11 = .ok (.lreturn, 1) := by decide +kernel
theorem d_Md_fits_0 : decode b_Md_fits 0 = .ok (.lload_n 2, 1) := by decide +kernel
theorem d_Md_fits_1 : decode b_Md_fits 1 = .ok (.lload 4, 2) := by decide +kernel
theorem d_Md_fits_3 : decode b_Md_fits 3 = .ok (.ladd, 1) := by decide +kernel
theorem d_Md_fits_4 : decode b_Md_fits 4 = .ok (.lload 6, 2) := by decide +kernel
theorem d_Md_fits_6 : decode b_Md_fits 6 = .ok (.lcmp, 1) := by decide +kernel
theorem d_Md_fits_7 : decode b_Md_fits 7 = .ok (.ifCond .gt 7, 3) := by decide +kernel
theorem d_Md_fits_10 : decode b_Md_fits 10 = .ok (.iconst 1, 1) := by decide +kernel
theorem d_Md_fits_11 : decode b_Md_fits 11 = .ok (.goto 4, 3) := by decide +kernel
theorem d_Md_fits_14 : decode b_Md_fits 14 = .ok (.iconst 0, 1) := by decide +kernel
theorem d_Md_fits_15 : decode b_Md_fits 15 = .ok (.istore 8, 2) := by decide +kernel
theorem d_Md_fits_17 : decode b_Md_fits 17 = .ok (.aload_n 0, 1) := by decide +kernel
theorem d_Md_fits_18 : decode b_Md_fits 18 = .ok (.iload 8, 2) := by decide +kernel
theorem d_Md_fits_20 : decode b_Md_fits 20 = .ok (.ifCond .eq 10, 3) := by decide +kernel
theorem d_Md_fits_23 : decode b_Md_fits 23 = .ok (.aload_n 0, 1) := by decide +kernel
theorem d_Md_fits_24 : decode b_Md_fits 24 = .ok (.getfield 105, 3) := by decide +kernel
theorem d_Md_fits_27 : decode b_Md_fits 27 = .ok (.goto 4, 3) := by decide +kernel
theorem d_Md_fits_30 : decode b_Md_fits 30 = .ok (.iload_n 1, 1) := by decide +kernel
theorem d_Md_fits_31 : decode b_Md_fits 31 = .ok (.putfield 105, 3) := by decide +kernel
theorem d_Md_fits_34 : decode b_Md_fits 34 = .ok (.iload 8, 2) := by decide +kernel
theorem d_Md_fits_36 : decode b_Md_fits 36 = .ok (.ireturn, 1) := by decide +kernel
theorem d_Md_trapped_0 : decode b_Md_trapped 0 = .ok (.aload_n 0, 1) := by decide +kernel
theorem d_Md_trapped_1 : decode b_Md_trapped 1 = .ok (.aload_n 0, 1) := by decide +kernel
theorem d_Md_trapped_2 : decode b_Md_trapped 2 = .ok (.getfield 105, 3) := by decide +kernel
theorem d_Md_trapped_5 : decode b_Md_trapped 5 = .ok (.ifCond .le 7, 3) := by decide +kernel
theorem d_Md_trapped_8 : decode b_Md_trapped 8 = .ok (.iconst 2, 1) := by decide +kernel
theorem d_Md_trapped_9 : decode b_Md_trapped 9 = .ok (.goto 4, 3) := by decide +kernel
theorem d_Md_trapped_12 : decode b_Md_trapped 12 = .ok (.iconst 0, 1) := by decide +kernel
theorem d_Md_trapped_13 : decode b_Md_trapped 13 = .ok (.putfield 94, 3) := by decide +kernel
theorem d_Md_trapped_16 : decode b_Md_trapped 16 = .ok (.aload_n 0, 1) := by decide +kernel
theorem d_Md_trapped_17 : decode b_Md_trapped 17 = .ok (.getfield 105, 3) := by decide +kernel
theorem d_Md_trapped_20 : decode b_Md_trapped 20 = .ok (.ifCond .le 7, 3) := by decide +kernel
theorem d_Md_trapped_23 : decode b_Md_trapped 23 = .ok (.iconst 1, 1) := by decide +kernel
theorem d_Md_trapped_24 : decode b_Md_trapped 24 = .ok (.goto 4, 3) := by decide +kernel
theorem d_Md_trapped_27 : decode b_Md_trapped 27 = .ok (.iconst 0, 1) := by decide +kernel
theorem d_Md_trapped_28 : decode b_Md_trapped 28 = .ok (.ireturn, 1) := by decide +kernel
theorem d_Md_byteAt_0 : decode b_Md_byteAt 0 = .ok (.iload_n 2, 1) := by decide +kernel
theorem d_Md_byteAt_1 : decode b_Md_byteAt 1 = .ok (.istore_n 3, 1) := by decide +kernel
theorem d_Md_byteAt_2 : decode b_Md_byteAt 2 = .ok (.aload_n 0, 1) := by decide +kernel
theorem d_Md_byteAt_3 : decode b_Md_byteAt 3 = .ok (.getfield 110, 3) := by decide +kernel
theorem d_Md_byteAt_6 : decode b_Md_byteAt 6 = .ok (.iconst 1, 1) := by decide +kernel
theorem d_Md_byteAt_7 : decode b_Md_byteAt 7 = .ok (.isub, 1) := by decide +kernel
theorem d_Md_byteAt_8 : decode b_Md_byteAt 8 = .ok (.istore 4, 2) := by decide +kernel
theorem d_Md_byteAt_10 : decode b_Md_byteAt 10 = .ok (.iload 4, 2) := by decide +kernel
theorem d_Md_byteAt_12 : decode b_Md_byteAt 12 = .ok (.ifCond .lt 140, 3) := by decide +kernel
theorem d_Md_byteAt_15 : decode b_Md_byteAt 15 = .ok (.iload_n 3, 1) := by decide +kernel
theorem d_Md_byteAt_16 : decode b_Md_byteAt 16 = .ok (.aload_n 0, 1) := by decide +kernel
theorem d_Md_byteAt_17 : decode b_Md_byteAt 17 = .ok (.getfield 63, 3) := by decide +kernel
theorem d_Md_byteAt_20 : decode b_Md_byteAt 20 = .ok (.iload 4, 2) := by decide +kernel
theorem d_Md_byteAt_22 : decode b_Md_byteAt 22 = .ok (.iaload, 1) := by decide +kernel
theorem d_Md_byteAt_23 : decode b_Md_byteAt 23 = .ok (.isub, 1) := by decide +kernel
theorem d_Md_byteAt_24 : decode b_Md_byteAt 24 = .ok (.istore 5, 2) := by decide +kernel
theorem d_Md_byteAt_26 : decode b_Md_byteAt 26 = .ok (.aload_n 0, 1) := by decide +kernel
theorem d_Md_byteAt_27 : decode b_Md_byteAt 27 = .ok (.getfield 60, 3) := by decide +kernel
theorem d_Md_byteAt_30 : decode b_Md_byteAt 30 = .ok (.iload 4, 2) := by decide +kernel
theorem d_Md_byteAt_32 : decode b_Md_byteAt 32 = .ok (.iaload, 1) := by decide +kernel
theorem d_Md_byteAt_33 : decode b_Md_byteAt 33 = .ok (.iload_n 1, 1) := by decide +kernel
theorem d_Md_byteAt_34 : decode b_Md_byteAt 34 = .ok (.if_icmp .ne 112, 3) := by decide +kernel
theorem d_Md_byteAt_37 : decode b_Md_byteAt 37 = .ok (.iload 5, 2) := by decide +kernel
theorem d_Md_byteAt_39 : decode b_Md_byteAt 39 = .ok (.ifCond .lt 107, 3) := by decide +kernel
theorem d_Md_byteAt_42 : decode b_Md_byteAt 42 = .ok (.iload 5, 2) := by decide +kernel
theorem d_Md_byteAt_44 : decode b_Md_byteAt 44 = .ok (.aload_n 0, 1) := by decide +kernel
theorem d_Md_byteAt_45 : decode b_Md_byteAt 45 = .ok (.getfield 66, 3) := by decide +kernel
theorem d_Md_byteAt_48 : decode b_Md_byteAt 48 = .ok (.iload 4, 2) := by decide +kernel
theorem d_Md_byteAt_50 : decode b_Md_byteAt 50 = .ok (.iaload, 1) := by decide +kernel
theorem d_Md_byteAt_51 : decode b_Md_byteAt 51 = .ok (.if_icmp .ge 95, 3) := by decide +kernel
theorem d_Md_byteAt_54 : decode b_Md_byteAt 54 = .ok (.aload_n 0, 1) := by decide +kernel
theorem d_Md_byteAt_55 : decode b_Md_byteAt 55 = .ok (.getfield 57, 3) := by decide +kernel
theorem d_Md_byteAt_58 : decode b_Md_byteAt 58 = .ok (.iload 4, 2) := by decide +kernel
theorem d_Md_byteAt_60 : decode b_Md_byteAt 60 = .ok (.iaload, 1) := by decide +kernel
theorem d_Md_byteAt_61 : decode b_Md_byteAt 61 = .ok (.iconst 1, 1) := by decide +kernel
theorem d_Md_byteAt_62 : decode b_Md_byteAt 62 = .ok (.if_icmp .ne 22, 3) := by decide +kernel
theorem d_Md_byteAt_65 : decode b_Md_byteAt 65 = .ok (.aload_n 0, 1) := by decide +kernel
theorem d_Md_byteAt_66 : decode b_Md_byteAt 66 = .ok (.getfield 72, 3) := by decide +kernel
theorem d_Md_byteAt_69 : decode b_Md_byteAt 69 = .ok (.iload 4, 2) := by decide +kernel
theorem d_Md_byteAt_71 : decode b_Md_byteAt 71 = .ok (.laload, 1) := by decide +kernel
theorem d_Md_byteAt_72 : decode b_Md_byteAt 72 = .ok (.bipush 8, 2) := by decide +kernel
theorem d_Md_byteAt_74 : decode b_Md_byteAt 74 = .ok (.iload 5, 2) := by decide +kernel
theorem d_Md_byteAt_76 : decode b_Md_byteAt 76 = .ok (.imul, 1) := by decide +kernel
theorem d_Md_byteAt_77 : decode b_Md_byteAt 77 = .ok (.lshr, 1) := by decide +kernel
theorem d_Md_byteAt_78 : decode b_Md_byteAt 78 = .ok (.ldc2_w 116, 3) := by decide +kernel
theorem d_Md_byteAt_81 : decode b_Md_byteAt 81 = .ok (.land, 1) := by decide +kernel
theorem d_Md_byteAt_82 : decode b_Md_byteAt 82 = .ok (.l2i, 1) := by decide +kernel
theorem d_Md_byteAt_83 : decode b_Md_byteAt 83 = .ok (.ireturn, 1) := by decide +kernel
theorem d_Md_byteAt_84 : decode b_Md_byteAt 84 = .ok (.aload_n 0, 1) := by decide +kernel
theorem d_Md_byteAt_85 : decode b_Md_byteAt 85 = .ok (.getfield 57, 3) := by decide +kernel
theorem d_Md_byteAt_88 : decode b_Md_byteAt 88 = .ok (.iload 4, 2) := by decide +kernel
theorem d_Md_byteAt_90 : decode b_Md_byteAt 90 = .ok (.iaload, 1) := by decide +kernel
theorem d_Md_byteAt_91 : decode b_Md_byteAt 91 = .ok (.iconst 2, 1) := by decide +kernel
theorem d_Md_byteAt_92 : decode b_Md_byteAt 92 = .ok (.if_icmp .ne 16, 3) := by decide +kernel
theorem d_Md_byteAt_95 : decode b_Md_byteAt 95 = .ok (.aload_n 0, 1) := by decide +kernel
theorem d_Md_byteAt_96 : decode b_Md_byteAt 96 = .ok (.getfield 72, 3) := by decide +kernel
theorem d_Md_byteAt_99 : decode b_Md_byteAt 99 = .ok (.iload 4, 2) := by decide +kernel
theorem d_Md_byteAt_101 : decode b_Md_byteAt 101 = .ok (.laload, 1) := by decide +kernel
theorem d_Md_byteAt_102 : decode b_Md_byteAt 102 = .ok (.ldc2_w 116, 3) := by decide +kernel
theorem d_Md_byteAt_105 : decode b_Md_byteAt 105 = .ok (.land, 1) := by decide +kernel
theorem d_Md_byteAt_106 : decode b_Md_byteAt 106 = .ok (.l2i, 1) := by decide +kernel
theorem d_Md_byteAt_107 : decode b_Md_byteAt 107 = .ok (.ireturn, 1) := by decide +kernel
theorem d_Md_byteAt_108 : decode b_Md_byteAt 108 = .ok (.aload_n 0, 1) := by decide +kernel
theorem d_Md_byteAt_109 : decode b_Md_byteAt 109 = .ok (.getfield 57, 3) := by decide +kernel
theorem d_Md_byteAt_112 : decode b_Md_byteAt 112 = .ok (.iload 4, 2) := by decide +kernel
theorem d_Md_byteAt_114 : decode b_Md_byteAt 114 = .ok (.iaload, 1) := by decide +kernel
theorem d_Md_byteAt_115 : decode b_Md_byteAt 115 = .ok (.iconst 4, 1) := by decide +kernel
theorem d_Md_byteAt_116 : decode b_Md_byteAt 116 = .ok (.if_icmp .ne 19, 3) := by decide +kernel
theorem d_Md_byteAt_119 : decode b_Md_byteAt 119 = .ok (.aload_n 0, 1) := by decide +kernel
theorem d_Md_byteAt_120 : decode b_Md_byteAt 120 = .ok (.getfield 42, 3) := by decide +kernel
theorem d_Md_byteAt_123 : decode b_Md_byteAt 123 = .ok (.aload_n 0, 1) := by decide +kernel
theorem d_Md_byteAt_124 : decode b_Md_byteAt 124 = .ok (.getfield 69, 3) := by decide +kernel
theorem d_Md_byteAt_127 : decode b_Md_byteAt 127 = .ok (.iload 4, 2) := by decide +kernel
theorem d_Md_byteAt_129 : decode b_Md_byteAt 129 = .ok (.iaload, 1) := by decide +kernel
theorem d_Md_byteAt_130 : decode b_Md_byteAt 130 = .ok (.iload 5, 2) := by decide +kernel
theorem d_Md_byteAt_132 : decode b_Md_byteAt 132 = .ok (.iadd, 1) := by decide +kernel
theorem d_Md_byteAt_133 : decode b_Md_byteAt 133 = .ok (.iaload, 1) := by decide +kernel
theorem d_Md_byteAt_134 : decode b_Md_byteAt 134 = .ok (.ireturn, 1) := by decide +kernel
theorem d_Md_byteAt_135 : decode b_Md_byteAt 135 = .ok (.aload_n 0, 1) := by decide +kernel
theorem d_Md_byteAt_136 : decode b_Md_byteAt 136 = .ok (.getfield 69, 3) := by decide +kernel
theorem d_Md_byteAt_139 : decode b_Md_byteAt 139 = .ok (.iload 4, 2) := by decide +kernel
theorem d_Md_byteAt_141 : decode b_Md_byteAt 141 = .ok (.iaload, 1) := by decide +kernel
theorem d_Md_byteAt_142 : decode b_Md_byteAt 142 = .ok (.iload 5, 2) := by decide +kernel
theorem d_Md_byteAt_144 : decode b_Md_byteAt 144 = .ok (.iadd, 1) := by decide +kernel
theorem d_Md_byteAt_145 : decode b_Md_byteAt 145 = .ok (.istore_n 3, 1) := by decide +kernel
theorem d_Md_byteAt_146 : decode b_Md_byteAt 146 = .ok (.iinc 4 (-1), 3) := by decide +kernel
theorem d_Md_byteAt_149 : decode b_Md_byteAt 149 = .ok (.goto (-139), 3) := by decide +kernel
theorem d_Md_byteAt_152 : decode b_Md_byteAt 152 = .ok (.iconst 0, 1) := by decide +kernel
theorem d_Md_byteAt_153 : decode b_Md_byteAt 153 = .ok (.ireturn, 1) := by decide +kernel
theorem d_Md_store_0 : decode b_Md_store 0 = .ok (.iload_n 2, 1) := by decide +kernel
theorem d_Md_store_1 : decode b_Md_store 1 = .ok (.invokestatic 150, 3) := by decide +kernel
theorem d_Md_store_4 : decode b_Md_store 4 = .ok (.istore 7, 2) := by decide +kernel
theorem d_Md_store_6 : decode b_Md_store 6 = .ok (.aload_n 0, 1) := by decide +kernel
theorem d_Md_store_7 : decode b_Md_store 7 = .ok (.aload_n 0, 1) := by decide +kernel
theorem d_Md_store_8 : decode b_Md_store 8 = .ok (.iload_n 1, 1) := by decide +kernel
theorem d_Md_store_9 : decode b_Md_store 9 = .ok (.invokevirtual 119, 3) := by decide +kernel
theorem d_Md_store_12 : decode b_Md_store 12 = .ok (.ifCond .eq 12, 3) := by decide +kernel
theorem d_Md_store_15 : decode b_Md_store 15 = .ok (.iload 7, 2) := by decide +kernel
theorem d_Md_store_17 : decode b_Md_store 17 = .ok (.ifCond .le 7, 3) := by decide +kernel
theorem d_Md_store_20 : decode b_Md_store 20 = .ok (.iconst 1, 1) := by decide +kernel
theorem d_Md_store_21 : decode b_Md_store 21 = .ok (.goto 4, 3) := by decide +kernel
theorem d_Md_store_24 : decode b_Md_store 24 = .ok (.iconst 0, 1) := by decide +kernel
theorem d_Md_store_25 : decode b_Md_store 25 = .ok (.invokevirtual 131, 3) := by decide +kernel
theorem d_Md_store_28 : decode b_Md_store 28 = .ok (.ifCond .ne 4, 3) := by decide +kernel
theorem d_Md_store_31 : decode b_Md_store 31 = .ok (.return_, 1) := by decide +kernel
theorem d_Md_store_32 : decode b_Md_store 32 = .ok (.iload_n 3, 1) := by decide +kernel
theorem d_Md_store_33 : decode b_Md_store 33 = .ok (.invokestatic 123, 3) := by decide +kernel
theorem d_Md_store_36 : decode b_Md_store 36 = .ok (.iload 4, 2) := by decide +kernel
theorem d_Md_store_38 : decode b_Md_store 38 = .ok (.invokestatic 123, 3) := by decide +kernel
theorem d_Md_store_41 : decode b_Md_store 41 = .ok (.ladd, 1) := by decide +kernel
theorem d_Md_store_42 : decode b_Md_store 42 = .ok (.lstore 8, 2) := by decide +kernel
theorem d_Md_store_44 : decode b_Md_store 44 = .ok (.aload_n 0, 1) := by decide +kernel
theorem d_Md_store_45 : decode b_Md_store 45 = .ok (.iconst 4, 1) := by decide +kernel
theorem d_Md_store_46 : decode b_Md_store 46 = .ok (.lload 8, 2) := by decide +kernel
theorem d_Md_store_48 : decode b_Md_store 48 = .ok (.iload 7, 2) := by decide +kernel
theorem d_Md_store_50 : decode b_Md_store 50 = .ok (.i2l, 1) := by decide +kernel
theorem d_Md_store_51 : decode b_Md_store 51 = .ok (.aload_n 0, 1) := by decide +kernel
theorem d_Md_store_52 : decode b_Md_store 52 = .ok (.iload_n 1, 1) := by decide +kernel
theorem d_Md_store_53 : decode b_Md_store 53 = .ok (.invokevirtual 135, 3) := by decide +kernel
theorem d_Md_store_56 : decode b_Md_store 56 = .ok (.invokevirtual 138, 3) := by decide +kernel
theorem d_Md_store_59 : decode b_Md_store 59 = .ok (.pop, 1) := by decide +kernel
theorem d_Md_store_60 : decode b_Md_store 60 = .ok (.aload_n 0, 1) := by decide +kernel
theorem d_Md_store_61 : decode b_Md_store 61 = .ok (.invokevirtual 142, 3) := by decide +kernel
theorem d_Md_store_64 : decode b_Md_store 64 = .ok (.ifCond .ne 17, 3) := by decide +kernel
theorem d_Md_store_67 : decode b_Md_store 67 = .ok (.aload_n 0, 1) := by decide +kernel
theorem d_Md_store_68 : decode b_Md_store 68 = .ok (.iconst 1, 1) := by decide +kernel
theorem d_Md_store_69 : decode b_Md_store 69 = .ok (.iload_n 1, 1) := by decide +kernel
theorem d_Md_store_70 : decode b_Md_store 70 = .ok (.lload 8, 2) := by decide +kernel
theorem d_Md_store_72 : decode b_Md_store 72 = .ok (.iload 7, 2) := by decide +kernel
theorem d_Md_store_74 : decode b_Md_store 74 = .ok (.i2l, 1) := by decide +kernel
theorem d_Md_store_75 : decode b_Md_store 75 = .ok (.iconst 0, 1) := by decide +kernel
theorem d_Md_store_76 : decode b_Md_store 76 = .ok (.lload 5, 2) := by decide +kernel
theorem d_Md_store_78 : decode b_Md_store 78 = .ok (.invokevirtual 153, 3) := by decide +kernel
theorem d_Md_store_81 : decode b_Md_store 81 = .ok (.return_, 1) := by decide +kernel
theorem d_Md_stores_0 : decode b_Md_stores 0 = .ok (.iload_n 0, 1) := by decide +kernel
theorem d_Md_stores_1 : decode b_Md_stores 1 = .ok (.bipush 55, 2) := by decide +kernel
theorem d_Md_stores_3 : decode b_Md_stores 3 = .ok (.if_icmp .eq 9, 3) := by decide +kernel
theorem d_Md_stores_6 : decode b_Md_stores 6 = .ok (.iload_n 0, 1) := by decide +kernel
theorem d_Md_stores_7 : decode b_Md_stores 7 = .ok (.bipush 57, 2) := by decide +kernel
theorem d_Md_stores_9 : decode b_Md_stores 9 = .ok (.if_icmp .ne 8, 3) := by decide +kernel
theorem d_Md_stores_12 : decode b_Md_stores 12 = .ok (.bipush 8, 2) := by decide +kernel
theorem d_Md_stores_14 : decode b_Md_stores 14 = .ok (.goto 58, 3) := by decide +kernel
theorem d_Md_stores_17 : decode b_Md_stores 17 = .ok (.iload_n 0, 1) := by decide +kernel
theorem d_Md_stores_18 : decode b_Md_stores 18 = .ok (.bipush 54, 2) := by decide +kernel
theorem d_Md_stores_20 : decode b_Md_stores 20 = .ok (.if_icmp .eq 15, 3) := by decide +kernel
theorem d_Md_stores_23 : decode b_Md_stores 23 = .ok (.iload_n 0, 1) := by decide +kernel
theorem d_Md_stores_24 : decode b_Md_stores 24 = .ok (.bipush 56, 2) := by decide +kernel
theorem d_Md_stores_26 : decode b_Md_stores 26 = .ok (.if_icmp .eq 9, 3) := by decide +kernel
theorem d_Md_stores_29 : decode b_Md_stores 29 = .ok (.iload_n 0, 1) := by decide +kernel
theorem d_Md_stores_30 : decode b_Md_stores 30 = .ok (.bipush 62, 2) := by decide +kernel
theorem d_Md_stores_32 : decode b_Md_stores 32 = .ok (.if_icmp .ne 7, 3) := by decide +kernel
theorem d_Md_stores_35 : decode b_Md_stores 35 = .ok (.iconst 4, 1) := by decide +kernel
theorem d_Md_stores_36 : decode b_Md_stores 36 = .ok (.goto 36, 3) := by decide +kernel
theorem d_Md_stores_39 : decode b_Md_stores 39 = .ok (.iload_n 0, 1) := by decide +kernel
theorem d_Md_stores_40 : decode b_Md_stores 40 = .ok (.bipush 59, 2) := by decide +kernel
theorem d_Md_stores_42 : decode b_Md_stores 42 = .ok (.if_icmp .eq 9, 3) := by decide +kernel
theorem d_Md_stores_45 : decode b_Md_stores 45 = .ok (.iload_n 0, 1) := by decide +kernel
theorem d_Md_stores_46 : decode b_Md_stores 46 = .ok (.bipush 61, 2) := by decide +kernel
theorem d_Md_stores_48 : decode b_Md_stores 48 = .ok (.if_icmp .ne 7, 3) := by decide +kernel
theorem d_Md_stores_51 : decode b_Md_stores 51 = .ok (.iconst 2, 1) := by decide +kernel
theorem d_Md_stores_52 : decode b_Md_stores 52 = .ok (.goto 20, 3) := by decide +kernel
theorem d_Md_stores_55 : decode b_Md_stores 55 = .ok (.iload_n 0, 1) := by decide +kernel
theorem d_Md_stores_56 : decode b_Md_stores 56 = .ok (.bipush 58, 2) := by decide +kernel
theorem d_Md_stores_58 : decode b_Md_stores 58 = .ok (.if_icmp .eq 9, 3) := by decide +kernel
theorem d_Md_stores_61 : decode b_Md_stores 61 = .ok (.iload_n 0, 1) := by decide +kernel
theorem d_Md_stores_62 : decode b_Md_stores 62 = .ok (.bipush 60, 2) := by decide +kernel
theorem d_Md_stores_64 : decode b_Md_stores 64 = .ok (.if_icmp .ne 7, 3) := by decide +kernel
theorem d_Md_stores_67 : decode b_Md_stores 67 = .ok (.iconst 1, 1) := by decide +kernel
theorem d_Md_stores_68 : decode b_Md_stores 68 = .ok (.goto 4, 3) := by decide +kernel
theorem d_Md_stores_71 : decode b_Md_stores 71 = .ok (.iconst 0, 1) := by decide +kernel
theorem d_Md_stores_72 : decode b_Md_stores 72 = .ok (.ireturn, 1) := by decide +kernel
theorem d_Md_write_0 : decode b_Md_write 0 = .ok (.lload 5, 2) := by decide +kernel
theorem d_Md_write_2 : decode b_Md_write 2 = .ok (.lconst 0, 1) := by decide +kernel
theorem d_Md_write_3 : decode b_Md_write 3 = .ok (.lcmp, 1) := by decide +kernel
theorem d_Md_write_4 : decode b_Md_write 4 = .ok (.ifCond .ne 4, 3) := by decide +kernel
theorem d_Md_write_7 : decode b_Md_write 7 = .ok (.return_, 1) := by decide +kernel
theorem d_Md_write_8 : decode b_Md_write 8 = .ok (.aload_n 0, 1) := by decide +kernel
theorem d_Md_write_9 : decode b_Md_write 9 = .ok (.getfield 57, 3) := by decide +kernel
theorem d_Md_write_12 : decode b_Md_write 12 = .ok (.aload_n 0, 1) := by decide +kernel
theorem d_Md_write_13 : decode b_Md_write 13 = .ok (.getfield 110, 3) := by decide +kernel
theorem d_Md_write_16 : decode b_Md_write 16 = .ok (.iload_n 1, 1) := by decide +kernel
theorem d_Md_write_17 : decode b_Md_write 17 = .ok (.iastore, 1) := by decide +kernel
theorem d_Md_write_18 : decode b_Md_write 18 = .ok (.aload_n 0, 1) := by decide +kernel
theorem d_Md_write_19 : decode b_Md_write 19 = .ok (.getfield 60, 3) := by decide +kernel
theorem d_Md_write_22 : decode b_Md_write 22 = .ok (.aload_n 0, 1) := by decide +kernel
theorem d_Md_write_23 : decode b_Md_write 23 = .ok (.getfield 110, 3) := by decide +kernel
theorem d_Md_write_26 : decode b_Md_write 26 = .ok (.iload_n 2, 1) := by decide +kernel
theorem d_Md_write_27 : decode b_Md_write 27 = .ok (.iastore, 1) := by decide +kernel
theorem d_Md_write_28 : decode b_Md_write 28 = .ok (.aload_n 0, 1) := by decide +kernel
theorem d_Md_write_29 : decode b_Md_write 29 = .ok (.getfield 63, 3) := by decide +kernel
theorem d_Md_write_32 : decode b_Md_write 32 = .ok (.aload_n 0, 1) := by decide +kernel
theorem d_Md_write_33 : decode b_Md_write 33 = .ok (.getfield 110, 3) := by decide +kernel
theorem d_Md_write_36 : decode b_Md_write 36 = .ok (.lload_n 3, 1) := by decide +kernel
theorem d_Md_write_37 : decode b_Md_write 37 = .ok (.l2i, 1) := by decide +kernel
theorem d_Md_write_38 : decode b_Md_write 38 = .ok (.iastore, 1) := by decide +kernel
theorem d_Md_write_39 : decode b_Md_write 39 = .ok (.aload_n 0, 1) := by decide +kernel
theorem d_Md_write_40 : decode b_Md_write 40 = .ok (.getfield 66, 3) := by decide +kernel
theorem d_Md_write_43 : decode b_Md_write 43 = .ok (.aload_n 0, 1) := by decide +kernel
theorem d_Md_write_44 : decode b_Md_write 44 = .ok (.getfield 110, 3) := by decide +kernel
theorem d_Md_write_47 : decode b_Md_write 47 = .ok (.lload 5, 2) := by decide +kernel
theorem d_Md_write_49 : decode b_Md_write 49 = .ok (.l2i, 1) := by decide +kernel
theorem d_Md_write_50 : decode b_Md_write 50 = .ok (.iastore, 1) := by decide +kernel
theorem d_Md_write_51 : decode b_Md_write 51 = .ok (.aload_n 0, 1) := by decide +kernel
theorem d_Md_write_52 : decode b_Md_write 52 = .ok (.getfield 69, 3) := by decide +kernel
theorem d_Md_write_55 : decode b_Md_write 55 = .ok (.aload_n 0, 1) := by decide +kernel
theorem d_Md_write_56 : decode b_Md_write 56 = .ok (.getfield 110, 3) := by decide +kernel
theorem d_Md_write_59 : decode b_Md_write 59 = .ok (.iload 7, 2) := by decide +kernel
theorem d_Md_write_61 : decode b_Md_write 61 = .ok (.iastore, 1) := by decide +kernel
theorem d_Md_write_62 : decode b_Md_write 62 = .ok (.aload_n 0, 1) := by decide +kernel
theorem d_Md_write_63 : decode b_Md_write 63 = .ok (.getfield 72, 3) := by decide +kernel
theorem d_Md_write_66 : decode b_Md_write 66 = .ok (.aload_n 0, 1) := by decide +kernel
theorem d_Md_write_67 : decode b_Md_write 67 = .ok (.getfield 110, 3) := by decide +kernel
theorem d_Md_write_70 : decode b_Md_write 70 = .ok (.lload 8, 2) := by decide +kernel
theorem d_Md_write_72 : decode b_Md_write 72 = .ok (.lastore, 1) := by decide +kernel
theorem d_Md_write_73 : decode b_Md_write 73 = .ok (.aload_n 0, 1) := by decide +kernel
theorem d_Md_write_74 : decode b_Md_write 74 = .ok (.dup, 1) := by decide +kernel
theorem d_Md_write_75 : decode b_Md_write 75 = .ok (.getfield 110, 3) := by decide +kernel
theorem d_Md_write_78 : decode b_Md_write 78 = .ok (.iconst 1, 1) := by decide +kernel
theorem d_Md_write_79 : decode b_Md_write 79 = .ok (.iadd, 1) := by decide +kernel
theorem d_Md_write_80 : decode b_Md_write 80 = .ok (.putfield 110, 3) := by decide +kernel
theorem d_Md_write_83 : decode b_Md_write 83 = .ok (.return_, 1) := by decide +kernel
theorem d_Md_fill_0 : decode b_Md_fill 0 = .ok (.aload_n 0, 1) := by decide +kernel
theorem d_Md_fill_1 : decode b_Md_fill 1 = .ok (.aload_n 0, 1) := by decide +kernel
theorem d_Md_fill_2 : decode b_Md_fill 2 = .ok (.iload_n 1, 1) := by decide +kernel
theorem d_Md_fill_3 : decode b_Md_fill 3 = .ok (.invokevirtual 119, 3) := by decide +kernel
theorem d_Md_fill_6 : decode b_Md_fill 6 = .ok (.invokevirtual 131, 3) := by decide +kernel
theorem d_Md_fill_9 : decode b_Md_fill 9 = .ok (.ifCond .ne 4, 3) := by decide +kernel
theorem d_Md_fill_12 : decode b_Md_fill 12 = .ok (.return_, 1) := by decide +kernel
theorem d_Md_fill_13 : decode b_Md_fill 13 = .ok (.aload_n 0, 1) := by decide +kernel
theorem d_Md_fill_14 : decode b_Md_fill 14 = .ok (.iconst 4, 1) := by decide +kernel
theorem d_Md_fill_15 : decode b_Md_fill 15 = .ok (.iload_n 2, 1) := by decide +kernel
theorem d_Md_fill_16 : decode b_Md_fill 16 = .ok (.invokestatic 123, 3) := by decide +kernel
theorem d_Md_fill_19 : decode b_Md_fill 19 = .ok (.iload 4, 2) := by decide +kernel
theorem d_Md_fill_21 : decode b_Md_fill 21 = .ok (.invokestatic 123, 3) := by decide +kernel
theorem d_Md_fill_24 : decode b_Md_fill 24 = .ok (.aload_n 0, 1) := by decide +kernel
theorem d_Md_fill_25 : decode b_Md_fill 25 = .ok (.iload_n 1, 1) := by decide +kernel
theorem d_Md_fill_26 : decode b_Md_fill 26 = .ok (.invokevirtual 135, 3) := by decide +kernel
theorem d_Md_fill_29 : decode b_Md_fill 29 = .ok (.invokevirtual 138, 3) := by decide +kernel
theorem d_Md_fill_32 : decode b_Md_fill 32 = .ok (.pop, 1) := by decide +kernel
theorem d_Md_fill_33 : decode b_Md_fill 33 = .ok (.aload_n 0, 1) := by decide +kernel
theorem d_Md_fill_34 : decode b_Md_fill 34 = .ok (.invokevirtual 142, 3) := by decide +kernel
theorem d_Md_fill_37 : decode b_Md_fill 37 = .ok (.ifCond .ne 17, 3) := by decide +kernel
theorem d_Md_fill_40 : decode b_Md_fill 40 = .ok (.aload_n 0, 1) := by decide +kernel
theorem d_Md_fill_41 : decode b_Md_fill 41 = .ok (.iconst 2, 1) := by decide +kernel
theorem d_Md_fill_42 : decode b_Md_fill 42 = .ok (.iload_n 1, 1) := by decide +kernel
theorem d_Md_fill_43 : decode b_Md_fill 43 = .ok (.iload_n 2, 1) := by decide +kernel
theorem d_Md_fill_44 : decode b_Md_fill 44 = .ok (.i2l, 1) := by decide +kernel
theorem d_Md_fill_45 : decode b_Md_fill 45 = .ok (.iload 4, 2) := by decide +kernel
theorem d_Md_fill_47 : decode b_Md_fill 47 = .ok (.i2l, 1) := by decide +kernel
theorem d_Md_fill_48 : decode b_Md_fill 48 = .ok (.iconst 0, 1) := by decide +kernel
theorem d_Md_fill_49 : decode b_Md_fill 49 = .ok (.iload_n 3, 1) := by decide +kernel
theorem d_Md_fill_50 : decode b_Md_fill 50 = .ok (.i2l, 1) := by decide +kernel
theorem d_Md_fill_51 : decode b_Md_fill 51 = .ok (.invokevirtual 153, 3) := by decide +kernel
theorem d_Md_fill_54 : decode b_Md_fill 54 = .ok (.return_, 1) := by decide +kernel
theorem d_Md_copy_0 : decode b_Md_copy 0 = .ok (.aload_n 0, 1) := by decide +kernel
theorem d_Md_copy_1 : decode b_Md_copy 1 = .ok (.aload_n 0, 1) := by decide +kernel
theorem d_Md_copy_2 : decode b_Md_copy 2 = .ok (.iload_n 1, 1) := by decide +kernel
theorem d_Md_copy_3 : decode b_Md_copy 3 = .ok (.invokevirtual 119, 3) := by decide +kernel
theorem d_Md_copy_6 : decode b_Md_copy 6 = .ok (.invokevirtual 131, 3) := by decide +kernel
theorem d_Md_copy_9 : decode b_Md_copy 9 = .ok (.ifCond .ne 4, 3) := by decide +kernel
theorem d_Md_copy_12 : decode b_Md_copy 12 = .ok (.return_, 1) := by decide +kernel
theorem d_Md_copy_13 : decode b_Md_copy 13 = .ok (.aload_n 0, 1) := by decide +kernel
theorem d_Md_copy_14 : decode b_Md_copy 14 = .ok (.iconst 4, 1) := by decide +kernel
theorem d_Md_copy_15 : decode b_Md_copy 15 = .ok (.iload_n 2, 1) := by decide +kernel
theorem d_Md_copy_16 : decode b_Md_copy 16 = .ok (.invokestatic 123, 3) := by decide +kernel
theorem d_Md_copy_19 : decode b_Md_copy 19 = .ok (.iload 4, 2) := by decide +kernel
theorem d_Md_copy_21 : decode b_Md_copy 21 = .ok (.invokestatic 123, 3) := by decide +kernel
theorem d_Md_copy_24 : decode b_Md_copy 24 = .ok (.aload_n 0, 1) := by decide +kernel
theorem d_Md_copy_25 : decode b_Md_copy 25 = .ok (.iload_n 1, 1) := by decide +kernel
theorem d_Md_copy_26 : decode b_Md_copy 26 = .ok (.invokevirtual 135, 3) := by decide +kernel
theorem d_Md_copy_29 : decode b_Md_copy 29 = .ok (.invokevirtual 138, 3) := by decide +kernel
theorem d_Md_copy_32 : decode b_Md_copy 32 = .ok (.pop, 1) := by decide +kernel
theorem d_Md_copy_33 : decode b_Md_copy 33 = .ok (.aload_n 0, 1) := by decide +kernel
theorem d_Md_copy_34 : decode b_Md_copy 34 = .ok (.iconst 4, 1) := by decide +kernel
theorem d_Md_copy_35 : decode b_Md_copy 35 = .ok (.iload_n 3, 1) := by decide +kernel
theorem d_Md_copy_36 : decode b_Md_copy 36 = .ok (.invokestatic 123, 3) := by decide +kernel
theorem d_Md_copy_39 : decode b_Md_copy 39 = .ok (.iload 4, 2) := by decide +kernel
theorem d_Md_copy_41 : decode b_Md_copy 41 = .ok (.invokestatic 123, 3) := by decide +kernel
theorem d_Md_copy_44 : decode b_Md_copy 44 = .ok (.aload_n 0, 1) := by decide +kernel
theorem d_Md_copy_45 : decode b_Md_copy 45 = .ok (.iload_n 1, 1) := by decide +kernel
theorem d_Md_copy_46 : decode b_Md_copy 46 = .ok (.invokevirtual 135, 3) := by decide +kernel
theorem d_Md_copy_49 : decode b_Md_copy 49 = .ok (.invokevirtual 138, 3) := by decide +kernel
theorem d_Md_copy_52 : decode b_Md_copy 52 = .ok (.pop, 1) := by decide +kernel
theorem d_Md_copy_53 : decode b_Md_copy 53 = .ok (.aload_n 0, 1) := by decide +kernel
theorem d_Md_copy_54 : decode b_Md_copy 54 = .ok (.invokevirtual 142, 3) := by decide +kernel
theorem d_Md_copy_57 : decode b_Md_copy 57 = .ok (.ifCond .ne 16, 3) := by decide +kernel
theorem d_Md_copy_60 : decode b_Md_copy 60 = .ok (.aload_n 0, 1) := by decide +kernel
theorem d_Md_copy_61 : decode b_Md_copy 61 = .ok (.iconst 3, 1) := by decide +kernel
theorem d_Md_copy_62 : decode b_Md_copy 62 = .ok (.iload_n 1, 1) := by decide +kernel
theorem d_Md_copy_63 : decode b_Md_copy 63 = .ok (.iload_n 2, 1) := by decide +kernel
theorem d_Md_copy_64 : decode b_Md_copy 64 = .ok (.i2l, 1) := by decide +kernel
theorem d_Md_copy_65 : decode b_Md_copy 65 = .ok (.iload 4, 2) := by decide +kernel
theorem d_Md_copy_67 : decode b_Md_copy 67 = .ok (.i2l, 1) := by decide +kernel
theorem d_Md_copy_68 : decode b_Md_copy 68 = .ok (.iload_n 3, 1) := by decide +kernel
theorem d_Md_copy_69 : decode b_Md_copy 69 = .ok (.lconst 0, 1) := by decide +kernel
theorem d_Md_copy_70 : decode b_Md_copy 70 = .ok (.invokevirtual 153, 3) := by decide +kernel
theorem d_Md_copy_73 : decode b_Md_copy 73 = .ok (.return_, 1) := by decide +kernel
theorem d_Md_init_0 : decode b_Md_init 0 = .ok (.aload_n 0, 1) := by decide +kernel
theorem d_Md_init_1 : decode b_Md_init 1 = .ok (.aload_n 0, 1) := by decide +kernel
theorem d_Md_init_2 : decode b_Md_init 2 = .ok (.iload_n 1, 1) := by decide +kernel
theorem d_Md_init_3 : decode b_Md_init 3 = .ok (.invokevirtual 119, 3) := by decide +kernel
theorem d_Md_init_6 : decode b_Md_init 6 = .ok (.ifCond .eq 19, 3) := by decide +kernel
theorem d_Md_init_9 : decode b_Md_init 9 = .ok (.iload_n 2, 1) := by decide +kernel
theorem d_Md_init_10 : decode b_Md_init 10 = .ok (.ifCond .lt 15, 3) := by decide +kernel
theorem d_Md_init_13 : decode b_Md_init 13 = .ok (.iload_n 2, 1) := by decide +kernel
theorem d_Md_init_14 : decode b_Md_init 14 = .ok (.aload_n 0, 1) := by decide +kernel
theorem d_Md_init_15 : decode b_Md_init 15 = .ok (.getfield 157, 3) := by decide +kernel
theorem d_Md_init_18 : decode b_Md_init 18 = .ok (.if_icmp .ge 7, 3) := by decide +kernel
theorem d_Md_init_21 : decode b_Md_init 21 = .ok (.iconst 1, 1) := by decide +kernel
theorem d_Md_init_22 : decode b_Md_init 22 = .ok (.goto 4, 3) := by decide +kernel
theorem d_Md_init_25 : decode b_Md_init 25 = .ok (.iconst 0, 1) := by decide +kernel
theorem d_Md_init_26 : decode b_Md_init 26 = .ok (.invokevirtual 131, 3) := by decide +kernel
theorem d_Md_init_29 : decode b_Md_init 29 = .ok (.ifCond .ne 4, 3) := by decide +kernel
theorem d_Md_init_32 : decode b_Md_init 32 = .ok (.return_, 1) := by decide +kernel
theorem d_Md_init_33 : decode b_Md_init 33 = .ok (.aload_n 0, 1) := by decide +kernel
theorem d_Md_init_34 : decode b_Md_init 34 = .ok (.iconst 4, 1) := by decide +kernel
theorem d_Md_init_35 : decode b_Md_init 35 = .ok (.iload_n 3, 1) := by decide +kernel
theorem d_Md_init_36 : decode b_Md_init 36 = .ok (.invokestatic 123, 3) := by decide +kernel
theorem d_Md_init_39 : decode b_Md_init 39 = .ok (.iload 5, 2) := by decide +kernel
theorem d_Md_init_41 : decode b_Md_init 41 = .ok (.invokestatic 123, 3) := by decide +kernel
theorem d_Md_init_44 : decode b_Md_init 44 = .ok (.aload_n 0, 1) := by decide +kernel
theorem d_Md_init_45 : decode b_Md_init 45 = .ok (.iload_n 1, 1) := by decide +kernel
theorem d_Md_init_46 : decode b_Md_init 46 = .ok (.invokevirtual 135, 3) := by decide +kernel
theorem d_Md_init_49 : decode b_Md_init 49 = .ok (.invokevirtual 138, 3) := by decide +kernel
theorem d_Md_init_52 : decode b_Md_init 52 = .ok (.pop, 1) := by decide +kernel
theorem d_Md_init_53 : decode b_Md_init 53 = .ok (.aload_n 0, 1) := by decide +kernel
theorem d_Md_init_54 : decode b_Md_init 54 = .ok (.iconst 4, 1) := by decide +kernel
theorem d_Md_init_55 : decode b_Md_init 55 = .ok (.iload 4, 2) := by decide +kernel
theorem d_Md_init_57 : decode b_Md_init 57 = .ok (.invokestatic 123, 3) := by decide +kernel
theorem d_Md_init_60 : decode b_Md_init 60 = .ok (.iload 5, 2) := by decide +kernel
theorem d_Md_init_62 : decode b_Md_init 62 = .ok (.invokestatic 123, 3) := by decide +kernel
theorem d_Md_init_65 : decode b_Md_init 65 = .ok (.aload_n 0, 1) := by decide +kernel
theorem d_Md_init_66 : decode b_Md_init 66 = .ok (.getfield 38, 3) := by decide +kernel
theorem d_Md_init_69 : decode b_Md_init 69 = .ok (.iload_n 2, 1) := by decide +kernel
theorem d_Md_init_70 : decode b_Md_init 70 = .ok (.baload, 1) := by decide +kernel
theorem d_Md_init_71 : decode b_Md_init 71 = .ok (.ifCond .eq 7, 3) := by decide +kernel
theorem d_Md_init_74 : decode b_Md_init 74 = .ok (.lconst 0, 1) := by decide +kernel
theorem d_Md_init_75 : decode b_Md_init 75 = .ok (.goto 10, 3) := by decide +kernel
theorem d_Md_init_78 : decode b_Md_init 78 = .ok (.aload_n 0, 1) := by decide +kernel
theorem d_Md_init_79 : decode b_Md_init 79 = .ok (.getfield 35, 3) := by decide +kernel
theorem d_Md_init_82 : decode b_Md_init 82 = .ok (.iload_n 2, 1) := by decide +kernel
theorem d_Md_init_83 : decode b_Md_init 83 = .ok (.iaload, 1) := by decide +kernel
theorem d_Md_init_84 : decode b_Md_init 84 = .ok (.i2l, 1) := by decide +kernel
theorem d_Md_init_85 : decode b_Md_init 85 = .ok (.invokevirtual 138, 3) := by decide +kernel
theorem d_Md_init_88 : decode b_Md_init 88 = .ok (.pop, 1) := by decide +kernel
theorem d_Md_init_89 : decode b_Md_init 89 = .ok (.aload_n 0, 1) := by decide +kernel
theorem d_Md_init_90 : decode b_Md_init 90 = .ok (.invokevirtual 142, 3) := by decide +kernel
theorem d_Md_init_93 : decode b_Md_init 93 = .ok (.ifCond .ne 24, 3) := by decide +kernel
theorem d_Md_init_96 : decode b_Md_init 96 = .ok (.aload_n 0, 1) := by decide +kernel
theorem d_Md_init_97 : decode b_Md_init 97 = .ok (.iconst 4, 1) := by decide +kernel
theorem d_Md_init_98 : decode b_Md_init 98 = .ok (.iload_n 1, 1) := by decide +kernel
theorem d_Md_init_99 : decode b_Md_init 99 = .ok (.iload_n 3, 1) := by decide +kernel
theorem d_Md_init_100 : decode b_Md_init 100 = .ok (.i2l, 1) := by decide +kernel
theorem d_Md_init_101 : decode b_Md_init 101 = .ok (.iload 5, 2) := by decide +kernel
theorem d_Md_init_103 : decode b_Md_init 103 = .ok (.i2l, 1) := by decide +kernel
theorem d_Md_init_104 : decode b_Md_init 104 = .ok (.aload_n 0, 1) := by decide +kernel
theorem d_Md_init_105 : decode b_Md_init 105 = .ok (.getfield 32, 3) := by decide +kernel
theorem d_Md_init_108 : decode b_Md_init 108 = .ok (.iload_n 2, 1) := by decide +kernel
theorem d_Md_init_109 : decode b_Md_init 109 = .ok (.iaload, 1) := by decide +kernel
theorem d_Md_init_110 : decode b_Md_init 110 = .ok (.iload 4, 2) := by decide +kernel
theorem d_Md_init_112 : decode b_Md_init 112 = .ok (.iadd, 1) := by decide +kernel
theorem d_Md_init_113 : decode b_Md_init 113 = .ok (.lconst 0, 1) := by decide +kernel
theorem d_Md_init_114 : decode b_Md_init 114 = .ok (.invokevirtual 153, 3) := by decide +kernel
theorem d_Md_init_117 : decode b_Md_init 117 = .ok (.return_, 1) := by decide +kernel
theorem d_Md_data_0 : decode b_Md_data 0 = .ok (.aload_n 0, 1) := by decide +kernel
theorem d_Md_data_1 : decode b_Md_data 1 = .ok (.iconst 0, 1) := by decide +kernel
theorem d_Md_data_2 : decode b_Md_data 2 = .ok (.putfield 94, 3) := by decide +kernel
theorem d_Md_data_5 : decode b_Md_data 5 = .ok (.iload 4, 2) := by decide +kernel
theorem d_Md_data_7 : decode b_Md_data 7 = .ok (.ifCond .eq 32, 3) := by decide +kernel
theorem d_Md_data_10 : decode b_Md_data 10 = .ok (.aload_n 0, 1) := by decide +kernel
theorem d_Md_data_11 : decode b_Md_data 11 = .ok (.getfield 157, 3) := by decide +kernel
theorem d_Md_data_14 : decode b_Md_data 14 = .ok (.ifCond .le 21, 3) := by decide +kernel
theorem d_Md_data_17 : decode b_Md_data 17 = .ok (.aload_n 0, 1) := by decide +kernel
theorem d_Md_data_18 : decode b_Md_data 18 = .ok (.getfield 38, 3) := by decide +kernel
theorem d_Md_data_21 : decode b_Md_data 21 = .ok (.aload_n 0, 1) := by decide +kernel
theorem d_Md_data_22 : decode b_Md_data 22 = .ok (.getfield 157, 3) := by decide +kernel
theorem d_Md_data_25 : decode b_Md_data 25 = .ok (.iconst 1, 1) := by decide +kernel
theorem d_Md_data_26 : decode b_Md_data 26 = .ok (.isub, 1) := by decide +kernel
theorem d_Md_data_27 : decode b_Md_data 27 = .ok (.baload, 1) := by decide +kernel
theorem d_Md_data_28 : decode b_Md_data 28 = .ok (.ifCond .ne 7, 3) := by decide +kernel
theorem d_Md_data_31 : decode b_Md_data 31 = .ok (.iconst 1, 1) := by decide +kernel
theorem d_Md_data_32 : decode b_Md_data 32 = .ok (.goto 21, 3) := by decide +kernel
theorem d_Md_data_35 : decode b_Md_data 35 = .ok (.iconst 0, 1) := by decide +kernel
theorem d_Md_data_36 : decode b_Md_data 36 = .ok (.goto 17, 3) := by decide +kernel
theorem d_Md_data_39 : decode b_Md_data 39 = .ok (.aload_n 0, 1) := by decide +kernel
theorem d_Md_data_40 : decode b_Md_data 40 = .ok (.getfield 157, 3) := by decide +kernel
theorem d_Md_data_43 : decode b_Md_data 43 = .ok (.bipush 24, 2) := by decide +kernel
theorem d_Md_data_45 : decode b_Md_data 45 = .ok (.if_icmp .ge 7, 3) := by decide +kernel
theorem d_Md_data_48 : decode b_Md_data 48 = .ok (.iconst 1, 1) := by decide +kernel
theorem d_Md_data_49 : decode b_Md_data 49 = .ok (.goto 4, 3) := by decide +kernel
theorem d_Md_data_52 : decode b_Md_data 52 = .ok (.iconst 0, 1) := by decide +kernel
theorem d_Md_data_53 : decode b_Md_data 53 = .ok (.istore 5, 2) := by decide +kernel
theorem d_Md_data_55 : decode b_Md_data 55 = .ok (.iload_n 3, 1) := by decide +kernel
theorem d_Md_data_56 : decode b_Md_data 56 = .ok (.ifCond .lt 26, 3) := by decide +kernel
theorem d_Md_data_59 : decode b_Md_data 59 = .ok (.iload_n 3, 1) := by decide +kernel
theorem d_Md_data_60 : decode b_Md_data 60 = .ok (.bipush 8, 2) := by decide +kernel
theorem d_Md_data_62 : decode b_Md_data 62 = .ok (.if_icmp .gt 20, 3) := by decide +kernel
theorem d_Md_data_65 : decode b_Md_data 65 = .ok (.iload 5, 2) := by decide +kernel
theorem d_Md_data_67 : decode b_Md_data 67 = .ok (.ifCond .eq 15, 3) := by decide +kernel
theorem d_Md_data_70 : decode b_Md_data 70 = .ok (.aload_n 0, 1) := by decide +kernel
theorem d_Md_data_71 : decode b_Md_data 71 = .ok (.getfield 160, 3) := by decide +kernel
theorem d_Md_data_74 : decode b_Md_data 74 = .ok (.iload_n 3, 1) := by decide +kernel
theorem d_Md_data_75 : decode b_Md_data 75 = .ok (.iadd, 1) := by decide +kernel
theorem d_Md_data_76 : decode b_Md_data 76 = .ok (.sipush 600, 3) := by decide +kernel
theorem d_Md_data_79 : decode b_Md_data 79 = .ok (.if_icmp .le 5, 3) := by decide +kernel
theorem d_Md_data_82 : decode b_Md_data 82 = .ok (.iconst (-1), 1) := by decide +kernel
theorem d_Md_data_83 : decode b_Md_data 83 = .ok (.ireturn, 1) := by decide +kernel
theorem d_Md_data_84 : decode b_Md_data 84 = .ok (.iload 4, 2) := by decide +kernel
theorem d_Md_data_86 : decode b_Md_data 86 = .ok (.ifCond .ne 26, 3) := by decide +kernel
theorem d_Md_data_89 : decode b_Md_data 89 = .ok (.aload_n 0, 1) := by decide +kernel
theorem d_Md_data_90 : decode b_Md_data 90 = .ok (.getfield 32, 3) := by decide +kernel
theorem d_Md_data_93 : decode b_Md_data 93 = .ok (.aload_n 0, 1) := by decide +kernel
theorem d_Md_data_94 : decode b_Md_data 94 = .ok (.getfield 157, 3) := by decide +kernel
theorem d_Md_data_97 : decode b_Md_data 97 = .ok (.aload_n 0, 1) := by decide +kernel
theorem d_Md_data_98 : decode b_Md_data 98 = .ok (.getfield 160, 3) := by decide +kernel
theorem d_Md_data_101 : decode b_Md_data 101 = .ok (.iastore, 1) := by decide +kernel
theorem d_Md_data_102 : decode b_Md_data 102 = .ok (.aload_n 0, 1) := by decide +kernel
theorem d_Md_data_103 : decode b_Md_data 103 = .ok (.dup, 1) := by decide +kernel
theorem d_Md_data_104 : decode b_Md_data 104 = .ok (.getfield 157, 3) := by decide +kernel
theorem d_Md_data_107 : decode b_Md_data 107 = .ok (.iconst 1, 1) := by decide +kernel
theorem d_Md_data_108 : decode b_Md_data 108 = .ok (.iadd, 1) := by decide +kernel
theorem d_Md_data_109 : decode b_Md_data 109 = .ok (.putfield 157, 3) := by decide +kernel
theorem d_Md_data_112 : decode b_Md_data 112 = .ok (.iconst 0, 1) := by decide +kernel
theorem d_Md_data_113 : decode b_Md_data 113 = .ok (.istore 6, 2) := by decide +kernel
theorem d_Md_data_115 : decode b_Md_data 115 = .ok (.iload 6, 2) := by decide +kernel
theorem d_Md_data_117 : decode b_Md_data 117 = .ok (.iload_n 3, 1) := by decide +kernel
theorem d_Md_data_118 : decode b_Md_data 118 = .ok (.if_icmp .ge 33, 3) := by decide +kernel
theorem d_Md_data_121 : decode b_Md_data 121 = .ok (.aload_n 0, 1) := by decide +kernel
theorem d_Md_data_122 : decode b_Md_data 122 = .ok (.getfield 42, 3) := by decide +kernel
theorem d_Md_data_125 : decode b_Md_data 125 = .ok (.aload_n 0, 1) := by decide +kernel
theorem d_Md_data_126 : decode b_Md_data 126 = .ok (.getfield 160, 3) := by decide +kernel
theorem d_Md_data_129 : decode b_Md_data 129 = .ok (.iload 6, 2) := by decide +kernel
theorem d_Md_data_131 : decode b_Md_data 131 = .ok (.iadd, 1) := by decide +kernel
theorem d_Md_data_132 : decode b_Md_data 132 = .ok (.lload_n 1, 1) := by decide +kernel
theorem d_Md_data_133 : decode b_Md_data 133 = .ok (.bipush 8, 2) := by decide +kernel
theorem d_Md_data_135 : decode b_Md_data 135 = .ok (.iload 6, 2) := by decide +kernel
theorem d_Md_data_137 : decode b_Md_data 137 = .ok (.imul, 1) := by decide +kernel
theorem d_Md_data_138 : decode b_Md_data 138 = .ok (.lshr, 1) := by decide +kernel
theorem d_Md_data_139 : decode b_Md_data 139 = .ok (.ldc2_w 116, 3) := by decide +kernel
theorem d_Md_data_142 : decode b_Md_data 142 = .ok (.land, 1) := by decide +kernel
theorem d_Md_data_143 : decode b_Md_data 143 = .ok (.l2i, 1) := by decide +kernel
theorem d_Md_data_144 : decode b_Md_data 144 = .ok (.iastore, 1) := by decide +kernel
theorem d_Md_data_145 : decode b_Md_data 145 = .ok (.iinc 6 1, 3) := by decide +kernel
theorem d_Md_data_148 : decode b_Md_data 148 = .ok (.goto (-33), 3) := by decide +kernel
theorem d_Md_data_151 : decode b_Md_data 151 = .ok (.aload_n 0, 1) := by decide +kernel
theorem d_Md_data_152 : decode b_Md_data 152 = .ok (.dup, 1) := by decide +kernel
theorem d_Md_data_153 : decode b_Md_data 153 = .ok (.getfield 160, 3) := by decide +kernel
theorem d_Md_data_156 : decode b_Md_data 156 = .ok (.iload_n 3, 1) := by decide +kernel
theorem d_Md_data_157 : decode b_Md_data 157 = .ok (.iadd, 1) := by decide +kernel
theorem d_Md_data_158 : decode b_Md_data 158 = .ok (.putfield 160, 3) := by decide +kernel
theorem d_Md_data_161 : decode b_Md_data 161 = .ok (.aload_n 0, 1) := by decide +kernel
theorem d_Md_data_162 : decode b_Md_data 162 = .ok (.getfield 35, 3) := by decide +kernel
theorem d_Md_data_165 : decode b_Md_data 165 = .ok (.aload_n 0, 1) := by decide +kernel
theorem d_Md_data_166 : decode b_Md_data 166 = .ok (.getfield 157, 3) := by decide +kernel
theorem d_Md_data_169 : decode b_Md_data 169 = .ok (.iconst 1, 1) := by decide +kernel
theorem d_Md_data_170 : decode b_Md_data 170 = .ok (.isub, 1) := by decide +kernel
theorem d_Md_data_171 : decode b_Md_data 171 = .ok (.dup2, 1) := by decide +kernel
theorem d_Md_data_172 : decode b_Md_data 172 = .ok (.iaload, 1) := by decide +kernel
theorem d_Md_data_173 : decode b_Md_data 173 = .ok (.iload_n 3, 1) := by decide +kernel
theorem d_Md_data_174 : decode b_Md_data 174 = .ok (.iadd, 1) := by decide +kernel
theorem d_Md_data_175 : decode b_Md_data 175 = .ok (.iastore, 1) := by decide +kernel
theorem d_Md_data_176 : decode b_Md_data 176 = .ok (.aload_n 0, 1) := by decide +kernel
theorem d_Md_data_177 : decode b_Md_data 177 = .ok (.getfield 157, 3) := by decide +kernel
theorem d_Md_data_180 : decode b_Md_data 180 = .ok (.iconst 1, 1) := by decide +kernel
theorem d_Md_data_181 : decode b_Md_data 181 = .ok (.isub, 1) := by decide +kernel
theorem d_Md_data_182 : decode b_Md_data 182 = .ok (.ireturn, 1) := by decide +kernel
theorem d_Md_element_0 : decode b_Md_element 0 = .ok (.aload_n 0, 1) := by decide +kernel
theorem d_Md_element_1 : decode b_Md_element 1 = .ok (.iconst 0, 1) := by decide +kernel
theorem d_Md_element_2 : decode b_Md_element 2 = .ok (.putfield 94, 3) := by decide +kernel
theorem d_Md_element_5 : decode b_Md_element 5 = .ok (.iload_n 2, 1) := by decide +kernel
theorem d_Md_element_6 : decode b_Md_element 6 = .ok (.ifCond .eq 32, 3) := by decide +kernel
theorem d_Md_element_9 : decode b_Md_element 9 = .ok (.aload_n 0, 1) := by decide +kernel
theorem d_Md_element_10 : decode b_Md_element 10 = .ok (.getfield 163, 3) := by decide +kernel
theorem d_Md_element_13 : decode b_Md_element 13 = .ok (.ifCond .le 21, 3) := by decide +kernel
theorem d_Md_element_16 : decode b_Md_element 16 = .ok (.aload_n 0, 1) := by decide +kernel
theorem d_Md_element_17 : decode b_Md_element 17 = .ok (.getfield 51, 3) := by decide +kernel
theorem d_Md_element_20 : decode b_Md_element 20 = .ok (.aload_n 0, 1) := by decide +kernel
theorem d_Md_element_21 : decode b_Md_element 21 = .ok (.getfield 163, 3) := by decide +kernel
theorem d_Md_element_24 : decode b_Md_element 24 = .ok (.iconst 1, 1) := by decide +kernel
theorem d_Md_element_25 : decode b_Md_element 25 = .ok (.isub, 1) := by decide +kernel
theorem d_Md_element_26 : decode b_Md_element 26 = .ok (.baload, 1) := by decide +kernel
theorem d_Md_element_27 : decode b_Md_element 27 = .ok (.ifCond .ne 7, 3) := by decide +kernel
theorem d_Md_element_30 : decode b_Md_element 30 = .ok (.iconst 1, 1) := by decide +kernel
theorem d_Md_element_31 : decode b_Md_element 31 = .ok (.goto 21, 3) := by decide +kernel
theorem d_Md_element_34 : decode b_Md_element 34 = .ok (.iconst 0, 1) := by decide +kernel
theorem d_Md_element_35 : decode b_Md_element 35 = .ok (.goto 17, 3) := by decide +kernel
theorem d_Md_element_38 : decode b_Md_element 38 = .ok (.aload_n 0, 1) := by decide +kernel
theorem d_Md_element_39 : decode b_Md_element 39 = .ok (.getfield 163, 3) := by decide +kernel
theorem d_Md_element_42 : decode b_Md_element 42 = .ok (.bipush 24, 2) := by decide +kernel
theorem d_Md_element_44 : decode b_Md_element 44 = .ok (.if_icmp .ge 7, 3) := by decide +kernel
theorem d_Md_element_47 : decode b_Md_element 47 = .ok (.iconst 1, 1) := by decide +kernel
theorem d_Md_element_48 : decode b_Md_element 48 = .ok (.goto 4, 3) := by decide +kernel
theorem d_Md_element_51 : decode b_Md_element 51 = .ok (.iconst 0, 1) := by decide +kernel
theorem d_Md_element_52 : decode b_Md_element 52 = .ok (.istore_n 3, 1) := by decide +kernel
theorem d_Md_element_53 : decode b_Md_element 53 = .ok (.iload_n 1, 1) := by decide +kernel
theorem d_Md_element_54 : decode b_Md_element 54 = .ok (.iconst (-1), 1) := by decide +kernel
theorem d_Md_element_55 : decode b_Md_element 55 = .ok (.if_icmp .lt 17, 3) := by decide +kernel
theorem d_Md_element_58 : decode b_Md_element 58 = .ok (.iload_n 3, 1) := by decide +kernel
theorem d_Md_element_59 : decode b_Md_element 59 = .ok (.ifCond .eq 13, 3) := by decide +kernel
theorem d_Md_element_62 : decode b_Md_element 62 = .ok (.aload_n 0, 1) := by decide +kernel
theorem d_Md_element_63 : decode b_Md_element 63 = .ok (.getfield 166, 3) := by decide +kernel
theorem d_Md_element_66 : decode b_Md_element 66 = .ok (.sipush 200, 3) := by decide +kernel
theorem d_Md_element_69 : decode b_Md_element 69 = .ok (.if_icmp .ne 5, 3) := by decide +kernel
theorem d_Md_element_72 : decode b_Md_element 72 = .ok (.iconst (-1), 1) := by decide +kernel
theorem d_Md_element_73 : decode b_Md_element 73 = .ok (.ireturn, 1) := by decide +kernel
theorem d_Md_element_74 : decode b_Md_element 74 = .ok (.iload_n 2, 1) := by decide +kernel
theorem d_Md_element_75 : decode b_Md_element 75 = .ok (.ifCond .ne 26, 3) := by decide +kernel
theorem d_Md_element_78 : decode b_Md_element 78 = .ok (.aload_n 0, 1) := by decide +kernel
theorem d_Md_element_79 : decode b_Md_element 79 = .ok (.getfield 45, 3) := by decide +kernel
theorem d_Md_element_82 : decode b_Md_element 82 = .ok (.aload_n 0, 1) := by decide +kernel
theorem d_Md_element_83 : decode b_Md_element 83 = .ok (.getfield 163, 3) := by decide +kernel
theorem d_Md_element_86 : decode b_Md_element 86 = .ok (.aload_n 0, 1) := by decide +kernel
theorem d_Md_element_87 : decode b_Md_element 87 = .ok (.getfield 166, 3) := by decide +kernel
theorem d_Md_element_90 : decode b_Md_element 90 = .ok (.iastore, 1) := by decide +kernel
theorem d_Md_element_91 : decode b_Md_element 91 = .ok (.aload_n 0, 1) := by decide +kernel
theorem d_Md_element_92 : decode b_Md_element 92 = .ok (.dup, 1) := by decide +kernel
theorem d_Md_element_93 : decode b_Md_element 93 = .ok (.getfield 163, 3) := by decide +kernel
theorem d_Md_element_96 : decode b_Md_element 96 = .ok (.iconst 1, 1) := by decide +kernel
theorem d_Md_element_97 : decode b_Md_element 97 = .ok (.iadd, 1) := by decide +kernel
theorem d_Md_element_98 : decode b_Md_element 98 = .ok (.putfield 163, 3) := by decide +kernel
theorem d_Md_element_101 : decode b_Md_element 101 = .ok (.aload_n 0, 1) := by decide +kernel
theorem d_Md_element_102 : decode b_Md_element 102 = .ok (.getfield 54, 3) := by decide +kernel
theorem d_Md_element_105 : decode b_Md_element 105 = .ok (.aload_n 0, 1) := by decide +kernel
theorem d_Md_element_106 : decode b_Md_element 106 = .ok (.getfield 166, 3) := by decide +kernel
theorem d_Md_element_109 : decode b_Md_element 109 = .ok (.iload_n 1, 1) := by decide +kernel
theorem d_Md_element_110 : decode b_Md_element 110 = .ok (.iastore, 1) := by decide +kernel
theorem d_Md_element_111 : decode b_Md_element 111 = .ok (.aload_n 0, 1) := by decide +kernel
theorem d_Md_element_112 : decode b_Md_element 112 = .ok (.dup, 1) := by decide +kernel
theorem d_Md_element_113 : decode b_Md_element 113 = .ok (.getfield 166, 3) := by decide +kernel
theorem d_Md_element_116 : decode b_Md_element 116 = .ok (.iconst 1, 1) := by decide +kernel
theorem d_Md_element_117 : decode b_Md_element 117 = .ok (.iadd, 1) := by decide +kernel
theorem d_Md_element_118 : decode b_Md_element 118 = .ok (.putfield 166, 3) := by decide +kernel
theorem d_Md_element_121 : decode b_Md_element 121 = .ok (.aload_n 0, 1) := by decide +kernel
theorem d_Md_element_122 : decode b_Md_element 122 = .ok (.getfield 48, 3) := by decide +kernel
theorem d_Md_element_125 : decode b_Md_element 125 = .ok (.aload_n 0, 1) := by decide +kernel
theorem d_Md_element_126 : decode b_Md_element 126 = .ok (.getfield 163, 3) := by decide +kernel
theorem d_Md_element_129 : decode b_Md_element 129 = .ok (.iconst 1, 1) := by decide +kernel
theorem d_Md_element_130 : decode b_Md_element 130 = .ok (.isub, 1) := by decide +kernel
theorem d_Md_element_131 : decode b_Md_element 131 = .ok (.dup2, 1) := by decide +kernel
theorem d_Md_element_132 : decode b_Md_element 132 = .ok (.iaload, 1) := by decide +kernel
theorem d_Md_element_133 : decode b_Md_element 133 = .ok (.iconst 1, 1) := by decide +kernel
theorem d_Md_element_134 : decode b_Md_element 134 = .ok (.iadd, 1) := by decide +kernel
theorem d_Md_element_135 : decode b_Md_element 135 = .ok (.iastore, 1) := by decide +kernel
theorem d_Md_element_136 : decode b_Md_element 136 = .ok (.aload_n 0, 1) := by decide +kernel
theorem d_Md_element_137 : decode b_Md_element 137 = .ok (.getfield 163, 3) := by decide +kernel
theorem d_Md_element_140 : decode b_Md_element 140 = .ok (.iconst 1, 1) := by decide +kernel
theorem d_Md_element_141 : decode b_Md_element 141 = .ok (.isub, 1) := by decide +kernel
theorem d_Md_element_142 : decode b_Md_element 142 = .ok (.ireturn, 1) := by decide +kernel
theorem d_Md_drop_0 : decode b_Md_drop 0 = .ok (.iload_n 1, 1) := by decide +kernel
theorem d_Md_drop_1 : decode b_Md_drop 1 = .ok (.ifCond .lt 26, 3) := by decide +kernel
theorem d_Md_drop_4 : decode b_Md_drop 4 = .ok (.iload_n 1, 1) := by decide +kernel
theorem d_Md_drop_5 : decode b_Md_drop 5 = .ok (.iload_n 2, 1) := by decide +kernel
theorem d_Md_drop_6 : decode b_Md_drop 6 = .ok (.ifCond .eq 10, 3) := by decide +kernel
theorem d_Md_drop_9 : decode b_Md_drop 9 = .ok (.aload_n 0, 1) := by decide +kernel
theorem d_Md_drop_10 : decode b_Md_drop 10 = .ok (.getfield 163, 3) := by decide +kernel
theorem d_Md_drop_13 : decode b_Md_drop 13 = .ok (.goto 7, 3) := by decide +kernel
theorem d_Md_drop_16 : decode b_Md_drop 16 = .ok (.aload_n 0, 1) := by decide +kernel
theorem d_Md_drop_17 : decode b_Md_drop 17 = .ok (.getfield 157, 3) := by decide +kernel
theorem d_Md_drop_20 : decode b_Md_drop 20 = .ok (.if_icmp .ge 7, 3) := by decide +kernel
theorem d_Md_drop_23 : decode b_Md_drop 23 = .ok (.iconst 1, 1) := by decide +kernel
theorem d_Md_drop_24 : decode b_Md_drop 24 = .ok (.goto 4, 3) := by decide +kernel
theorem d_Md_drop_27 : decode b_Md_drop 27 = .ok (.iconst 0, 1) := by decide +kernel
theorem d_Md_drop_28 : decode b_Md_drop 28 = .ok (.istore_n 3, 1) := by decide +kernel
theorem d_Md_drop_29 : decode b_Md_drop 29 = .ok (.aload_n 0, 1) := by decide +kernel
theorem d_Md_drop_30 : decode b_Md_drop 30 = .ok (.iload_n 3, 1) := by decide +kernel
theorem d_Md_drop_31 : decode b_Md_drop 31 = .ok (.ifCond .eq 7, 3) := by decide +kernel
theorem d_Md_drop_34 : decode b_Md_drop 34 = .ok (.iconst 0, 1) := by decide +kernel
theorem d_Md_drop_35 : decode b_Md_drop 35 = .ok (.goto 4, 3) := by decide +kernel
theorem d_Md_drop_38 : decode b_Md_drop 38 = .ok (.iconst 1, 1) := by decide +kernel
theorem d_Md_drop_39 : decode b_Md_drop 39 = .ok (.putfield 94, 3) := by decide +kernel
theorem d_Md_drop_42 : decode b_Md_drop 42 = .ok (.iload_n 3, 1) := by decide +kernel
theorem d_Md_drop_43 : decode b_Md_drop 43 = .ok (.ifCond .eq 14, 3) := by decide +kernel
theorem d_Md_drop_46 : decode b_Md_drop 46 = .ok (.iload_n 2, 1) := by decide +kernel
theorem d_Md_drop_47 : decode b_Md_drop 47 = .ok (.ifCond .eq 10, 3) := by decide +kernel
theorem d_Md_drop_50 : decode b_Md_drop 50 = .ok (.aload_n 0, 1) := by decide +kernel
theorem d_Md_drop_51 : decode b_Md_drop 51 = .ok (.getfield 51, 3) := by decide +kernel
theorem d_Md_drop_54 : decode b_Md_drop 54 = .ok (.iload_n 1, 1) := by decide +kernel
theorem d_Md_drop_55 : decode b_Md_drop 55 = .ok (.iconst 1, 1) := by decide +kernel
theorem d_Md_drop_56 : decode b_Md_drop 56 = .ok (.bastore, 1) := by decide +kernel
theorem d_Md_drop_57 : decode b_Md_drop 57 = .ok (.iload_n 3, 1) := by decide +kernel
theorem d_Md_drop_58 : decode b_Md_drop 58 = .ok (.ifCond .eq 14, 3) := by decide +kernel
theorem d_Md_drop_61 : decode b_Md_drop 61 = .ok (.iload_n 2, 1) := by decide +kernel
theorem d_Md_drop_62 : decode b_Md_drop 62 = .ok (.ifCond .ne 10, 3) := by decide +kernel
theorem d_Md_drop_65 : decode b_Md_drop 65 = .ok (.aload_n 0, 1) := by decide +kernel
theorem d_Md_drop_66 : decode b_Md_drop 66 = .ok (.getfield 38, 3) := by decide +kernel
theorem d_Md_drop_69 : decode b_Md_drop 69 = .ok (.iload_n 1, 1) := by decide +kernel
theorem d_Md_drop_70 : decode b_Md_drop 70 = .ok (.iconst 1, 1) := by decide +kernel
theorem d_Md_drop_71 : decode b_Md_drop 71 = .ok (.bastore, 1) := by decide +kernel
theorem d_Md_drop_72 : decode b_Md_drop 72 = .ok (.return_, 1) := by decide +kernel
theorem d_Md_table_0 : decode b_Md_table 0 = .ok (.aload_n 0, 1) := by decide +kernel
theorem d_Md_table_1 : decode b_Md_table 1 = .ok (.iconst 0, 1) := by decide +kernel
theorem d_Md_table_2 : decode b_Md_table 2 = .ok (.putfield 94, 3) := by decide +kernel
theorem d_Md_table_5 : decode b_Md_table 5 = .ok (.aload_n 0, 1) := by decide +kernel
theorem d_Md_table_6 : decode b_Md_table 6 = .ok (.getfield 102, 3) := by decide +kernel
theorem d_Md_table_9 : decode b_Md_table 9 = .ok (.bipush 6, 2) := by decide +kernel
theorem d_Md_table_11 : decode b_Md_table 11 = .ok (.if_icmp .eq 37, 3) := by decide +kernel
theorem d_Md_table_14 : decode b_Md_table 14 = .ok (.iload_n 1, 1) := by decide +kernel
theorem d_Md_table_15 : decode b_Md_table 15 = .ok (.bipush 112, 2) := by decide +kernel
theorem d_Md_table_17 : decode b_Md_table 17 = .ok (.if_icmp .eq 9, 3) := by decide +kernel
theorem d_Md_table_20 : decode b_Md_table 20 = .ok (.iload_n 1, 1) := by decide +kernel
theorem d_Md_table_21 : decode b_Md_table 21 = .ok (.bipush 111, 2) := by decide +kernel
theorem d_Md_table_23 : decode b_Md_table 23 = .ok (.if_icmp .ne 25, 3) := by decide +kernel
theorem d_Md_table_26 : decode b_Md_table 26 = .ok (.iload_n 2, 1) := by decide +kernel
theorem d_Md_table_27 : decode b_Md_table 27 = .ok (.ifCond .lt 21, 3) := by decide +kernel
theorem d_Md_table_30 : decode b_Md_table 30 = .ok (.iload_n 2, 1) := by decide +kernel
theorem d_Md_table_31 : decode b_Md_table 31 = .ok (.i2l, 1) := by decide +kernel
theorem d_Md_table_32 : decode b_Md_table 32 = .ok (.iload_n 3, 1) := by decide +kernel
theorem d_Md_table_33 : decode b_Md_table 33 = .ok (.invokestatic 123, 3) := by decide +kernel
theorem d_Md_table_36 : decode b_Md_table 36 = .ok (.lcmp, 1) := by decide +kernel
theorem d_Md_table_37 : decode b_Md_table 37 = .ok (.ifCond .gt 11, 3) := by decide +kernel
theorem d_Md_table_40 : decode b_Md_table 40 = .ok (.iload_n 2, 1) := by decide +kernel
theorem d_Md_table_41 : decode b_Md_table 41 = .ok (.aload_n 0, 1) := by decide +kernel
theorem d_Md_table_42 : decode b_Md_table 42 = .ok (.getfield 13, 3) := by decide +kernel
theorem d_Md_table_45 : decode b_Md_table 45 = .ok (.if_icmp .le 5, 3) := by decide +kernel
theorem d_Md_table_48 : decode b_Md_table 48 = .ok (.iconst (-1), 1) := by decide +kernel
theorem d_Md_table_49 : decode b_Md_table 49 = .ok (.ireturn, 1) := by decide +kernel
theorem d_Md_table_50 : decode b_Md_table 50 = .ok (.aload_n 0, 1) := by decide +kernel
theorem d_Md_table_51 : decode b_Md_table 51 = .ok (.getfield 23, 3) := by decide +kernel
theorem d_Md_table_54 : decode b_Md_table 54 = .ok (.aload_n 0, 1) := by decide +kernel
theorem d_Md_table_55 : decode b_Md_table 55 = .ok (.getfield 102, 3) := by decide +kernel
theorem d_Md_table_58 : decode b_Md_table 58 = .ok (.iload_n 1, 1) := by decide +kernel
theorem d_Md_table_59 : decode b_Md_table 59 = .ok (.iastore, 1) := by decide +kernel
theorem d_Md_table_60 : decode b_Md_table 60 = .ok (.aload_n 0, 1) := by decide +kernel
theorem d_Md_table_61 : decode b_Md_table 61 = .ok (.getfield 26, 3) := by decide +kernel
theorem d_Md_table_64 : decode b_Md_table 64 = .ok (.aload_n 0, 1) := by decide +kernel
theorem d_Md_table_65 : decode b_Md_table 65 = .ok (.getfield 102, 3) := by decide +kernel
theorem d_Md_table_68 : decode b_Md_table 68 = .ok (.iload_n 2, 1) := by decide +kernel
theorem d_Md_table_69 : decode b_Md_table 69 = .ok (.iastore, 1) := by decide +kernel
theorem d_Md_table_70 : decode b_Md_table 70 = .ok (.aload_n 0, 1) := by decide +kernel
theorem d_Md_table_71 : decode b_Md_table 71 = .ok (.getfield 29, 3) := by decide +kernel
theorem d_Md_table_74 : decode b_Md_table 74 = .ok (.aload_n 0, 1) := by decide +kernel
theorem d_Md_table_75 : decode b_Md_table 75 = .ok (.getfield 102, 3) := by decide +kernel
theorem d_Md_table_78 : decode b_Md_table 78 = .ok (.iload_n 3, 1) := by decide +kernel
theorem d_Md_table_79 : decode b_Md_table 79 = .ok (.iastore, 1) := by decide +kernel
theorem d_Md_table_80 : decode b_Md_table 80 = .ok (.aload_n 0, 1) := by decide +kernel
theorem d_Md_table_81 : decode b_Md_table 81 = .ok (.dup, 1) := by decide +kernel
theorem d_Md_table_82 : decode b_Md_table 82 = .ok (.getfield 13, 3) := by decide +kernel
theorem d_Md_table_85 : decode b_Md_table 85 = .ok (.iload_n 2, 1) := by decide +kernel
theorem d_Md_table_86 : decode b_Md_table 86 = .ok (.isub, 1) := by decide +kernel
theorem d_Md_table_87 : decode b_Md_table 87 = .ok (.putfield 13, 3) := by decide +kernel
theorem d_Md_table_90 : decode b_Md_table 90 = .ok (.aload_n 0, 1) := by decide +kernel
theorem d_Md_table_91 : decode b_Md_table 91 = .ok (.dup, 1) := by decide +kernel
theorem d_Md_table_92 : decode b_Md_table 92 = .ok (.getfield 102, 3) := by decide +kernel
theorem d_Md_table_95 : decode b_Md_table 95 = .ok (.iconst 1, 1) := by decide +kernel
theorem d_Md_table_96 : decode b_Md_table 96 = .ok (.iadd, 1) := by decide +kernel
theorem d_Md_table_97 : decode b_Md_table 97 = .ok (.putfield 102, 3) := by decide +kernel
theorem d_Md_table_100 : decode b_Md_table 100 = .ok (.aload_n 0, 1) := by decide +kernel
theorem d_Md_table_101 : decode b_Md_table 101 = .ok (.getfield 102, 3) := by decide +kernel
theorem d_Md_table_104 : decode b_Md_table 104 = .ok (.iconst 1, 1) := by decide +kernel
theorem d_Md_table_105 : decode b_Md_table 105 = .ok (.isub, 1) := by decide +kernel
theorem d_Md_table_106 : decode b_Md_table 106 = .ok (.ireturn, 1) := by decide +kernel
theorem d_Md_get_0 : decode b_Md_get 0 = .ok (.aload_n 0, 1) := by decide +kernel
theorem d_Md_get_1 : decode b_Md_get 1 = .ok (.aload_n 0, 1) := by decide +kernel
theorem d_Md_get_2 : decode b_Md_get 2 = .ok (.iload_n 1, 1) := by decide +kernel
theorem d_Md_get_3 : decode b_Md_get 3 = .ok (.invokevirtual 169, 3) := by decide +kernel
theorem d_Md_get_6 : decode b_Md_get 6 = .ok (.invokevirtual 131, 3) := by decide +kernel
theorem d_Md_get_9 : decode b_Md_get 9 = .ok (.ifCond .ne 5, 3) := by decide +kernel
theorem d_Md_get_12 : decode b_Md_get 12 = .ok (.iconst 0, 1) := by decide +kernel
theorem d_Md_get_13 : decode b_Md_get 13 = .ok (.ireturn, 1) := by decide +kernel
theorem d_Md_get_14 : decode b_Md_get 14 = .ok (.aload_n 0, 1) := by decide +kernel
theorem d_Md_get_15 : decode b_Md_get 15 = .ok (.iconst 5, 1) := by decide +kernel
theorem d_Md_get_16 : decode b_Md_get 16 = .ok (.iload_n 2, 1) := by decide +kernel
theorem d_Md_get_17 : decode b_Md_get 17 = .ok (.invokestatic 123, 3) := by decide +kernel
theorem d_Md_get_20 : decode b_Md_get 20 = .ok (.lconst 1, 1) := by decide +kernel
theorem d_Md_get_21 : decode b_Md_get 21 = .ok (.aload_n 0, 1) := by decide +kernel
theorem d_Md_get_22 : decode b_Md_get 22 = .ok (.getfield 26, 3) := by decide +kernel
theorem d_Md_get_25 : decode b_Md_get 25 = .ok (.iload_n 1, 1) := by decide +kernel
theorem d_Md_get_26 : decode b_Md_get 26 = .ok (.iaload, 1) := by decide +kernel
theorem d_Md_get_27 : decode b_Md_get 27 = .ok (.i2l, 1) := by decide +kernel
theorem d_Md_get_28 : decode b_Md_get 28 = .ok (.invokevirtual 138, 3) := by decide +kernel
theorem d_Md_get_31 : decode b_Md_get 31 = .ok (.pop, 1) := by decide +kernel
theorem d_Md_get_32 : decode b_Md_get 32 = .ok (.aload_n 0, 1) := by decide +kernel
theorem d_Md_get_33 : decode b_Md_get 33 = .ok (.invokevirtual 142, 3) := by decide +kernel
theorem d_Md_get_36 : decode b_Md_get 36 = .ok (.ifCond .eq 7, 3) := by decide +kernel
theorem d_Md_get_39 : decode b_Md_get 39 = .ok (.iconst 0, 1) := by decide +kernel
theorem d_Md_get_40 : decode b_Md_get 40 = .ok (.goto 9, 3) := by decide +kernel
theorem d_Md_get_43 : decode b_Md_get 43 = .ok (.aload_n 0, 1) := by decide +kernel
theorem d_Md_get_44 : decode b_Md_get 44 = .ok (.iload_n 1, 1) := by decide +kernel
theorem d_Md_get_45 : decode b_Md_get 45 = .ok (.iload_n 2, 1) := by decide +kernel
theorem d_Md_get_46 : decode b_Md_get 46 = .ok (.invokevirtual 172, 3) := by decide +kernel
theorem d_Md_get_49 : decode b_Md_get 49 = .ok (.ireturn, 1) := by decide +kernel
theorem d_Md_isTable_0 : decode b_Md_isTable 0 = .ok (.iload_n 1, 1) := by decide +kernel
theorem d_Md_isTable_1 : decode b_Md_isTable 1 = .ok (.ifCond .lt 15, 3) := by decide +kernel
theorem d_Md_isTable_4 : decode b_Md_isTable 4 = .ok (.iload_n 1, 1) := by decide +kernel
theorem d_Md_isTable_5 : decode b_Md_isTable 5 = .ok (.aload_n 0, 1) := by decide +kernel
theorem d_Md_isTable_6 : decode b_Md_isTable 6 = .ok (.getfield 102, 3) := by decide +kernel
theorem d_Md_isTable_9 : decode b_Md_isTable 9 = .ok (.if_icmp .ge 7, 3) := by decide +kernel
theorem d_Md_isTable_12 : decode b_Md_isTable 12 = .ok (.iconst 1, 1) := by decide +kernel
theorem d_Md_isTable_13 : decode b_Md_isTable 13 = .ok (.goto 4, 3) := by decide +kernel
theorem d_Md_isTable_16 : decode b_Md_isTable 16 = .ok (.iconst 0, 1) := by decide +kernel
theorem d_Md_isTable_17 : decode b_Md_isTable 17 = .ok (.ireturn, 1) := by decide +kernel
theorem d_Md_entryAt_0 : decode b_Md_entryAt 0 = .ok (.iload_n 1, 1) := by decide +kernel
theorem d_Md_entryAt_1 : decode b_Md_entryAt 1 = .ok (.istore_n 3, 1) := by decide +kernel
theorem d_Md_entryAt_2 : decode b_Md_entryAt 2 = .ok (.iload_n 2, 1) := by decide +kernel
theorem d_Md_entryAt_3 : decode b_Md_entryAt 3 = .ok (.istore 4, 2) := by decide +kernel
theorem d_Md_entryAt_5 : decode b_Md_entryAt 5 = .ok (.aload_n 0, 1) := by decide +kernel
theorem d_Md_entryAt_6 : decode b_Md_entryAt 6 = .ok (.getfield 113, 3) := by decide +kernel
theorem d_Md_entryAt_9 : decode b_Md_entryAt 9 = .ok (.iconst 1, 1) := by decide +kernel
theorem d_Md_entryAt_10 : decode b_Md_entryAt 10 = .ok (.isub, 1) := by decide +kernel
theorem d_Md_entryAt_11 : decode b_Md_entryAt 11 = .ok (.istore 5, 2) := by decide +kernel
theorem d_Md_entryAt_13 : decode b_Md_entryAt 13 = .ok (.iload 5, 2) := by decide +kernel
theorem d_Md_entryAt_15 : decode b_Md_entryAt 15 = .ok (.ifCond .lt 115, 3) := by decide +kernel
theorem d_Md_entryAt_18 : decode b_Md_entryAt 18 = .ok (.iload 4, 2) := by decide +kernel
theorem d_Md_entryAt_20 : decode b_Md_entryAt 20 = .ok (.aload_n 0, 1) := by decide +kernel
theorem d_Md_entryAt_21 : decode b_Md_entryAt 21 = .ok (.getfield 82, 3) := by decide +kernel
theorem d_Md_entryAt_24 : decode b_Md_entryAt 24 = .ok (.iload 5, 2) := by decide +kernel
theorem d_Md_entryAt_26 : decode b_Md_entryAt 26 = .ok (.iaload, 1) := by decide +kernel
theorem d_Md_entryAt_27 : decode b_Md_entryAt 27 = .ok (.isub, 1) := by decide +kernel
theorem d_Md_entryAt_28 : decode b_Md_entryAt 28 = .ok (.istore 6, 2) := by decide +kernel
theorem d_Md_entryAt_30 : decode b_Md_entryAt 30 = .ok (.aload_n 0, 1) := by decide +kernel
theorem d_Md_entryAt_31 : decode b_Md_entryAt 31 = .ok (.getfield 79, 3) := by decide +kernel
theorem d_Md_entryAt_34 : decode b_Md_entryAt 34 = .ok (.iload 5, 2) := by decide +kernel
theorem d_Md_entryAt_36 : decode b_Md_entryAt 36 = .ok (.iaload, 1) := by decide +kernel
theorem d_Md_entryAt_37 : decode b_Md_entryAt 37 = .ok (.iload_n 3, 1) := by decide +kernel
theorem d_Md_entryAt_38 : decode b_Md_entryAt 38 = .ok (.if_icmp .ne 86, 3) := by decide +kernel
theorem d_Md_entryAt_41 : decode b_Md_entryAt 41 = .ok (.iload 6, 2) := by decide +kernel
theorem d_Md_entryAt_43 : decode b_Md_entryAt 43 = .ok (.ifCond .lt 81, 3) := by decide +kernel
theorem d_Md_entryAt_46 : decode b_Md_entryAt 46 = .ok (.iload 6, 2) := by decide +kernel
theorem d_Md_entryAt_48 : decode b_Md_entryAt 48 = .ok (.aload_n 0, 1) := by decide +kernel
theorem d_Md_entryAt_49 : decode b_Md_entryAt 49 = .ok (.getfield 85, 3) := by decide +kernel
theorem d_Md_entryAt_52 : decode b_Md_entryAt 52 = .ok (.iload 5, 2) := by decide +kernel
theorem d_Md_entryAt_54 : decode b_Md_entryAt 54 = .ok (.iaload, 1) := by decide +kernel
theorem d_Md_entryAt_55 : decode b_Md_entryAt 55 = .ok (.if_icmp .ge 69, 3) := by decide +kernel
theorem d_Md_entryAt_58 : decode b_Md_entryAt 58 = .ok (.aload_n 0, 1) := by decide +kernel
theorem d_Md_entryAt_59 : decode b_Md_entryAt 59 = .ok (.getfield 76, 3) := by decide +kernel
theorem d_Md_entryAt_62 : decode b_Md_entryAt 62 = .ok (.iload 5, 2) := by decide +kernel
theorem d_Md_entryAt_64 : decode b_Md_entryAt 64 = .ok (.iaload, 1) := by decide +kernel
theorem d_Md_entryAt_65 : decode b_Md_entryAt 65 = .ok (.iconst 2, 1) := by decide +kernel
theorem d_Md_entryAt_66 : decode b_Md_entryAt 66 = .ok (.if_icmp .ne 11, 3) := by decide +kernel
theorem d_Md_entryAt_69 : decode b_Md_entryAt 69 = .ok (.aload_n 0, 1) := by decide +kernel
theorem d_Md_entryAt_70 : decode b_Md_entryAt 70 = .ok (.getfield 91, 3) := by decide +kernel
theorem d_Md_entryAt_73 : decode b_Md_entryAt 73 = .ok (.iload 5, 2) := by decide +kernel
theorem d_Md_entryAt_75 : decode b_Md_entryAt 75 = .ok (.iaload, 1) := by decide +kernel
theorem d_Md_entryAt_76 : decode b_Md_entryAt 76 = .ok (.ireturn, 1) := by decide +kernel
theorem d_Md_entryAt_77 : decode b_Md_entryAt 77 = .ok (.aload_n 0, 1) := by decide +kernel
theorem d_Md_entryAt_78 : decode b_Md_entryAt 78 = .ok (.getfield 76, 3) := by decide +kernel
theorem d_Md_entryAt_81 : decode b_Md_entryAt 81 = .ok (.iload 5, 2) := by decide +kernel
theorem d_Md_entryAt_83 : decode b_Md_entryAt 83 = .ok (.iaload, 1) := by decide +kernel
theorem d_Md_entryAt_84 : decode b_Md_entryAt 84 = .ok (.iconst 4, 1) := by decide +kernel
theorem d_Md_entryAt_85 : decode b_Md_entryAt 85 = .ok (.if_icmp .ne 19, 3) := by decide +kernel
theorem d_Md_entryAt_88 : decode b_Md_entryAt 88 = .ok (.aload_n 0, 1) := by decide +kernel
theorem d_Md_entryAt_89 : decode b_Md_entryAt 89 = .ok (.getfield 54, 3) := by decide +kernel
theorem d_Md_entryAt_92 : decode b_Md_entryAt 92 = .ok (.aload_n 0, 1) := by decide +kernel
theorem d_Md_entryAt_93 : decode b_Md_entryAt 93 = .ok (.getfield 88, 3) := by decide +kernel
theorem d_Md_entryAt_96 : decode b_Md_entryAt 96 = .ok (.iload 5, 2) := by decide +kernel
theorem d_Md_entryAt_98 : decode b_Md_entryAt 98 = .ok (.iaload, 1) := by decide +kernel
theorem d_Md_entryAt_99 : decode b_Md_entryAt 99 = .ok (.iload 6, 2) := by decide +kernel
theorem d_Md_entryAt_101 : decode b_Md_entryAt 101 = .ok (.iadd, 1) := by decide +kernel
theorem d_Md_entryAt_102 : decode b_Md_entryAt 102 = .ok (.iaload, 1) := by decide +kernel
theorem d_Md_entryAt_103 : decode b_Md_entryAt 103 = .ok (.ireturn, 1) := by decide +kernel
theorem d_Md_entryAt_104 : decode b_Md_entryAt 104 = .ok (.aload_n 0, 1) := by decide +kernel
theorem d_Md_entryAt_105 : decode b_Md_entryAt 105 = .ok (.getfield 88, 3) := by decide +kernel
theorem d_Md_entryAt_108 : decode b_Md_entryAt 108 = .ok (.iload 5, 2) := by decide +kernel
theorem d_Md_entryAt_110 : decode b_Md_entryAt 110 = .ok (.iaload, 1) := by decide +kernel
theorem d_Md_entryAt_111 : decode b_Md_entryAt 111 = .ok (.iload 6, 2) := by decide +kernel
theorem d_Md_entryAt_113 : decode b_Md_entryAt 113 = .ok (.iadd, 1) := by decide +kernel
theorem d_Md_entryAt_114 : decode b_Md_entryAt 114 = .ok (.istore 4, 2) := by decide +kernel
theorem d_Md_entryAt_116 : decode b_Md_entryAt 116 = .ok (.aload_n 0, 1) := by decide +kernel
theorem d_Md_entryAt_117 : decode b_Md_entryAt 117 = .ok (.getfield 91, 3) := by decide +kernel
theorem d_Md_entryAt_120 : decode b_Md_entryAt 120 = .ok (.iload 5, 2) := by decide +kernel
theorem d_Md_entryAt_122 : decode b_Md_entryAt 122 = .ok (.iaload, 1) := by decide +kernel
theorem d_Md_entryAt_123 : decode b_Md_entryAt 123 = .ok (.istore_n 3, 1) := by decide +kernel
theorem d_Md_entryAt_124 : decode b_Md_entryAt 124 = .ok (.iinc 5 (-1), 3) := by decide +kernel
theorem d_Md_entryAt_127 : decode b_Md_entryAt 127 = .ok (.goto (-114), 3) := by decide +kernel
theorem d_Md_entryAt_130 : decode b_Md_entryAt 130 = .ok (.iconst (-1), 1) := by decide +kernel
theorem d_Md_entryAt_131 : decode b_Md_entryAt 131 = .ok (.ireturn, 1) := by decide +kernel
theorem d_Md_set_0 : decode b_Md_set 0 = .ok (.aload_n 0, 1) := by decide +kernel
theorem d_Md_set_1 : decode b_Md_set 1 = .ok (.aload_n 0, 1) := by decide +kernel
theorem d_Md_set_2 : decode b_Md_set 2 = .ok (.iload_n 1, 1) := by decide +kernel
theorem d_Md_set_3 : decode b_Md_set 3 = .ok (.invokevirtual 169, 3) := by decide +kernel
theorem d_Md_set_6 : decode b_Md_set 6 = .ok (.ifCond .eq 12, 3) := by decide +kernel
theorem d_Md_set_9 : decode b_Md_set 9 = .ok (.iload_n 3, 1) := by decide +kernel
theorem d_Md_set_10 : decode b_Md_set 10 = .ok (.iconst (-1), 1) := by decide +kernel
theorem d_Md_set_11 : decode b_Md_set 11 = .ok (.if_icmp .lt 7, 3) := by decide +kernel
theorem d_Md_set_14 : decode b_Md_set 14 = .ok (.iconst 1, 1) := by decide +kernel
theorem d_Md_set_15 : decode b_Md_set 15 = .ok (.goto 4, 3) := by decide +kernel
theorem d_Md_set_18 : decode b_Md_set 18 = .ok (.iconst 0, 1) := by decide +kernel
theorem d_Md_set_19 : decode b_Md_set 19 = .ok (.invokevirtual 131, 3) := by decide +kernel
theorem d_Md_set_22 : decode b_Md_set 22 = .ok (.ifCond .ne 4, 3) := by decide +kernel
theorem d_Md_set_25 : decode b_Md_set 25 = .ok (.return_, 1) := by decide +kernel
theorem d_Md_set_26 : decode b_Md_set 26 = .ok (.aload_n 0, 1) := by decide +kernel
theorem d_Md_set_27 : decode b_Md_set 27 = .ok (.iconst 5, 1) := by decide +kernel
theorem d_Md_set_28 : decode b_Md_set 28 = .ok (.iload_n 2, 1) := by decide +kernel
theorem d_Md_set_29 : decode b_Md_set 29 = .ok (.invokestatic 123, 3) := by decide +kernel
theorem d_Md_set_32 : decode b_Md_set 32 = .ok (.lconst 1, 1) := by decide +kernel
theorem d_Md_set_33 : decode b_Md_set 33 = .ok (.aload_n 0, 1) := by decide +kernel
theorem d_Md_set_34 : decode b_Md_set 34 = .ok (.getfield 26, 3) := by decide +kernel
theorem d_Md_set_37 : decode b_Md_set 37 = .ok (.iload_n 1, 1) := by decide +kernel
theorem d_Md_set_38 : decode b_Md_set 38 = .ok (.iaload, 1) := by decide +kernel
theorem d_Md_set_39 : decode b_Md_set 39 = .ok (.i2l, 1) := by decide +kernel
theorem d_Md_set_40 : decode b_Md_set 40 = .ok (.invokevirtual 138, 3) := by decide +kernel
theorem d_Md_set_43 : decode b_Md_set 43 = .ok (.pop, 1) := by decide +kernel
theorem d_Md_set_44 : decode b_Md_set 44 = .ok (.aload_n 0, 1) := by decide +kernel
theorem d_Md_set_45 : decode b_Md_set 45 = .ok (.invokevirtual 142, 3) := by decide +kernel
theorem d_Md_set_48 : decode b_Md_set 48 = .ok (.ifCond .ne 14, 3) := by decide +kernel
theorem d_Md_set_51 : decode b_Md_set 51 = .ok (.aload_n 0, 1) := by decide +kernel
theorem d_Md_set_52 : decode b_Md_set 52 = .ok (.iconst 2, 1) := by decide +kernel
theorem d_Md_set_53 : decode b_Md_set 53 = .ok (.iload_n 1, 1) := by decide +kernel
theorem d_Md_set_54 : decode b_Md_set 54 = .ok (.iload_n 2, 1) := by decide +kernel
theorem d_Md_set_55 : decode b_Md_set 55 = .ok (.i2l, 1) := by decide +kernel
theorem d_Md_set_56 : decode b_Md_set 56 = .ok (.lconst 1, 1) := by decide +kernel
theorem d_Md_set_57 : decode b_Md_set 57 = .ok (.iconst 0, 1) := by decide +kernel
theorem d_Md_set_58 : decode b_Md_set 58 = .ok (.iload_n 3, 1) := by decide +kernel
theorem d_Md_set_59 : decode b_Md_set 59 = .ok (.invokevirtual 175, 3) := by decide +kernel
theorem d_Md_set_62 : decode b_Md_set 62 = .ok (.return_, 1) := by decide +kernel
theorem d_Md_change_0 : decode b_Md_change 0 = .ok (.lload 5, 2) := by decide +kernel
theorem d_Md_change_2 : decode b_Md_change 2 = .ok (.lconst 0, 1) := by decide +kernel
theorem d_Md_change_3 : decode b_Md_change 3 = .ok (.lcmp, 1) := by decide +kernel
theorem d_Md_change_4 : decode b_Md_change 4 = .ok (.ifCond .ne 4, 3) := by decide +kernel
theorem d_Md_change_7 : decode b_Md_change 7 = .ok (.return_, 1) := by decide +kernel
theorem d_Md_change_8 : decode b_Md_change 8 = .ok (.aload_n 0, 1) := by decide +kernel
theorem d_Md_change_9 : decode b_Md_change 9 = .ok (.getfield 76, 3) := by decide +kernel
theorem d_Md_change_12 : decode b_Md_change 12 = .ok (.aload_n 0, 1) := by decide +kernel
theorem d_Md_change_13 : decode b_Md_change 13 = .ok (.getfield 113, 3) := by decide +kernel
theorem d_Md_change_16 : decode b_Md_change 16 = .ok (.iload_n 1, 1) := by decide +kernel
theorem d_Md_change_17 : decode b_Md_change 17 = .ok (.iastore, 1) := by decide +kernel
theorem d_Md_change_18 : decode b_Md_change 18 = .ok (.aload_n 0, 1) := by decide +kernel
theorem d_Md_change_19 : decode b_Md_change 19 = .ok (.getfield 79, 3) := by decide +kernel
theorem d_Md_change_22 : decode b_Md_change 22 = .ok (.aload_n 0, 1) := by decide +kernel
theorem d_Md_change_23 : decode b_Md_change 23 = .ok (.getfield 113, 3) := by decide +kernel
theorem d_Md_change_26 : decode b_Md_change 26 = .ok (.iload_n 2, 1) := by decide +kernel
theorem d_Md_change_27 : decode b_Md_change 27 = .ok (.iastore, 1) := by decide +kernel
theorem d_Md_change_28 : decode b_Md_change 28 = .ok (.aload_n 0, 1) := by decide +kernel
theorem d_Md_change_29 : decode b_Md_change 29 = .ok (.getfield 82, 3) := by decide +kernel
theorem d_Md_change_32 : decode b_Md_change 32 = .ok (.aload_n 0, 1) := by decide +kernel
theorem d_Md_change_33 : decode b_Md_change 33 = .ok (.getfield 113, 3) := by decide +kernel
theorem d_Md_change_36 : decode b_Md_change 36 = .ok (.lload_n 3, 1) := by decide +kernel
theorem d_Md_change_37 : decode b_Md_change 37 = .ok (.l2i, 1) := by decide +kernel
theorem d_Md_change_38 : decode b_Md_change 38 = .ok (.iastore, 1) := by decide +kernel
theorem d_Md_change_39 : decode b_Md_change 39 = .ok (.aload_n 0, 1) := by decide +kernel
theorem d_Md_change_40 : decode b_Md_change 40 = .ok (.getfield 85, 3) := by decide +kernel
theorem d_Md_change_43 : decode b_Md_change 43 = .ok (.aload_n 0, 1) := by decide +kernel
theorem d_Md_change_44 : decode b_Md_change 44 = .ok (.getfield 113, 3) := by decide +kernel
theorem d_Md_change_47 : decode b_Md_change 47 = .ok (.lload 5, 2) := by decide +kernel
theorem d_Md_change_49 : decode b_Md_change 49 = .ok (.l2i, 1) := by decide +kernel
theorem d_Md_change_50 : decode b_Md_change 50 = .ok (.iastore, 1) := by decide +kernel
theorem d_Md_change_51 : decode b_Md_change 51 = .ok (.aload_n 0, 1) := by decide +kernel
theorem d_Md_change_52 : decode b_Md_change 52 = .ok (.getfield 88, 3) := by decide +kernel
theorem d_Md_change_55 : decode b_Md_change 55 = .ok (.aload_n 0, 1) := by decide +kernel
theorem d_Md_change_56 : decode b_Md_change 56 = .ok (.getfield 113, 3) := by decide +kernel
theorem d_Md_change_59 : decode b_Md_change 59 = .ok (.iload 7, 2) := by decide +kernel
theorem d_Md_change_61 : decode b_Md_change 61 = .ok (.iastore, 1) := by decide +kernel
theorem d_Md_change_62 : decode b_Md_change 62 = .ok (.aload_n 0, 1) := by decide +kernel
theorem d_Md_change_63 : decode b_Md_change 63 = .ok (.getfield 91, 3) := by decide +kernel
theorem d_Md_change_66 : decode b_Md_change 66 = .ok (.aload_n 0, 1) := by decide +kernel
theorem d_Md_change_67 : decode b_Md_change 67 = .ok (.getfield 113, 3) := by decide +kernel
theorem d_Md_change_70 : decode b_Md_change 70 = .ok (.iload 8, 2) := by decide +kernel
theorem d_Md_change_72 : decode b_Md_change 72 = .ok (.iastore, 1) := by decide +kernel
theorem d_Md_change_73 : decode b_Md_change 73 = .ok (.aload_n 0, 1) := by decide +kernel
theorem d_Md_change_74 : decode b_Md_change 74 = .ok (.dup, 1) := by decide +kernel
theorem d_Md_change_75 : decode b_Md_change 75 = .ok (.getfield 113, 3) := by decide +kernel
theorem d_Md_change_78 : decode b_Md_change 78 = .ok (.iconst 1, 1) := by decide +kernel
theorem d_Md_change_79 : decode b_Md_change 79 = .ok (.iadd, 1) := by decide +kernel
theorem d_Md_change_80 : decode b_Md_change 80 = .ok (.putfield 113, 3) := by decide +kernel
theorem d_Md_change_83 : decode b_Md_change 83 = .ok (.return_, 1) := by decide +kernel
theorem d_Md_growTable_0 : decode b_Md_growTable 0 = .ok (.aload_n 0, 1) := by decide +kernel
theorem d_Md_growTable_1 : decode b_Md_growTable 1 = .ok (.iconst 0, 1) := by decide +kernel
theorem d_Md_growTable_2 : decode b_Md_growTable 2 = .ok (.putfield 94, 3) := by decide +kernel
theorem d_Md_growTable_5 : decode b_Md_growTable 5 = .ok (.aload_n 0, 1) := by decide +kernel
theorem d_Md_growTable_6 : decode b_Md_growTable 6 = .ok (.iload_n 1, 1) := by decide +kernel
theorem d_Md_growTable_7 : decode b_Md_growTable 7 = .ok (.invokevirtual 169, 3) := by decide +kernel
theorem d_Md_growTable_10 : decode b_Md_growTable 10 = .ok (.ifCond .eq 46, 3) := by decide +kernel
theorem d_Md_growTable_13 : decode b_Md_growTable 13 = .ok (.iload_n 3, 1) := by decide +kernel
theorem d_Md_growTable_14 : decode b_Md_growTable 14 = .ok (.iconst (-1), 1) := by decide +kernel
theorem d_Md_growTable_15 : decode b_Md_growTable 15 = .ok (.if_icmp .lt 41, 3) := by decide +kernel
theorem d_Md_growTable_18 : decode b_Md_growTable 18 = .ok (.aload_n 0, 1) := by decide +kernel
theorem d_Md_growTable_19 : decode b_Md_growTable 19 = .ok (.getfield 26, 3) := by decide +kernel
theorem d_Md_growTable_22 : decode b_Md_growTable 22 = .ok (.iload_n 1, 1) := by decide +kernel
theorem d_Md_growTable_23 : decode b_Md_growTable 23 = .ok (.iaload, 1) := by decide +kernel
theorem d_Md_growTable_24 : decode b_Md_growTable 24 = .ok (.i2l, 1) := by decide +kernel
theorem d_Md_growTable_25 : decode b_Md_growTable 25 = .ok (.iload_n 2, 1) := by decide +kernel
theorem d_Md_growTable_26 : decode b_Md_growTable 26 = .ok (.invokestatic 123, 3) := by decide +kernel
theorem d_Md_growTable_29 : decode b_Md_growTable 29 = .ok (.ladd, 1) := by decide +kernel
theorem d_Md_growTable_30 : decode b_Md_growTable 30 = .ok (.aload_n 0, 1) := by decide +kernel
theorem d_Md_growTable_31 : decode b_Md_growTable 31 = .ok (.getfield 29, 3) := by decide +kernel
theorem d_Md_growTable_34 : decode b_Md_growTable 34 = .ok (.iload_n 1, 1) := by decide +kernel
theorem d_Md_growTable_35 : decode b_Md_growTable 35 = .ok (.iaload, 1) := by decide +kernel
theorem d_Md_growTable_36 : decode b_Md_growTable 36 = .ok (.invokestatic 123, 3) := by decide +kernel
theorem d_Md_growTable_39 : decode b_Md_growTable 39 = .ok (.lcmp, 1) := by decide +kernel
theorem d_Md_growTable_40 : decode b_Md_growTable 40 = .ok (.ifCond .gt 16, 3) := by decide +kernel
theorem d_Md_growTable_43 : decode b_Md_growTable 43 = .ok (.iload_n 2, 1) := by decide +kernel
theorem d_Md_growTable_44 : decode b_Md_growTable 44 = .ok (.invokestatic 123, 3) := by decide +kernel
theorem d_Md_growTable_47 : decode b_Md_growTable 47 = .ok (.aload_n 0, 1) := by decide +kernel
theorem d_Md_growTable_48 : decode b_Md_growTable 48 = .ok (.getfield 13, 3) := by decide +kernel
theorem d_Md_growTable_51 : decode b_Md_growTable 51 = .ok (.i2l, 1) := by decide +kernel
theorem d_Md_growTable_52 : decode b_Md_growTable 52 = .ok (.lcmp, 1) := by decide +kernel
theorem d_Md_growTable_53 : decode b_Md_growTable 53 = .ok (.ifCond .le 5, 3) := by decide +kernel
theorem d_Md_growTable_56 : decode b_Md_growTable 56 = .ok (.iconst (-1), 1) := by decide +kernel
theorem d_Md_growTable_57 : decode b_Md_growTable 57 = .ok (.ireturn, 1) := by decide +kernel
theorem d_Md_growTable_58 : decode b_Md_growTable 58 = .ok (.aload_n 0, 1) := by decide +kernel
theorem d_Md_growTable_59 : decode b_Md_growTable 59 = .ok (.getfield 26, 3) := by decide +kernel
theorem d_Md_growTable_62 : decode b_Md_growTable 62 = .ok (.iload_n 1, 1) := by decide +kernel
theorem d_Md_growTable_63 : decode b_Md_growTable 63 = .ok (.iaload, 1) := by decide +kernel
theorem d_Md_growTable_64 : decode b_Md_growTable 64 = .ok (.istore 4, 2) := by decide +kernel
theorem d_Md_growTable_66 : decode b_Md_growTable 66 = .ok (.aload_n 0, 1) := by decide +kernel
theorem d_Md_growTable_67 : decode b_Md_growTable 67 = .ok (.iconst 2, 1) := by decide +kernel
theorem d_Md_growTable_68 : decode b_Md_growTable 68 = .ok (.iload_n 1, 1) := by decide +kernel
theorem d_Md_growTable_69 : decode b_Md_growTable 69 = .ok (.iload 4, 2) := by decide +kernel
theorem d_Md_growTable_71 : decode b_Md_growTable 71 = .ok (.i2l, 1) := by decide +kernel
theorem d_Md_growTable_72 : decode b_Md_growTable 72 = .ok (.iload_n 2, 1) := by decide +kernel
theorem d_Md_growTable_73 : decode b_Md_growTable 73 = .ok (.i2l, 1) := by decide +kernel
theorem d_Md_growTable_74 : decode b_Md_growTable 74 = .ok (.iconst 0, 1) := by decide +kernel
theorem d_Md_growTable_75 : decode b_Md_growTable 75 = .ok (.iload_n 3, 1) := by decide +kernel
theorem d_Md_growTable_76 : decode b_Md_growTable 76 = .ok (.invokevirtual 175, 3) := by decide +kernel
theorem d_Md_growTable_79 : decode b_Md_growTable 79 = .ok (.aload_n 0, 1) := by decide +kernel
theorem d_Md_growTable_80 : decode b_Md_growTable 80 = .ok (.getfield 26, 3) := by decide +kernel
theorem d_Md_growTable_83 : decode b_Md_growTable 83 = .ok (.iload_n 1, 1) := by decide +kernel
theorem d_Md_growTable_84 : decode b_Md_growTable 84 = .ok (.dup2, 1) := by decide +kernel
theorem d_Md_growTable_85 : decode b_Md_growTable 85 = .ok (.iaload, 1) := by decide +kernel
theorem d_Md_growTable_86 : decode b_Md_growTable 86 = .ok (.iload_n 2, 1) := by decide +kernel
theorem d_Md_growTable_87 : decode b_Md_growTable 87 = .ok (.iadd, 1) := by decide +kernel
theorem d_Md_growTable_88 : decode b_Md_growTable 88 = .ok (.iastore, 1) := by decide +kernel
theorem d_Md_growTable_89 : decode b_Md_growTable 89 = .ok (.aload_n 0, 1) := by decide +kernel
theorem d_Md_growTable_90 : decode b_Md_growTable 90 = .ok (.dup, 1) := by decide +kernel
theorem d_Md_growTable_91 : decode b_Md_growTable 91 = .ok (.getfield 13, 3) := by decide +kernel
theorem d_Md_growTable_94 : decode b_Md_growTable 94 = .ok (.iload_n 2, 1) := by decide +kernel
theorem d_Md_growTable_95 : decode b_Md_growTable 95 = .ok (.isub, 1) := by decide +kernel
theorem d_Md_growTable_96 : decode b_Md_growTable 96 = .ok (.putfield 13, 3) := by decide +kernel
theorem d_Md_growTable_99 : decode b_Md_growTable 99 = .ok (.iload 4, 2) := by decide +kernel
theorem d_Md_growTable_101 : decode b_Md_growTable 101 = .ok (.ireturn, 1) := by decide +kernel
theorem d_Md_fillTable_0 : decode b_Md_fillTable 0 = .ok (.aload_n 0, 1) := by decide +kernel
theorem d_Md_fillTable_1 : decode b_Md_fillTable 1 = .ok (.aload_n 0, 1) := by decide +kernel
theorem d_Md_fillTable_2 : decode b_Md_fillTable 2 = .ok (.iload_n 1, 1) := by decide +kernel
theorem d_Md_fillTable_3 : decode b_Md_fillTable 3 = .ok (.invokevirtual 169, 3) := by decide +kernel
theorem d_Md_fillTable_6 : decode b_Md_fillTable 6 = .ok (.ifCond .eq 12, 3) := by decide +kernel
theorem d_Md_fillTable_9 : decode b_Md_fillTable 9 = .ok (.iload_n 3, 1) := by decide +kernel
theorem d_Md_fillTable_10 : decode b_Md_fillTable 10 = .ok (.iconst (-1), 1) := by decide +kernel
theorem d_Md_fillTable_11 : decode b_Md_fillTable 11 = .ok (.if_icmp .lt 7, 3) := by decide +kernel
theorem d_Md_fillTable_14 : decode b_Md_fillTable 14 = .ok (.iconst 1, 1) := by decide +kernel
theorem d_Md_fillTable_15 : decode b_Md_fillTable 15 = .ok (.goto 4, 3) := by decide +kernel
theorem d_Md_fillTable_18 : decode b_Md_fillTable 18 = .ok (.iconst 0, 1) := by decide +kernel
theorem d_Md_fillTable_19 : decode b_Md_fillTable 19 = .ok (.invokevirtual 131, 3) := by decide +kernel
theorem d_Md_fillTable_22 : decode b_Md_fillTable 22 = .ok (.ifCond .ne 4, 3) := by decide +kernel
theorem d_Md_fillTable_25 : decode b_Md_fillTable 25 = .ok (.return_, 1) := by decide +kernel
theorem d_Md_fillTable_26 : decode b_Md_fillTable 26 = .ok (.aload_n 0, 1) := by decide +kernel
theorem d_Md_fillTable_27 : decode b_Md_fillTable 27 = .ok (.iconst 5, 1) := by decide +kernel
theorem d_Md_fillTable_28 : decode b_Md_fillTable 28 = .ok (.iload_n 2, 1) := by decide +kernel
theorem d_Md_fillTable_29 : decode b_Md_fillTable 29 = .ok (.invokestatic 123, 3) := by decide +kernel
theorem d_Md_fillTable_32 : decode b_Md_fillTable 32 = .ok (.iload 4, 2) := by decide +kernel
theorem d_Md_fillTable_34 : decode b_Md_fillTable 34 = .ok (.invokestatic 123, 3) := by decide +kernel
theorem d_Md_fillTable_37 : decode b_Md_fillTable 37 = .ok (.aload_n 0, 1) := by decide +kernel
theorem d_Md_fillTable_38 : decode b_Md_fillTable 38 = .ok (.getfield 26, 3) := by decide +kernel
theorem d_Md_fillTable_41 : decode b_Md_fillTable 41 = .ok (.iload_n 1, 1) := by decide +kernel
theorem d_Md_fillTable_42 : decode b_Md_fillTable 42 = .ok (.iaload, 1) := by decide +kernel
theorem d_Md_fillTable_43 : decode b_Md_fillTable 43 = .ok (.i2l, 1) := by decide +kernel
theorem d_Md_fillTable_44 : decode b_Md_fillTable 44 = .ok (.invokevirtual 138, 3) := by decide +kernel
theorem d_Md_fillTable_47 : decode b_Md_fillTable 47 = .ok (.pop, 1) := by decide +kernel
theorem d_Md_fillTable_48 : decode b_Md_fillTable 48 = .ok (.aload_n 0, 1) := by decide +kernel
theorem d_Md_fillTable_49 : decode b_Md_fillTable 49 = .ok (.invokevirtual 142, 3) := by decide +kernel
theorem d_Md_fillTable_52 : decode b_Md_fillTable 52 = .ok (.ifCond .ne 16, 3) := by decide +kernel
theorem d_Md_fillTable_55 : decode b_Md_fillTable 55 = .ok (.aload_n 0, 1) := by decide +kernel
theorem d_Md_fillTable_56 : decode b_Md_fillTable 56 = .ok (.iconst 2, 1) := by decide +kernel
theorem d_Md_fillTable_57 : decode b_Md_fillTable 57 = .ok (.iload_n 1, 1) := by decide +kernel
theorem d_Md_fillTable_58 : decode b_Md_fillTable 58 = .ok (.iload_n 2, 1) := by decide +kernel
theorem d_Md_fillTable_59 : decode b_Md_fillTable 59 = .ok (.i2l, 1) := by decide +kernel
theorem d_Md_fillTable_60 : decode b_Md_fillTable 60 = .ok (.iload 4, 2) := by decide +kernel
theorem d_Md_fillTable_62 : decode b_Md_fillTable 62 = .ok (.i2l, 1) := by decide +kernel
theorem d_Md_fillTable_63 : decode b_Md_fillTable 63 = .ok (.iconst 0, 1) := by decide +kernel
theorem d_Md_fillTable_64 : decode b_Md_fillTable 64 = .ok (.iload_n 3, 1) := by decide +kernel
theorem d_Md_fillTable_65 : decode b_Md_fillTable 65 = .ok (.invokevirtual 175, 3) := by decide +kernel
theorem d_Md_fillTable_68 : decode b_Md_fillTable 68 = .ok (.return_, 1) := by decide +kernel
theorem d_Md_copyTable_0 : decode b_Md_copyTable 0 = .ok (.aload_n 0, 1) := by decide +kernel
theorem d_Md_copyTable_1 : decode b_Md_copyTable 1 = .ok (.aload_n 0, 1) := by decide +kernel
theorem d_Md_copyTable_2 : decode b_Md_copyTable 2 = .ok (.iload_n 1, 1) := by decide +kernel
theorem d_Md_copyTable_3 : decode b_Md_copyTable 3 = .ok (.invokevirtual 169, 3) := by decide +kernel
theorem d_Md_copyTable_6 : decode b_Md_copyTable 6 = .ok (.ifCond .eq 30, 3) := by decide +kernel
theorem d_Md_copyTable_9 : decode b_Md_copyTable 9 = .ok (.aload_n 0, 1) := by decide +kernel
theorem d_Md_copyTable_10 : decode b_Md_copyTable 10 = .ok (.iload_n 2, 1) := by decide +kernel
theorem d_Md_copyTable_11 : decode b_Md_copyTable 11 = .ok (.invokevirtual 169, 3) := by decide +kernel
theorem d_Md_copyTable_14 : decode b_Md_copyTable 14 = .ok (.ifCond .eq 22, 3) := by decide +kernel
theorem d_Md_copyTable_17 : decode b_Md_copyTable 17 = .ok (.aload_n 0, 1) := by decide +kernel
theorem d_Md_copyTable_18 : decode b_Md_copyTable 18 = .ok (.getfield 23, 3) := by decide +kernel
theorem d_Md_copyTable_21 : decode b_Md_copyTable 21 = .ok (.iload_n 1, 1) := by decide +kernel
theorem d_Md_copyTable_22 : decode b_Md_copyTable 22 = .ok (.iaload, 1) := by decide +kernel
theorem d_Md_copyTable_23 : decode b_Md_copyTable 23 = .ok (.aload_n 0, 1) := by decide +kernel
theorem d_Md_copyTable_24 : decode b_Md_copyTable 24 = .ok (.getfield 23, 3) := by decide +kernel
theorem d_Md_copyTable_27 : decode b_Md_copyTable 27 = .ok (.iload_n 2, 1) := by decide +kernel
theorem d_Md_copyTable_28 : decode b_Md_copyTable 28 = .ok (.iaload, 1) := by decide +kernel
theorem d_Md_copyTable_29 : decode b_Md_copyTable 29 = .ok (.if_icmp .ne 7, 3) := by decide +kernel
theorem d_Md_copyTable_32 : decode b_Md_copyTable 32 = .ok (.iconst 1, 1) := by decide +kernel
theorem d_Md_copyTable_33 : decode b_Md_copyTable 33 = .ok (.goto 4, 3) := by decide +kernel
theorem d_Md_copyTable_36 : decode b_Md_copyTable 36 = .ok (.iconst 0, 1) := by decide +kernel
theorem d_Md_copyTable_37 : decode b_Md_copyTable 37 = .ok (.invokevirtual 131, 3) := by decide +kernel
theorem d_Md_copyTable_40 : decode b_Md_copyTable 40 = .ok (.ifCond .ne 4, 3) := by decide +kernel
theorem d_Md_copyTable_43 : decode b_Md_copyTable 43 = .ok (.return_, 1) := by decide +kernel
theorem d_Md_copyTable_44 : decode b_Md_copyTable 44 = .ok (.aload_n 0, 1) := by decide +kernel
theorem d_Md_copyTable_45 : decode b_Md_copyTable 45 = .ok (.iconst 5, 1) := by decide +kernel
theorem d_Md_copyTable_46 : decode b_Md_copyTable 46 = .ok (.iload_n 3, 1) := by decide +kernel
theorem d_Md_copyTable_47 : decode b_Md_copyTable 47 = .ok (.invokestatic 123, 3) := by decide +kernel
theorem d_Md_copyTable_50 : decode b_Md_copyTable 50 = .ok (.iload 5, 2) := by decide +kernel
theorem d_Md_copyTable_52 : decode b_Md_copyTable 52 = .ok (.invokestatic 123, 3) := by decide +kernel
theorem d_Md_copyTable_55 : decode b_Md_copyTable 55 = .ok (.aload_n 0, 1) := by decide +kernel
theorem d_Md_copyTable_56 : decode b_Md_copyTable 56 = .ok (.getfield 26, 3) := by decide +kernel
theorem d_Md_copyTable_59 : decode b_Md_copyTable 59 = .ok (.iload_n 1, 1) := by decide +kernel
theorem d_Md_copyTable_60 : decode b_Md_copyTable 60 = .ok (.iaload, 1) := by decide +kernel
theorem d_Md_copyTable_61 : decode b_Md_copyTable 61 = .ok (.i2l, 1) := by decide +kernel
theorem d_Md_copyTable_62 : decode b_Md_copyTable 62 = .ok (.invokevirtual 138, 3) := by decide +kernel
theorem d_Md_copyTable_65 : decode b_Md_copyTable 65 = .ok (.pop, 1) := by decide +kernel
theorem d_Md_copyTable_66 : decode b_Md_copyTable 66 = .ok (.aload_n 0, 1) := by decide +kernel
theorem d_Md_copyTable_67 : decode b_Md_copyTable 67 = .ok (.iconst 5, 1) := by decide +kernel
theorem d_Md_copyTable_68 : decode b_Md_copyTable 68 = .ok (.iload 4, 2) := by decide +kernel
theorem d_Md_copyTable_70 : decode b_Md_copyTable 70 = .ok (.invokestatic 123, 3) := by decide +kernel
theorem d_Md_copyTable_73 : decode b_Md_copyTable 73 = .ok (.iload 5, 2) := by decide +kernel
theorem d_Md_copyTable_75 : decode b_Md_copyTable 75 = .ok (.invokestatic 123, 3) := by decide +kernel
theorem d_Md_copyTable_78 : decode b_Md_copyTable 78 = .ok (.aload_n 0, 1) := by decide +kernel
theorem d_Md_copyTable_79 : decode b_Md_copyTable 79 = .ok (.getfield 26, 3) := by decide +kernel
theorem d_Md_copyTable_82 : decode b_Md_copyTable 82 = .ok (.iload_n 2, 1) := by decide +kernel
theorem d_Md_copyTable_83 : decode b_Md_copyTable 83 = .ok (.iaload, 1) := by decide +kernel
theorem d_Md_copyTable_84 : decode b_Md_copyTable 84 = .ok (.i2l, 1) := by decide +kernel
theorem d_Md_copyTable_85 : decode b_Md_copyTable 85 = .ok (.invokevirtual 138, 3) := by decide +kernel
theorem d_Md_copyTable_88 : decode b_Md_copyTable 88 = .ok (.pop, 1) := by decide +kernel
theorem d_Md_copyTable_89 : decode b_Md_copyTable 89 = .ok (.aload_n 0, 1) := by decide +kernel
theorem d_Md_copyTable_90 : decode b_Md_copyTable 90 = .ok (.invokevirtual 142, 3) := by decide +kernel
theorem d_Md_copyTable_93 : decode b_Md_copyTable 93 = .ok (.ifCond .ne 17, 3) := by decide +kernel
theorem d_Md_copyTable_96 : decode b_Md_copyTable 96 = .ok (.aload_n 0, 1) := by decide +kernel
theorem d_Md_copyTable_97 : decode b_Md_copyTable 97 = .ok (.iconst 3, 1) := by decide +kernel
theorem d_Md_copyTable_98 : decode b_Md_copyTable 98 = .ok (.iload_n 1, 1) := by decide +kernel
theorem d_Md_copyTable_99 : decode b_Md_copyTable 99 = .ok (.iload_n 3, 1) := by decide +kernel
theorem d_Md_copyTable_100 : decode b_Md_copyTable 100 = .ok (.i2l, 1) := by decide +kernel
theorem d_Md_copyTable_101 : decode b_Md_copyTable 101 = .ok (.iload 5, 2) := by decide +kernel
theorem d_Md_copyTable_103 : decode b_Md_copyTable 103 = .ok (.i2l, 1) := by decide +kernel
theorem d_Md_copyTable_104 : decode b_Md_copyTable 104 = .ok (.iload 4, 2) := by decide +kernel
theorem d_Md_copyTable_106 : decode b_Md_copyTable 106 = .ok (.iload_n 2, 1) := by decide +kernel
theorem d_Md_copyTable_107 : decode b_Md_copyTable 107 = .ok (.invokevirtual 175, 3) := by decide +kernel
theorem d_Md_copyTable_110 : decode b_Md_copyTable 110 = .ok (.return_, 1) := by decide +kernel
theorem d_Md_initTable_0 : decode b_Md_initTable 0 = .ok (.aload_n 0, 1) := by decide +kernel
theorem d_Md_initTable_1 : decode b_Md_initTable 1 = .ok (.aload_n 0, 1) := by decide +kernel
theorem d_Md_initTable_2 : decode b_Md_initTable 2 = .ok (.iload_n 1, 1) := by decide +kernel
theorem d_Md_initTable_3 : decode b_Md_initTable 3 = .ok (.invokevirtual 169, 3) := by decide +kernel
theorem d_Md_initTable_6 : decode b_Md_initTable 6 = .ok (.ifCond .eq 19, 3) := by decide +kernel
theorem d_Md_initTable_9 : decode b_Md_initTable 9 = .ok (.iload_n 2, 1) := by decide +kernel
theorem d_Md_initTable_10 : decode b_Md_initTable 10 = .ok (.ifCond .lt 15, 3) := by decide +kernel
theorem d_Md_initTable_13 : decode b_Md_initTable 13 = .ok (.iload_n 2, 1) := by decide +kernel
theorem d_Md_initTable_14 : decode b_Md_initTable 14 = .ok (.aload_n 0, 1) := by decide +kernel
theorem d_Md_initTable_15 : decode b_Md_initTable 15 = .ok (.getfield 163, 3) := by decide +kernel
theorem d_Md_initTable_18 : decode b_Md_initTable 18 = .ok (.if_icmp .ge 7, 3) := by decide +kernel
theorem d_Md_initTable_21 : decode b_Md_initTable 21 = .ok (.iconst 1, 1) := by decide +kernel
theorem d_Md_initTable_22 : decode b_Md_initTable 22 = .ok (.goto 4, 3) := by decide +kernel
theorem d_Md_initTable_25 : decode b_Md_initTable 25 = .ok (.iconst 0, 1) := by decide +kernel
theorem d_Md_initTable_26 : decode b_Md_initTable 26 = .ok (.invokevirtual 131, 3) := by decide +kernel
theorem d_Md_initTable_29 : decode b_Md_initTable 29 = .ok (.ifCond .ne 4, 3) := by decide +kernel
theorem d_Md_initTable_32 : decode b_Md_initTable 32 = .ok (.return_, 1) := by decide +kernel
theorem d_Md_initTable_33 : decode b_Md_initTable 33 = .ok (.aload_n 0, 1) := by decide +kernel
theorem d_Md_initTable_34 : decode b_Md_initTable 34 = .ok (.iconst 5, 1) := by decide +kernel
theorem d_Md_initTable_35 : decode b_Md_initTable 35 = .ok (.iload_n 3, 1) := by decide +kernel
theorem d_Md_initTable_36 : decode b_Md_initTable 36 = .ok (.invokestatic 123, 3) := by decide +kernel
theorem d_Md_initTable_39 : decode b_Md_initTable 39 = .ok (.iload 5, 2) := by decide +kernel
theorem d_Md_initTable_41 : decode b_Md_initTable 41 = .ok (.invokestatic 123, 3) := by decide +kernel
theorem d_Md_initTable_44 : decode b_Md_initTable 44 = .ok (.aload_n 0, 1) := by decide +kernel
theorem d_Md_initTable_45 : decode b_Md_initTable 45 = .ok (.getfield 26, 3) := by decide +kernel
theorem d_Md_initTable_48 : decode b_Md_initTable 48 = .ok (.iload_n 1, 1) := by decide +kernel
theorem d_Md_initTable_49 : decode b_Md_initTable 49 = .ok (.iaload, 1) := by decide +kernel
theorem d_Md_initTable_50 : decode b_Md_initTable 50 = .ok (.i2l, 1) := by decide +kernel
theorem d_Md_initTable_51 : decode b_Md_initTable 51 = .ok (.invokevirtual 138, 3) := by decide +kernel
theorem d_Md_initTable_54 : decode b_Md_initTable 54 = .ok (.pop, 1) := by decide +kernel
theorem d_Md_initTable_55 : decode b_Md_initTable 55 = .ok (.aload_n 0, 1) := by decide +kernel
theorem d_Md_initTable_56 : decode b_Md_initTable 56 = .ok (.iconst 5, 1) := by decide +kernel
theorem d_Md_initTable_57 : decode b_Md_initTable 57 = .ok (.iload 4, 2) := by decide +kernel
theorem d_Md_initTable_59 : decode b_Md_initTable 59 = .ok (.invokestatic 123, 3) := by decide +kernel
theorem d_Md_initTable_62 : decode b_Md_initTable 62 = .ok (.iload 5, 2) := by decide +kernel
theorem d_Md_initTable_64 : decode b_Md_initTable 64 = .ok (.invokestatic 123, 3) := by decide +kernel
theorem d_Md_initTable_67 : decode b_Md_initTable 67 = .ok (.aload_n 0, 1) := by decide +kernel
theorem d_Md_initTable_68 : decode b_Md_initTable 68 = .ok (.getfield 51, 3) := by decide +kernel
theorem d_Md_initTable_71 : decode b_Md_initTable 71 = .ok (.iload_n 2, 1) := by decide +kernel
theorem d_Md_initTable_72 : decode b_Md_initTable 72 = .ok (.baload, 1) := by decide +kernel
theorem d_Md_initTable_73 : decode b_Md_initTable 73 = .ok (.ifCond .eq 7, 3) := by decide +kernel
theorem d_Md_initTable_76 : decode b_Md_initTable 76 = .ok (.lconst 0, 1) := by decide +kernel
theorem d_Md_initTable_77 : decode b_Md_initTable 77 = .ok (.goto 10, 3) := by decide +kernel
theorem d_Md_initTable_80 : decode b_Md_initTable 80 = .ok (.aload_n 0, 1) := by decide +kernel
theorem d_Md_initTable_81 : decode b_Md_initTable 81 = .ok (.getfield 48, 3) := by decide +kernel
theorem d_Md_initTable_84 : decode b_Md_initTable 84 = .ok (.iload_n 2, 1) := by decide +kernel
theorem d_Md_initTable_85 : decode b_Md_initTable 85 = .ok (.iaload, 1) := by decide +kernel
theorem d_Md_initTable_86 : decode b_Md_initTable 86 = .ok (.i2l, 1) := by decide +kernel
theorem d_Md_initTable_87 : decode b_Md_initTable 87 = .ok (.invokevirtual 138, 3) := by decide +kernel
theorem d_Md_initTable_90 : decode b_Md_initTable 90 = .ok (.pop, 1) := by decide +kernel
theorem d_Md_initTable_91 : decode b_Md_initTable 91 = .ok (.aload_n 0, 1) := by decide +kernel
theorem d_Md_initTable_92 : decode b_Md_initTable 92 = .ok (.invokevirtual 142, 3) := by decide +kernel
theorem d_Md_initTable_95 : decode b_Md_initTable 95 = .ok (.ifCond .ne 24, 3) := by decide +kernel
theorem d_Md_initTable_98 : decode b_Md_initTable 98 = .ok (.aload_n 0, 1) := by decide +kernel
theorem d_Md_initTable_99 : decode b_Md_initTable 99 = .ok (.iconst 4, 1) := by decide +kernel
theorem d_Md_initTable_100 : decode b_Md_initTable 100 = .ok (.iload_n 1, 1) := by decide +kernel
theorem d_Md_initTable_101 : decode b_Md_initTable 101 = .ok (.iload_n 3, 1) := by decide +kernel
theorem d_Md_initTable_102 : decode b_Md_initTable 102 = .ok (.i2l, 1) := by decide +kernel
theorem d_Md_initTable_103 : decode b_Md_initTable 103 = .ok (.iload 5, 2) := by decide +kernel
theorem d_Md_initTable_105 : decode b_Md_initTable 105 = .ok (.i2l, 1) := by decide +kernel
theorem d_Md_initTable_106 : decode b_Md_initTable 106 = .ok (.aload_n 0, 1) := by decide +kernel
theorem d_Md_initTable_107 : decode b_Md_initTable 107 = .ok (.getfield 45, 3) := by decide +kernel
theorem d_Md_initTable_110 : decode b_Md_initTable 110 = .ok (.iload_n 2, 1) := by decide +kernel
theorem d_Md_initTable_111 : decode b_Md_initTable 111 = .ok (.iaload, 1) := by decide +kernel
theorem d_Md_initTable_112 : decode b_Md_initTable 112 = .ok (.iload 4, 2) := by decide +kernel
theorem d_Md_initTable_114 : decode b_Md_initTable 114 = .ok (.iadd, 1) := by decide +kernel
theorem d_Md_initTable_115 : decode b_Md_initTable 115 = .ok (.iconst 0, 1) := by decide +kernel
theorem d_Md_initTable_116 : decode b_Md_initTable 116 = .ok (.invokevirtual 175, 3) := by decide +kernel
theorem d_Md_initTable_119 : decode b_Md_initTable 119 = .ok (.return_, 1) := by decide +kernel
theorem d_Md_trap_0 : decode b_Md_trap 0 = .ok (.aload_n 0, 1) := by decide +kernel
theorem d_Md_trap_1 : decode b_Md_trap 1 = .ok (.iconst 0, 1) := by decide +kernel
theorem d_Md_trap_2 : decode b_Md_trap 2 = .ok (.putfield 94, 3) := by decide +kernel
theorem d_Md_trap_5 : decode b_Md_trap 5 = .ok (.aload_n 0, 1) := by decide +kernel
theorem d_Md_trap_6 : decode b_Md_trap 6 = .ok (.getfield 105, 3) := by decide +kernel
theorem d_Md_trap_9 : decode b_Md_trap 9 = .ok (.ireturn, 1) := by decide +kernel
theorem d_Md_size_0 : decode b_Md_size 0 = .ok (.aload_n 0, 1) := by decide +kernel
theorem d_Md_size_1 : decode b_Md_size 1 = .ok (.iconst 0, 1) := by decide +kernel
theorem d_Md_size_2 : decode b_Md_size 2 = .ok (.putfield 94, 3) := by decide +kernel
theorem d_Md_size_5 : decode b_Md_size 5 = .ok (.iload_n 1, 1) := by decide +kernel
theorem d_Md_size_6 : decode b_Md_size 6 = .ok (.tableswitch 263 0 12 #[66, 85, 104, 123, 142, 161, 197, 233, 238, 243, 248, 253, 258], 66) := by decide +kernel
theorem d_Md_size_72 : decode b_Md_size 72 = .ok (.aload_n 0, 1) := by decide +kernel
theorem d_Md_size_73 : decode b_Md_size 73 = .ok (.iload_n 2, 1) := by decide +kernel
theorem d_Md_size_74 : decode b_Md_size 74 = .ok (.invokevirtual 119, 3) := by decide +kernel
theorem d_Md_size_77 : decode b_Md_size 77 = .ok (.ifCond .eq 12, 3) := by decide +kernel
theorem d_Md_size_80 : decode b_Md_size 80 = .ok (.aload_n 0, 1) := by decide +kernel
theorem d_Md_size_81 : decode b_Md_size 81 = .ok (.getfield 16, 3) := by decide +kernel
theorem d_Md_size_84 : decode b_Md_size 84 = .ok (.iload_n 2, 1) := by decide +kernel
theorem d_Md_size_85 : decode b_Md_size 85 = .ok (.iaload, 1) := by decide +kernel
theorem d_Md_size_86 : decode b_Md_size 86 = .ok (.goto 4, 3) := by decide +kernel
theorem d_Md_size_89 : decode b_Md_size 89 = .ok (.iconst (-1), 1) := by decide +kernel
theorem d_Md_size_90 : decode b_Md_size 90 = .ok (.ireturn, 1) := by decide +kernel
theorem d_Md_size_91 : decode b_Md_size 91 = .ok (.aload_n 0, 1) := by decide +kernel
theorem d_Md_size_92 : decode b_Md_size 92 = .ok (.iload_n 2, 1) := by decide +kernel
theorem d_Md_size_93 : decode b_Md_size 93 = .ok (.invokevirtual 119, 3) := by decide +kernel
theorem d_Md_size_96 : decode b_Md_size 96 = .ok (.ifCond .eq 12, 3) := by decide +kernel
theorem d_Md_size_99 : decode b_Md_size 99 = .ok (.aload_n 0, 1) := by decide +kernel
theorem d_Md_size_100 : decode b_Md_size 100 = .ok (.getfield 20, 3) := by decide +kernel
theorem d_Md_size_103 : decode b_Md_size 103 = .ok (.iload_n 2, 1) := by decide +kernel
theorem d_Md_size_104 : decode b_Md_size 104 = .ok (.iaload, 1) := by decide +kernel
theorem d_Md_size_105 : decode b_Md_size 105 = .ok (.goto 4, 3) := by decide +kernel
theorem d_Md_size_108 : decode b_Md_size 108 = .ok (.iconst (-1), 1) := by decide +kernel
theorem d_Md_size_109 : decode b_Md_size 109 = .ok (.ireturn, 1) := by decide +kernel
theorem d_Md_size_110 : decode b_Md_size 110 = .ok (.aload_n 0, 1) := by decide +kernel
theorem d_Md_size_111 : decode b_Md_size 111 = .ok (.iload_n 2, 1) := by decide +kernel
theorem d_Md_size_112 : decode b_Md_size 112 = .ok (.invokevirtual 169, 3) := by decide +kernel
theorem d_Md_size_115 : decode b_Md_size 115 = .ok (.ifCond .eq 12, 3) := by decide +kernel
theorem d_Md_size_118 : decode b_Md_size 118 = .ok (.aload_n 0, 1) := by decide +kernel
theorem d_Md_size_119 : decode b_Md_size 119 = .ok (.getfield 26, 3) := by decide +kernel
theorem d_Md_size_122 : decode b_Md_size 122 = .ok (.iload_n 2, 1) := by decide +kernel
theorem d_Md_size_123 : decode b_Md_size 123 = .ok (.iaload, 1) := by decide +kernel
theorem d_Md_size_124 : decode b_Md_size 124 = .ok (.goto 4, 3) := by decide +kernel
theorem d_Md_size_127 : decode b_Md_size 127 = .ok (.iconst (-1), 1) := by decide +kernel
theorem d_Md_size_128 : decode b_Md_size 128 = .ok (.ireturn, 1) := by decide +kernel
theorem d_Md_size_129 : decode b_Md_size 129 = .ok (.aload_n 0, 1) := by decide +kernel
theorem d_Md_size_130 : decode b_Md_size 130 = .ok (.iload_n 2, 1) := by decide +kernel
theorem d_Md_size_131 : decode b_Md_size 131 = .ok (.invokevirtual 169, 3) := by decide +kernel
theorem d_Md_size_134 : decode b_Md_size 134 = .ok (.ifCond .eq 12, 3) := by decide +kernel
theorem d_Md_size_137 : decode b_Md_size 137 = .ok (.aload_n 0, 1) := by decide +kernel
theorem d_Md_size_138 : decode b_Md_size 138 = .ok (.getfield 29, 3) := by decide +kernel
theorem d_Md_size_141 : decode b_Md_size 141 = .ok (.iload_n 2, 1) := by decide +kernel
theorem d_Md_size_142 : decode b_Md_size 142 = .ok (.iaload, 1) := by decide +kernel
theorem d_Md_size_143 : decode b_Md_size 143 = .ok (.goto 4, 3) := by decide +kernel
theorem d_Md_size_146 : decode b_Md_size 146 = .ok (.iconst (-1), 1) := by decide +kernel
theorem d_Md_size_147 : decode b_Md_size 147 = .ok (.ireturn, 1) := by decide +kernel
theorem d_Md_size_148 : decode b_Md_size 148 = .ok (.aload_n 0, 1) := by decide +kernel
theorem d_Md_size_149 : decode b_Md_size 149 = .ok (.iload_n 2, 1) := by decide +kernel
theorem d_Md_size_150 : decode b_Md_size 150 = .ok (.invokevirtual 169, 3) := by decide +kernel
theorem d_Md_size_153 : decode b_Md_size 153 = .ok (.ifCond .eq 12, 3) := by decide +kernel
theorem d_Md_size_156 : decode b_Md_size 156 = .ok (.aload_n 0, 1) := by decide +kernel
theorem d_Md_size_157 : decode b_Md_size 157 = .ok (.getfield 23, 3) := by decide +kernel
theorem d_Md_size_160 : decode b_Md_size 160 = .ok (.iload_n 2, 1) := by decide +kernel
theorem d_Md_size_161 : decode b_Md_size 161 = .ok (.iaload, 1) := by decide +kernel
theorem d_Md_size_162 : decode b_Md_size 162 = .ok (.goto 4, 3) := by decide +kernel
theorem d_Md_size_165 : decode b_Md_size 165 = .ok (.iconst (-1), 1) := by decide +kernel
theorem d_Md_size_166 : decode b_Md_size 166 = .ok (.ireturn, 1) := by decide +kernel
theorem d_Md_size_167 : decode b_Md_size 167 = .ok (.iload_n 2, 1) := by decide +kernel
theorem d_Md_size_168 : decode b_Md_size 168 = .ok (.ifCond .lt 11, 3) := by decide +kernel
theorem d_Md_size_171 : decode b_Md_size 171 = .ok (.iload_n 2, 1) := by decide +kernel
theorem d_Md_size_172 : decode b_Md_size 172 = .ok (.aload_n 0, 1) := by decide +kernel
theorem d_Md_size_173 : decode b_Md_size 173 = .ok (.getfield 157, 3) := by decide +kernel
theorem d_Md_size_176 : decode b_Md_size 176 = .ok (.if_icmp .lt 7, 3) := by decide +kernel
theorem d_Md_size_179 : decode b_Md_size 179 = .ok (.iconst (-1), 1) := by decide +kernel
theorem d_Md_size_180 : decode b_Md_size 180 = .ok (.goto 22, 3) := by decide +kernel
theorem d_Md_size_183 : decode b_Md_size 183 = .ok (.aload_n 0, 1) := by decide +kernel
theorem d_Md_size_184 : decode b_Md_size 184 = .ok (.getfield 38, 3) := by decide +kernel
theorem d_Md_size_187 : decode b_Md_size 187 = .ok (.iload_n 2, 1) := by decide +kernel
theorem d_Md_size_188 : decode b_Md_size 188 = .ok (.baload, 1) := by decide +kernel
theorem d_Md_size_189 : decode b_Md_size 189 = .ok (.ifCond .eq 7, 3) := by decide +kernel
theorem d_Md_size_192 : decode b_Md_size 192 = .ok (.iconst 0, 1) := by decide +kernel
theorem d_Md_size_193 : decode b_Md_size 193 = .ok (.goto 9, 3) := by decide +kernel
theorem d_Md_size_196 : decode b_Md_size 196 = .ok (.aload_n 0, 1) := by decide +kernel
theorem d_Md_size_197 : decode b_Md_size 197 = .ok (.getfield 35, 3) := by decide +kernel
theorem d_Md_size_200 : decode b_Md_size 200 = .ok (.iload_n 2, 1) := by decide +kernel
theorem d_Md_size_201 : decode b_Md_size 201 = .ok (.iaload, 1) := by decide +kernel
theorem d_Md_size_202 : decode b_Md_size 202 = .ok (.ireturn, 1) := by decide +kernel
theorem d_Md_size_203 : decode b_Md_size 203 = .ok (.iload_n 2, 1) := by decide +kernel
theorem d_Md_size_204 : decode b_Md_size 204 = .ok (.ifCond .lt 11, 3) := by decide +kernel
theorem d_Md_size_207 : decode b_Md_size 207 = .ok (.iload_n 2, 1) := by decide +kernel
theorem d_Md_size_208 : decode b_Md_size 208 = .ok (.aload_n 0, 1) := by decide +kernel
theorem d_Md_size_209 : decode b_Md_size 209 = .ok (.getfield 163, 3) := by decide +kernel
theorem d_Md_size_212 : decode b_Md_size 212 = .ok (.if_icmp .lt 7, 3) := by decide +kernel
theorem d_Md_size_215 : decode b_Md_size 215 = .ok (.iconst (-1), 1) := by decide +kernel
theorem d_Md_size_216 : decode b_Md_size 216 = .ok (.goto 22, 3) := by decide +kernel
theorem d_Md_size_219 : decode b_Md_size 219 = .ok (.aload_n 0, 1) := by decide +kernel
theorem d_Md_size_220 : decode b_Md_size 220 = .ok (.getfield 51, 3) := by decide +kernel
theorem d_Md_size_223 : decode b_Md_size 223 = .ok (.iload_n 2, 1) := by decide +kernel
theorem d_Md_size_224 : decode b_Md_size 224 = .ok (.baload, 1) := by decide +kernel
theorem d_Md_size_225 : decode b_Md_size 225 = .ok (.ifCond .eq 7, 3) := by decide +kernel
theorem d_Md_size_228 : decode b_Md_size 228 = .ok (.iconst 0, 1) := by decide +kernel
theorem d_Md_size_229 : decode b_Md_size 229 = .ok (.goto 9, 3) := by decide +kernel
theorem d_Md_size_232 : decode b_Md_size 232 = .ok (.aload_n 0, 1) := by decide +kernel
theorem d_Md_size_233 : decode b_Md_size 233 = .ok (.getfield 48, 3) := by decide +kernel
theorem d_Md_size_236 : decode b_Md_size 236 = .ok (.iload_n 2, 1) := by decide +kernel
theorem d_Md_size_237 : decode b_Md_size 237 = .ok (.iaload, 1) := by decide +kernel
theorem d_Md_size_238 : decode b_Md_size 238 = .ok (.ireturn, 1) := by decide +kernel
theorem d_Md_size_239 : decode b_Md_size 239 = .ok (.aload_n 0, 1) := by decide +kernel
theorem d_Md_size_240 : decode b_Md_size 240 = .ok (.getfield 9, 3) := by decide +kernel
theorem d_Md_size_243 : decode b_Md_size 243 = .ok (.ireturn, 1) := by decide +kernel
theorem d_Md_size_244 : decode b_Md_size 244 = .ok (.aload_n 0, 1) := by decide +kernel
theorem d_Md_size_245 : decode b_Md_size 245 = .ok (.getfield 13, 3) := by decide +kernel
theorem d_Md_size_248 : decode b_Md_size 248 = .ok (.ireturn, 1) := by decide +kernel
theorem d_Md_size_249 : decode b_Md_size 249 = .ok (.aload_n 0, 1) := by decide +kernel
theorem d_Md_size_250 : decode b_Md_size 250 = .ok (.getfield 99, 3) := by decide +kernel
theorem d_Md_size_253 : decode b_Md_size 253 = .ok (.ireturn, 1) := by decide +kernel
theorem d_Md_size_254 : decode b_Md_size 254 = .ok (.aload_n 0, 1) := by decide +kernel
theorem d_Md_size_255 : decode b_Md_size 255 = .ok (.getfield 102, 3) := by decide +kernel
theorem d_Md_size_258 : decode b_Md_size 258 = .ok (.ireturn, 1) := by decide +kernel
theorem d_Md_size_259 : decode b_Md_size 259 = .ok (.aload_n 0, 1) := by decide +kernel
theorem d_Md_size_260 : decode b_Md_size 260 = .ok (.getfield 157, 3) := by decide +kernel
theorem d_Md_size_263 : decode b_Md_size 263 = .ok (.ireturn, 1) := by decide +kernel
theorem d_Md_size_264 : decode b_Md_size 264 = .ok (.aload_n 0, 1) := by decide +kernel
theorem d_Md_size_265 : decode b_Md_size 265 = .ok (.getfield 163, 3) := by decide +kernel
theorem d_Md_size_268 : decode b_Md_size 268 = .ok (.ireturn, 1) := by decide +kernel
theorem d_Md_size_269 : decode b_Md_size 269 = .ok (.iconst (-1), 1) := by decide +kernel
theorem d_Md_size_270 : decode b_Md_size 270 = .ok (.ireturn, 1) := by decide +kernel
