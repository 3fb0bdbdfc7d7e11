theorem d_Pm_new_0 : decode b_Pm_new 0 = .ok (.aload_n 0, 1) := by decide +kernel
theorem d_Pm_new_1 : decode b_Pm_new 1 = .ok (.invokespecial 1, 3) := by decide +kernel
theorem d_Pm_new_4 : decode b_Pm_new 4 = .ok (.aload_n 0, 1) := by decide +kernel
theorem d_Pm_new_5 : decode b_Pm_new 5 = .ok (.new 7, 3) := by decide +kernel
theorem d_Pm_new_8 : decode b_Pm_new 8 = .ok (.dup, 1) := by decide +kernel
theorem d_Pm_new_9 : decode b_Pm_new 9 = .ok (.bipush 6, 2) := by decide +kernel
theorem d_Pm_new_11 : decode b_Pm_new 11 = .ok (.sipush 12288, 3) := by decide +kernel
theorem d_Pm_new_14 : decode b_Pm_new 14 = .ok (.invokespecial 11, 3) := by decide +kernel
theorem d_Pm_new_17 : decode b_Pm_new 17 = .ok (.putfield 14, 3) := by decide +kernel
theorem d_Pm_new_20 : decode b_Pm_new 20 = .ok (.aload_n 0, 1) := by decide +kernel
theorem d_Pm_new_21 : decode b_Pm_new 21 = .ok (.bipush 6, 2) := by decide +kernel
theorem d_Pm_new_23 : decode b_Pm_new 23 = .ok (.newarray .int, 2) := by decide +kernel
theorem d_Pm_new_25 : decode b_Pm_new 25 = .ok (.putfield 18, 3) := by decide +kernel
theorem d_Pm_new_28 : decode b_Pm_new 28 = .ok (.aload_n 0, 1) := by decide +kernel
theorem d_Pm_new_29 : decode b_Pm_new 29 = .ok (.sipush 12288, 3) := by decide +kernel
theorem d_Pm_new_32 : decode b_Pm_new 32 = .ok (.newarray .byte, 2) := by decide +kernel
theorem d_Pm_new_34 : decode b_Pm_new 34 = .ok (.putfield 22, 3) := by decide +kernel
theorem d_Pm_new_37 : decode b_Pm_new 37 = .ok (.aload_n 0, 1) := by decide +kernel
theorem d_Pm_new_38 : decode b_Pm_new 38 = .ok (.new 7, 3) := by decide +kernel
theorem d_Pm_new_41 : decode b_Pm_new 41 = .ok (.dup, 1) := by decide +kernel
theorem d_Pm_new_42 : decode b_Pm_new 42 = .ok (.bipush 6, 2) := by decide +kernel
theorem d_Pm_new_44 : decode b_Pm_new 44 = .ok (.sipush 200, 3) := by decide +kernel
theorem d_Pm_new_47 : decode b_Pm_new 47 = .ok (.invokespecial 11, 3) := by decide +kernel
theorem d_Pm_new_50 : decode b_Pm_new 50 = .ok (.putfield 26, 3) := by decide +kernel
theorem d_Pm_new_53 : decode b_Pm_new 53 = .ok (.aload_n 0, 1) := by decide +kernel
theorem d_Pm_new_54 : decode b_Pm_new 54 = .ok (.bipush 6, 2) := by decide +kernel
theorem d_Pm_new_56 : decode b_Pm_new 56 = .ok (.newarray .int, 2) := by decide +kernel
theorem d_Pm_new_58 : decode b_Pm_new 58 = .ok (.putfield 29, 3) := by decide +kernel
theorem d_Pm_new_61 : decode b_Pm_new 61 = .ok (.aload_n 0, 1) := by decide +kernel
theorem d_Pm_new_62 : decode b_Pm_new 62 = .ok (.bipush 6, 2) := by decide +kernel
theorem d_Pm_new_64 : decode b_Pm_new 64 = .ok (.newarray .int, 2) := by decide +kernel
theorem d_Pm_new_66 : decode b_Pm_new 66 = .ok (.putfield 32, 3) := by decide +kernel
theorem d_Pm_new_69 : decode b_Pm_new 69 = .ok (.aload_n 0, 1) := by decide +kernel
theorem d_Pm_new_70 : decode b_Pm_new 70 = .ok (.sipush 200, 3) := by decide +kernel
theorem d_Pm_new_73 : decode b_Pm_new 73 = .ok (.newarray .int, 2) := by decide +kernel
theorem d_Pm_new_75 : decode b_Pm_new 75 = .ok (.putfield 35, 3) := by decide +kernel
theorem d_Pm_new_78 : decode b_Pm_new 78 = .ok (.aload_n 0, 1) := by decide +kernel
theorem d_Pm_new_79 : decode b_Pm_new 79 = .ok (.new 7, 3) := by decide +kernel
theorem d_Pm_new_82 : decode b_Pm_new 82 = .ok (.dup, 1) := by decide +kernel
theorem d_Pm_new_83 : decode b_Pm_new 83 = .ok (.bipush 24, 2) := by decide +kernel
theorem d_Pm_new_85 : decode b_Pm_new 85 = .ok (.sipush 600, 3) := by decide +kernel
theorem d_Pm_new_88 : decode b_Pm_new 88 = .ok (.invokespecial 11, 3) := by decide +kernel
theorem d_Pm_new_91 : decode b_Pm_new 91 = .ok (.putfield 38, 3) := by decide +kernel
theorem d_Pm_new_94 : decode b_Pm_new 94 = .ok (.aload_n 0, 1) := by decide +kernel
theorem d_Pm_new_95 : decode b_Pm_new 95 = .ok (.sipush 600, 3) := by decide +kernel
theorem d_Pm_new_98 : decode b_Pm_new 98 = .ok (.newarray .byte, 2) := by decide +kernel
theorem d_Pm_new_100 : decode b_Pm_new 100 = .ok (.putfield 41, 3) := by decide +kernel
theorem d_Pm_new_103 : decode b_Pm_new 103 = .ok (.aload_n 0, 1) := by decide +kernel
theorem d_Pm_new_104 : decode b_Pm_new 104 = .ok (.new 7, 3) := by decide +kernel
theorem d_Pm_new_107 : decode b_Pm_new 107 = .ok (.dup, 1) := by decide +kernel
theorem d_Pm_new_108 : decode b_Pm_new 108 = .ok (.bipush 24, 2) := by decide +kernel
theorem d_Pm_new_110 : decode b_Pm_new 110 = .ok (.sipush 200, 3) := by decide +kernel
theorem d_Pm_new_113 : decode b_Pm_new 113 = .ok (.invokespecial 11, 3) := by decide +kernel
theorem d_Pm_new_116 : decode b_Pm_new 116 = .ok (.putfield 44, 3) := by decide +kernel
theorem d_Pm_new_119 : decode b_Pm_new 119 = .ok (.aload_n 0, 1) := by decide +kernel
theorem d_Pm_new_120 : decode b_Pm_new 120 = .ok (.sipush 200, 3) := by decide +kernel
theorem d_Pm_new_123 : decode b_Pm_new 123 = .ok (.newarray .int, 2) := by decide +kernel
theorem d_Pm_new_125 : decode b_Pm_new 125 = .ok (.putfield 47, 3) := by decide +kernel
theorem d_Pm_new_128 : decode b_Pm_new 128 = .ok (.aload_n 0, 1) := by decide +kernel
theorem d_Pm_new_129 : decode b_Pm_new 129 = .ok (.iconst 0, 1) := by decide +kernel
theorem d_Pm_new_130 : decode b_Pm_new 130 = .ok (.putfield 50, 3) := by decide +kernel
theorem d_Pm_new_133 : decode b_Pm_new 133 = .ok (.return_, 1) := by decide +kernel
theorem d_Pm_memory_0 : decode b_Pm_memory 0 = .ok (.aload_n 0, 1) := by decide +kernel
theorem d_Pm_memory_1 : decode b_Pm_memory 1 = .ok (.getfield 14, 3) := by decide +kernel
theorem d_Pm_memory_4 : decode b_Pm_memory 4 = .ok (.invokevirtual 54, 3) := by decide +kernel
theorem d_Pm_memory_7 : decode b_Pm_memory 7 = .ok (.ifCond .ne 26, 3) := by decide +kernel
theorem d_Pm_memory_10 : decode b_Pm_memory 10 = .ok (.iload_n 1, 1) := by decide +kernel
theorem d_Pm_memory_11 : decode b_Pm_memory 11 = .ok (.ifCond .lt 22, 3) := by decide +kernel
theorem d_Pm_memory_14 : decode b_Pm_memory 14 = .ok (.iload_n 1, 1) := by decide +kernel
theorem d_Pm_memory_15 : decode b_Pm_memory 15 = .ok (.iload_n 2, 1) := by decide +kernel
theorem d_Pm_memory_16 : decode b_Pm_memory 16 = .ok (.if_icmp .gt 17, 3) := by decide +kernel
theorem d_Pm_memory_19 : decode b_Pm_memory 19 = .ok (.iload_n 2, 1) := by decide +kernel
theorem d_Pm_memory_20 : decode b_Pm_memory 20 = .ok (.ldc 58, 2) := by decide +kernel
theorem d_Pm_memory_22 : decode b_Pm_memory 22 = .ok (.if_icmp .gt 11, 3) := by decide +kernel
theorem d_Pm_memory_25 : decode b_Pm_memory 25 = .ok (.iload_n 1, 1) := by decide +kernel
theorem d_Pm_memory_26 : decode b_Pm_memory 26 = .ok (.aload_n 0, 1) := by decide +kernel
theorem d_Pm_memory_27 : decode b_Pm_memory 27 = .ok (.invokevirtual 59, 3) := by decide +kernel
theorem d_Pm_memory_30 : decode b_Pm_memory 30 = .ok (.if_icmp .le 5, 3) := by decide +kernel
theorem d_Pm_memory_33 : decode b_Pm_memory 33 = .ok (.iconst (-1), 1) := by decide +kernel
theorem d_Pm_memory_34 : decode b_Pm_memory 34 = .ok (.ireturn, 1) := by decide +kernel
theorem d_Pm_memory_35 : decode b_Pm_memory 35 = .ok (.aload_n 0, 1) := by decide +kernel
theorem d_Pm_memory_36 : decode b_Pm_memory 36 = .ok (.getfield 14, 3) := by decide +kernel
theorem d_Pm_memory_39 : decode b_Pm_memory 39 = .ok (.iload_n 1, 1) := by decide +kernel
theorem d_Pm_memory_40 : decode b_Pm_memory 40 = .ok (.sipush 256, 3) := by decide +kernel
theorem d_Pm_memory_43 : decode b_Pm_memory 43 = .ok (.imul, 1) := by decide +kernel
theorem d_Pm_memory_44 : decode b_Pm_memory 44 = .ok (.invokevirtual 63, 3) := by decide +kernel
theorem d_Pm_memory_47 : decode b_Pm_memory 47 = .ok (.istore_n 3, 1) := by decide +kernel
theorem d_Pm_memory_48 : decode b_Pm_memory 48 = .ok (.aload_n 0, 1) := by decide +kernel
theorem d_Pm_memory_49 : decode b_Pm_memory 49 = .ok (.getfield 18, 3) := by decide +kernel
theorem d_Pm_memory_52 : decode b_Pm_memory 52 = .ok (.iload_n 3, 1) := by decide +kernel
theorem d_Pm_memory_53 : decode b_Pm_memory 53 = .ok (.iload_n 2, 1) := by decide +kernel
theorem d_Pm_memory_54 : decode b_Pm_memory 54 = .ok (.iastore, 1) := by decide +kernel
theorem d_Pm_memory_55 : decode b_Pm_memory 55 = .ok (.iload_n 3, 1) := by decide +kernel
theorem d_Pm_memory_56 : decode b_Pm_memory 56 = .ok (.ireturn, 1) := by decide +kernel
theorem d_Pm_pagesLeft_0 : decode b_Pm_pagesLeft 0 = .ok (.aload_n 0, 1) := by decide +kernel
theorem d_Pm_pagesLeft_1 : decode b_Pm_pagesLeft 1 = .ok (.getfield 14, 3) := by decide +kernel
theorem d_Pm_pagesLeft_4 : decode b_Pm_pagesLeft 4 = .ok (.invokevirtual 150, 3) := by decide +kernel
theorem d_Pm_pagesLeft_7 : decode b_Pm_pagesLeft 7 = .ok (.sipush 256, 3) := by decide +kernel
theorem d_Pm_pagesLeft_10 : decode b_Pm_pagesLeft 10 = .ok (.idiv, 1) := by decide +kernel
theorem d_Pm_pagesLeft_11 : decode b_Pm_pagesLeft 11 = .ok (.ireturn, 1) := by decide +kernel
theorem d_Pm_grow_0 : decode b_Pm_grow 0 = .ok (.aload_n 0, 1) := by decide +kernel
theorem d_Pm_grow_1 : decode b_Pm_grow 1 = .ok (.getfield 14, 3) := by decide +kernel
theorem d_Pm_grow_4 : decode b_Pm_grow 4 = .ok (.iload_n 1, 1) := by decide +kernel
theorem d_Pm_grow_5 : decode b_Pm_grow 5 = .ok (.invokevirtual 67, 3) := by decide +kernel
theorem d_Pm_grow_8 : decode b_Pm_grow 8 = .ok (.ifCond .ne 5, 3) := by decide +kernel
theorem d_Pm_grow_11 : decode b_Pm_grow 11 = .ok (.iconst (-1), 1) := by decide +kernel
theorem d_Pm_grow_12 : decode b_Pm_grow 12 = .ok (.ireturn, 1) := by decide +kernel
theorem d_Pm_grow_13 : decode b_Pm_grow 13 = .ok (.aload_n 0, 1) := by decide +kernel
theorem d_Pm_grow_14 : decode b_Pm_grow 14 = .ok (.iload_n 1, 1) := by decide +kernel
theorem d_Pm_grow_15 : decode b_Pm_grow 15 = .ok (.invokevirtual 71, 3) := by decide +kernel
theorem d_Pm_grow_18 : decode b_Pm_grow 18 = .ok (.istore_n 3, 1) := by decide +kernel
theorem d_Pm_grow_19 : decode b_Pm_grow 19 = .ok (.iload_n 2, 1) := by decide +kernel
theorem d_Pm_grow_20 : decode b_Pm_grow 20 = .ok (.invokestatic 74, 3) := by decide +kernel
theorem d_Pm_grow_23 : decode b_Pm_grow 23 = .ok (.lstore 4, 2) := by decide +kernel
theorem d_Pm_grow_25 : decode b_Pm_grow 25 = .ok (.iload_n 3, 1) := by decide +kernel
theorem d_Pm_grow_26 : decode b_Pm_grow 26 = .ok (.i2l, 1) := by decide +kernel
theorem d_Pm_grow_27 : decode b_Pm_grow 27 = .ok (.lload 4, 2) := by decide +kernel
theorem d_Pm_grow_29 : decode b_Pm_grow 29 = .ok (.ladd, 1) := by decide +kernel
theorem d_Pm_grow_30 : decode b_Pm_grow 30 = .ok (.aload_n 0, 1) := by decide +kernel
theorem d_Pm_grow_31 : decode b_Pm_grow 31 = .ok (.getfield 18, 3) := by decide +kernel
theorem d_Pm_grow_34 : decode b_Pm_grow 34 = .ok (.iload_n 1, 1) := by decide +kernel
theorem d_Pm_grow_35 : decode b_Pm_grow 35 = .ok (.iaload, 1) := by decide +kernel
theorem d_Pm_grow_36 : decode b_Pm_grow 36 = .ok (.i2l, 1) := by decide +kernel
theorem d_Pm_grow_37 : decode b_Pm_grow 37 = .ok (.lcmp, 1) := by decide +kernel
theorem d_Pm_grow_38 : decode b_Pm_grow 38 = .ok (.ifCond .gt 14, 3) := by decide +kernel
theorem d_Pm_grow_41 : decode b_Pm_grow 41 = .ok (.lload 4, 2) := by decide +kernel
theorem d_Pm_grow_43 : decode b_Pm_grow 43 = .ok (.aload_n 0, 1) := by decide +kernel
theorem d_Pm_grow_44 : decode b_Pm_grow 44 = .ok (.invokevirtual 59, 3) := by decide +kernel
theorem d_Pm_grow_47 : decode b_Pm_grow 47 = .ok (.i2l, 1) := by decide +kernel
theorem d_Pm_grow_48 : decode b_Pm_grow 48 = .ok (.lcmp, 1) := by decide +kernel
theorem d_Pm_grow_49 : decode b_Pm_grow 49 = .ok (.ifCond .le 5, 3) := by decide +kernel
theorem d_Pm_grow_52 : decode b_Pm_grow 52 = .ok (.iconst (-1), 1) := by decide +kernel
theorem d_Pm_grow_53 : decode b_Pm_grow 53 = .ok (.ireturn, 1) := by decide +kernel
theorem d_Pm_grow_54 : decode b_Pm_grow 54 = .ok (.lload 4, 2) := by decide +kernel
theorem d_Pm_grow_56 : decode b_Pm_grow 56 = .ok (.l2i, 1) := by decide +kernel
theorem d_Pm_grow_57 : decode b_Pm_grow 57 = .ok (.sipush 256, 3) := by decide +kernel
theorem d_Pm_grow_60 : decode b_Pm_grow 60 = .ok (.imul, 1) := by decide +kernel
theorem d_Pm_grow_61 : decode b_Pm_grow 61 = .ok (.istore 6, 2) := by decide +kernel
theorem d_Pm_grow_63 : decode b_Pm_grow 63 = .ok (.aload_n 0, 1) := by decide +kernel
theorem d_Pm_grow_64 : decode b_Pm_grow 64 = .ok (.getfield 14, 3) := by decide +kernel
theorem d_Pm_grow_67 : decode b_Pm_grow 67 = .ok (.iload_n 1, 1) := by decide +kernel
theorem d_Pm_grow_68 : decode b_Pm_grow 68 = .ok (.invokevirtual 78, 3) := by decide +kernel
theorem d_Pm_grow_71 : decode b_Pm_grow 71 = .ok (.istore 7, 2) := by decide +kernel
theorem d_Pm_grow_73 : decode b_Pm_grow 73 = .ok (.aload_n 0, 1) := by decide +kernel
theorem d_Pm_grow_74 : decode b_Pm_grow 74 = .ok (.getfield 22, 3) := by decide +kernel
theorem d_Pm_grow_77 : decode b_Pm_grow 77 = .ok (.iload 7, 2) := by decide +kernel
theorem d_Pm_grow_79 : decode b_Pm_grow 79 = .ok (.aload_n 0, 1) := by decide +kernel
theorem d_Pm_grow_80 : decode b_Pm_grow 80 = .ok (.getfield 22, 3) := by decide +kernel
theorem d_Pm_grow_83 : decode b_Pm_grow 83 = .ok (.iload 7, 2) := by decide +kernel
theorem d_Pm_grow_85 : decode b_Pm_grow 85 = .ok (.iload 6, 2) := by decide +kernel
theorem d_Pm_grow_87 : decode b_Pm_grow 87 = .ok (.iadd, 1) := by decide +kernel
theorem d_Pm_grow_88 : decode b_Pm_grow 88 = .ok (.aload_n 0, 1) := by decide +kernel
theorem d_Pm_grow_89 : decode b_Pm_grow 89 = .ok (.getfield 14, 3) := by decide +kernel
theorem d_Pm_grow_92 : decode b_Pm_grow 92 = .ok (.invokevirtual 81, 3) := by decide +kernel
theorem d_Pm_grow_95 : decode b_Pm_grow 95 = .ok (.iload 7, 2) := by decide +kernel
theorem d_Pm_grow_97 : decode b_Pm_grow 97 = .ok (.isub, 1) := by decide +kernel
theorem d_Pm_grow_98 : decode b_Pm_grow 98 = .ok (.invokestatic 84, 3) := by decide +kernel
theorem d_Pm_grow_101 : decode b_Pm_grow 101 = .ok (.aload_n 0, 1) := by decide +kernel
theorem d_Pm_grow_102 : decode b_Pm_grow 102 = .ok (.getfield 22, 3) := by decide +kernel
theorem d_Pm_grow_105 : decode b_Pm_grow 105 = .ok (.iload 7, 2) := by decide +kernel
theorem d_Pm_grow_107 : decode b_Pm_grow 107 = .ok (.iload 7, 2) := by decide +kernel
theorem d_Pm_grow_109 : decode b_Pm_grow 109 = .ok (.iload 6, 2) := by decide +kernel
theorem d_Pm_grow_111 : decode b_Pm_grow 111 = .ok (.iadd, 1) := by decide +kernel
theorem d_Pm_grow_112 : decode b_Pm_grow 112 = .ok (.iconst 0, 1) := by decide +kernel
theorem d_Pm_grow_113 : decode b_Pm_grow 113 = .ok (.invokestatic 90, 3) := by decide +kernel
theorem d_Pm_grow_116 : decode b_Pm_grow 116 = .ok (.aload_n 0, 1) := by decide +kernel
theorem d_Pm_grow_117 : decode b_Pm_grow 117 = .ok (.getfield 14, 3) := by decide +kernel
theorem d_Pm_grow_120 : decode b_Pm_grow 120 = .ok (.iload_n 1, 1) := by decide +kernel
theorem d_Pm_grow_121 : decode b_Pm_grow 121 = .ok (.iload 6, 2) := by decide +kernel
theorem d_Pm_grow_123 : decode b_Pm_grow 123 = .ok (.invokevirtual 96, 3) := by decide +kernel
theorem d_Pm_grow_126 : decode b_Pm_grow 126 = .ok (.iload_n 3, 1) := by decide +kernel
theorem d_Pm_grow_127 : decode b_Pm_grow 127 = .ok (.ireturn, 1) := by decide +kernel
theorem d_Pm_pagesOf_0 : decode b_Pm_pagesOf 0 = .ok (.aload_n 0, 1) := by decide +kernel
theorem d_Pm_pagesOf_1 : decode b_Pm_pagesOf 1 = .ok (.getfield 14, 3) := by decide +kernel
theorem d_Pm_pagesOf_4 : decode b_Pm_pagesOf 4 = .ok (.iload_n 1, 1) := by decide +kernel
theorem d_Pm_pagesOf_5 : decode b_Pm_pagesOf 5 = .ok (.invokevirtual 163, 3) := by decide +kernel
theorem d_Pm_pagesOf_8 : decode b_Pm_pagesOf 8 = .ok (.sipush 256, 3) := by decide +kernel
theorem d_Pm_pagesOf_11 : decode b_Pm_pagesOf 11 = .ok (.idiv, 1) := by decide +kernel
theorem d_Pm_pagesOf_12 : decode b_Pm_pagesOf 12 = .ok (.ireturn, 1) := by decide +kernel
theorem d_Pm_unsigned_0 : decode b_Pm_unsigned 0 = .ok (.iload_n 0, 1) := by decide +kernel
theorem d_Pm_unsigned_1 : decode b_Pm_unsigned 1 = .ok (.i2l, 1) := by decide +kernel
theorem d_Pm_unsigned_2 : decode b_Pm_unsigned 2 = .ok (.ldc2_w 181, 3) := by decide +kernel
theorem d_Pm_unsigned_5 : decode b_Pm_unsigned 5 = .ok (.land, 1) := by decide +kernel
theorem d_Pm_unsigned_6 : decode b_Pm_unsigned 6 = .ok (.lreturn, 1) := by decide +kernel
theorem d_Ar_fillB_0 : decode b_Ar_fillB 0 = .ok (.aload_n 0, 1) := by decide +kernel
theorem d_Ar_fillB_1 : decode b_Ar_fillB 1 = .ok (.arraylength, 1) := by decide +kernel
theorem d_Ar_fillB_2 : decode b_Ar_fillB 2 = .ok (.iload_n 1, 1) := by decide +kernel
theorem d_Ar_fillB_3 : decode b_Ar_fillB 3 = .ok (.iload_n 2, 1) := by decide +kernel
theorem d_Ar_fillB_4 : decode b_Ar_fillB 4 = .ok (.invokestatic 13, 3) := by decide +kernel
theorem d_Ar_fillB_7 : decode b_Ar_fillB 7 = .ok (.iload_n 1, 1) := by decide +kernel
theorem d_Ar_fillB_8 : decode b_Ar_fillB 8 = .ok (.istore 4, 2) := by decide +kernel
theorem d_Ar_fillB_10 : decode b_Ar_fillB 10 = .ok (.iload 4, 2) := by decide +kernel
theorem d_Ar_fillB_12 : decode b_Ar_fillB 12 = .ok (.iload_n 2, 1) := by decide +kernel
theorem d_Ar_fillB_13 : decode b_Ar_fillB 13 = .ok (.if_icmp .ge 14, 3) := by decide +kernel
theorem d_Ar_fillB_16 : decode b_Ar_fillB 16 = .ok (.aload_n 0, 1) := by decide +kernel
theorem d_Ar_fillB_17 : decode b_Ar_fillB 17 = .ok (.iload 4, 2) := by decide +kernel
theorem d_Ar_fillB_19 : decode b_Ar_fillB 19 = .ok (.iload_n 3, 1) := by decide +kernel
theorem d_Ar_fillB_20 : decode b_Ar_fillB 20 = .ok (.bastore, 1) := by decide +kernel
theorem d_Ar_fillB_21 : decode b_Ar_fillB 21 = .ok (.iinc 4 1, 3) := by decide +kernel
theorem d_Ar_fillB_24 : decode b_Ar_fillB 24 = .ok (.goto (-14), 3) := by decide +kernel
theorem d_Ar_fillB_27 : decode b_Ar_fillB 27 = .ok (.return_, 1) := by decide +kernel
theorem d_Ar_rangeCheck_0 : decode b_Ar_rangeCheck 0 = .ok (.iload_n 1, 1) := by decide +kernel
theorem d_Ar_rangeCheck_1 : decode b_Ar_rangeCheck 1 = .ok (.iload_n 2, 1) := by decide +kernel
theorem d_Ar_rangeCheck_2 : decode b_Ar_rangeCheck 2 = .ok (.if_icmp .le 44, 3) := by decide +kernel
theorem d_Ar_rangeCheck_5 : decode b_Ar_rangeCheck 5 = .ok (.new 43, 3) := by decide +kernel
theorem d_Ar_rangeCheck_8 : decode b_Ar_rangeCheck 8 = .ok (.dup, 1) := by decide +kernel
theorem d_Ar_rangeCheck_9 : decode b_Ar_rangeCheck 9 = .ok (.new 45, 3) := by decide +kernel
theorem d_Ar_rangeCheck_12 : decode b_Ar_rangeCheck 12 = .ok (.dup, 1) := by decide +kernel
theorem d_Ar_rangeCheck_13 : decode b_Ar_rangeCheck 13 = .ok (.invokespecial 47, 3) := by decide +kernel
theorem d_Ar_rangeCheck_16 : decode b_Ar_rangeCheck 16 = .ok (.ldc 48, 2) := by decide +kernel
theorem d_Ar_rangeCheck_18 : decode b_Ar_rangeCheck 18 = .ok (.invokevirtual 50, 3) := by decide +kernel
theorem d_Ar_rangeCheck_21 : decode b_Ar_rangeCheck 21 = .ok (.iload_n 1, 1) := by decide +kernel
theorem d_Ar_rangeCheck_22 : decode b_Ar_rangeCheck 22 = .ok (.invokevirtual 54, 3) := by decide +kernel
theorem d_Ar_rangeCheck_25 : decode b_Ar_rangeCheck 25 = .ok (.ldc 57, 2) := by decide +kernel
theorem d_Ar_rangeCheck_27 : decode b_Ar_rangeCheck 27 = .ok (.invokevirtual 50, 3) := by decide +kernel
theorem d_Ar_rangeCheck_30 : decode b_Ar_rangeCheck 30 = .ok (.iload_n 2, 1) := by decide +kernel
theorem d_Ar_rangeCheck_31 : decode b_Ar_rangeCheck 31 = .ok (.invokevirtual 54, 3) := by decide +kernel
theorem d_Ar_rangeCheck_34 : decode b_Ar_rangeCheck 34 = .ok (.ldc 59, 2) := by decide +kernel
theorem d_Ar_rangeCheck_36 : decode b_Ar_rangeCheck 36 = .ok (.invokevirtual 50, 3) := by decide +kernel
theorem d_Ar_rangeCheck_39 : decode b_Ar_rangeCheck 39 = .ok (.invokevirtual 61, 3) := by decide +kernel
theorem d_Ar_rangeCheck_42 : decode b_Ar_rangeCheck 42 = .ok (.invokespecial 65, 3) := by decide +kernel
theorem d_Ar_rangeCheck_45 : decode b_Ar_rangeCheck 45 = .ok (.athrow, 1) := by decide +kernel
theorem d_Ar_rangeCheck_46 : decode b_Ar_rangeCheck 46 = .ok (.iload_n 1, 1) := by decide +kernel
theorem d_Ar_rangeCheck_47 : decode b_Ar_rangeCheck 47 = .ok (.ifCond .ge 12, 3) := by decide +kernel
theorem d_Ar_rangeCheck_50 : decode b_Ar_rangeCheck 50 = .ok (.new 68, 3) := by decide +kernel
theorem d_Ar_rangeCheck_53 : decode b_Ar_rangeCheck 53 = .ok (.dup, 1) := by decide +kernel
theorem d_Ar_rangeCheck_54 : decode b_Ar_rangeCheck 54 = .ok (.iload_n 1, 1) := by decide +kernel
theorem d_Ar_rangeCheck_55 : decode b_Ar_rangeCheck 55 = .ok (.invokespecial 70, 3) := by decide +kernel
theorem d_Ar_rangeCheck_58 : decode b_Ar_rangeCheck 58 = .ok (.athrow, 1) := by decide +kernel
theorem d_Ar_rangeCheck_59 : decode b_Ar_rangeCheck 59 = .ok (.iload_n 2, 1) := by decide +kernel
theorem d_Ar_rangeCheck_60 : decode b_Ar_rangeCheck 60 = .ok (.iload_n 0, 1) := by decide +kernel
theorem d_Ar_rangeCheck_61 : decode b_Ar_rangeCheck 61 = .ok (.if_icmp .le 12, 3) := by decide +kernel
theorem d_Ar_rangeCheck_64 : decode b_Ar_rangeCheck 64 = .ok (.new 68, 3) := by decide +kernel
theorem d_Ar_rangeCheck_67 : decode b_Ar_rangeCheck 67 = .ok (.dup, 1) := by decide +kernel
theorem d_Ar_rangeCheck_68 : decode b_Ar_rangeCheck 68 = .ok (.iload_n 2, 1) := by decide +kernel
theorem d_Ar_rangeCheck_69 : decode b_Ar_rangeCheck 69 = .ok (.invokespecial 70, 3) := by decide +kernel
theorem d_Ar_rangeCheck_72 : decode b_Ar_rangeCheck 72 = .ok (.athrow, 1) := by decide +kernel
theorem d_Ar_rangeCheck_73 : decode b_Ar_rangeCheck 73 = .ok (.return_, 1) := by decide +kernel
theorem d_Pm_data_0 : decode b_Pm_data 0 = .ok (.iload_n 3, 1) := by decide +kernel
theorem d_Pm_data_1 : decode b_Pm_data 1 = .ok (.ifCond .lt 22, 3) := by decide +kernel
theorem d_Pm_data_4 : decode b_Pm_data 4 = .ok (.iload_n 3, 1) := by decide +kernel
theorem d_Pm_data_5 : decode b_Pm_data 5 = .ok (.bipush 8, 2) := by decide +kernel
theorem d_Pm_data_7 : decode b_Pm_data 7 = .ok (.if_icmp .gt 16, 3) := by decide +kernel
theorem d_Pm_data_10 : decode b_Pm_data 10 = .ok (.aload_n 0, 1) := by decide +kernel
theorem d_Pm_data_11 : decode b_Pm_data 11 = .ok (.getfield 38, 3) := by decide +kernel
theorem d_Pm_data_14 : decode b_Pm_data 14 = .ok (.iload_n 3, 1) := by decide +kernel
theorem d_Pm_data_15 : decode b_Pm_data 15 = .ok (.iload 4, 2) := by decide +kernel
theorem d_Pm_data_17 : decode b_Pm_data 17 = .ok (.invokevirtual 136, 3) := by decide +kernel
theorem d_Pm_data_20 : decode b_Pm_data 20 = .ok (.ifCond .ne 5, 3) := by decide +kernel
theorem d_Pm_data_23 : decode b_Pm_data 23 = .ok (.iconst (-1), 1) := by decide +kernel
theorem d_Pm_data_24 : decode b_Pm_data 24 = .ok (.ireturn, 1) := by decide +kernel
theorem d_Pm_data_25 : decode b_Pm_data 25 = .ok (.lload_n 1, 1) := by decide +kernel
theorem d_Pm_data_26 : decode b_Pm_data 26 = .ok (.iload_n 3, 1) := by decide +kernel
theorem d_Pm_data_27 : decode b_Pm_data 27 = .ok (.aload_n 0, 1) := by decide +kernel
theorem d_Pm_data_28 : decode b_Pm_data 28 = .ok (.getfield 41, 3) := by decide +kernel
theorem d_Pm_data_31 : decode b_Pm_data 31 = .ok (.aload_n 0, 1) := by decide +kernel
theorem d_Pm_data_32 : decode b_Pm_data 32 = .ok (.getfield 38, 3) := by decide +kernel
theorem d_Pm_data_35 : decode b_Pm_data 35 = .ok (.invokevirtual 81, 3) := by decide +kernel
theorem d_Pm_data_38 : decode b_Pm_data 38 = .ok (.invokestatic 128, 3) := by decide +kernel
theorem d_Pm_data_41 : decode b_Pm_data 41 = .ok (.aload_n 0, 1) := by decide +kernel
theorem d_Pm_data_42 : decode b_Pm_data 42 = .ok (.getfield 38, 3) := by decide +kernel
theorem d_Pm_data_45 : decode b_Pm_data 45 = .ok (.iload_n 3, 1) := by decide +kernel
theorem d_Pm_data_46 : decode b_Pm_data 46 = .ok (.iload 4, 2) := by decide +kernel
theorem d_Pm_data_48 : decode b_Pm_data 48 = .ok (.invokevirtual 140, 3) := by decide +kernel
theorem d_Pm_data_51 : decode b_Pm_data 51 = .ok (.ireturn, 1) := by decide +kernel
theorem d_Pm_putLowestBytes_0 : decode b_Pm_putLowestBytes 0 = .ok (.iconst 0, 1) := by decide +kernel
theorem d_Pm_putLowestBytes_1 : decode b_Pm_putLowestBytes 1 = .ok (.istore 5, 2) := by decide +kernel
theorem d_Pm_putLowestBytes_3 : decode b_Pm_putLowestBytes 3 = .ok (.iload 5, 2) := by decide +kernel
theorem d_Pm_putLowestBytes_5 : decode b_Pm_putLowestBytes 5 = .ok (.iload_n 2, 1) := by decide +kernel
theorem d_Pm_putLowestBytes_6 : decode b_Pm_putLowestBytes 6 = .ok (.if_icmp .ge 25, 3) := by decide +kernel
theorem d_Pm_putLowestBytes_9 : decode b_Pm_putLowestBytes 9 = .ok (.aload_n 3, 1) := by decide +kernel
theorem d_Pm_putLowestBytes_10 : decode b_Pm_putLowestBytes 10 = .ok (.iload 4, 2) := by decide +kernel
theorem d_Pm_putLowestBytes_12 : decode b_Pm_putLowestBytes 12 = .ok (.iload 5, 2) := by decide +kernel
theorem d_Pm_putLowestBytes_14 : decode b_Pm_putLowestBytes 14 = .ok (.iadd, 1) := by decide +kernel
theorem d_Pm_putLowestBytes_15 : decode b_Pm_putLowestBytes 15 = .ok (.lload_n 0, 1) := by decide +kernel
theorem d_Pm_putLowestBytes_16 : decode b_Pm_putLowestBytes 16 = .ok (.bipush 8, 2) := by decide +kernel
theorem d_Pm_putLowestBytes_18 : decode b_Pm_putLowestBytes 18 = .ok (.iload 5, 2) := by decide +kernel
theorem d_Pm_putLowestBytes_20 : decode b_Pm_putLowestBytes 20 = .ok (.imul, 1) := by decide +kernel
theorem d_Pm_putLowestBytes_21 : decode b_Pm_putLowestBytes 21 = .ok (.lushr, 1) := by decide +kernel
theorem d_Pm_putLowestBytes_22 : decode b_Pm_putLowestBytes 22 = .ok (.l2i, 1) := by decide +kernel
theorem d_Pm_putLowestBytes_23 : decode b_Pm_putLowestBytes 23 = .ok (.i2b, 1) := by decide +kernel
theorem d_Pm_putLowestBytes_24 : decode b_Pm_putLowestBytes 24 = .ok (.bastore, 1) := by decide +kernel
theorem d_Pm_putLowestBytes_25 : decode b_Pm_putLowestBytes 25 = .ok (.iinc 5 1, 3) := by decide +kernel
theorem d_Pm_putLowestBytes_28 : decode b_Pm_putLowestBytes 28 = .ok (.goto (-25), 3) := by decide +kernel
theorem d_Pm_putLowestBytes_31 : decode b_Pm_putLowestBytes 31 = .ok (.return_, 1) := by decide +kernel
theorem d_Pm_table_0 : decode b_Pm_table 0 = .ok (.aload_n 0, 1) := by decide +kernel
theorem d_Pm_table_1 : decode b_Pm_table 1 = .ok (.getfield 26, 3) := by decide +kernel
theorem d_Pm_table_4 : decode b_Pm_table 4 = .ok (.invokevirtual 54, 3) := by decide +kernel
theorem d_Pm_table_7 : decode b_Pm_table 7 = .ok (.ifCond .ne 15, 3) := by decide +kernel
theorem d_Pm_table_10 : decode b_Pm_table 10 = .ok (.iload_n 1, 1) := by decide +kernel
theorem d_Pm_table_11 : decode b_Pm_table 11 = .ok (.bipush 112, 2) := by decide +kernel
theorem d_Pm_table_13 : decode b_Pm_table 13 = .ok (.if_icmp .eq 11, 3) := by decide +kernel
theorem d_Pm_table_16 : decode b_Pm_table 16 = .ok (.iload_n 1, 1) := by decide +kernel
theorem d_Pm_table_17 : decode b_Pm_table 17 = .ok (.bipush 111, 2) := by decide +kernel
theorem d_Pm_table_19 : decode b_Pm_table 19 = .ok (.if_icmp .eq 5, 3) := by decide +kernel
theorem d_Pm_table_22 : decode b_Pm_table 22 = .ok (.iconst (-1), 1) := by decide +kernel
theorem d_Pm_table_23 : decode b_Pm_table 23 = .ok (.ireturn, 1) := by decide +kernel
theorem d_Pm_table_24 : decode b_Pm_table 24 = .ok (.iload_n 2, 1) := by decide +kernel
theorem d_Pm_table_25 : decode b_Pm_table 25 = .ok (.ifCond .lt 24, 3) := by decide +kernel
theorem d_Pm_table_28 : decode b_Pm_table 28 = .ok (.iload_n 2, 1) := by decide +kernel
theorem d_Pm_table_29 : decode b_Pm_table 29 = .ok (.i2l, 1) := by decide +kernel
theorem d_Pm_table_30 : decode b_Pm_table 30 = .ok (.iload_n 3, 1) := by decide +kernel
theorem d_Pm_table_31 : decode b_Pm_table 31 = .ok (.invokestatic 74, 3) := by decide +kernel
theorem d_Pm_table_34 : decode b_Pm_table 34 = .ok (.lcmp, 1) := by decide +kernel
theorem d_Pm_table_35 : decode b_Pm_table 35 = .ok (.ifCond .gt 14, 3) := by decide +kernel
theorem d_Pm_table_38 : decode b_Pm_table 38 = .ok (.iload_n 2, 1) := by decide +kernel
theorem d_Pm_table_39 : decode b_Pm_table 39 = .ok (.aload_n 0, 1) := by decide +kernel
theorem d_Pm_table_40 : decode b_Pm_table 40 = .ok (.getfield 26, 3) := by decide +kernel
theorem d_Pm_table_43 : decode b_Pm_table 43 = .ok (.invokevirtual 150, 3) := by decide +kernel
theorem d_Pm_table_46 : decode b_Pm_table 46 = .ok (.if_icmp .le 5, 3) := by decide +kernel
theorem d_Pm_table_49 : decode b_Pm_table 49 = .ok (.iconst (-1), 1) := by decide +kernel
theorem d_Pm_table_50 : decode b_Pm_table 50 = .ok (.ireturn, 1) := by decide +kernel
theorem d_Pm_table_51 : decode b_Pm_table 51 = .ok (.aload_n 0, 1) := by decide +kernel
theorem d_Pm_table_52 : decode b_Pm_table 52 = .ok (.getfield 26, 3) := by decide +kernel
theorem d_Pm_table_55 : decode b_Pm_table 55 = .ok (.invokevirtual 81, 3) := by decide +kernel
theorem d_Pm_table_58 : decode b_Pm_table 58 = .ok (.istore 4, 2) := by decide +kernel
theorem d_Pm_table_60 : decode b_Pm_table 60 = .ok (.aload_n 0, 1) := by decide +kernel
theorem d_Pm_table_61 : decode b_Pm_table 61 = .ok (.getfield 35, 3) := by decide +kernel
theorem d_Pm_table_64 : decode b_Pm_table 64 = .ok (.iload 4, 2) := by decide +kernel
theorem d_Pm_table_66 : decode b_Pm_table 66 = .ok (.iload 4, 2) := by decide +kernel
theorem d_Pm_table_68 : decode b_Pm_table 68 = .ok (.iload_n 2, 1) := by decide +kernel
theorem d_Pm_table_69 : decode b_Pm_table 69 = .ok (.iadd, 1) := by decide +kernel
theorem d_Pm_table_70 : decode b_Pm_table 70 = .ok (.iconst (-1), 1) := by decide +kernel
theorem d_Pm_table_71 : decode b_Pm_table 71 = .ok (.invokestatic 153, 3) := by decide +kernel
theorem d_Pm_table_74 : decode b_Pm_table 74 = .ok (.aload_n 0, 1) := by decide +kernel
theorem d_Pm_table_75 : decode b_Pm_table 75 = .ok (.getfield 26, 3) := by decide +kernel
theorem d_Pm_table_78 : decode b_Pm_table 78 = .ok (.iload_n 2, 1) := by decide +kernel
theorem d_Pm_table_79 : decode b_Pm_table 79 = .ok (.invokevirtual 63, 3) := by decide +kernel
theorem d_Pm_table_82 : decode b_Pm_table 82 = .ok (.istore 5, 2) := by decide +kernel
theorem d_Pm_table_84 : decode b_Pm_table 84 = .ok (.aload_n 0, 1) := by decide +kernel
theorem d_Pm_table_85 : decode b_Pm_table 85 = .ok (.getfield 32, 3) := by decide +kernel
theorem d_Pm_table_88 : decode b_Pm_table 88 = .ok (.iload 5, 2) := by decide +kernel
theorem d_Pm_table_90 : decode b_Pm_table 90 = .ok (.iload_n 1, 1) := by decide +kernel
theorem d_Pm_table_91 : decode b_Pm_table 91 = .ok (.iastore, 1) := by decide +kernel
theorem d_Pm_table_92 : decode b_Pm_table 92 = .ok (.aload_n 0, 1) := by decide +kernel
theorem d_Pm_table_93 : decode b_Pm_table 93 = .ok (.getfield 29, 3) := by decide +kernel
theorem d_Pm_table_96 : decode b_Pm_table 96 = .ok (.iload 5, 2) := by decide +kernel
theorem d_Pm_table_98 : decode b_Pm_table 98 = .ok (.iload_n 3, 1) := by decide +kernel
theorem d_Pm_table_99 : decode b_Pm_table 99 = .ok (.iastore, 1) := by decide +kernel
theorem d_Pm_table_100 : decode b_Pm_table 100 = .ok (.iload 5, 2) := by decide +kernel
theorem d_Pm_table_102 : decode b_Pm_table 102 = .ok (.ireturn, 1) := by decide +kernel
theorem d_Ar_fillI_0 : decode b_Ar_fillI 0 = .ok (.aload_n 0, 1) := by decide +kernel
theorem d_Ar_fillI_1 : decode b_Ar_fillI 1 = .ok (.arraylength, 1) := by decide +kernel
theorem d_Ar_fillI_2 : decode b_Ar_fillI 2 = .ok (.iload_n 1, 1) := by decide +kernel
theorem d_Ar_fillI_3 : decode b_Ar_fillI 3 = .ok (.iload_n 2, 1) := by decide +kernel
theorem d_Ar_fillI_4 : decode b_Ar_fillI 4 = .ok (.invokestatic 13, 3) := by decide +kernel
theorem d_Ar_fillI_7 : decode b_Ar_fillI 7 = .ok (.iload_n 1, 1) := by decide +kernel
theorem d_Ar_fillI_8 : decode b_Ar_fillI 8 = .ok (.istore 4, 2) := by decide +kernel
theorem d_Ar_fillI_10 : decode b_Ar_fillI 10 = .ok (.iload 4, 2) := by decide +kernel
theorem d_Ar_fillI_12 : decode b_Ar_fillI 12 = .ok (.iload_n 2, 1) := by decide +kernel
theorem d_Ar_fillI_13 : decode b_Ar_fillI 13 = .ok (.if_icmp .ge 14, 3) := by decide +kernel
theorem d_Ar_fillI_16 : decode b_Ar_fillI 16 = .ok (.aload_n 0, 1) := by decide +kernel
theorem d_Ar_fillI_17 : decode b_Ar_fillI 17 = .ok (.iload 4, 2) := by decide +kernel
theorem d_Ar_fillI_19 : decode b_Ar_fillI 19 = .ok (.iload_n 3, 1) := by decide +kernel
theorem d_Ar_fillI_20 : decode b_Ar_fillI 20 = .ok (.iastore, 1) := by decide +kernel
theorem d_Ar_fillI_21 : decode b_Ar_fillI 21 = .ok (.iinc 4 1, 3) := by decide +kernel
theorem d_Ar_fillI_24 : decode b_Ar_fillI 24 = .ok (.goto (-14), 3) := by decide +kernel
theorem d_Ar_fillI_27 : decode b_Ar_fillI 27 = .ok (.return_, 1) := by decide +kernel
theorem d_Pm_growTable_0 : decode b_Pm_growTable 0 = .ok (.aload_n 0, 1) := by decide +kernel
theorem d_Pm_growTable_1 : decode b_Pm_growTable 1 = .ok (.getfield 26, 3) := by decide +kernel
theorem d_Pm_growTable_4 : decode b_Pm_growTable 4 = .ok (.iload_n 1, 1) := by decide +kernel
theorem d_Pm_growTable_5 : decode b_Pm_growTable 5 = .ok (.invokevirtual 67, 3) := by decide +kernel
theorem d_Pm_growTable_8 : decode b_Pm_growTable 8 = .ok (.ifCond .eq 10, 3) := by decide +kernel
theorem d_Pm_growTable_11 : decode b_Pm_growTable 11 = .ok (.iload_n 3, 1) := by decide +kernel
theorem d_Pm_growTable_12 : decode b_Pm_growTable 12 = .ok (.invokestatic 158, 3) := by decide +kernel
theorem d_Pm_growTable_15 : decode b_Pm_growTable 15 = .ok (.ifCond .ne 5, 3) := by decide +kernel
theorem d_Pm_growTable_18 : decode b_Pm_growTable 18 = .ok (.iconst (-1), 1) := by decide +kernel
theorem d_Pm_growTable_19 : decode b_Pm_growTable 19 = .ok (.ireturn, 1) := by decide +kernel
theorem d_Pm_growTable_20 : decode b_Pm_growTable 20 = .ok (.aload_n 0, 1) := by decide +kernel
theorem d_Pm_growTable_21 : decode b_Pm_growTable 21 = .ok (.getfield 26, 3) := by decide +kernel
theorem d_Pm_growTable_24 : decode b_Pm_growTable 24 = .ok (.iload_n 1, 1) := by decide +kernel
theorem d_Pm_growTable_25 : decode b_Pm_growTable 25 = .ok (.invokevirtual 163, 3) := by decide +kernel
theorem d_Pm_growTable_28 : decode b_Pm_growTable 28 = .ok (.istore 4, 2) := by decide +kernel
theorem d_Pm_growTable_30 : decode b_Pm_growTable 30 = .ok (.iload_n 2, 1) := by decide +kernel
theorem d_Pm_growTable_31 : decode b_Pm_growTable 31 = .ok (.invokestatic 74, 3) := by decide +kernel
theorem d_Pm_growTable_34 : decode b_Pm_growTable 34 = .ok (.lstore 5, 2) := by decide +kernel
theorem d_Pm_growTable_36 : decode b_Pm_growTable 36 = .ok (.iload 4, 2) := by decide +kernel
theorem d_Pm_growTable_38 : decode b_Pm_growTable 38 = .ok (.i2l, 1) := by decide +kernel
theorem d_Pm_growTable_39 : decode b_Pm_growTable 39 = .ok (.lload 5, 2) := by decide +kernel
theorem d_Pm_growTable_41 : decode b_Pm_growTable 41 = .ok (.ladd, 1) := by decide +kernel
theorem d_Pm_growTable_42 : decode b_Pm_growTable 42 = .ok (.aload_n 0, 1) := by decide +kernel
theorem d_Pm_growTable_43 : decode b_Pm_growTable 43 = .ok (.getfield 29, 3) := by decide +kernel
theorem d_Pm_growTable_46 : decode b_Pm_growTable 46 = .ok (.iload_n 1, 1) := by decide +kernel
theorem d_Pm_growTable_47 : decode b_Pm_growTable 47 = .ok (.iaload, 1) := by decide +kernel
theorem d_Pm_growTable_48 : decode b_Pm_growTable 48 = .ok (.invokestatic 74, 3) := by decide +kernel
theorem d_Pm_growTable_51 : decode b_Pm_growTable 51 = .ok (.lcmp, 1) := by decide +kernel
theorem d_Pm_growTable_52 : decode b_Pm_growTable 52 = .ok (.ifCond .gt 17, 3) := by decide +kernel
theorem d_Pm_growTable_55 : decode b_Pm_growTable 55 = .ok (.lload 5, 2) := by decide +kernel
theorem d_Pm_growTable_57 : decode b_Pm_growTable 57 = .ok (.aload_n 0, 1) := by decide +kernel
theorem d_Pm_growTable_58 : decode b_Pm_growTable 58 = .ok (.getfield 26, 3) := by decide +kernel
theorem d_Pm_growTable_61 : decode b_Pm_growTable 61 = .ok (.invokevirtual 150, 3) := by decide +kernel
theorem d_Pm_growTable_64 : decode b_Pm_growTable 64 = .ok (.i2l, 1) := by decide +kernel
theorem d_Pm_growTable_65 : decode b_Pm_growTable 65 = .ok (.lcmp, 1) := by decide +kernel
theorem d_Pm_growTable_66 : decode b_Pm_growTable 66 = .ok (.ifCond .le 5, 3) := by decide +kernel
theorem d_Pm_growTable_69 : decode b_Pm_growTable 69 = .ok (.iconst (-1), 1) := by decide +kernel
theorem d_Pm_growTable_70 : decode b_Pm_growTable 70 = .ok (.ireturn, 1) := by decide +kernel
theorem d_Pm_growTable_71 : decode b_Pm_growTable 71 = .ok (.aload_n 0, 1) := by decide +kernel
theorem d_Pm_growTable_72 : decode b_Pm_growTable 72 = .ok (.getfield 26, 3) := by decide +kernel
theorem d_Pm_growTable_75 : decode b_Pm_growTable 75 = .ok (.iload_n 1, 1) := by decide +kernel
theorem d_Pm_growTable_76 : decode b_Pm_growTable 76 = .ok (.invokevirtual 78, 3) := by decide +kernel
theorem d_Pm_growTable_79 : decode b_Pm_growTable 79 = .ok (.istore 7, 2) := by decide +kernel
theorem d_Pm_growTable_81 : decode b_Pm_growTable 81 = .ok (.aload_n 0, 1) := by decide +kernel
theorem d_Pm_growTable_82 : decode b_Pm_growTable 82 = .ok (.getfield 35, 3) := by decide +kernel
theorem d_Pm_growTable_85 : decode b_Pm_growTable 85 = .ok (.iload 7, 2) := by decide +kernel
theorem d_Pm_growTable_87 : decode b_Pm_growTable 87 = .ok (.aload_n 0, 1) := by decide +kernel
theorem d_Pm_growTable_88 : decode b_Pm_growTable 88 = .ok (.getfield 35, 3) := by decide +kernel
theorem d_Pm_growTable_91 : decode b_Pm_growTable 91 = .ok (.iload 7, 2) := by decide +kernel
theorem d_Pm_growTable_93 : decode b_Pm_growTable 93 = .ok (.iload_n 2, 1) := by decide +kernel
theorem d_Pm_growTable_94 : decode b_Pm_growTable 94 = .ok (.iadd, 1) := by decide +kernel
theorem d_Pm_growTable_95 : decode b_Pm_growTable 95 = .ok (.aload_n 0, 1) := by decide +kernel
theorem d_Pm_growTable_96 : decode b_Pm_growTable 96 = .ok (.getfield 26, 3) := by decide +kernel
theorem d_Pm_growTable_99 : decode b_Pm_growTable 99 = .ok (.invokevirtual 81, 3) := by decide +kernel
theorem d_Pm_growTable_102 : decode b_Pm_growTable 102 = .ok (.iload 7, 2) := by decide +kernel
theorem d_Pm_growTable_104 : decode b_Pm_growTable 104 = .ok (.isub, 1) := by decide +kernel
theorem d_Pm_growTable_105 : decode b_Pm_growTable 105 = .ok (.invokestatic 84, 3) := by decide +kernel
theorem d_Pm_growTable_108 : decode b_Pm_growTable 108 = .ok (.aload_n 0, 1) := by decide +kernel
theorem d_Pm_growTable_109 : decode b_Pm_growTable 109 = .ok (.getfield 35, 3) := by decide +kernel
theorem d_Pm_growTable_112 : decode b_Pm_growTable 112 = .ok (.iload 7, 2) := by decide +kernel
theorem d_Pm_growTable_114 : decode b_Pm_growTable 114 = .ok (.iload 7, 2) := by decide +kernel
theorem d_Pm_growTable_116 : decode b_Pm_growTable 116 = .ok (.iload_n 2, 1) := by decide +kernel
theorem d_Pm_growTable_117 : decode b_Pm_growTable 117 = .ok (.iadd, 1) := by decide +kernel
theorem d_Pm_growTable_118 : decode b_Pm_growTable 118 = .ok (.iload_n 3, 1) := by decide +kernel
theorem d_Pm_growTable_119 : decode b_Pm_growTable 119 = .ok (.invokestatic 153, 3) := by decide +kernel
theorem d_Pm_growTable_122 : decode b_Pm_growTable 122 = .ok (.aload_n 0, 1) := by decide +kernel
theorem d_Pm_growTable_123 : decode b_Pm_growTable 123 = .ok (.getfield 26, 3) := by decide +kernel
theorem d_Pm_growTable_126 : decode b_Pm_growTable 126 = .ok (.iload_n 1, 1) := by decide +kernel
theorem d_Pm_growTable_127 : decode b_Pm_growTable 127 = .ok (.iload_n 2, 1) := by decide +kernel
theorem d_Pm_growTable_128 : decode b_Pm_growTable 128 = .ok (.invokevirtual 96, 3) := by decide +kernel
theorem d_Pm_growTable_131 : decode b_Pm_growTable 131 = .ok (.iload 4, 2) := by decide +kernel
theorem d_Pm_growTable_133 : decode b_Pm_growTable 133 = .ok (.ireturn, 1) := by decide +kernel
theorem d_Pm_isReference_0 : decode b_Pm_isReference 0 = .ok (.iload_n 0, 1) := by decide +kernel
theorem d_Pm_isReference_1 : decode b_Pm_isReference 1 = .ok (.iconst (-1), 1) := by decide +kernel
theorem d_Pm_isReference_2 : decode b_Pm_isReference 2 = .ok (.if_icmp .lt 7, 3) := by decide +kernel
theorem d_Pm_isReference_5 : decode b_Pm_isReference 5 = .ok (.iconst 1, 1) := by decide +kernel
theorem d_Pm_isReference_6 : decode b_Pm_isReference 6 = .ok (.goto 4, 3) := by decide +kernel
theorem d_Pm_isReference_9 : decode b_Pm_isReference 9 = .ok (.iconst 0, 1) := by decide +kernel
theorem d_Pm_isReference_10 : decode b_Pm_isReference 10 = .ok (.ireturn, 1) := by decide +kernel
theorem d_Pm_element_0 : decode b_Pm_element 0 = .ok (.iload_n 1, 1) := by decide +kernel
theorem d_Pm_element_1 : decode b_Pm_element 1 = .ok (.invokestatic 158, 3) := by decide +kernel
theorem d_Pm_element_4 : decode b_Pm_element 4 = .ok (.ifCond .eq 15, 3) := by decide +kernel
theorem d_Pm_element_7 : decode b_Pm_element 7 = .ok (.aload_n 0, 1) := by decide +kernel
theorem d_Pm_element_8 : decode b_Pm_element 8 = .ok (.getfield 44, 3) := by decide +kernel
theorem d_Pm_element_11 : decode b_Pm_element 11 = .ok (.iconst 1, 1) := by decide +kernel
theorem d_Pm_element_12 : decode b_Pm_element 12 = .ok (.iload_n 2, 1) := by decide +kernel
theorem d_Pm_element_13 : decode b_Pm_element 13 = .ok (.invokevirtual 136, 3) := by decide +kernel
theorem d_Pm_element_16 : decode b_Pm_element 16 = .ok (.ifCond .ne 5, 3) := by decide +kernel
theorem d_Pm_element_19 : decode b_Pm_element 19 = .ok (.iconst (-1), 1) := by decide +kernel
theorem d_Pm_element_20 : decode b_Pm_element 20 = .ok (.ireturn, 1) := by decide +kernel
theorem d_Pm_element_21 : decode b_Pm_element 21 = .ok (.aload_n 0, 1) := by decide +kernel
theorem d_Pm_element_22 : decode b_Pm_element 22 = .ok (.getfield 47, 3) := by decide +kernel
theorem d_Pm_element_25 : decode b_Pm_element 25 = .ok (.aload_n 0, 1) := by decide +kernel
theorem d_Pm_element_26 : decode b_Pm_element 26 = .ok (.getfield 44, 3) := by decide +kernel
theorem d_Pm_element_29 : decode b_Pm_element 29 = .ok (.invokevirtual 81, 3) := by decide +kernel
theorem d_Pm_element_32 : decode b_Pm_element 32 = .ok (.iload_n 1, 1) := by decide +kernel
theorem d_Pm_element_33 : decode b_Pm_element 33 = .ok (.iastore, 1) := by decide +kernel
theorem d_Pm_element_34 : decode b_Pm_element 34 = .ok (.aload_n 0, 1) := by decide +kernel
theorem d_Pm_element_35 : decode b_Pm_element 35 = .ok (.getfield 44, 3) := by decide +kernel
theorem d_Pm_element_38 : decode b_Pm_element 38 = .ok (.iconst 1, 1) := by decide +kernel
theorem d_Pm_element_39 : decode b_Pm_element 39 = .ok (.iload_n 2, 1) := by decide +kernel
theorem d_Pm_element_40 : decode b_Pm_element 40 = .ok (.invokevirtual 140, 3) := by decide +kernel
theorem d_Pm_element_43 : decode b_Pm_element 43 = .ok (.ireturn, 1) := by decide +kernel
theorem d_Pm_trap_0 : decode b_Pm_trap 0 = .ok (.aload_n 0, 1) := by decide +kernel
theorem d_Pm_trap_1 : decode b_Pm_trap 1 = .ok (.getfield 50, 3) := by decide +kernel
theorem d_Pm_trap_4 : decode b_Pm_trap 4 = .ok (.ireturn, 1) := by decide +kernel
theorem d_Pm_size_0 : decode b_Pm_size 0 = .ok (.iload_n 1, 1) := by decide +kernel
theorem d_Pm_size_1 : decode b_Pm_size 1 = .ok (.tableswitch 271 0 12 #[67, 88, 110, 134, 156, 178, 202, 226, 231, 239, 247, 255, 263], 67) := by decide +kernel
theorem d_Pm_size_68 : decode b_Pm_size 68 = .ok (.aload_n 0, 1) := by decide +kernel
theorem d_Pm_size_69 : decode b_Pm_size 69 = .ok (.getfield 14, 3) := by decide +kernel
theorem d_Pm_size_72 : decode b_Pm_size 72 = .ok (.iload_n 2, 1) := by decide +kernel
theorem d_Pm_size_73 : decode b_Pm_size 73 = .ok (.invokevirtual 67, 3) := by decide +kernel
theorem d_Pm_size_76 : decode b_Pm_size 76 = .ok (.ifCond .eq 11, 3) := by decide +kernel
theorem d_Pm_size_79 : decode b_Pm_size 79 = .ok (.aload_n 0, 1) := by decide +kernel
theorem d_Pm_size_80 : decode b_Pm_size 80 = .ok (.iload_n 2, 1) := by decide +kernel
theorem d_Pm_size_81 : decode b_Pm_size 81 = .ok (.invokevirtual 71, 3) := by decide +kernel
theorem d_Pm_size_84 : decode b_Pm_size 84 = .ok (.goto 4, 3) := by decide +kernel
theorem d_Pm_size_87 : decode b_Pm_size 87 = .ok (.iconst (-1), 1) := by decide +kernel
theorem d_Pm_size_88 : decode b_Pm_size 88 = .ok (.ireturn, 1) := by decide +kernel
theorem d_Pm_size_89 : decode b_Pm_size 89 = .ok (.aload_n 0, 1) := by decide +kernel
theorem d_Pm_size_90 : decode b_Pm_size 90 = .ok (.getfield 14, 3) := by decide +kernel
theorem d_Pm_size_93 : decode b_Pm_size 93 = .ok (.iload_n 2, 1) := by decide +kernel
theorem d_Pm_size_94 : decode b_Pm_size 94 = .ok (.invokevirtual 67, 3) := by decide +kernel
theorem d_Pm_size_97 : decode b_Pm_size 97 = .ok (.ifCond .eq 12, 3) := by decide +kernel
theorem d_Pm_size_100 : decode b_Pm_size 100 = .ok (.aload_n 0, 1) := by decide +kernel
theorem d_Pm_size_101 : decode b_Pm_size 101 = .ok (.getfield 18, 3) := by decide +kernel
theorem d_Pm_size_104 : decode b_Pm_size 104 = .ok (.iload_n 2, 1) := by decide +kernel
theorem d_Pm_size_105 : decode b_Pm_size 105 = .ok (.iaload, 1) := by decide +kernel
theorem d_Pm_size_106 : decode b_Pm_size 106 = .ok (.goto 4, 3) := by decide +kernel
theorem d_Pm_size_109 : decode b_Pm_size 109 = .ok (.iconst (-1), 1) := by decide +kernel
theorem d_Pm_size_110 : decode b_Pm_size 110 = .ok (.ireturn, 1) := by decide +kernel
theorem d_Pm_size_111 : decode b_Pm_size 111 = .ok (.aload_n 0, 1) := by decide +kernel
theorem d_Pm_size_112 : decode b_Pm_size 112 = .ok (.getfield 26, 3) := by decide +kernel
theorem d_Pm_size_115 : decode b_Pm_size 115 = .ok (.iload_n 2, 1) := by decide +kernel
theorem d_Pm_size_116 : decode b_Pm_size 116 = .ok (.invokevirtual 67, 3) := by decide +kernel
theorem d_Pm_size_119 : decode b_Pm_size 119 = .ok (.ifCond .eq 14, 3) := by decide +kernel
theorem d_Pm_size_122 : decode b_Pm_size 122 = .ok (.aload_n 0, 1) := by decide +kernel
theorem d_Pm_size_123 : decode b_Pm_size 123 = .ok (.getfield 26, 3) := by decide +kernel
theorem d_Pm_size_126 : decode b_Pm_size 126 = .ok (.iload_n 2, 1) := by decide +kernel
theorem d_Pm_size_127 : decode b_Pm_size 127 = .ok (.invokevirtual 163, 3) := by decide +kernel
theorem d_Pm_size_130 : decode b_Pm_size 130 = .ok (.goto 4, 3) := by decide +kernel
theorem d_Pm_size_133 : decode b_Pm_size 133 = .ok (.iconst (-1), 1) := by decide +kernel
theorem d_Pm_size_134 : decode b_Pm_size 134 = .ok (.ireturn, 1) := by decide +kernel
theorem d_Pm_size_135 : decode b_Pm_size 135 = .ok (.aload_n 0, 1) := by decide +kernel
theorem d_Pm_size_136 : decode b_Pm_size 136 = .ok (.getfield 26, 3) := by decide +kernel
theorem d_Pm_size_139 : decode b_Pm_size 139 = .ok (.iload_n 2, 1) := by decide +kernel
theorem d_Pm_size_140 : decode b_Pm_size 140 = .ok (.invokevirtual 67, 3) := by decide +kernel
theorem d_Pm_size_143 : decode b_Pm_size 143 = .ok (.ifCond .eq 12, 3) := by decide +kernel
theorem d_Pm_size_146 : decode b_Pm_size 146 = .ok (.aload_n 0, 1) := by decide +kernel
theorem d_Pm_size_147 : decode b_Pm_size 147 = .ok (.getfield 29, 3) := by decide +kernel
theorem d_Pm_size_150 : decode b_Pm_size 150 = .ok (.iload_n 2, 1) := by decide +kernel
theorem d_Pm_size_151 : decode b_Pm_size 151 = .ok (.iaload, 1) := by decide +kernel
theorem d_Pm_size_152 : decode b_Pm_size 152 = .ok (.goto 4, 3) := by decide +kernel
theorem d_Pm_size_155 : decode b_Pm_size 155 = .ok (.iconst (-1), 1) := by decide +kernel
theorem d_Pm_size_156 : decode b_Pm_size 156 = .ok (.ireturn, 1) := by decide +kernel
theorem d_Pm_size_157 : decode b_Pm_size 157 = .ok (.aload_n 0, 1) := by decide +kernel
theorem d_Pm_size_158 : decode b_Pm_size 158 = .ok (.getfield 26, 3) := by decide +kernel
theorem d_Pm_size_161 : decode b_Pm_size 161 = .ok (.iload_n 2, 1) := by decide +kernel
theorem d_Pm_size_162 : decode b_Pm_size 162 = .ok (.invokevirtual 67, 3) := by decide +kernel
theorem d_Pm_size_165 : decode b_Pm_size 165 = .ok (.ifCond .eq 12, 3) := by decide +kernel
theorem d_Pm_size_168 : decode b_Pm_size 168 = .ok (.aload_n 0, 1) := by decide +kernel
theorem d_Pm_size_169 : decode b_Pm_size 169 = .ok (.getfield 32, 3) := by decide +kernel
theorem d_Pm_size_172 : decode b_Pm_size 172 = .ok (.iload_n 2, 1) := by decide +kernel
theorem d_Pm_size_173 : decode b_Pm_size 173 = .ok (.iaload, 1) := by decide +kernel
theorem d_Pm_size_174 : decode b_Pm_size 174 = .ok (.goto 4, 3) := by decide +kernel
theorem d_Pm_size_177 : decode b_Pm_size 177 = .ok (.iconst (-1), 1) := by decide +kernel
theorem d_Pm_size_178 : decode b_Pm_size 178 = .ok (.ireturn, 1) := by decide +kernel
theorem d_Pm_size_179 : decode b_Pm_size 179 = .ok (.aload_n 0, 1) := by decide +kernel
theorem d_Pm_size_180 : decode b_Pm_size 180 = .ok (.getfield 38, 3) := by decide +kernel
theorem d_Pm_size_183 : decode b_Pm_size 183 = .ok (.iload_n 2, 1) := by decide +kernel
theorem d_Pm_size_184 : decode b_Pm_size 184 = .ok (.invokevirtual 67, 3) := by decide +kernel
theorem d_Pm_size_187 : decode b_Pm_size 187 = .ok (.ifCond .eq 14, 3) := by decide +kernel
theorem d_Pm_size_190 : decode b_Pm_size 190 = .ok (.aload_n 0, 1) := by decide +kernel
theorem d_Pm_size_191 : decode b_Pm_size 191 = .ok (.getfield 38, 3) := by decide +kernel
theorem d_Pm_size_194 : decode b_Pm_size 194 = .ok (.iload_n 2, 1) := by decide +kernel
theorem d_Pm_size_195 : decode b_Pm_size 195 = .ok (.invokevirtual 163, 3) := by decide +kernel
theorem d_Pm_size_198 : decode b_Pm_size 198 = .ok (.goto 4, 3) := by decide +kernel
theorem d_Pm_size_201 : decode b_Pm_size 201 = .ok (.iconst (-1), 1) := by decide +kernel
theorem d_Pm_size_202 : decode b_Pm_size 202 = .ok (.ireturn, 1) := by decide +kernel
theorem d_Pm_size_203 : decode b_Pm_size 203 = .ok (.aload_n 0, 1) := by decide +kernel
theorem d_Pm_size_204 : decode b_Pm_size 204 = .ok (.getfield 44, 3) := by decide +kernel
theorem d_Pm_size_207 : decode b_Pm_size 207 = .ok (.iload_n 2, 1) := by decide +kernel
theorem d_Pm_size_208 : decode b_Pm_size 208 = .ok (.invokevirtual 67, 3) := by decide +kernel
theorem d_Pm_size_211 : decode b_Pm_size 211 = .ok (.ifCond .eq 14, 3) := by decide +kernel
theorem d_Pm_size_214 : decode b_Pm_size 214 = .ok (.aload_n 0, 1) := by decide +kernel
theorem d_Pm_size_215 : decode b_Pm_size 215 = .ok (.getfield 44, 3) := by decide +kernel
theorem d_Pm_size_218 : decode b_Pm_size 218 = .ok (.iload_n 2, 1) := by decide +kernel
theorem d_Pm_size_219 : decode b_Pm_size 219 = .ok (.invokevirtual 163, 3) := by decide +kernel
theorem d_Pm_size_222 : decode b_Pm_size 222 = .ok (.goto 4, 3) := by decide +kernel
theorem d_Pm_size_225 : decode b_Pm_size 225 = .ok (.iconst (-1), 1) := by decide +kernel
theorem d_Pm_size_226 : decode b_Pm_size 226 = .ok (.ireturn, 1) := by decide +kernel
theorem d_Pm_size_227 : decode b_Pm_size 227 = .ok (.aload_n 0, 1) := by decide +kernel
theorem d_Pm_size_228 : decode b_Pm_size 228 = .ok (.invokevirtual 59, 3) := by decide +kernel
theorem d_Pm_size_231 : decode b_Pm_size 231 = .ok (.ireturn, 1) := by decide +kernel
theorem d_Pm_size_232 : decode b_Pm_size 232 = .ok (.aload_n 0, 1) := by decide +kernel
theorem d_Pm_size_233 : decode b_Pm_size 233 = .ok (.getfield 26, 3) := by decide +kernel
theorem d_Pm_size_236 : decode b_Pm_size 236 = .ok (.invokevirtual 150, 3) := by decide +kernel
theorem d_Pm_size_239 : decode b_Pm_size 239 = .ok (.ireturn, 1) := by decide +kernel
theorem d_Pm_size_240 : decode b_Pm_size 240 = .ok (.aload_n 0, 1) := by decide +kernel
theorem d_Pm_size_241 : decode b_Pm_size 241 = .ok (.getfield 14, 3) := by decide +kernel
theorem d_Pm_size_244 : decode b_Pm_size 244 = .ok (.invokevirtual 170, 3) := by decide +kernel
theorem d_Pm_size_247 : decode b_Pm_size 247 = .ok (.ireturn, 1) := by decide +kernel
theorem d_Pm_size_248 : decode b_Pm_size 248 = .ok (.aload_n 0, 1) := by decide +kernel
theorem d_Pm_size_249 : decode b_Pm_size 249 = .ok (.getfield 26, 3) := by decide +kernel
theorem d_Pm_size_252 : decode b_Pm_size 252 = .ok (.invokevirtual 170, 3) := by decide +kernel
theorem d_Pm_size_255 : decode b_Pm_size 255 = .ok (.ireturn, 1) := by decide +kernel
theorem d_Pm_size_256 : decode b_Pm_size 256 = .ok (.aload_n 0, 1) := by decide +kernel
theorem d_Pm_size_257 : decode b_Pm_size 257 = .ok (.getfield 38, 3) := by decide +kernel
theorem d_Pm_size_260 : decode b_Pm_size 260 = .ok (.invokevirtual 170, 3) := by decide +kernel
theorem d_Pm_size_263 : decode b_Pm_size 263 = .ok (.ireturn, 1) := by decide +kernel
theorem d_Pm_size_264 : decode b_Pm_size 264 = .ok (.aload_n 0, 1) := by decide +kernel
theorem d_Pm_size_265 : decode b_Pm_size 265 = .ok (.getfield 44, 3) := by decide +kernel
theorem d_Pm_size_268 : decode b_Pm_size 268 = .ok (.invokevirtual 170, 3) := by decide +kernel
theorem d_Pm_size_271 : decode b_Pm_size 271 = .ok (.ireturn, 1) := by decide +kernel
theorem d_Pm_size_272 : decode b_Pm_size 272 = .ok (.iconst (-1), 1) := by decide +kernel
theorem d_Pm_size_273 : decode b_Pm_size 273 = .ok (.ireturn, 1) := by decide +kernel
theorem d_Pm_load_0 : decode b_Pm_load 0 = .ok (.aload_n 0, 1) := by decide +kernel
theorem d_Pm_load_1 : decode b_Pm_load 1 = .ok (.iconst 0, 1) := by decide +kernel
theorem d_Pm_load_2 : decode b_Pm_load 2 = .ok (.putfield 50, 3) := by decide +kernel
theorem d_Pm_load_5 : decode b_Pm_load 5 = .ok (.iload_n 2, 1) := by decide +kernel
theorem d_Pm_load_6 : decode b_Pm_load 6 = .ok (.bipush 40, 2) := by decide +kernel
theorem d_Pm_load_8 : decode b_Pm_load 8 = .ok (.getstatic 99, 3) := by decide +kernel
theorem d_Pm_load_11 : decode b_Pm_load 11 = .ok (.invokestatic 102, 3) := by decide +kernel
theorem d_Pm_load_14 : decode b_Pm_load 14 = .ok (.istore 5, 2) := by decide +kernel
theorem d_Pm_load_16 : decode b_Pm_load 16 = .ok (.aload_n 0, 1) := by decide +kernel
theorem d_Pm_load_17 : decode b_Pm_load 17 = .ok (.getfield 14, 3) := by decide +kernel
theorem d_Pm_load_20 : decode b_Pm_load 20 = .ok (.iload_n 1, 1) := by decide +kernel
theorem d_Pm_load_21 : decode b_Pm_load 21 = .ok (.invokevirtual 67, 3) := by decide +kernel
theorem d_Pm_load_24 : decode b_Pm_load 24 = .ok (.ifCond .eq 8, 3) := by decide +kernel
theorem d_Pm_load_27 : decode b_Pm_load 27 = .ok (.iload 5, 2) := by decide +kernel
theorem d_Pm_load_29 : decode b_Pm_load 29 = .ok (.ifCond .ne 13, 3) := by decide +kernel
theorem d_Pm_load_32 : decode b_Pm_load 32 = .ok (.new 106, 3) := by decide +kernel
theorem d_Pm_load_35 : decode b_Pm_load 35 = .ok (.dup, 1) := by decide +kernel
theorem d_Pm_load_36 : decode b_Pm_load 36 = .ok (.ldc 108, 2) := by decide +kernel
theorem d_Pm_load_38 : decode b_Pm_load 38 = .ok (.invokespecial 110, 3) := by decide +kernel
theorem d_Pm_load_41 : decode b_Pm_load 41 = .ok (.athrow, 1) := by decide +kernel
theorem d_Pm_load_42 : decode b_Pm_load 42 = .ok (.aload_n 0, 1) := by decide +kernel
theorem d_Pm_load_43 : decode b_Pm_load 43 = .ok (.aload_n 0, 1) := by decide +kernel
theorem d_Pm_load_44 : decode b_Pm_load 44 = .ok (.getfield 14, 3) := by decide +kernel
theorem d_Pm_load_47 : decode b_Pm_load 47 = .ok (.iload_n 1, 1) := by decide +kernel
theorem d_Pm_load_48 : decode b_Pm_load 48 = .ok (.iload_n 3, 1) := by decide +kernel
theorem d_Pm_load_49 : decode b_Pm_load 49 = .ok (.invokestatic 74, 3) := by decide +kernel
theorem d_Pm_load_52 : decode b_Pm_load 52 = .ok (.iload 4, 2) := by decide +kernel
theorem d_Pm_load_54 : decode b_Pm_load 54 = .ok (.invokestatic 74, 3) := by decide +kernel
theorem d_Pm_load_57 : decode b_Pm_load 57 = .ok (.ladd, 1) := by decide +kernel
theorem d_Pm_load_58 : decode b_Pm_load 58 = .ok (.iload 5, 2) := by decide +kernel
theorem d_Pm_load_60 : decode b_Pm_load 60 = .ok (.i2l, 1) := by decide +kernel
theorem d_Pm_load_61 : decode b_Pm_load 61 = .ok (.iconst 4, 1) := by decide +kernel
theorem d_Pm_load_62 : decode b_Pm_load 62 = .ok (.invokevirtual 113, 3) := by decide +kernel
theorem d_Pm_load_65 : decode b_Pm_load 65 = .ok (.istore 6, 2) := by decide +kernel
theorem d_Pm_load_67 : decode b_Pm_load 67 = .ok (.lconst 0, 1) := by decide +kernel
theorem d_Pm_load_68 : decode b_Pm_load 68 = .ok (.lstore 7, 2) := by decide +kernel
theorem d_Pm_load_70 : decode b_Pm_load 70 = .ok (.iconst 0, 1) := by decide +kernel
theorem d_Pm_load_71 : decode b_Pm_load 71 = .ok (.istore 9, 2) := by decide +kernel
theorem d_Pm_load_73 : decode b_Pm_load 73 = .ok (.iload 9, 2) := by decide +kernel
theorem d_Pm_load_75 : decode b_Pm_load 75 = .ok (.iload 5, 2) := by decide +kernel
theorem d_Pm_load_77 : decode b_Pm_load 77 = .ok (.if_icmp .ge 35, 3) := by decide +kernel
theorem d_Pm_load_80 : decode b_Pm_load 80 = .ok (.lload 7, 2) := by decide +kernel
theorem d_Pm_load_82 : decode b_Pm_load 82 = .ok (.aload_n 0, 1) := by decide +kernel
theorem d_Pm_load_83 : decode b_Pm_load 83 = .ok (.getfield 22, 3) := by decide +kernel
theorem d_Pm_load_86 : decode b_Pm_load 86 = .ok (.iload 6, 2) := by decide +kernel
theorem d_Pm_load_88 : decode b_Pm_load 88 = .ok (.iload 9, 2) := by decide +kernel
theorem d_Pm_load_90 : decode b_Pm_load 90 = .ok (.iadd, 1) := by decide +kernel
theorem d_Pm_load_91 : decode b_Pm_load 91 = .ok (.baload, 1) := by decide +kernel
theorem d_Pm_load_92 : decode b_Pm_load 92 = .ok (.i2l, 1) := by decide +kernel
theorem d_Pm_load_93 : decode b_Pm_load 93 = .ok (.ldc2_w 117, 3) := by decide +kernel
theorem d_Pm_load_96 : decode b_Pm_load 96 = .ok (.land, 1) := by decide +kernel
theorem d_Pm_load_97 : decode b_Pm_load 97 = .ok (.bipush 8, 2) := by decide +kernel
theorem d_Pm_load_99 : decode b_Pm_load 99 = .ok (.iload 9, 2) := by decide +kernel
theorem d_Pm_load_101 : decode b_Pm_load 101 = .ok (.imul, 1) := by decide +kernel
theorem d_Pm_load_102 : decode b_Pm_load 102 = .ok (.lshl, 1) := by decide +kernel
theorem d_Pm_load_103 : decode b_Pm_load 103 = .ok (.lor, 1) := by decide +kernel
theorem d_Pm_load_104 : decode b_Pm_load 104 = .ok (.lstore 7, 2) := by decide +kernel
theorem d_Pm_load_106 : decode b_Pm_load 106 = .ok (.iinc 9 1, 3) := by decide +kernel
theorem d_Pm_load_109 : decode b_Pm_load 109 = .ok (.goto (-36), 3) := by decide +kernel
theorem d_Pm_load_112 : decode b_Pm_load 112 = .ok (.iload_n 2, 1) := by decide +kernel
theorem d_Pm_load_113 : decode b_Pm_load 113 = .ok (.lload 7, 2) := by decide +kernel
theorem d_Pm_load_115 : decode b_Pm_load 115 = .ok (.invokestatic 119, 3) := by decide +kernel
theorem d_Pm_load_118 : decode b_Pm_load 118 = .ok (.lreturn, 1) := by decide +kernel
theorem d_Pm_widthOf_0 : decode b_Pm_widthOf 0 = .ok (.iload_n 0, 1) := by decide +kernel
theorem d_Pm_widthOf_1 : decode b_Pm_widthOf 1 = .ok (.iload_n 1, 1) := by decide +kernel
theorem d_Pm_widthOf_2 : decode b_Pm_widthOf 2 = .ok (.if_icmp .lt 11, 3) := by decide +kernel
theorem d_Pm_widthOf_5 : decode b_Pm_widthOf 5 = .ok (.iload_n 0, 1) := by decide +kernel
theorem d_Pm_widthOf_6 : decode b_Pm_widthOf 6 = .ok (.iload_n 1, 1) := by decide +kernel
theorem d_Pm_widthOf_7 : decode b_Pm_widthOf 7 = .ok (.isub, 1) := by decide +kernel
theorem d_Pm_widthOf_8 : decode b_Pm_widthOf 8 = .ok (.aload_n 2, 1) := by decide +kernel
theorem d_Pm_widthOf_9 : decode b_Pm_widthOf 9 = .ok (.arraylength, 1) := by decide +kernel
theorem d_Pm_widthOf_10 : decode b_Pm_widthOf 10 = .ok (.if_icmp .lt 5, 3) := by decide +kernel
theorem d_Pm_widthOf_13 : decode b_Pm_widthOf 13 = .ok (.iconst 0, 1) := by decide +kernel
theorem d_Pm_widthOf_14 : decode b_Pm_widthOf 14 = .ok (.ireturn, 1) := by decide +kernel
theorem d_Pm_widthOf_15 : decode b_Pm_widthOf 15 = .ok (.aload_n 2, 1) := by decide +kernel
theorem d_Pm_widthOf_16 : decode b_Pm_widthOf 16 = .ok (.iload_n 0, 1) := by decide +kernel
theorem d_Pm_widthOf_17 : decode b_Pm_widthOf 17 = .ok (.iload_n 1, 1) := by decide +kernel
theorem d_Pm_widthOf_18 : decode b_Pm_widthOf 18 = .ok (.isub, 1) := by decide +kernel
theorem d_Pm_widthOf_19 : decode b_Pm_widthOf 19 = .ok (.iaload, 1) := by decide +kernel
theorem d_Pm_widthOf_20 : decode b_Pm_widthOf 20 = .ok (.ireturn, 1) := by decide +kernel
theorem d_Pm_placeOf_0 : decode b_Pm_placeOf 0 = .ok (.lload_n 3, 1) := by decide +kernel
theorem d_Pm_placeOf_1 : decode b_Pm_placeOf 1 = .ok (.lload 5, 2) := by decide +kernel
theorem d_Pm_placeOf_3 : decode b_Pm_placeOf 3 = .ok (.ladd, 1) := by decide +kernel
theorem d_Pm_placeOf_4 : decode b_Pm_placeOf 4 = .ok (.aload_n 1, 1) := by decide +kernel
theorem d_Pm_placeOf_5 : decode b_Pm_placeOf 5 = .ok (.iload_n 2, 1) := by decide +kernel
theorem d_Pm_placeOf_6 : decode b_Pm_placeOf 6 = .ok (.invokevirtual 163, 3) := by decide +kernel
theorem d_Pm_placeOf_9 : decode b_Pm_placeOf 9 = .ok (.i2l, 1) := by decide +kernel
theorem d_Pm_placeOf_10 : decode b_Pm_placeOf 10 = .ok (.lcmp, 1) := by decide +kernel
theorem d_Pm_placeOf_11 : decode b_Pm_placeOf 11 = .ok (.ifCond .le 19, 3) := by decide +kernel
theorem d_Pm_placeOf_14 : decode b_Pm_placeOf 14 = .ok (.aload_n 0, 1) := by decide +kernel
theorem d_Pm_placeOf_15 : decode b_Pm_placeOf 15 = .ok (.iload 7, 2) := by decide +kernel
theorem d_Pm_placeOf_17 : decode b_Pm_placeOf 17 = .ok (.putfield 50, 3) := by decide +kernel
theorem d_Pm_placeOf_20 : decode b_Pm_placeOf 20 = .ok (.new 173, 3) := by decide +kernel
theorem d_Pm_placeOf_23 : decode b_Pm_placeOf 23 = .ok (.dup, 1) := by decide +kernel
theorem d_Pm_placeOf_24 : decode b_Pm_placeOf 24 = .ok (.ldc 175, 2) := by decide +kernel
theorem d_Pm_placeOf_26 : decode b_Pm_placeOf 26 = .ok (.invokespecial 177, 3) := by decide +kernel
theorem d_Pm_placeOf_29 : decode b_Pm_placeOf 29 = .ok (.athrow, 1) := by decide +kernel
theorem d_Pm_placeOf_30 : decode b_Pm_placeOf 30 = .ok (.aload_n 1, 1) := by decide +kernel
theorem d_Pm_placeOf_31 : decode b_Pm_placeOf 31 = .ok (.iload_n 2, 1) := by decide +kernel
theorem d_Pm_placeOf_32 : decode b_Pm_placeOf 32 = .ok (.invokevirtual 178, 3) := by decide +kernel
theorem d_Pm_placeOf_35 : decode b_Pm_placeOf 35 = .ok (.lload_n 3, 1) := by decide +kernel
theorem d_Pm_placeOf_36 : decode b_Pm_placeOf 36 = .ok (.l2i, 1) := by decide +kernel
theorem d_Pm_placeOf_37 : decode b_Pm_placeOf 37 = .ok (.iadd, 1) := by decide +kernel
theorem d_Pm_placeOf_38 : decode b_Pm_placeOf 38 = .ok (.ireturn, 1) := by decide +kernel
theorem d_Pm_extended_0 : decode b_Pm_extended 0 = .ok (.iload_n 0, 1) := by decide +kernel
theorem d_Pm_extended_1 : decode b_Pm_extended 1 = .ok (.tableswitch 83 44 52 #[51, 83, 60, 83, 69, 83, 74, 83, 79], 51) := by decide +kernel
theorem d_Pm_extended_52 : decode b_Pm_extended 52 = .ok (.lload_n 1, 1) := by decide +kernel
theorem d_Pm_extended_53 : decode b_Pm_extended 53 = .ok (.l2i, 1) := by decide +kernel
theorem d_Pm_extended_54 : decode b_Pm_extended 54 = .ok (.i2b, 1) := by decide +kernel
theorem d_Pm_extended_55 : decode b_Pm_extended 55 = .ok (.i2l, 1) := by decide +kernel
theorem d_Pm_extended_56 : decode b_Pm_extended 56 = .ok (.ldc2_w 181, 3) := by decide +kernel
theorem d_Pm_extended_59 : decode b_Pm_extended 59 = .ok (.land, 1) := by decide +kernel
theorem d_Pm_extended_60 : decode b_Pm_extended 60 = .ok (.lreturn, 1) := by decide +kernel
theorem d_Pm_extended_61 : decode b_Pm_extended 61 = .ok (.lload_n 1, 1) := by decide +kernel
theorem d_Pm_extended_62 : decode b_Pm_extended 62 = .ok (.l2i, 1) := by decide +kernel
theorem d_Pm_extended_63 : decode b_Pm_extended 63 = .ok (.i2s, 1) := by decide +kernel
theorem d_Pm_extended_64 : decode b_Pm_extended 64 = .ok (.i2l, 1) := by decide +kernel
theorem d_Pm_extended_65 : decode b_Pm_extended 65 = .ok (.ldc2_w 181, 3) := by decide +kernel
theorem d_Pm_extended_68 : decode b_Pm_extended 68 = .ok (.land, 1) := by decide +kernel
theorem d_Pm_extended_69 : decode b_Pm_extended 69 = .ok (.lreturn, 1) := by decide +kernel
theorem d_Pm_extended_70 : decode b_Pm_extended 70 = .ok (.lload_n 1, 1) := by decide +kernel
theorem d_Pm_extended_71 : decode b_Pm_extended 71 = .ok (.l2i, 1) := by decide +kernel
theorem d_Pm_extended_72 : decode b_Pm_extended 72 = .ok (.i2b, 1) := by decide +kernel
theorem d_Pm_extended_73 : decode b_Pm_extended 73 = .ok (.i2l, 1) := by decide +kernel
theorem d_Pm_extended_74 : decode b_Pm_extended 74 = .ok (.lreturn, 1) := by decide +kernel
theorem d_Pm_extended_75 : decode b_Pm_extended 75 = .ok (.lload_n 1, 1) := by decide +kernel
theorem d_Pm_extended_76 : decode b_Pm_extended 76 = .ok (.l2i, 1) := by decide +kernel
theorem d_Pm_extended_77 : decode b_Pm_extended 77 = .ok (.i2s, 1) := by decide +kernel
theorem d_Pm_extended_78 : decode b_Pm_extended 78 = .ok (.i2l, 1) := by decide +kernel
theorem d_Pm_extended_79 : decode b_Pm_extended 79 = .ok (.lreturn, 1) := by decide +kernel
theorem d_Pm_extended_80 : decode b_Pm_extended 80 = .ok (.lload_n 1, 1) := by decide +kernel
theorem d_Pm_extended_81 : decode b_Pm_extended 81 = .ok (.l2i, 1) := by decide +kernel
theorem d_Pm_extended_82 : decode b_Pm_extended 82 = .ok (.i2l, 1) := by decide +kernel
theorem d_Pm_extended_83 : decode b_Pm_extended 83 = .ok (.lreturn, 1) := by decide +kernel
theorem d_Pm_extended_84 : decode b_Pm_extended 84 = .ok (.lload_n 1, 1) := by decide +kernel
theorem d_Pm_extended_85 : decode b_Pm_extended 85 = .ok (.lreturn, 1) := by decide +kernel
theorem d_Pm_store_0 : decode b_Pm_store 0 = .ok (.aload_n 0, 1) := by decide +kernel
theorem d_Pm_store_1 : decode b_Pm_store 1 = .ok (.iconst 0, 1) := by decide +kernel
theorem d_Pm_store_2 : decode b_Pm_store 2 = .ok (.putfield 50, 3) := by decide +kernel
theorem d_Pm_store_5 : decode b_Pm_store 5 = .ok (.iload_n 2, 1) := by decide +kernel
theorem d_Pm_store_6 : decode b_Pm_store 6 = .ok (.bipush 54, 2) := by decide +kernel
theorem d_Pm_store_8 : decode b_Pm_store 8 = .ok (.getstatic 123, 3) := by decide +kernel
theorem d_Pm_store_11 : decode b_Pm_store 11 = .ok (.invokestatic 102, 3) := by decide +kernel
theorem d_Pm_store_14 : decode b_Pm_store 14 = .ok (.istore 7, 2) := by decide +kernel
theorem d_Pm_store_16 : decode b_Pm_store 16 = .ok (.aload_n 0, 1) := by decide +kernel
theorem d_Pm_store_17 : decode b_Pm_store 17 = .ok (.getfield 14, 3) := by decide +kernel
theorem d_Pm_store_20 : decode b_Pm_store 20 = .ok (.iload_n 1, 1) := by decide +kernel
theorem d_Pm_store_21 : decode b_Pm_store 21 = .ok (.invokevirtual 67, 3) := by decide +kernel
theorem d_Pm_store_24 : decode b_Pm_store 24 = .ok (.ifCond .eq 8, 3) := by decide +kernel
theorem d_Pm_store_27 : decode b_Pm_store 27 = .ok (.iload 7, 2) := by decide +kernel
theorem d_Pm_store_29 : decode b_Pm_store 29 = .ok (.ifCond .ne 13, 3) := by decide +kernel
theorem d_Pm_store_32 : decode b_Pm_store 32 = .ok (.new 106, 3) := by decide +kernel
theorem d_Pm_store_35 : decode b_Pm_store 35 = .ok (.dup, 1) := by decide +kernel
theorem d_Pm_store_36 : decode b_Pm_store 36 = .ok (.ldc 126, 2) := by decide +kernel
theorem d_Pm_store_38 : decode b_Pm_store 38 = .ok (.invokespecial 110, 3) := by decide +kernel
theorem d_Pm_store_41 : decode b_Pm_store 41 = .ok (.athrow, 1) := by decide +kernel
theorem d_Pm_store_42 : decode b_Pm_store 42 = .ok (.aload_n 0, 1) := by decide +kernel
theorem d_Pm_store_43 : decode b_Pm_store 43 = .ok (.aload_n 0, 1) := by decide +kernel
theorem d_Pm_store_44 : decode b_Pm_store 44 = .ok (.getfield 14, 3) := by decide +kernel
theorem d_Pm_store_47 : decode b_Pm_store 47 = .ok (.iload_n 1, 1) := by decide +kernel
theorem d_Pm_store_48 : decode b_Pm_store 48 = .ok (.iload_n 3, 1) := by decide +kernel
theorem d_Pm_store_49 : decode b_Pm_store 49 = .ok (.invokestatic 74, 3) := by decide +kernel
theorem d_Pm_store_52 : decode b_Pm_store 52 = .ok (.iload 4, 2) := by decide +kernel
theorem d_Pm_store_54 : decode b_Pm_store 54 = .ok (.invokestatic 74, 3) := by decide +kernel
theorem d_Pm_store_57 : decode b_Pm_store 57 = .ok (.ladd, 1) := by decide +kernel
theorem d_Pm_store_58 : decode b_Pm_store 58 = .ok (.iload 7, 2) := by decide +kernel
theorem d_Pm_store_60 : decode b_Pm_store 60 = .ok (.i2l, 1) := by decide +kernel
theorem d_Pm_store_61 : decode b_Pm_store 61 = .ok (.iconst 4, 1) := by decide +kernel
theorem d_Pm_store_62 : decode b_Pm_store 62 = .ok (.invokevirtual 113, 3) := by decide +kernel
theorem d_Pm_store_65 : decode b_Pm_store 65 = .ok (.istore 8, 2) := by decide +kernel
theorem d_Pm_store_67 : decode b_Pm_store 67 = .ok (.lload 5, 2) := by decide +kernel
theorem d_Pm_store_69 : decode b_Pm_store 69 = .ok (.iload 7, 2) := by decide +kernel
theorem d_Pm_store_71 : decode b_Pm_store 71 = .ok (.aload_n 0, 1) := by decide +kernel
theorem d_Pm_store_72 : decode b_Pm_store 72 = .ok (.getfield 22, 3) := by decide +kernel
theorem d_Pm_store_75 : decode b_Pm_store 75 = .ok (.iload 8, 2) := by decide +kernel
theorem d_Pm_store_77 : decode b_Pm_store 77 = .ok (.invokestatic 128, 3) := by decide +kernel
theorem d_Pm_store_80 : decode b_Pm_store 80 = .ok (.return_, 1) := by decide +kernel
theorem d_Pm_fill_0 : decode b_Pm_fill 0 = .ok (.aload_n 0, 1) := by decide +kernel
theorem d_Pm_fill_1 : decode b_Pm_fill 1 = .ok (.iconst 0, 1) := by decide +kernel
theorem d_Pm_fill_2 : decode b_Pm_fill 2 = .ok (.putfield 50, 3) := by decide +kernel
theorem d_Pm_fill_5 : decode b_Pm_fill 5 = .ok (.aload_n 0, 1) := by decide +kernel
theorem d_Pm_fill_6 : decode b_Pm_fill 6 = .ok (.getfield 14, 3) := by decide +kernel
theorem d_Pm_fill_9 : decode b_Pm_fill 9 = .ok (.iload_n 1, 1) := by decide +kernel
theorem d_Pm_fill_10 : decode b_Pm_fill 10 = .ok (.invokevirtual 67, 3) := by decide +kernel
theorem d_Pm_fill_13 : decode b_Pm_fill 13 = .ok (.ifCond .ne 13, 3) := by decide +kernel
theorem d_Pm_fill_16 : decode b_Pm_fill 16 = .ok (.new 106, 3) := by decide +kernel
theorem d_Pm_fill_19 : decode b_Pm_fill 19 = .ok (.dup, 1) := by decide +kernel
theorem d_Pm_fill_20 : decode b_Pm_fill 20 = .ok (.ldc 132, 2) := by decide +kernel
theorem d_Pm_fill_22 : decode b_Pm_fill 22 = .ok (.invokespecial 110, 3) := by decide +kernel
theorem d_Pm_fill_25 : decode b_Pm_fill 25 = .ok (.athrow, 1) := by decide +kernel
theorem d_Pm_fill_26 : decode b_Pm_fill 26 = .ok (.aload_n 0, 1) := by decide +kernel
theorem d_Pm_fill_27 : decode b_Pm_fill 27 = .ok (.aload_n 0, 1) := by decide +kernel
theorem d_Pm_fill_28 : decode b_Pm_fill 28 = .ok (.getfield 14, 3) := by decide +kernel
theorem d_Pm_fill_31 : decode b_Pm_fill 31 = .ok (.iload_n 1, 1) := by decide +kernel
theorem d_Pm_fill_32 : decode b_Pm_fill 32 = .ok (.iload_n 2, 1) := by decide +kernel
theorem d_Pm_fill_33 : decode b_Pm_fill 33 = .ok (.invokestatic 74, 3) := by decide +kernel
theorem d_Pm_fill_36 : decode b_Pm_fill 36 = .ok (.iload 4, 2) := by decide +kernel
theorem d_Pm_fill_38 : decode b_Pm_fill 38 = .ok (.invokestatic 74, 3) := by decide +kernel
theorem d_Pm_fill_41 : decode b_Pm_fill 41 = .ok (.iconst 4, 1) := by decide +kernel
theorem d_Pm_fill_42 : decode b_Pm_fill 42 = .ok (.invokevirtual 113, 3) := by decide +kernel
theorem d_Pm_fill_45 : decode b_Pm_fill 45 = .ok (.istore 5, 2) := by decide +kernel
theorem d_Pm_fill_47 : decode b_Pm_fill 47 = .ok (.aload_n 0, 1) := by decide +kernel
theorem d_Pm_fill_48 : decode b_Pm_fill 48 = .ok (.getfield 22, 3) := by decide +kernel
theorem d_Pm_fill_51 : decode b_Pm_fill 51 = .ok (.iload 5, 2) := by decide +kernel
theorem d_Pm_fill_53 : decode b_Pm_fill 53 = .ok (.iload 5, 2) := by decide +kernel
theorem d_Pm_fill_55 : decode b_Pm_fill 55 = .ok (.iload 4, 2) := by decide +kernel
theorem d_Pm_fill_57 : decode b_Pm_fill 57 = .ok (.iadd, 1) := by decide +kernel
theorem d_Pm_fill_58 : decode b_Pm_fill 58 = .ok (.iload_n 3, 1) := by decide +kernel
theorem d_Pm_fill_59 : decode b_Pm_fill 59 = .ok (.i2b, 1) := by decide +kernel
theorem d_Pm_fill_60 : decode b_Pm_fill 60 = .ok (.invokestatic 90, 3) := by decide +kernel
theorem d_Pm_fill_63 : decode b_Pm_fill 63 = .ok (.return_, 1) := by decide +kernel
theorem d_Pm_copy_0 : decode b_Pm_copy 0 = .ok (.aload_n 0, 1) := by decide +kernel
theorem d_Pm_copy_1 : decode b_Pm_copy 1 = .ok (.iconst 0, 1) := by decide +kernel
theorem d_Pm_copy_2 : decode b_Pm_copy 2 = .ok (.putfield 50, 3) := by decide +kernel
theorem d_Pm_copy_5 : decode b_Pm_copy 5 = .ok (.aload_n 0, 1) := by decide +kernel
theorem d_Pm_copy_6 : decode b_Pm_copy 6 = .ok (.getfield 14, 3) := by decide +kernel
theorem d_Pm_copy_9 : decode b_Pm_copy 9 = .ok (.iload_n 1, 1) := by decide +kernel
theorem d_Pm_copy_10 : decode b_Pm_copy 10 = .ok (.invokevirtual 67, 3) := by decide +kernel
theorem d_Pm_copy_13 : decode b_Pm_copy 13 = .ok (.ifCond .ne 13, 3) := by decide +kernel
theorem d_Pm_copy_16 : decode b_Pm_copy 16 = .ok (.new 106, 3) := by decide +kernel
theorem d_Pm_copy_19 : decode b_Pm_copy 19 = .ok (.dup, 1) := by decide +kernel
theorem d_Pm_copy_20 : decode b_Pm_copy 20 = .ok (.ldc 132, 2) := by decide +kernel
theorem d_Pm_copy_22 : decode b_Pm_copy 22 = .ok (.invokespecial 110, 3) := by decide +kernel
theorem d_Pm_copy_25 : decode b_Pm_copy 25 = .ok (.athrow, 1) := by decide +kernel
theorem d_Pm_copy_26 : decode b_Pm_copy 26 = .ok (.aload_n 0, 1) := by decide +kernel
theorem d_Pm_copy_27 : decode b_Pm_copy 27 = .ok (.aload_n 0, 1) := by decide +kernel
theorem d_Pm_copy_28 : decode b_Pm_copy 28 = .ok (.getfield 14, 3) := by decide +kernel
theorem d_Pm_copy_31 : decode b_Pm_copy 31 = .ok (.iload_n 1, 1) := by decide +kernel
theorem d_Pm_copy_32 : decode b_Pm_copy 32 = .ok (.iload_n 3, 1) := by decide +kernel
theorem d_Pm_copy_33 : decode b_Pm_copy 33 = .ok (.invokestatic 74, 3) := by decide +kernel
theorem d_Pm_copy_36 : decode b_Pm_copy 36 = .ok (.iload 4, 2) := by decide +kernel
theorem d_Pm_copy_38 : decode b_Pm_copy 38 = .ok (.invokestatic 74, 3) := by decide +kernel
theorem d_Pm_copy_41 : decode b_Pm_copy 41 = .ok (.iconst 4, 1) := by decide +kernel
theorem d_Pm_copy_42 : decode b_Pm_copy 42 = .ok (.invokevirtual 113, 3) := by decide +kernel
theorem d_Pm_copy_45 : decode b_Pm_copy 45 = .ok (.istore 5, 2) := by decide +kernel
theorem d_Pm_copy_47 : decode b_Pm_copy 47 = .ok (.aload_n 0, 1) := by decide +kernel
theorem d_Pm_copy_48 : decode b_Pm_copy 48 = .ok (.aload_n 0, 1) := by decide +kernel
theorem d_Pm_copy_49 : decode b_Pm_copy 49 = .ok (.getfield 14, 3) := by decide +kernel
theorem d_Pm_copy_52 : decode b_Pm_copy 52 = .ok (.iload_n 1, 1) := by decide +kernel
theorem d_Pm_copy_53 : decode b_Pm_copy 53 = .ok (.iload_n 2, 1) := by decide +kernel
theorem d_Pm_copy_54 : decode b_Pm_copy 54 = .ok (.invokestatic 74, 3) := by decide +kernel
theorem d_Pm_copy_57 : decode b_Pm_copy 57 = .ok (.iload 4, 2) := by decide +kernel
theorem d_Pm_copy_59 : decode b_Pm_copy 59 = .ok (.invokestatic 74, 3) := by decide +kernel
theorem d_Pm_copy_62 : decode b_Pm_copy 62 = .ok (.iconst 4, 1) := by decide +kernel
theorem d_Pm_copy_63 : decode b_Pm_copy 63 = .ok (.invokevirtual 113, 3) := by decide +kernel
theorem d_Pm_copy_66 : decode b_Pm_copy 66 = .ok (.istore 6, 2) := by decide +kernel
theorem d_Pm_copy_68 : decode b_Pm_copy 68 = .ok (.aload_n 0, 1) := by decide +kernel
theorem d_Pm_copy_69 : decode b_Pm_copy 69 = .ok (.getfield 22, 3) := by decide +kernel
theorem d_Pm_copy_72 : decode b_Pm_copy 72 = .ok (.iload 5, 2) := by decide +kernel
theorem d_Pm_copy_74 : decode b_Pm_copy 74 = .ok (.aload_n 0, 1) := by decide +kernel
theorem d_Pm_copy_75 : decode b_Pm_copy 75 = .ok (.getfield 22, 3) := by decide +kernel
theorem d_Pm_copy_78 : decode b_Pm_copy 78 = .ok (.iload 6, 2) := by decide +kernel
theorem d_Pm_copy_80 : decode b_Pm_copy 80 = .ok (.iload 4, 2) := by decide +kernel
theorem d_Pm_copy_82 : decode b_Pm_copy 82 = .ok (.invokestatic 84, 3) := by decide +kernel
theorem d_Pm_copy_85 : decode b_Pm_copy 85 = .ok (.return_, 1) := by decide +kernel
theorem d_Pm_init_0 : decode b_Pm_init 0 = .ok (.aload_n 0, 1) := by decide +kernel
theorem d_Pm_init_1 : decode b_Pm_init 1 = .ok (.iconst 0, 1) := by decide +kernel
theorem d_Pm_init_2 : decode b_Pm_init 2 = .ok (.putfield 50, 3) := by decide +kernel
theorem d_Pm_init_5 : decode b_Pm_init 5 = .ok (.aload_n 0, 1) := by decide +kernel
theorem d_Pm_init_6 : decode b_Pm_init 6 = .ok (.getfield 14, 3) := by decide +kernel
theorem d_Pm_init_9 : decode b_Pm_init 9 = .ok (.iload_n 1, 1) := by decide +kernel
theorem d_Pm_init_10 : decode b_Pm_init 10 = .ok (.invokevirtual 67, 3) := by decide +kernel
theorem d_Pm_init_13 : decode b_Pm_init 13 = .ok (.ifCond .eq 14, 3) := by decide +kernel
theorem d_Pm_init_16 : decode b_Pm_init 16 = .ok (.aload_n 0, 1) := by decide +kernel
theorem d_Pm_init_17 : decode b_Pm_init 17 = .ok (.getfield 38, 3) := by decide +kernel
theorem d_Pm_init_20 : decode b_Pm_init 20 = .ok (.iload_n 2, 1) := by decide +kernel
theorem d_Pm_init_21 : decode b_Pm_init 21 = .ok (.invokevirtual 67, 3) := by decide +kernel
theorem d_Pm_init_24 : decode b_Pm_init 24 = .ok (.ifCond .ne 13, 3) := by decide +kernel
theorem d_Pm_init_27 : decode b_Pm_init 27 = .ok (.new 106, 3) := by decide +kernel
theorem d_Pm_init_30 : decode b_Pm_init 30 = .ok (.dup, 1) := by decide +kernel
theorem d_Pm_init_31 : decode b_Pm_init 31 = .ok (.ldc 134, 2) := by decide +kernel
theorem d_Pm_init_33 : decode b_Pm_init 33 = .ok (.invokespecial 110, 3) := by decide +kernel
theorem d_Pm_init_36 : decode b_Pm_init 36 = .ok (.athrow, 1) := by decide +kernel
theorem d_Pm_init_37 : decode b_Pm_init 37 = .ok (.aload_n 0, 1) := by decide +kernel
theorem d_Pm_init_38 : decode b_Pm_init 38 = .ok (.aload_n 0, 1) := by decide +kernel
theorem d_Pm_init_39 : decode b_Pm_init 39 = .ok (.getfield 38, 3) := by decide +kernel
theorem d_Pm_init_42 : decode b_Pm_init 42 = .ok (.iload_n 2, 1) := by decide +kernel
theorem d_Pm_init_43 : decode b_Pm_init 43 = .ok (.iload 4, 2) := by decide +kernel
theorem d_Pm_init_45 : decode b_Pm_init 45 = .ok (.invokestatic 74, 3) := by decide +kernel
theorem d_Pm_init_48 : decode b_Pm_init 48 = .ok (.iload 5, 2) := by decide +kernel
theorem d_Pm_init_50 : decode b_Pm_init 50 = .ok (.invokestatic 74, 3) := by decide +kernel
theorem d_Pm_init_53 : decode b_Pm_init 53 = .ok (.iconst 4, 1) := by decide +kernel
theorem d_Pm_init_54 : decode b_Pm_init 54 = .ok (.invokevirtual 113, 3) := by decide +kernel
theorem d_Pm_init_57 : decode b_Pm_init 57 = .ok (.istore 6, 2) := by decide +kernel
theorem d_Pm_init_59 : decode b_Pm_init 59 = .ok (.aload_n 0, 1) := by decide +kernel
theorem d_Pm_init_60 : decode b_Pm_init 60 = .ok (.aload_n 0, 1) := by decide +kernel
theorem d_Pm_init_61 : decode b_Pm_init 61 = .ok (.getfield 14, 3) := by decide +kernel
theorem d_Pm_init_64 : decode b_Pm_init 64 = .ok (.iload_n 1, 1) := by decide +kernel
theorem d_Pm_init_65 : decode b_Pm_init 65 = .ok (.iload_n 3, 1) := by decide +kernel
theorem d_Pm_init_66 : decode b_Pm_init 66 = .ok (.invokestatic 74, 3) := by decide +kernel
theorem d_Pm_init_69 : decode b_Pm_init 69 = .ok (.iload 5, 2) := by decide +kernel
theorem d_Pm_init_71 : decode b_Pm_init 71 = .ok (.invokestatic 74, 3) := by decide +kernel
theorem d_Pm_init_74 : decode b_Pm_init 74 = .ok (.iconst 4, 1) := by decide +kernel
theorem d_Pm_init_75 : decode b_Pm_init 75 = .ok (.invokevirtual 113, 3) := by decide +kernel
theorem d_Pm_init_78 : decode b_Pm_init 78 = .ok (.istore 7, 2) := by decide +kernel
theorem d_Pm_init_80 : decode b_Pm_init 80 = .ok (.aload_n 0, 1) := by decide +kernel
theorem d_Pm_init_81 : decode b_Pm_init 81 = .ok (.getfield 41, 3) := by decide +kernel
theorem d_Pm_init_84 : decode b_Pm_init 84 = .ok (.iload 6, 2) := by decide +kernel
theorem d_Pm_init_86 : decode b_Pm_init 86 = .ok (.aload_n 0, 1) := by decide +kernel
theorem d_Pm_init_87 : decode b_Pm_init 87 = .ok (.getfield 22, 3) := by decide +kernel
theorem d_Pm_init_90 : decode b_Pm_init 90 = .ok (.iload 7, 2) := by decide +kernel
theorem d_Pm_init_92 : decode b_Pm_init 92 = .ok (.iload 5, 2) := by decide +kernel
theorem d_Pm_init_94 : decode b_Pm_init 94 = .ok (.invokestatic 84, 3) := by decide +kernel
theorem d_Pm_init_97 : decode b_Pm_init 97 = .ok (.return_, 1) := by decide +kernel
theorem d_Pm_drop_0 : decode b_Pm_drop 0 = .ok (.iload_n 2, 1) := by decide +kernel
theorem d_Pm_drop_1 : decode b_Pm_drop 1 = .ok (.ifCond .eq 10, 3) := by decide +kernel
theorem d_Pm_drop_4 : decode b_Pm_drop 4 = .ok (.aload_n 0, 1) := by decide +kernel
theorem d_Pm_drop_5 : decode b_Pm_drop 5 = .ok (.getfield 44, 3) := by decide +kernel
theorem d_Pm_drop_8 : decode b_Pm_drop 8 = .ok (.goto 7, 3) := by decide +kernel
theorem d_Pm_drop_11 : decode b_Pm_drop 11 = .ok (.aload_n 0, 1) := by decide +kernel
theorem d_Pm_drop_12 : decode b_Pm_drop 12 = .ok (.getfield 38, 3) := by decide +kernel
theorem d_Pm_drop_15 : decode b_Pm_drop 15 = .ok (.astore_n 3, 1) := by decide +kernel
theorem d_Pm_drop_16 : decode b_Pm_drop 16 = .ok (.aload_n 3, 1) := by decide +kernel
theorem d_Pm_drop_17 : decode b_Pm_drop 17 = .ok (.iload_n 1, 1) := by decide +kernel
theorem d_Pm_drop_18 : decode b_Pm_drop 18 = .ok (.invokevirtual 67, 3) := by decide +kernel
theorem d_Pm_drop_21 : decode b_Pm_drop 21 = .ok (.ifCond .ne 13, 3) := by decide +kernel
theorem d_Pm_drop_24 : decode b_Pm_drop 24 = .ok (.new 106, 3) := by decide +kernel
theorem d_Pm_drop_27 : decode b_Pm_drop 27 = .ok (.dup, 1) := by decide +kernel
theorem d_Pm_drop_28 : decode b_Pm_drop 28 = .ok (.ldc 144, 2) := by decide +kernel
theorem d_Pm_drop_30 : decode b_Pm_drop 30 = .ok (.invokespecial 110, 3) := by decide +kernel
theorem d_Pm_drop_33 : decode b_Pm_drop 33 = .ok (.athrow, 1) := by decide +kernel
theorem d_Pm_drop_34 : decode b_Pm_drop 34 = .ok (.aload_n 3, 1) := by decide +kernel
theorem d_Pm_drop_35 : decode b_Pm_drop 35 = .ok (.iload_n 1, 1) := by decide +kernel
theorem d_Pm_drop_36 : decode b_Pm_drop 36 = .ok (.invokevirtual 146, 3) := by decide +kernel
theorem d_Pm_drop_39 : decode b_Pm_drop 39 = .ok (.return_, 1) := by decide +kernel
theorem d_Pm_get_0 : decode b_Pm_get 0 = .ok (.aload_n 0, 1) := by decide +kernel
theorem d_Pm_get_1 : decode b_Pm_get 1 = .ok (.iconst 0, 1) := by decide +kernel
theorem d_Pm_get_2 : decode b_Pm_get 2 = .ok (.putfield 50, 3) := by decide +kernel
theorem d_Pm_get_5 : decode b_Pm_get 5 = .ok (.aload_n 0, 1) := by decide +kernel
theorem d_Pm_get_6 : decode b_Pm_get 6 = .ok (.getfield 26, 3) := by decide +kernel
theorem d_Pm_get_9 : decode b_Pm_get 9 = .ok (.iload_n 1, 1) := by decide +kernel
theorem d_Pm_get_10 : decode b_Pm_get 10 = .ok (.invokevirtual 67, 3) := by decide +kernel
theorem d_Pm_get_13 : decode b_Pm_get 13 = .ok (.ifCond .ne 13, 3) := by decide +kernel
theorem d_Pm_get_16 : decode b_Pm_get 16 = .ok (.new 106, 3) := by decide +kernel
theorem d_Pm_get_19 : decode b_Pm_get 19 = .ok (.dup, 1) := by decide +kernel
theorem d_Pm_get_20 : decode b_Pm_get 20 = .ok (.ldc 156, 2) := by decide +kernel
theorem d_Pm_get_22 : decode b_Pm_get 22 = .ok (.invokespecial 110, 3) := by decide +kernel
theorem d_Pm_get_25 : decode b_Pm_get 25 = .ok (.athrow, 1) := by decide +kernel
theorem d_Pm_get_26 : decode b_Pm_get 26 = .ok (.aload_n 0, 1) := by decide +kernel
theorem d_Pm_get_27 : decode b_Pm_get 27 = .ok (.getfield 35, 3) := by decide +kernel
theorem d_Pm_get_30 : decode b_Pm_get 30 = .ok (.aload_n 0, 1) := by decide +kernel
theorem d_Pm_get_31 : decode b_Pm_get 31 = .ok (.aload_n 0, 1) := by decide +kernel
theorem d_Pm_get_32 : decode b_Pm_get 32 = .ok (.getfield 26, 3) := by decide +kernel
theorem d_Pm_get_35 : decode b_Pm_get 35 = .ok (.iload_n 1, 1) := by decide +kernel
theorem d_Pm_get_36 : decode b_Pm_get 36 = .ok (.iload_n 2, 1) := by decide +kernel
theorem d_Pm_get_37 : decode b_Pm_get 37 = .ok (.invokestatic 74, 3) := by decide +kernel
theorem d_Pm_get_40 : decode b_Pm_get 40 = .ok (.lconst 1, 1) := by decide +kernel
theorem d_Pm_get_41 : decode b_Pm_get 41 = .ok (.iconst 5, 1) := by decide +kernel
theorem d_Pm_get_42 : decode b_Pm_get 42 = .ok (.invokevirtual 113, 3) := by decide +kernel
theorem d_Pm_get_45 : decode b_Pm_get 45 = .ok (.iaload, 1) := by decide +kernel
theorem d_Pm_get_46 : decode b_Pm_get 46 = .ok (.ireturn, 1) := by decide +kernel
theorem d_Pm_set_0 : decode b_Pm_set 0 = .ok (.aload_n 0, 1) := by decide +kernel
theorem d_Pm_set_1 : decode b_Pm_set 1 = .ok (.iconst 0, 1) := by decide +kernel
theorem d_Pm_set_2 : decode b_Pm_set 2 = .ok (.putfield 50, 3) := by decide +kernel
theorem d_Pm_set_5 : decode b_Pm_set 5 = .ok (.aload_n 0, 1) := by decide +kernel
theorem d_Pm_set_6 : decode b_Pm_set 6 = .ok (.getfield 26, 3) := by decide +kernel
theorem d_Pm_set_9 : decode b_Pm_set 9 = .ok (.iload_n 1, 1) := by decide +kernel
theorem d_Pm_set_10 : decode b_Pm_set 10 = .ok (.invokevirtual 67, 3) := by decide +kernel
theorem d_Pm_set_13 : decode b_Pm_set 13 = .ok (.ifCond .eq 10, 3) := by decide +kernel
theorem d_Pm_set_16 : decode b_Pm_set 16 = .ok (.iload_n 3, 1) := by decide +kernel
theorem d_Pm_set_17 : decode b_Pm_set 17 = .ok (.invokestatic 158, 3) := by decide +kernel
theorem d_Pm_set_20 : decode b_Pm_set 20 = .ok (.ifCond .ne 13, 3) := by decide +kernel
theorem d_Pm_set_23 : decode b_Pm_set 23 = .ok (.new 106, 3) := by decide +kernel
theorem d_Pm_set_26 : decode b_Pm_set 26 = .ok (.dup, 1) := by decide +kernel
theorem d_Pm_set_27 : decode b_Pm_set 27 = .ok (.ldc 161, 2) := by decide +kernel
theorem d_Pm_set_29 : decode b_Pm_set 29 = .ok (.invokespecial 110, 3) := by decide +kernel
theorem d_Pm_set_32 : decode b_Pm_set 32 = .ok (.athrow, 1) := by decide +kernel
theorem d_Pm_set_33 : decode b_Pm_set 33 = .ok (.aload_n 0, 1) := by decide +kernel
theorem d_Pm_set_34 : decode b_Pm_set 34 = .ok (.getfield 35, 3) := by decide +kernel
theorem d_Pm_set_37 : decode b_Pm_set 37 = .ok (.aload_n 0, 1) := by decide +kernel
theorem d_Pm_set_38 : decode b_Pm_set 38 = .ok (.aload_n 0, 1) := by decide +kernel
theorem d_Pm_set_39 : decode b_Pm_set 39 = .ok (.getfield 26, 3) := by decide +kernel
theorem d_Pm_set_42 : decode b_Pm_set 42 = .ok (.iload_n 1, 1) := by decide +kernel
theorem d_Pm_set_43 : decode b_Pm_set 43 = .ok (.iload_n 2, 1) := by decide +kernel
theorem d_Pm_set_44 : decode b_Pm_set 44 = .ok (.invokestatic 74, 3) := by decide +kernel
theorem d_Pm_set_47 : decode b_Pm_set 47 = .ok (.lconst 1, 1) := by decide +kernel
theorem d_Pm_set_48 : decode b_Pm_set 48 = .ok (.iconst 5, 1) := by decide +kernel
theorem d_Pm_set_49 : decode b_Pm_set 49 = .ok (.invokevirtual 113, 3) := by decide +kernel
theorem d_Pm_set_52 : decode b_Pm_set 52 = .ok (.iload_n 3, 1) := by decide +kernel
theorem d_Pm_set_53 : decode b_Pm_set 53 = .ok (.iastore, 1) := by decide +kernel
theorem d_Pm_set_54 : decode b_Pm_set 54 = .ok (.return_, 1) := by decide +kernel
theorem d_Pm_fillTable_0 : decode b_Pm_fillTable 0 = .ok (.aload_n 0, 1) := by decide +kernel
theorem d_Pm_fillTable_1 : decode b_Pm_fillTable 1 = .ok (.iconst 0, 1) := by decide +kernel
theorem d_Pm_fillTable_2 : decode b_Pm_fillTable 2 = .ok (.putfield 50, 3) := by decide +kernel
theorem d_Pm_fillTable_5 : decode b_Pm_fillTable 5 = .ok (.aload_n 0, 1) := by decide +kernel
theorem d_Pm_fillTable_6 : decode b_Pm_fillTable 6 = .ok (.getfield 26, 3) := by decide +kernel
theorem d_Pm_fillTable_9 : decode b_Pm_fillTable 9 = .ok (.iload_n 1, 1) := by decide +kernel
theorem d_Pm_fillTable_10 : decode b_Pm_fillTable 10 = .ok (.invokevirtual 67, 3) := by decide +kernel
theorem d_Pm_fillTable_13 : decode b_Pm_fillTable 13 = .ok (.ifCond .eq 10, 3) := by decide +kernel
theorem d_Pm_fillTable_16 : decode b_Pm_fillTable 16 = .ok (.iload_n 3, 1) := by decide +kernel
theorem d_Pm_fillTable_17 : decode b_Pm_fillTable 17 = .ok (.invokestatic 158, 3) := by decide +kernel
theorem d_Pm_fillTable_20 : decode b_Pm_fillTable 20 = .ok (.ifCond .ne 13, 3) := by decide +kernel
theorem d_Pm_fillTable_23 : decode b_Pm_fillTable 23 = .ok (.new 106, 3) := by decide +kernel
theorem d_Pm_fillTable_26 : decode b_Pm_fillTable 26 = .ok (.dup, 1) := by decide +kernel
theorem d_Pm_fillTable_27 : decode b_Pm_fillTable 27 = .ok (.ldc 161, 2) := by decide +kernel
theorem d_Pm_fillTable_29 : decode b_Pm_fillTable 29 = .ok (.invokespecial 110, 3) := by decide +kernel
theorem d_Pm_fillTable_32 : decode b_Pm_fillTable 32 = .ok (.athrow, 1) := by decide +kernel
theorem d_Pm_fillTable_33 : decode b_Pm_fillTable 33 = .ok (.aload_n 0, 1) := by decide +kernel
theorem d_Pm_fillTable_34 : decode b_Pm_fillTable 34 = .ok (.aload_n 0, 1) := by decide +kernel
theorem d_Pm_fillTable_35 : decode b_Pm_fillTable 35 = .ok (.getfield 26, 3) := by decide +kernel
theorem d_Pm_fillTable_38 : decode b_Pm_fillTable 38 = .ok (.iload_n 1, 1) := by decide +kernel
theorem d_Pm_fillTable_39 : decode b_Pm_fillTable 39 = .ok (.iload_n 2, 1) := by decide +kernel
theorem d_Pm_fillTable_40 : decode b_Pm_fillTable 40 = .ok (.invokestatic 74, 3) := by decide +kernel
theorem d_Pm_fillTable_43 : decode b_Pm_fillTable 43 = .ok (.iload 4, 2) := by decide +kernel
theorem d_Pm_fillTable_45 : decode b_Pm_fillTable 45 = .ok (.invokestatic 74, 3) := by decide +kernel
theorem d_Pm_fillTable_48 : decode b_Pm_fillTable 48 = .ok (.iconst 5, 1) := by decide +kernel
theorem d_Pm_fillTable_49 : decode b_Pm_fillTable 49 = .ok (.invokevirtual 113, 3) := by decide +kernel
theorem d_Pm_fillTable_52 : decode b_Pm_fillTable 52 = .ok (.istore 5, 2) := by decide +kernel
theorem d_Pm_fillTable_54 : decode b_Pm_fillTable 54 = .ok (.aload_n 0, 1) := by decide +kernel
theorem d_Pm_fillTable_55 : decode b_Pm_fillTable 55 = .ok (.getfield 35, 3) := by decide +kernel
theorem d_Pm_fillTable_58 : decode b_Pm_fillTable 58 = .ok (.iload 5, 2) := by decide +kernel
theorem d_Pm_fillTable_60 : decode b_Pm_fillTable 60 = .ok (.iload 5, 2) := by decide +kernel
theorem d_Pm_fillTable_62 : decode b_Pm_fillTable 62 = .ok (.iload 4, 2) := by decide +kernel
theorem d_Pm_fillTable_64 : decode b_Pm_fillTable 64 = .ok (.iadd, 1) := by decide +kernel
theorem d_Pm_fillTable_65 : decode b_Pm_fillTable 65 = .ok (.iload_n 3, 1) := by decide +kernel
theorem d_Pm_fillTable_66 : decode b_Pm_fillTable 66 = .ok (.invokestatic 153, 3) := by decide +kernel
theorem d_Pm_fillTable_69 : decode b_Pm_fillTable 69 = .ok (.return_, 1) := by decide +kernel
theorem d_Pm_copyTable_0 : decode b_Pm_copyTable 0 = .ok (.aload_n 0, 1) := by decide +kernel
theorem d_Pm_copyTable_1 : decode b_Pm_copyTable 1 = .ok (.iconst 0, 1) := by decide +kernel
theorem d_Pm_copyTable_2 : decode b_Pm_copyTable 2 = .ok (.putfield 50, 3) := by decide +kernel
theorem d_Pm_copyTable_5 : decode b_Pm_copyTable 5 = .ok (.aload_n 0, 1) := by decide +kernel
theorem d_Pm_copyTable_6 : decode b_Pm_copyTable 6 = .ok (.getfield 26, 3) := by decide +kernel
theorem d_Pm_copyTable_9 : decode b_Pm_copyTable 9 = .ok (.iload_n 1, 1) := by decide +kernel
theorem d_Pm_copyTable_10 : decode b_Pm_copyTable 10 = .ok (.invokevirtual 67, 3) := by decide +kernel
theorem d_Pm_copyTable_13 : decode b_Pm_copyTable 13 = .ok (.ifCond .eq 29, 3) := by decide +kernel
theorem d_Pm_copyTable_16 : decode b_Pm_copyTable 16 = .ok (.aload_n 0, 1) := by decide +kernel
theorem d_Pm_copyTable_17 : decode b_Pm_copyTable 17 = .ok (.getfield 26, 3) := by decide +kernel
theorem d_Pm_copyTable_20 : decode b_Pm_copyTable 20 = .ok (.iload_n 2, 1) := by decide +kernel
theorem d_Pm_copyTable_21 : decode b_Pm_copyTable 21 = .ok (.invokevirtual 67, 3) := by decide +kernel
theorem d_Pm_copyTable_24 : decode b_Pm_copyTable 24 = .ok (.ifCond .eq 18, 3) := by decide +kernel
theorem d_Pm_copyTable_27 : decode b_Pm_copyTable 27 = .ok (.aload_n 0, 1) := by decide +kernel
theorem d_Pm_copyTable_28 : decode b_Pm_copyTable 28 = .ok (.getfield 32, 3) := by decide +kernel
theorem d_Pm_copyTable_31 : decode b_Pm_copyTable 31 = .ok (.iload_n 1, 1) := by decide +kernel
theorem d_Pm_copyTable_32 : decode b_Pm_copyTable 32 = .ok (.iaload, 1) := by decide +kernel
theorem d_Pm_copyTable_33 : decode b_Pm_copyTable 33 = .ok (.aload_n 0, 1) := by decide +kernel
theorem d_Pm_copyTable_34 : decode b_Pm_copyTable 34 = .ok (.getfield 32, 3) := by decide +kernel
theorem d_Pm_copyTable_37 : decode b_Pm_copyTable 37 = .ok (.iload_n 2, 1) := by decide +kernel
theorem d_Pm_copyTable_38 : decode b_Pm_copyTable 38 = .ok (.iaload, 1) := by decide +kernel
theorem d_Pm_copyTable_39 : decode b_Pm_copyTable 39 = .ok (.if_icmp .eq 13, 3) := by decide +kernel
theorem d_Pm_copyTable_42 : decode b_Pm_copyTable 42 = .ok (.new 106, 3) := by decide +kernel
theorem d_Pm_copyTable_45 : decode b_Pm_copyTable 45 = .ok (.dup, 1) := by decide +kernel
theorem d_Pm_copyTable_46 : decode b_Pm_copyTable 46 = .ok (.ldc 166, 2) := by decide +kernel
theorem d_Pm_copyTable_48 : decode b_Pm_copyTable 48 = .ok (.invokespecial 110, 3) := by decide +kernel
theorem d_Pm_copyTable_51 : decode b_Pm_copyTable 51 = .ok (.athrow, 1) := by decide +kernel
theorem d_Pm_copyTable_52 : decode b_Pm_copyTable 52 = .ok (.aload_n 0, 1) := by decide +kernel
theorem d_Pm_copyTable_53 : decode b_Pm_copyTable 53 = .ok (.aload_n 0, 1) := by decide +kernel
theorem d_Pm_copyTable_54 : decode b_Pm_copyTable 54 = .ok (.getfield 26, 3) := by decide +kernel
theorem d_Pm_copyTable_57 : decode b_Pm_copyTable 57 = .ok (.iload_n 2, 1) := by decide +kernel
theorem d_Pm_copyTable_58 : decode b_Pm_copyTable 58 = .ok (.iload 4, 2) := by decide +kernel
theorem d_Pm_copyTable_60 : decode b_Pm_copyTable 60 = .ok (.invokestatic 74, 3) := by decide +kernel
theorem d_Pm_copyTable_63 : decode b_Pm_copyTable 63 = .ok (.iload 5, 2) := by decide +kernel
theorem d_Pm_copyTable_65 : decode b_Pm_copyTable 65 = .ok (.invokestatic 74, 3) := by decide +kernel
theorem d_Pm_copyTable_68 : decode b_Pm_copyTable 68 = .ok (.iconst 5, 1) := by decide +kernel
theorem d_Pm_copyTable_69 : decode b_Pm_copyTable 69 = .ok (.invokevirtual 113, 3) := by decide +kernel
theorem d_Pm_copyTable_72 : decode b_Pm_copyTable 72 = .ok (.istore 6, 2) := by decide +kernel
theorem d_Pm_copyTable_74 : decode b_Pm_copyTable 74 = .ok (.aload_n 0, 1) := by decide +kernel
theorem d_Pm_copyTable_75 : decode b_Pm_copyTable 75 = .ok (.aload_n 0, 1) := by decide +kernel
theorem d_Pm_copyTable_76 : decode b_Pm_copyTable 76 = .ok (.getfield 26, 3) := by decide +kernel
theorem d_Pm_copyTable_79 : decode b_Pm_copyTable 79 = .ok (.iload_n 1, 1) := by decide +kernel
theorem d_Pm_copyTable_80 : decode b_Pm_copyTable 80 = .ok (.iload_n 3, 1) := by decide +kernel
theorem d_Pm_copyTable_81 : decode b_Pm_copyTable 81 = .ok (.invokestatic 74, 3) := by decide +kernel
theorem d_Pm_copyTable_84 : decode b_Pm_copyTable 84 = .ok (.iload 5, 2) := by decide +kernel
theorem d_Pm_copyTable_86 : decode b_Pm_copyTable 86 = .ok (.invokestatic 74, 3) := by decide +kernel
theorem d_Pm_copyTable_89 : decode b_Pm_copyTable 89 = .ok (.iconst 5, 1) := by decide +kernel
theorem d_Pm_copyTable_90 : decode b_Pm_copyTable 90 = .ok (.invokevirtual 113, 3) := by decide +kernel
theorem d_Pm_copyTable_93 : decode b_Pm_copyTable 93 = .ok (.istore 7, 2) := by decide +kernel
theorem d_Pm_copyTable_95 : decode b_Pm_copyTable 95 = .ok (.aload_n 0, 1) := by decide +kernel
theorem d_Pm_copyTable_96 : decode b_Pm_copyTable 96 = .ok (.getfield 35, 3) := by decide +kernel
theorem d_Pm_copyTable_99 : decode b_Pm_copyTable 99 = .ok (.iload 6, 2) := by decide +kernel
theorem d_Pm_copyTable_101 : decode b_Pm_copyTable 101 = .ok (.aload_n 0, 1) := by decide +kernel
theorem d_Pm_copyTable_102 : decode b_Pm_copyTable 102 = .ok (.getfield 35, 3) := by decide +kernel
theorem d_Pm_copyTable_105 : decode b_Pm_copyTable 105 = .ok (.iload 7, 2) := by decide +kernel
theorem d_Pm_copyTable_107 : decode b_Pm_copyTable 107 = .ok (.iload 5, 2) := by decide +kernel
theorem d_Pm_copyTable_109 : decode b_Pm_copyTable 109 = .ok (.invokestatic 84, 3) := by decide +kernel
theorem d_Pm_copyTable_112 : decode b_Pm_copyTable 112 = .ok (.return_, 1) := by decide +kernel
theorem d_Pm_initTable_0 : decode b_Pm_initTable 0 = .ok (.aload_n 0, 1) := by decide +kernel
theorem d_Pm_initTable_1 : decode b_Pm_initTable 1 = .ok (.iconst 0, 1) := by decide +kernel
theorem d_Pm_initTable_2 : decode b_Pm_initTable 2 = .ok (.putfield 50, 3) := by decide +kernel
theorem d_Pm_initTable_5 : decode b_Pm_initTable 5 = .ok (.aload_n 0, 1) := by decide +kernel
theorem d_Pm_initTable_6 : decode b_Pm_initTable 6 = .ok (.getfield 26, 3) := by decide +kernel
theorem d_Pm_initTable_9 : decode b_Pm_initTable 9 = .ok (.iload_n 1, 1) := by decide +kernel
theorem d_Pm_initTable_10 : decode b_Pm_initTable 10 = .ok (.invokevirtual 67, 3) := by decide +kernel
theorem d_Pm_initTable_13 : decode b_Pm_initTable 13 = .ok (.ifCond .eq 14, 3) := by decide +kernel
theorem d_Pm_initTable_16 : decode b_Pm_initTable 16 = .ok (.aload_n 0, 1) := by decide +kernel
theorem d_Pm_initTable_17 : decode b_Pm_initTable 17 = .ok (.getfield 44, 3) := by decide +kernel
theorem d_Pm_initTable_20 : decode b_Pm_initTable 20 = .ok (.iload_n 2, 1) := by decide +kernel
theorem d_Pm_initTable_21 : decode b_Pm_initTable 21 = .ok (.invokevirtual 67, 3) := by decide +kernel
theorem d_Pm_initTable_24 : decode b_Pm_initTable 24 = .ok (.ifCond .ne 13, 3) := by decide +kernel
theorem d_Pm_initTable_27 : decode b_Pm_initTable 27 = .ok (.new 106, 3) := by decide +kernel
theorem d_Pm_initTable_30 : decode b_Pm_initTable 30 = .ok (.dup, 1) := by decide +kernel
theorem d_Pm_initTable_31 : decode b_Pm_initTable 31 = .ok (.ldc 168, 2) := by decide +kernel
theorem d_Pm_initTable_33 : decode b_Pm_initTable 33 = .ok (.invokespecial 110, 3) := by decide +kernel
theorem d_Pm_initTable_36 : decode b_Pm_initTable 36 = .ok (.athrow, 1) := by decide +kernel
theorem d_Pm_initTable_37 : decode b_Pm_initTable 37 = .ok (.aload_n 0, 1) := by decide +kernel
theorem d_Pm_initTable_38 : decode b_Pm_initTable 38 = .ok (.aload_n 0, 1) := by decide +kernel
theorem d_Pm_initTable_39 : decode b_Pm_initTable 39 = .ok (.getfield 44, 3) := by decide +kernel
theorem d_Pm_initTable_42 : decode b_Pm_initTable 42 = .ok (.iload_n 2, 1) := by decide +kernel
theorem d_Pm_initTable_43 : decode b_Pm_initTable 43 = .ok (.iload 4, 2) := by decide +kernel
theorem d_Pm_initTable_45 : decode b_Pm_initTable 45 = .ok (.invokestatic 74, 3) := by decide +kernel
theorem d_Pm_initTable_48 : decode b_Pm_initTable 48 = .ok (.iload 5, 2) := by decide +kernel
theorem d_Pm_initTable_50 : decode b_Pm_initTable 50 = .ok (.invokestatic 74, 3) := by decide +kernel
theorem d_Pm_initTable_53 : decode b_Pm_initTable 53 = .ok (.iconst 5, 1) := by decide +kernel
theorem d_Pm_initTable_54 : decode b_Pm_initTable 54 = .ok (.invokevirtual 113, 3) := by decide +kernel
theorem d_Pm_initTable_57 : decode b_Pm_initTable 57 = .ok (.istore 6, 2) := by decide +kernel
theorem d_Pm_initTable_59 : decode b_Pm_initTable 59 = .ok (.aload_n 0, 1) := by decide +kernel
theorem d_Pm_initTable_60 : decode b_Pm_initTable 60 = .ok (.aload_n 0, 1) := by decide +kernel
theorem d_Pm_initTable_61 : decode b_Pm_initTable 61 = .ok (.getfield 26, 3) := by decide +kernel
theorem d_Pm_initTable_64 : decode b_Pm_initTable 64 = .ok (.iload_n 1, 1) := by decide +kernel
theorem d_Pm_initTable_65 : decode b_Pm_initTable 65 = .ok (.iload_n 3, 1) := by decide +kernel
theorem d_Pm_initTable_66 : decode b_Pm_initTable 66 = .ok (.invokestatic 74, 3) := by decide +kernel
theorem d_Pm_initTable_69 : decode b_Pm_initTable 69 = .ok (.iload 5, 2) := by decide +kernel
theorem d_Pm_initTable_71 : decode b_Pm_initTable 71 = .ok (.invokestatic 74, 3) := by decide +kernel
theorem d_Pm_initTable_74 : decode b_Pm_initTable 74 = .ok (.iconst 5, 1) := by decide +kernel
theorem d_Pm_initTable_75 : decode b_Pm_initTable 75 = .ok (.invokevirtual 113, 3) := by decide +kernel
theorem d_Pm_initTable_78 : decode b_Pm_initTable 78 = .ok (.istore 7, 2) := by decide +kernel
theorem d_Pm_initTable_80 : decode b_Pm_initTable 80 = .ok (.aload_n 0, 1) := by decide +kernel
theorem d_Pm_initTable_81 : decode b_Pm_initTable 81 = .ok (.getfield 47, 3) := by decide +kernel
theorem d_Pm_initTable_84 : decode b_Pm_initTable 84 = .ok (.iload 6, 2) := by decide +kernel
theorem d_Pm_initTable_86 : decode b_Pm_initTable 86 = .ok (.aload_n 0, 1) := by decide +kernel
theorem d_Pm_initTable_87 : decode b_Pm_initTable 87 = .ok (.getfield 35, 3) := by decide +kernel
theorem d_Pm_initTable_90 : decode b_Pm_initTable 90 = .ok (.iload 7, 2) := by decide +kernel
theorem d_Pm_initTable_92 : decode b_Pm_initTable 92 = .ok (.iload 5, 2) := by decide +kernel
theorem d_Pm_initTable_94 : decode b_Pm_initTable 94 = .ok (.invokestatic 84, 3) := by decide +kernel
theorem d_Pm_initTable_97 : decode b_Pm_initTable 97 = .ok (.return_, 1) := by decide +kernel
