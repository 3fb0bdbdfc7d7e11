theorem cw_Lw_load : Cond.codeWith y_Lw_load b_Lw_load 7 (some .int) [(0, 13, 16, 13), (0, 13, 20, 15)] ∈ bw := bw_of 524 (by decide +kernel) (by decide +kernel)
theorem cw_Lw_store : Cond.codeWith y_Lw_store b_Lw_store 8 (some .int) [(0, 11, 14, 13), (0, 11, 18, 15)] ∈ bw := bw_of 569 (by decide +kernel) (by decide +kernel)
theorem cw_Lw_fill : Cond.codeWith y_Lw_fill b_Lw_fill 6 (some .int) [(0, 9, 12, 13), (0, 9, 16, 15)] ∈ bw := bw_of 579 (by decide +kernel) (by decide +kernel)
theorem cw_Lw_copy : Cond.codeWith y_Lw_copy b_Lw_copy 6 (some .int) [(0, 9, 12, 13), (0, 9, 16, 15)] ∈ bw := bw_of 587 (by decide +kernel) (by decide +kernel)
theorem cw_Lw_init : Cond.codeWith y_Lw_init b_Lw_init 7 (some .int) [(0, 11, 14, 13), (0, 11, 18, 15)] ∈ bw := bw_of 594 (by decide +kernel) (by decide +kernel)
theorem cw_Lw_drop : Cond.codeWith y_Lw_drop b_Lw_drop 4 (some .int) [(0, 6, 9, 13)] ∈ bw := bw_of 602 (by decide +kernel) (by decide +kernel)
theorem cw_Lw_get : Cond.codeWith y_Lw_get b_Lw_get 5 (some .int) [(0, 10, 13, 13), (0, 10, 17, 15)] ∈ bw := bw_of 614 (by decide +kernel) (by decide +kernel)
theorem cw_Lw_set : Cond.codeWith y_Lw_set b_Lw_set 5 (some .int) [(0, 7, 10, 13), (0, 7, 14, 15)] ∈ bw := bw_of 622 (by decide +kernel) (by decide +kernel)
theorem cw_Lw_fillTable : Cond.codeWith y_Lw_fillTable b_Lw_fillTable 6 (some .int) [(0, 9, 12, 13), (0, 9, 16, 15)] ∈ bw := bw_of 630 (by decide +kernel) (by decide +kernel)
theorem cw_Lw_copyTable : Cond.codeWith y_Lw_copyTable b_Lw_copyTable 7 (some .int) [(0, 11, 14, 13), (0, 11, 18, 15)] ∈ bw := bw_of 637 (by decide +kernel) (by decide +kernel)
theorem cw_Lw_initTable : Cond.codeWith y_Lw_initTable b_Lw_initTable 7 (some .int) [(0, 11, 14, 13), (0, 11, 18, 15)] ∈ bw := bw_of 645 (by decide +kernel) (by decide +kernel)
theorem d_Lw_load_0 : decode b_Lw_load 0 = .ok (.aload 5, 2) := by decide +kernel
theorem d_Lw_load_2 : decode b_Lw_load 2 = .ok (.iconst 0, 1) := by decide +kernel
theorem d_Lw_load_3 : decode b_Lw_load 3 = .ok (.aload_n 0, 1) := by decide +kernel
theorem d_Lw_load_4 : decode b_Lw_load 4 = .ok (.iload_n 1, 1) := by decide +kernel
theorem d_Lw_load_5 : decode b_Lw_load 5 = .ok (.iload_n 2, 1) := by decide +kernel
theorem d_Lw_load_6 : decode b_Lw_load 6 = .ok (.iload_n 3, 1) := by decide +kernel
theorem d_Lw_load_7 : decode b_Lw_load 7 = .ok (.iload 4, 2) := by decide +kernel
theorem d_Lw_load_9 : decode b_Lw_load 9 = .ok (.invokevirtual 7, 3) := by decide +kernel
theorem d_Lw_load_12 : decode b_Lw_load 12 = .ok (.lastore, 1) := by decide +kernel
theorem d_Lw_load_13 : decode b_Lw_load 13 = .ok (.goto 11, 3) := by decide +kernel
theorem d_Lw_load_16 : decode b_Lw_load 16 = .ok (.astore 6, 2) := by decide +kernel
theorem d_Lw_load_18 : decode b_Lw_load 18 = .ok (.iconst 1, 1) := by decide +kernel
theorem d_Lw_load_19 : decode b_Lw_load 19 = .ok (.ireturn, 1) := by decide +kernel
theorem d_Lw_load_20 : decode b_Lw_load 20 = .ok (.astore 6, 2) := by decide +kernel
theorem d_Lw_load_22 : decode b_Lw_load 22 = .ok (.iconst 2, 1) := by decide +kernel
theorem d_Lw_load_23 : decode b_Lw_load 23 = .ok (.ireturn, 1) := by decide +kernel
theorem d_Lw_load_24 : decode b_Lw_load 24 = .ok (.iconst 0, 1) := by decide +kernel
theorem d_Lw_load_25 : decode b_Lw_load 25 = .ok (.ireturn, 1) := by decide +kernel
theorem d_Lw_store_0 : decode b_Lw_store 0 = .ok (.aload_n 0, 1) := by decide +kernel
theorem d_Lw_store_1 : decode b_Lw_store 1 = .ok (.iload_n 1, 1) := by decide +kernel
theorem d_Lw_store_2 : decode b_Lw_store 2 = .ok (.iload_n 2, 1) := by decide +kernel
theorem d_Lw_store_3 : decode b_Lw_store 3 = .ok (.iload_n 3, 1) := by decide +kernel
theorem d_Lw_store_4 : decode b_Lw_store 4 = .ok (.iload 4, 2) := by decide +kernel
theorem d_Lw_store_6 : decode b_Lw_store 6 = .ok (.lload 5, 2) := by decide +kernel
theorem d_Lw_store_8 : decode b_Lw_store 8 = .ok (.invokevirtual 17, 3) := by decide +kernel
theorem d_Lw_store_11 : decode b_Lw_store 11 = .ok (.goto 11, 3) := by decide +kernel
theorem d_Lw_store_14 : decode b_Lw_store 14 = .ok (.astore 7, 2) := by decide +kernel
theorem d_Lw_store_16 : decode b_Lw_store 16 = .ok (.iconst 1, 1) := by decide +kernel
theorem d_Lw_store_17 : decode b_Lw_store 17 = .ok (.ireturn, 1) := by decide +kernel
theorem d_Lw_store_18 : decode b_Lw_store 18 = .ok (.astore 7, 2) := by decide +kernel
theorem d_Lw_store_20 : decode b_Lw_store 20 = .ok (.iconst 2, 1) := by decide +kernel
theorem d_Lw_store_21 : decode b_Lw_store 21 = .ok (.ireturn, 1) := by decide +kernel
theorem d_Lw_store_22 : decode b_Lw_store 22 = .ok (.iconst 0, 1) := by decide +kernel
theorem d_Lw_store_23 : decode b_Lw_store 23 = .ok (.ireturn, 1) := by decide +kernel
theorem d_Lw_fill_0 : decode b_Lw_fill 0 = .ok (.aload_n 0, 1) := by decide +kernel
theorem d_Lw_fill_1 : decode b_Lw_fill 1 = .ok (.iload_n 1, 1) := by decide +kernel
theorem d_Lw_fill_2 : decode b_Lw_fill 2 = .ok (.iload_n 2, 1) := by decide +kernel
theorem d_Lw_fill_3 : decode b_Lw_fill 3 = .ok (.iload_n 3, 1) := by decide +kernel
theorem d_Lw_fill_4 : decode b_Lw_fill 4 = .ok (.iload 4, 2) := by decide +kernel
theorem d_Lw_fill_6 : decode b_Lw_fill 6 = .ok (.invokevirtual 21, 3) := by decide +kernel
theorem d_Lw_fill_9 : decode b_Lw_fill 9 = .ok (.goto 11, 3) := by decide +kernel
theorem d_Lw_fill_12 : decode b_Lw_fill 12 = .ok (.astore 5, 2) := by decide +kernel
theorem d_Lw_fill_14 : decode b_Lw_fill 14 = .ok (.iconst 1, 1) := by decide +kernel
theorem d_Lw_fill_15 : decode b_Lw_fill 15 = .ok (.ireturn, 1) := by decide +kernel
theorem d_Lw_fill_16 : decode b_Lw_fill 16 = .ok (.astore 5, 2) := by decide +kernel
theorem d_Lw_fill_18 : decode b_Lw_fill 18 = .ok (.iconst 2, 1) := by decide +kernel
theorem d_Lw_fill_19 : decode b_Lw_fill 19 = .ok (.ireturn, 1) := by decide +kernel
theorem d_Lw_fill_20 : decode b_Lw_fill 20 = .ok (.iconst 0, 1) := by decide +kernel
theorem d_Lw_fill_21 : decode b_Lw_fill 21 = .ok (.ireturn, 1) := by decide +kernel
theorem d_Lw_copy_0 : decode b_Lw_copy 0 = .ok (.aload_n 0, 1) := by decide +kernel
theorem d_Lw_copy_1 : decode b_Lw_copy 1 = .ok (.iload_n 1, 1) := by decide +kernel
theorem d_Lw_copy_2 : decode b_Lw_copy 2 = .ok (.iload_n 2, 1) := by decide +kernel
theorem d_Lw_copy_3 : decode b_Lw_copy 3 = .ok (.iload_n 3, 1) := by decide +kernel
theorem d_Lw_copy_4 : decode b_Lw_copy 4 = .ok (.iload 4, 2) := by decide +kernel
theorem d_Lw_copy_6 : decode b_Lw_copy 6 = .ok (.invokevirtual 25, 3) := by decide +kernel
theorem d_Lw_copy_9 : decode b_Lw_copy 9 = .ok (.goto 11, 3) := by decide +kernel
theorem d_Lw_copy_12 : decode b_Lw_copy 12 = .ok (.astore 5, 2) := by decide +kernel
theorem d_Lw_copy_14 : decode b_Lw_copy 14 = .ok (.iconst 1, 1) := by decide +kernel
theorem d_Lw_copy_15 : decode b_Lw_copy 15 = .ok (.ireturn, 1) := by decide +kernel
theorem d_Lw_copy_16 : decode b_Lw_copy 16 = .ok (.astore 5, 2) := by decide +kernel
theorem d_Lw_copy_18 : decode b_Lw_copy 18 = .ok (.iconst 2, 1) := by decide +kernel
theorem d_Lw_copy_19 : decode b_Lw_copy 19 = .ok (.ireturn, 1) := by decide +kernel
theorem d_Lw_copy_20 : decode b_Lw_copy 20 = .ok (.iconst 0, 1) := by decide +kernel
theorem d_Lw_copy_21 : decode b_Lw_copy 21 = .ok (.ireturn, 1) := by decide +kernel
theorem d_Lw_init_0 : decode b_Lw_init 0 = .ok (.aload_n 0, 1) := by decide +kernel
theorem d_Lw_init_1 : decode b_Lw_init 1 = .ok (.iload_n 1, 1) := by decide +kernel
theorem d_Lw_init_2 : decode b_Lw_init 2 = .ok (.iload_n 2, 1) := by decide +kernel
theorem d_Lw_init_3 : decode b_Lw_init 3 = .ok (.iload_n 3, 1) := by decide +kernel
theorem d_Lw_init_4 : decode b_Lw_init 4 = .ok (.iload 4, 2) := by decide +kernel
theorem d_Lw_init_6 : decode b_Lw_init 6 = .ok (.iload 5, 2) := by decide +kernel
theorem d_Lw_init_8 : decode b_Lw_init 8 = .ok (.invokevirtual 28, 3) := by decide +kernel
theorem d_Lw_init_11 : decode b_Lw_init 11 = .ok (.goto 11, 3) := by decide +kernel
theorem d_Lw_init_14 : decode b_Lw_init 14 = .ok (.astore 6, 2) := by decide +kernel
theorem d_Lw_init_16 : decode b_Lw_init 16 = .ok (.iconst 1, 1) := by decide +kernel
theorem d_Lw_init_17 : decode b_Lw_init 17 = .ok (.ireturn, 1) := by decide +kernel
theorem d_Lw_init_18 : decode b_Lw_init 18 = .ok (.astore 6, 2) := by decide +kernel
theorem d_Lw_init_20 : decode b_Lw_init 20 = .ok (.iconst 2, 1) := by decide +kernel
theorem d_Lw_init_21 : decode b_Lw_init 21 = .ok (.ireturn, 1) := by decide +kernel
theorem d_Lw_init_22 : decode b_Lw_init 22 = .ok (.iconst 0, 1) := by decide +kernel
theorem d_Lw_init_23 : decode b_Lw_init 23 = .ok (.ireturn, 1) := by decide +kernel
theorem d_Lw_drop_0 : decode b_Lw_drop 0 = .ok (.aload_n 0, 1) := by decide +kernel
theorem d_Lw_drop_1 : decode b_Lw_drop 1 = .ok (.iload_n 1, 1) := by decide +kernel
theorem d_Lw_drop_2 : decode b_Lw_drop 2 = .ok (.iload_n 2, 1) := by decide +kernel
theorem d_Lw_drop_3 : decode b_Lw_drop 3 = .ok (.invokevirtual 32, 3) := by decide +kernel
theorem d_Lw_drop_6 : decode b_Lw_drop 6 = .ok (.goto 6, 3) := by decide +kernel
theorem d_Lw_drop_9 : decode b_Lw_drop 9 = .ok (.astore_n 3, 1) := by decide +kernel
theorem d_Lw_drop_10 : decode b_Lw_drop 10 = .ok (.iconst 1, 1) := by decide +kernel
theorem d_Lw_drop_11 : decode b_Lw_drop 11 = .ok (.ireturn, 1) := by decide +kernel
theorem d_Lw_drop_12 : decode b_Lw_drop 12 = .ok (.iconst 0, 1) := by decide +kernel
theorem d_Lw_drop_13 : decode b_Lw_drop 13 = .ok (.ireturn, 1) := by decide +kernel
theorem d_Lw_get_0 : decode b_Lw_get 0 = .ok (.aload_n 3, 1) := by decide +kernel
theorem d_Lw_get_1 : decode b_Lw_get 1 = .ok (.iconst 0, 1) := by decide +kernel
theorem d_Lw_get_2 : decode b_Lw_get 2 = .ok (.aload_n 0, 1) := by decide +kernel
theorem d_Lw_get_3 : decode b_Lw_get 3 = .ok (.iload_n 1, 1) := by decide +kernel
theorem d_Lw_get_4 : decode b_Lw_get 4 = .ok (.iload_n 2, 1) := by decide +kernel
theorem d_Lw_get_5 : decode b_Lw_get 5 = .ok (.invokevirtual 36, 3) := by decide +kernel
theorem d_Lw_get_8 : decode b_Lw_get 8 = .ok (.i2l, 1) := by decide +kernel
theorem d_Lw_get_9 : decode b_Lw_get 9 = .ok (.lastore, 1) := by decide +kernel
theorem d_Lw_get_10 : decode b_Lw_get 10 = .ok (.goto 11, 3) := by decide +kernel
theorem d_Lw_get_13 : decode b_Lw_get 13 = .ok (.astore 4, 2) := by decide +kernel
theorem d_Lw_get_15 : decode b_Lw_get 15 = .ok (.iconst 1, 1) := by decide +kernel
theorem d_Lw_get_16 : decode b_Lw_get 16 = .ok (.ireturn, 1) := by decide +kernel
theorem d_Lw_get_17 : decode b_Lw_get 17 = .ok (.astore 4, 2) := by decide +kernel
theorem d_Lw_get_19 : decode b_Lw_get 19 = .ok (.iconst 2, 1) := by decide +kernel
theorem d_Lw_get_20 : decode b_Lw_get 20 = .ok (.ireturn, 1) := by decide +kernel
theorem d_Lw_get_21 : decode b_Lw_get 21 = .ok (.iconst 0, 1) := by decide +kernel
theorem d_Lw_get_22 : decode b_Lw_get 22 = .ok (.ireturn, 1) := by decide +kernel
theorem d_Lw_set_0 : decode b_Lw_set 0 = .ok (.aload_n 0, 1) := by decide +kernel
theorem d_Lw_set_1 : decode b_Lw_set 1 = .ok (.iload_n 1, 1) := by decide +kernel
theorem d_Lw_set_2 : decode b_Lw_set 2 = .ok (.iload_n 2, 1) := by decide +kernel
theorem d_Lw_set_3 : decode b_Lw_set 3 = .ok (.iload_n 3, 1) := by decide +kernel
theorem d_Lw_set_4 : decode b_Lw_set 4 = .ok (.invokevirtual 40, 3) := by decide +kernel
theorem d_Lw_set_7 : decode b_Lw_set 7 = .ok (.goto 11, 3) := by decide +kernel
theorem d_Lw_set_10 : decode b_Lw_set 10 = .ok (.astore 4, 2) := by decide +kernel
theorem d_Lw_set_12 : decode b_Lw_set 12 = .ok (.iconst 1, 1) := by decide +kernel
theorem d_Lw_set_13 : decode b_Lw_set 13 = .ok (.ireturn, 1) := by decide +kernel
theorem d_Lw_set_14 : decode b_Lw_set 14 = .ok (.astore 4, 2) := by decide +kernel
theorem d_Lw_set_16 : decode b_Lw_set 16 = .ok (.iconst 2, 1) := by decide +kernel
theorem d_Lw_set_17 : decode b_Lw_set 17 = .ok (.ireturn, 1) := by decide +kernel
theorem d_Lw_set_18 : decode b_Lw_set 18 = .ok (.iconst 0, 1) := by decide +kernel
theorem d_Lw_set_19 : decode b_Lw_set 19 = .ok (.ireturn, 1) := by decide +kernel
theorem d_Lw_fillTable_0 : decode b_Lw_fillTable 0 = .ok (.aload_n 0, 1) := by decide +kernel
theorem d_Lw_fillTable_1 : decode b_Lw_fillTable 1 = .ok (.iload_n 1, 1) := by decide +kernel
theorem d_Lw_fillTable_2 : decode b_Lw_fillTable 2 = .ok (.iload_n 2, 1) := by decide +kernel
theorem d_Lw_fillTable_3 : decode b_Lw_fillTable 3 = .ok (.iload_n 3, 1) := by decide +kernel
theorem d_Lw_fillTable_4 : decode b_Lw_fillTable 4 = .ok (.iload 4, 2) := by decide +kernel
theorem d_Lw_fillTable_6 : decode b_Lw_fillTable 6 = .ok (.invokevirtual 44, 3) := by decide +kernel
theorem d_Lw_fillTable_9 : decode b_Lw_fillTable 9 = .ok (.goto 11, 3) := by decide +kernel
theorem d_Lw_fillTable_12 : decode b_Lw_fillTable 12 = .ok (.astore 5, 2) := by decide +kernel
theorem d_Lw_fillTable_14 : decode b_Lw_fillTable 14 = .ok (.iconst 1, 1) := by decide +kernel
theorem d_Lw_fillTable_15 : decode b_Lw_fillTable 15 = .ok (.ireturn, 1) := by decide +kernel
theorem d_Lw_fillTable_16 : decode b_Lw_fillTable 16 = .ok (.astore 5, 2) := by decide +kernel
theorem d_Lw_fillTable_18 : decode b_Lw_fillTable 18 = .ok (.iconst 2, 1) := by decide +kernel
theorem d_Lw_fillTable_19 : decode b_Lw_fillTable 19 = .ok (.ireturn, 1) := by decide +kernel
theorem d_Lw_fillTable_20 : decode b_Lw_fillTable 20 = .ok (.iconst 0, 1) := by decide +kernel
theorem d_Lw_fillTable_21 : decode b_Lw_fillTable 21 = .ok (.ireturn, 1) := by decide +kernel
theorem d_Lw_copyTable_0 : decode b_Lw_copyTable 0 = .ok (.aload_n 0, 1) := by decide +kernel
theorem d_Lw_copyTable_1 : decode b_Lw_copyTable 1 = .ok (.iload_n 1, 1) := by decide +kernel
theorem d_Lw_copyTable_2 : decode b_Lw_copyTable 2 = .ok (.iload_n 2, 1) := by decide +kernel
theorem d_Lw_copyTable_3 : decode b_Lw_copyTable 3 = .ok (.iload_n 3, 1) := by decide +kernel
theorem d_Lw_copyTable_4 : decode b_Lw_copyTable 4 = .ok (.iload 4, 2) := by decide +kernel
theorem d_Lw_copyTable_6 : decode b_Lw_copyTable 6 = .ok (.iload 5, 2) := by decide +kernel
theorem d_Lw_copyTable_8 : decode b_Lw_copyTable 8 = .ok (.invokevirtual 47, 3) := by decide +kernel
theorem d_Lw_copyTable_11 : decode b_Lw_copyTable 11 = .ok (.goto 11, 3) := by decide +kernel
theorem d_Lw_copyTable_14 : decode b_Lw_copyTable 14 = .ok (.astore 6, 2) := by decide +kernel
theorem d_Lw_copyTable_16 : decode b_Lw_copyTable 16 = .ok (.iconst 1, 1) := by decide +kernel
theorem d_Lw_copyTable_17 : decode b_Lw_copyTable 17 = .ok (.ireturn, 1) := by decide +kernel
theorem d_Lw_copyTable_18 : decode b_Lw_copyTable 18 = .ok (.astore 6, 2) := by decide +kernel
theorem d_Lw_copyTable_20 : decode b_Lw_copyTable 20 = .ok (.iconst 2, 1) := by decide +kernel
theorem d_Lw_copyTable_21 : decode b_Lw_copyTable 21 = .ok (.ireturn, 1) := by decide +kernel
theorem d_Lw_copyTable_22 : decode b_Lw_copyTable 22 = .ok (.iconst 0, 1) := by decide +kernel
theorem d_Lw_copyTable_23 : decode b_Lw_copyTable 23 = .ok (.ireturn, 1) := by decide +kernel
theorem d_Lw_initTable_0 : decode b_Lw_initTable 0 = .ok (.aload_n 0, 1) := by decide +kernel
theorem d_Lw_initTable_1 : decode b_Lw_initTable 1 = .ok (.iload_n 1, 1) := by decide +kernel
theorem d_Lw_initTable_2 : decode b_Lw_initTable 2 = .ok (.iload_n 2, 1) := by decide +kernel
theorem d_Lw_initTable_3 : decode b_Lw_initTable 3 = .ok (.iload_n 3, 1) := by decide +kernel
theorem d_Lw_initTable_4 : decode b_Lw_initTable 4 = .ok (.iload 4, 2) := by decide +kernel
theorem d_Lw_initTable_6 : decode b_Lw_initTable 6 = .ok (.iload 5, 2) := by decide +kernel
theorem d_Lw_initTable_8 : decode b_Lw_initTable 8 = .ok (.invokevirtual 50, 3) := by decide +kernel
theorem d_Lw_initTable_11 : decode b_Lw_initTable 11 = .ok (.goto 11, 3) := by decide +kernel
theorem d_Lw_initTable_14 : decode b_Lw_initTable 14 = .ok (.astore 6, 2) := by decide +kernel
theorem d_Lw_initTable_16 : decode b_Lw_initTable 16 = .ok (.iconst 1, 1) := by decide +kernel
theorem d_Lw_initTable_17 : decode b_Lw_initTable 17 = .ok (.ireturn, 1) := by decide +kernel
theorem d_Lw_initTable_18 : decode b_Lw_initTable 18 = .ok (.astore 6, 2) := by decide +kernel
theorem d_Lw_initTable_20 : decode b_Lw_initTable 20 = .ok (.iconst 2, 1) := by decide +kernel
theorem d_Lw_initTable_21 : decode b_Lw_initTable 21 = .ok (.ireturn, 1) := by decide +kernel
theorem d_Lw_initTable_22 : decode b_Lw_initTable 22 = .ok (.iconst 0, 1) := by decide +kernel
theorem d_Lw_initTable_23 : decode b_Lw_initTable 23 = .ok (.ireturn, 1) := by decide +kernel
