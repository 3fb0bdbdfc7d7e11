theorem d_Ly_new_0 : decode b_Ly_new 0 = .ok (.aload_n 0, 1) := by decide +kernel
theorem d_Ly_new_1 : decode b_Ly_new 1 = .ok (.invokespecial 3, 3) := by decide +kernel
theorem d_Ly_new_4 : decode b_Ly_new 4 = .ok (.aload_n 0, 1) := by decide +kernel
theorem d_Ly_new_5 : decode b_Ly_new 5 = .ok (.iload_n 2, 1) := by decide +kernel
theorem d_Ly_new_6 : decode b_Ly_new 6 = .ok (.putfield 9, 3) := by decide +kernel
theorem d_Ly_new_9 : decode b_Ly_new 9 = .ok (.aload_n 0, 1) := by decide +kernel
theorem d_Ly_new_10 : decode b_Ly_new 10 = .ok (.iload_n 1, 1) := by decide +kernel
theorem d_Ly_new_11 : decode b_Ly_new 11 = .ok (.newarray .int, 2) := by decide +kernel
theorem d_Ly_new_13 : decode b_Ly_new 13 = .ok (.putfield 15, 3) := by decide +kernel
theorem d_Ly_new_16 : decode b_Ly_new 16 = .ok (.aload_n 0, 1) := by decide +kernel
theorem d_Ly_new_17 : decode b_Ly_new 17 = .ok (.iload_n 1, 1) := by decide +kernel
theorem d_Ly_new_18 : decode b_Ly_new 18 = .ok (.newarray .int, 2) := by decide +kernel
theorem d_Ly_new_20 : decode b_Ly_new 20 = .ok (.putfield 19, 3) := by decide +kernel
theorem d_Ly_new_23 : decode b_Ly_new 23 = .ok (.aload_n 0, 1) := by decide +kernel
theorem d_Ly_new_24 : decode b_Ly_new 24 = .ok (.iload_n 1, 1) := by decide +kernel
theorem d_Ly_new_25 : decode b_Ly_new 25 = .ok (.newarray .boolean, 2) := by decide +kernel
theorem d_Ly_new_27 : decode b_Ly_new 27 = .ok (.putfield 22, 3) := by decide +kernel
theorem d_Ly_new_30 : decode b_Ly_new 30 = .ok (.aload_n 0, 1) := by decide +kernel
theorem d_Ly_new_31 : decode b_Ly_new 31 = .ok (.iconst 0, 1) := by decide +kernel
theorem d_Ly_new_32 : decode b_Ly_new 32 = .ok (.putfield 26, 3) := by decide +kernel
theorem d_Ly_new_35 : decode b_Ly_new 35 = .ok (.aload_n 0, 1) := by decide +kernel
theorem d_Ly_new_36 : decode b_Ly_new 36 = .ok (.iconst 0, 1) := by decide +kernel
theorem d_Ly_new_37 : decode b_Ly_new 37 = .ok (.putfield 29, 3) := by decide +kernel
theorem d_Ly_new_40 : decode b_Ly_new 40 = .ok (.return_, 1) := by decide +kernel
theorem d_Ly_isFull_0 : decode b_Ly_isFull 0 = .ok (.aload_n 0, 1) := by decide +kernel
theorem d_Ly_isFull_1 : decode b_Ly_isFull 1 = .ok (.getfield 26, 3) := by decide +kernel
theorem d_Ly_isFull_4 : decode b_Ly_isFull 4 = .ok (.aload_n 0, 1) := by decide +kernel
theorem d_Ly_isFull_5 : decode b_Ly_isFull 5 = .ok (.getfield 15, 3) := by decide +kernel
theorem d_Ly_isFull_8 : decode b_Ly_isFull 8 = .ok (.arraylength, 1) := by decide +kernel
theorem d_Ly_isFull_9 : decode b_Ly_isFull 9 = .ok (.if_icmp .lt 7, 3) := by decide +kernel
theorem d_Ly_isFull_12 : decode b_Ly_isFull 12 = .ok (.iconst 1, 1) := by decide +kernel
theorem d_Ly_isFull_13 : decode b_Ly_isFull 13 = .ok (.goto 4, 3) := by decide +kernel
theorem d_Ly_isFull_16 : decode b_Ly_isFull 16 = .ok (.iconst 0, 1) := by decide +kernel
theorem d_Ly_isFull_17 : decode b_Ly_isFull 17 = .ok (.ireturn, 1) := by decide +kernel
theorem d_Ly_left_0 : decode b_Ly_left 0 = .ok (.aload_n 0, 1) := by decide +kernel
theorem d_Ly_left_1 : decode b_Ly_left 1 = .ok (.getfield 9, 3) := by decide +kernel
theorem d_Ly_left_4 : decode b_Ly_left 4 = .ok (.aload_n 0, 1) := by decide +kernel
theorem d_Ly_left_5 : decode b_Ly_left 5 = .ok (.getfield 29, 3) := by decide +kernel
theorem d_Ly_left_8 : decode b_Ly_left 8 = .ok (.isub, 1) := by decide +kernel
theorem d_Ly_left_9 : decode b_Ly_left 9 = .ok (.ireturn, 1) := by decide +kernel
theorem d_Ly_append_0 : decode b_Ly_append 0 = .ok (.aload_n 0, 1) := by decide +kernel
theorem d_Ly_append_1 : decode b_Ly_append 1 = .ok (.invokevirtual 36, 3) := by decide +kernel
theorem d_Ly_append_4 : decode b_Ly_append 4 = .ok (.ifCond .eq 5, 3) := by decide +kernel
theorem d_Ly_append_7 : decode b_Ly_append 7 = .ok (.iconst (-1), 1) := by decide +kernel
theorem d_Ly_append_8 : decode b_Ly_append 8 = .ok (.ireturn, 1) := by decide +kernel
theorem d_Ly_append_9 : decode b_Ly_append 9 = .ok (.aload_n 0, 1) := by decide +kernel
theorem d_Ly_append_10 : decode b_Ly_append 10 = .ok (.getfield 15, 3) := by decide +kernel
theorem d_Ly_append_13 : decode b_Ly_append 13 = .ok (.aload_n 0, 1) := by decide +kernel
theorem d_Ly_append_14 : decode b_Ly_append 14 = .ok (.getfield 26, 3) := by decide +kernel
theorem d_Ly_append_17 : decode b_Ly_append 17 = .ok (.aload_n 0, 1) := by decide +kernel
theorem d_Ly_append_18 : decode b_Ly_append 18 = .ok (.getfield 29, 3) := by decide +kernel
theorem d_Ly_append_21 : decode b_Ly_append 21 = .ok (.iastore, 1) := by decide +kernel
theorem d_Ly_append_22 : decode b_Ly_append 22 = .ok (.aload_n 0, 1) := by decide +kernel
theorem d_Ly_append_23 : decode b_Ly_append 23 = .ok (.getfield 19, 3) := by decide +kernel
theorem d_Ly_append_26 : decode b_Ly_append 26 = .ok (.aload_n 0, 1) := by decide +kernel
theorem d_Ly_append_27 : decode b_Ly_append 27 = .ok (.getfield 26, 3) := by decide +kernel
theorem d_Ly_append_30 : decode b_Ly_append 30 = .ok (.iload_n 1, 1) := by decide +kernel
theorem d_Ly_append_31 : decode b_Ly_append 31 = .ok (.iastore, 1) := by decide +kernel
theorem d_Ly_append_32 : decode b_Ly_append 32 = .ok (.aload_n 0, 1) := by decide +kernel
theorem d_Ly_append_33 : decode b_Ly_append 33 = .ok (.dup, 1) := by decide +kernel
theorem d_Ly_append_34 : decode b_Ly_append 34 = .ok (.getfield 29, 3) := by decide +kernel
theorem d_Ly_append_37 : decode b_Ly_append 37 = .ok (.iload_n 1, 1) := by decide +kernel
theorem d_Ly_append_38 : decode b_Ly_append 38 = .ok (.iadd, 1) := by decide +kernel
theorem d_Ly_append_39 : decode b_Ly_append 39 = .ok (.putfield 29, 3) := by decide +kernel
theorem d_Ly_append_42 : decode b_Ly_append 42 = .ok (.aload_n 0, 1) := by decide +kernel
theorem d_Ly_append_43 : decode b_Ly_append 43 = .ok (.dup, 1) := by decide +kernel
theorem d_Ly_append_44 : decode b_Ly_append 44 = .ok (.getfield 26, 3) := by decide +kernel
theorem d_Ly_append_47 : decode b_Ly_append 47 = .ok (.iconst 1, 1) := by decide +kernel
theorem d_Ly_append_48 : decode b_Ly_append 48 = .ok (.iadd, 1) := by decide +kernel
theorem d_Ly_append_49 : decode b_Ly_append 49 = .ok (.putfield 26, 3) := by decide +kernel
theorem d_Ly_append_52 : decode b_Ly_append 52 = .ok (.aload_n 0, 1) := by decide +kernel
theorem d_Ly_append_53 : decode b_Ly_append 53 = .ok (.getfield 26, 3) := by decide +kernel
theorem d_Ly_append_56 : decode b_Ly_append 56 = .ok (.iconst 1, 1) := by decide +kernel
theorem d_Ly_append_57 : decode b_Ly_append 57 = .ok (.isub, 1) := by decide +kernel
theorem d_Ly_append_58 : decode b_Ly_append 58 = .ok (.ireturn, 1) := by decide +kernel
theorem d_Ly_has_0 : decode b_Ly_has 0 = .ok (.iload_n 1, 1) := by decide +kernel
theorem d_Ly_has_1 : decode b_Ly_has 1 = .ok (.ifCond .lt 15, 3) := by decide +kernel
theorem d_Ly_has_4 : decode b_Ly_has 4 = .ok (.iload_n 1, 1) := by decide +kernel
theorem d_Ly_has_5 : decode b_Ly_has 5 = .ok (.aload_n 0, 1) := by decide +kernel
theorem d_Ly_has_6 : decode b_Ly_has 6 = .ok (.getfield 26, 3) := by decide +kernel
theorem d_Ly_has_9 : decode b_Ly_has 9 = .ok (.if_icmp .ge 7, 3) := by decide +kernel
theorem d_Ly_has_12 : decode b_Ly_has 12 = .ok (.iconst 1, 1) := by decide +kernel
theorem d_Ly_has_13 : decode b_Ly_has 13 = .ok (.goto 4, 3) := by decide +kernel
theorem d_Ly_has_16 : decode b_Ly_has 16 = .ok (.iconst 0, 1) := by decide +kernel
theorem d_Ly_has_17 : decode b_Ly_has 17 = .ok (.ireturn, 1) := by decide +kernel
theorem d_Ly_lengthOf_0 : decode b_Ly_lengthOf 0 = .ok (.aload_n 0, 1) := by decide +kernel
theorem d_Ly_lengthOf_1 : decode b_Ly_lengthOf 1 = .ok (.iload_n 1, 1) := by decide +kernel
theorem d_Ly_lengthOf_2 : decode b_Ly_lengthOf 2 = .ok (.invokevirtual 32, 3) := by decide +kernel
theorem d_Ly_lengthOf_5 : decode b_Ly_lengthOf 5 = .ok (.ifCond .eq 12, 3) := by decide +kernel
theorem d_Ly_lengthOf_8 : decode b_Ly_lengthOf 8 = .ok (.aload_n 0, 1) := by decide +kernel
theorem d_Ly_lengthOf_9 : decode b_Ly_lengthOf 9 = .ok (.getfield 19, 3) := by decide +kernel
theorem d_Ly_lengthOf_12 : decode b_Ly_lengthOf 12 = .ok (.iload_n 1, 1) := by decide +kernel
theorem d_Ly_lengthOf_13 : decode b_Ly_lengthOf 13 = .ok (.iaload, 1) := by decide +kernel
theorem d_Ly_lengthOf_14 : decode b_Ly_lengthOf 14 = .ok (.goto 4, 3) := by decide +kernel
theorem d_Ly_lengthOf_17 : decode b_Ly_lengthOf 17 = .ok (.iconst (-1), 1) := by decide +kernel
theorem d_Ly_lengthOf_18 : decode b_Ly_lengthOf 18 = .ok (.ireturn, 1) := by decide +kernel
theorem d_Ly_endOf_0 : decode b_Ly_endOf 0 = .ok (.aload_n 0, 1) := by decide +kernel
theorem d_Ly_endOf_1 : decode b_Ly_endOf 1 = .ok (.iload_n 1, 1) := by decide +kernel
theorem d_Ly_endOf_2 : decode b_Ly_endOf 2 = .ok (.invokevirtual 32, 3) := by decide +kernel
theorem d_Ly_endOf_5 : decode b_Ly_endOf 5 = .ok (.ifCond .eq 19, 3) := by decide +kernel
theorem d_Ly_endOf_8 : decode b_Ly_endOf 8 = .ok (.aload_n 0, 1) := by decide +kernel
theorem d_Ly_endOf_9 : decode b_Ly_endOf 9 = .ok (.getfield 15, 3) := by decide +kernel
theorem d_Ly_endOf_12 : decode b_Ly_endOf 12 = .ok (.iload_n 1, 1) := by decide +kernel
theorem d_Ly_endOf_13 : decode b_Ly_endOf 13 = .ok (.iaload, 1) := by decide +kernel
theorem d_Ly_endOf_14 : decode b_Ly_endOf 14 = .ok (.aload_n 0, 1) := by decide +kernel
theorem d_Ly_endOf_15 : decode b_Ly_endOf 15 = .ok (.getfield 19, 3) := by decide +kernel
theorem d_Ly_endOf_18 : decode b_Ly_endOf 18 = .ok (.iload_n 1, 1) := by decide +kernel
theorem d_Ly_endOf_19 : decode b_Ly_endOf 19 = .ok (.iaload, 1) := by decide +kernel
theorem d_Ly_endOf_20 : decode b_Ly_endOf 20 = .ok (.iadd, 1) := by decide +kernel
theorem d_Ly_endOf_21 : decode b_Ly_endOf 21 = .ok (.goto 7, 3) := by decide +kernel
theorem d_Ly_endOf_24 : decode b_Ly_endOf 24 = .ok (.aload_n 0, 1) := by decide +kernel
theorem d_Ly_endOf_25 : decode b_Ly_endOf 25 = .ok (.getfield 29, 3) := by decide +kernel
theorem d_Ly_endOf_28 : decode b_Ly_endOf 28 = .ok (.ireturn, 1) := by decide +kernel
theorem d_Ly_used_0 : decode b_Ly_used 0 = .ok (.aload_n 0, 1) := by decide +kernel
theorem d_Ly_used_1 : decode b_Ly_used 1 = .ok (.getfield 29, 3) := by decide +kernel
theorem d_Ly_used_4 : decode b_Ly_used 4 = .ok (.ireturn, 1) := by decide +kernel
theorem d_Ly_widen_0 : decode b_Ly_widen 0 = .ok (.aload_n 0, 1) := by decide +kernel
theorem d_Ly_widen_1 : decode b_Ly_widen 1 = .ok (.iload_n 1, 1) := by decide +kernel
theorem d_Ly_widen_2 : decode b_Ly_widen 2 = .ok (.invokevirtual 32, 3) := by decide +kernel
theorem d_Ly_widen_5 : decode b_Ly_widen 5 = .ok (.ifCond .ne 4, 3) := by decide +kernel
theorem d_Ly_widen_8 : decode b_Ly_widen 8 = .ok (.return_, 1) := by decide +kernel
theorem d_Ly_widen_9 : decode b_Ly_widen 9 = .ok (.aload_n 0, 1) := by decide +kernel
theorem d_Ly_widen_10 : decode b_Ly_widen 10 = .ok (.getfield 19, 3) := by decide +kernel
theorem d_Ly_widen_13 : decode b_Ly_widen 13 = .ok (.iload_n 1, 1) := by decide +kernel
theorem d_Ly_widen_14 : decode b_Ly_widen 14 = .ok (.dup2, 1) := by decide +kernel
theorem d_Ly_widen_15 : decode b_Ly_widen 15 = .ok (.iaload, 1) := by decide +kernel
theorem d_Ly_widen_16 : decode b_Ly_widen 16 = .ok (.iload_n 2, 1) := by decide +kernel
theorem d_Ly_widen_17 : decode b_Ly_widen 17 = .ok (.iadd, 1) := by decide +kernel
theorem d_Ly_widen_18 : decode b_Ly_widen 18 = .ok (.iastore, 1) := by decide +kernel
theorem d_Ly_widen_19 : decode b_Ly_widen 19 = .ok (.iload_n 1, 1) := by decide +kernel
theorem d_Ly_widen_20 : decode b_Ly_widen 20 = .ok (.iconst 1, 1) := by decide +kernel
theorem d_Ly_widen_21 : decode b_Ly_widen 21 = .ok (.iadd, 1) := by decide +kernel
theorem d_Ly_widen_22 : decode b_Ly_widen 22 = .ok (.istore_n 3, 1) := by decide +kernel
theorem d_Ly_widen_23 : decode b_Ly_widen 23 = .ok (.iload_n 3, 1) := by decide +kernel
theorem d_Ly_widen_24 : decode b_Ly_widen 24 = .ok (.aload_n 0, 1) := by decide +kernel
theorem d_Ly_widen_25 : decode b_Ly_widen 25 = .ok (.getfield 26, 3) := by decide +kernel
theorem d_Ly_widen_28 : decode b_Ly_widen 28 = .ok (.if_icmp .ge 19, 3) := by decide +kernel
theorem d_Ly_widen_31 : decode b_Ly_widen 31 = .ok (.aload_n 0, 1) := by decide +kernel
theorem d_Ly_widen_32 : decode b_Ly_widen 32 = .ok (.getfield 15, 3) := by decide +kernel
theorem d_Ly_widen_35 : decode b_Ly_widen 35 = .ok (.iload_n 3, 1) := by decide +kernel
theorem d_Ly_widen_36 : decode b_Ly_widen 36 = .ok (.dup2, 1) := by decide +kernel
theorem d_Ly_widen_37 : decode b_Ly_widen 37 = .ok (.iaload, 1) := by decide +kernel
theorem d_Ly_widen_38 : decode b_Ly_widen 38 = .ok (.iload_n 2, 1) := by decide +kernel
theorem d_Ly_widen_39 : decode b_Ly_widen 39 = .ok (.iadd, 1) := by decide +kernel
theorem d_Ly_widen_40 : decode b_Ly_widen 40 = .ok (.iastore, 1) := by decide +kernel
theorem d_Ly_widen_41 : decode b_Ly_widen 41 = .ok (.iinc 3 1, 3) := by decide +kernel
theorem d_Ly_widen_44 : decode b_Ly_widen 44 = .ok (.goto (-21), 3) := by decide +kernel
theorem d_Ly_widen_47 : decode b_Ly_widen 47 = .ok (.aload_n 0, 1) := by decide +kernel
theorem d_Ly_widen_48 : decode b_Ly_widen 48 = .ok (.dup, 1) := by decide +kernel
theorem d_Ly_widen_49 : decode b_Ly_widen 49 = .ok (.getfield 29, 3) := by decide +kernel
theorem d_Ly_widen_52 : decode b_Ly_widen 52 = .ok (.iload_n 2, 1) := by decide +kernel
theorem d_Ly_widen_53 : decode b_Ly_widen 53 = .ok (.iadd, 1) := by decide +kernel
theorem d_Ly_widen_54 : decode b_Ly_widen 54 = .ok (.putfield 29, 3) := by decide +kernel
theorem d_Ly_widen_57 : decode b_Ly_widen 57 = .ok (.return_, 1) := by decide +kernel
theorem d_Ly_canTake_0 : decode b_Ly_canTake 0 = .ok (.iload_n 2, 1) := by decide +kernel
theorem d_Ly_canTake_1 : decode b_Ly_canTake 1 = .ok (.ifCond .eq 32, 3) := by decide +kernel
theorem d_Ly_canTake_4 : decode b_Ly_canTake 4 = .ok (.aload_n 0, 1) := by decide +kernel
theorem d_Ly_canTake_5 : decode b_Ly_canTake 5 = .ok (.getfield 26, 3) := by decide +kernel
theorem d_Ly_canTake_8 : decode b_Ly_canTake 8 = .ok (.ifCond .le 21, 3) := by decide +kernel
theorem d_Ly_canTake_11 : decode b_Ly_canTake 11 = .ok (.aload_n 0, 1) := by decide +kernel
theorem d_Ly_canTake_12 : decode b_Ly_canTake 12 = .ok (.getfield 22, 3) := by decide +kernel
theorem d_Ly_canTake_15 : decode b_Ly_canTake 15 = .ok (.aload_n 0, 1) := by decide +kernel
theorem d_Ly_canTake_16 : decode b_Ly_canTake 16 = .ok (.getfield 26, 3) := by decide +kernel
theorem d_Ly_canTake_19 : decode b_Ly_canTake 19 = .ok (.iconst 1, 1) := by decide +kernel
theorem d_Ly_canTake_20 : decode b_Ly_canTake 20 = .ok (.isub, 1) := by decide +kernel
theorem d_Ly_canTake_21 : decode b_Ly_canTake 21 = .ok (.baload, 1) := by decide +kernel
theorem d_Ly_canTake_22 : decode b_Ly_canTake 22 = .ok (.ifCond .ne 7, 3) := by decide +kernel
theorem d_Ly_canTake_25 : decode b_Ly_canTake 25 = .ok (.iconst 1, 1) := by decide +kernel
theorem d_Ly_canTake_26 : decode b_Ly_canTake 26 = .ok (.goto 19, 3) := by decide +kernel
theorem d_Ly_canTake_29 : decode b_Ly_canTake 29 = .ok (.iconst 0, 1) := by decide +kernel
theorem d_Ly_canTake_30 : decode b_Ly_canTake 30 = .ok (.goto 15, 3) := by decide +kernel
theorem d_Ly_canTake_33 : decode b_Ly_canTake 33 = .ok (.aload_n 0, 1) := by decide +kernel
theorem d_Ly_canTake_34 : decode b_Ly_canTake 34 = .ok (.invokevirtual 36, 3) := by decide +kernel
theorem d_Ly_canTake_37 : decode b_Ly_canTake 37 = .ok (.ifCond .ne 7, 3) := by decide +kernel
theorem d_Ly_canTake_40 : decode b_Ly_canTake 40 = .ok (.iconst 1, 1) := by decide +kernel
theorem d_Ly_canTake_41 : decode b_Ly_canTake 41 = .ok (.goto 4, 3) := by decide +kernel
theorem d_Ly_canTake_44 : decode b_Ly_canTake 44 = .ok (.iconst 0, 1) := by decide +kernel
theorem d_Ly_canTake_45 : decode b_Ly_canTake 45 = .ok (.istore_n 3, 1) := by decide +kernel
theorem d_Ly_canTake_46 : decode b_Ly_canTake 46 = .ok (.iload_n 3, 1) := by decide +kernel
theorem d_Ly_canTake_47 : decode b_Ly_canTake 47 = .ok (.ifCond .eq 15, 3) := by decide +kernel
theorem d_Ly_canTake_50 : decode b_Ly_canTake 50 = .ok (.iload_n 1, 1) := by decide +kernel
theorem d_Ly_canTake_51 : decode b_Ly_canTake 51 = .ok (.aload_n 0, 1) := by decide +kernel
theorem d_Ly_canTake_52 : decode b_Ly_canTake 52 = .ok (.invokevirtual 40, 3) := by decide +kernel
theorem d_Ly_canTake_55 : decode b_Ly_canTake 55 = .ok (.if_icmp .gt 7, 3) := by decide +kernel
theorem d_Ly_canTake_58 : decode b_Ly_canTake 58 = .ok (.iconst 1, 1) := by decide +kernel
theorem d_Ly_canTake_59 : decode b_Ly_canTake 59 = .ok (.goto 4, 3) := by decide +kernel
theorem d_Ly_canTake_62 : decode b_Ly_canTake 62 = .ok (.iconst 0, 1) := by decide +kernel
theorem d_Ly_canTake_63 : decode b_Ly_canTake 63 = .ok (.ireturn, 1) := by decide +kernel
theorem d_Ly_take_0 : decode b_Ly_take 0 = .ok (.iload_n 2, 1) := by decide +kernel
theorem d_Ly_take_1 : decode b_Ly_take 1 = .ok (.ifCond .ne 9, 3) := by decide +kernel
theorem d_Ly_take_4 : decode b_Ly_take 4 = .ok (.aload_n 0, 1) := by decide +kernel
theorem d_Ly_take_5 : decode b_Ly_take 5 = .ok (.iload_n 1, 1) := by decide +kernel
theorem d_Ly_take_6 : decode b_Ly_take 6 = .ok (.invokevirtual 44, 3) := by decide +kernel
theorem d_Ly_take_9 : decode b_Ly_take 9 = .ok (.ireturn, 1) := by decide +kernel
theorem d_Ly_take_10 : decode b_Ly_take 10 = .ok (.aload_n 0, 1) := by decide +kernel
theorem d_Ly_take_11 : decode b_Ly_take 11 = .ok (.aload_n 0, 1) := by decide +kernel
theorem d_Ly_take_12 : decode b_Ly_take 12 = .ok (.getfield 26, 3) := by decide +kernel
theorem d_Ly_take_15 : decode b_Ly_take 15 = .ok (.iconst 1, 1) := by decide +kernel
theorem d_Ly_take_16 : decode b_Ly_take 16 = .ok (.isub, 1) := by decide +kernel
theorem d_Ly_take_17 : decode b_Ly_take 17 = .ok (.iload_n 1, 1) := by decide +kernel
theorem d_Ly_take_18 : decode b_Ly_take 18 = .ok (.invokevirtual 48, 3) := by decide +kernel
theorem d_Ly_take_21 : decode b_Ly_take 21 = .ok (.aload_n 0, 1) := by decide +kernel
theorem d_Ly_take_22 : decode b_Ly_take 22 = .ok (.getfield 26, 3) := by decide +kernel
theorem d_Ly_take_25 : decode b_Ly_take 25 = .ok (.iconst 1, 1) := by decide +kernel
theorem d_Ly_take_26 : decode b_Ly_take 26 = .ok (.isub, 1) := by decide +kernel
theorem d_Ly_take_27 : decode b_Ly_take 27 = .ok (.ireturn, 1) := by decide +kernel
theorem d_Ly_count_0 : decode b_Ly_count 0 = .ok (.aload_n 0, 1) := by decide +kernel
theorem d_Ly_count_1 : decode b_Ly_count 1 = .ok (.getfield 26, 3) := by decide +kernel
theorem d_Ly_count_4 : decode b_Ly_count 4 = .ok (.ireturn, 1) := by decide +kernel
theorem d_Ly_startOf_0 : decode b_Ly_startOf 0 = .ok (.aload_n 0, 1) := by decide +kernel
theorem d_Ly_startOf_1 : decode b_Ly_startOf 1 = .ok (.iload_n 1, 1) := by decide +kernel
theorem d_Ly_startOf_2 : decode b_Ly_startOf 2 = .ok (.invokevirtual 32, 3) := by decide +kernel
theorem d_Ly_startOf_5 : decode b_Ly_startOf 5 = .ok (.ifCond .eq 12, 3) := by decide +kernel
theorem d_Ly_startOf_8 : decode b_Ly_startOf 8 = .ok (.aload_n 0, 1) := by decide +kernel
theorem d_Ly_startOf_9 : decode b_Ly_startOf 9 = .ok (.getfield 15, 3) := by decide +kernel
theorem d_Ly_startOf_12 : decode b_Ly_startOf 12 = .ok (.iload_n 1, 1) := by decide +kernel
theorem d_Ly_startOf_13 : decode b_Ly_startOf 13 = .ok (.iaload, 1) := by decide +kernel
theorem d_Ly_startOf_14 : decode b_Ly_startOf 14 = .ok (.goto 4, 3) := by decide +kernel
theorem d_Ly_startOf_17 : decode b_Ly_startOf 17 = .ok (.iconst 0, 1) := by decide +kernel
theorem d_Ly_startOf_18 : decode b_Ly_startOf 18 = .ok (.ireturn, 1) := by decide +kernel
theorem d_Ly_giveUp_0 : decode b_Ly_giveUp 0 = .ok (.aload_n 0, 1) := by decide +kernel
theorem d_Ly_giveUp_1 : decode b_Ly_giveUp 1 = .ok (.iload_n 1, 1) := by decide +kernel
theorem d_Ly_giveUp_2 : decode b_Ly_giveUp 2 = .ok (.invokevirtual 32, 3) := by decide +kernel
theorem d_Ly_giveUp_5 : decode b_Ly_giveUp 5 = .ok (.ifCond .eq 17, 3) := by decide +kernel
theorem d_Ly_giveUp_8 : decode b_Ly_giveUp 8 = .ok (.aload_n 0, 1) := by decide +kernel
theorem d_Ly_giveUp_9 : decode b_Ly_giveUp 9 = .ok (.getfield 19, 3) := by decide +kernel
theorem d_Ly_giveUp_12 : decode b_Ly_giveUp 12 = .ok (.iload_n 1, 1) := by decide +kernel
theorem d_Ly_giveUp_13 : decode b_Ly_giveUp 13 = .ok (.iconst 0, 1) := by decide +kernel
theorem d_Ly_giveUp_14 : decode b_Ly_giveUp 14 = .ok (.iastore, 1) := by decide +kernel
theorem d_Ly_giveUp_15 : decode b_Ly_giveUp 15 = .ok (.aload_n 0, 1) := by decide +kernel
theorem d_Ly_giveUp_16 : decode b_Ly_giveUp 16 = .ok (.getfield 22, 3) := by decide +kernel
theorem d_Ly_giveUp_19 : decode b_Ly_giveUp 19 = .ok (.iload_n 1, 1) := by decide +kernel
theorem d_Ly_giveUp_20 : decode b_Ly_giveUp 20 = .ok (.iconst 1, 1) := by decide +kernel
theorem d_Ly_giveUp_21 : decode b_Ly_giveUp 21 = .ok (.bastore, 1) := by decide +kernel
theorem d_Ly_giveUp_22 : decode b_Ly_giveUp 22 = .ok (.return_, 1) := by decide +kernel
