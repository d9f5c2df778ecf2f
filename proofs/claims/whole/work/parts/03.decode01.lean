theorem d_S_removeAt_0 : decode b_S_removeAt 0 = .ok (.aload_n 0, 1) := by decide +kernel
theorem d_S_removeAt_1 : decode b_S_removeAt 1 = .ok (.iload_n 1, 1) := by decide +kernel
theorem d_S_removeAt_2 : decode b_S_removeAt 2 = .ok (.invokevirtual 49, 3) := by decide +kernel
theorem d_S_removeAt_5 : decode b_S_removeAt 5 = .ok (.ifCond .ne 4, 3) := by decide +kernel
theorem d_S_removeAt_8 : decode b_S_removeAt 8 = .ok (.return_, 1) := by decide +kernel
theorem d_S_removeAt_9 : decode b_S_removeAt 9 = .ok (.aload_n 0, 1) := by decide +kernel
theorem d_S_removeAt_10 : decode b_S_removeAt 10 = .ok (.dup, 1) := by decide +kernel
theorem d_S_removeAt_11 : decode b_S_removeAt 11 = .ok (.getfield 9, 3) := by decide +kernel
theorem d_S_removeAt_14 : decode b_S_removeAt 14 = .ok (.iconst 1, 1) := by decide +kernel
theorem d_S_removeAt_15 : decode b_S_removeAt 15 = .ok (.isub, 1) := by decide +kernel
theorem d_S_removeAt_16 : decode b_S_removeAt 16 = .ok (.putfield 9, 3) := by decide +kernel
theorem d_S_removeAt_19 : decode b_S_removeAt 19 = .ok (.iload_n 1, 1) := by decide +kernel
theorem d_S_removeAt_20 : decode b_S_removeAt 20 = .ok (.istore_n 2, 1) := by decide +kernel
theorem d_S_removeAt_21 : decode b_S_removeAt 21 = .ok (.iload_n 2, 1) := by decide +kernel
theorem d_S_removeAt_22 : decode b_S_removeAt 22 = .ok (.aload_n 0, 1) := by decide +kernel
theorem d_S_removeAt_23 : decode b_S_removeAt 23 = .ok (.getfield 9, 3) := by decide +kernel
theorem d_S_removeAt_26 : decode b_S_removeAt 26 = .ok (.if_icmp .ge 37, 3) := by decide +kernel
theorem d_S_removeAt_29 : decode b_S_removeAt 29 = .ok (.aload_n 0, 1) := by decide +kernel
theorem d_S_removeAt_30 : decode b_S_removeAt 30 = .ok (.getfield 18, 3) := by decide +kernel
theorem d_S_removeAt_33 : decode b_S_removeAt 33 = .ok (.iload_n 2, 1) := by decide +kernel
theorem d_S_removeAt_34 : decode b_S_removeAt 34 = .ok (.aload_n 0, 1) := by decide +kernel
theorem d_S_removeAt_35 : decode b_S_removeAt 35 = .ok (.getfield 18, 3) := by decide +kernel
theorem d_S_removeAt_38 : decode b_S_removeAt 38 = .ok (.iload_n 2, 1) := by decide +kernel
theorem d_S_removeAt_39 : decode b_S_removeAt 39 = .ok (.iconst 1, 1) := by decide +kernel
theorem d_S_removeAt_40 : decode b_S_removeAt 40 = .ok (.iadd, 1) := by decide +kernel
theorem d_S_removeAt_41 : decode b_S_removeAt 41 = .ok (.iaload, 1) := by decide +kernel
theorem d_S_removeAt_42 : decode b_S_removeAt 42 = .ok (.iastore, 1) := by decide +kernel
theorem d_S_removeAt_43 : decode b_S_removeAt 43 = .ok (.aload_n 0, 1) := by decide +kernel
theorem d_S_removeAt_44 : decode b_S_removeAt 44 = .ok (.getfield 22, 3) := by decide +kernel
theorem d_S_removeAt_47 : decode b_S_removeAt 47 = .ok (.iload_n 2, 1) := by decide +kernel
theorem d_S_removeAt_48 : decode b_S_removeAt 48 = .ok (.aload_n 0, 1) := by decide +kernel
theorem d_S_removeAt_49 : decode b_S_removeAt 49 = .ok (.getfield 22, 3) := by decide +kernel
theorem d_S_removeAt_52 : decode b_S_removeAt 52 = .ok (.iload_n 2, 1) := by decide +kernel
theorem d_S_removeAt_53 : decode b_S_removeAt 53 = .ok (.iconst 1, 1) := by decide +kernel
theorem d_S_removeAt_54 : decode b_S_removeAt 54 = .ok (.iadd, 1) := by decide +kernel
theorem d_S_removeAt_55 : decode b_S_removeAt 55 = .ok (.laload, 1) := by decide +kernel
theorem d_S_removeAt_56 : decode b_S_removeAt 56 = .ok (.lastore, 1) := by decide +kernel
theorem d_S_removeAt_57 : decode b_S_removeAt 57 = .ok (.iinc 2 1, 3) := by decide +kernel
theorem d_S_removeAt_60 : decode b_S_removeAt 60 = .ok (.goto (-39), 3) := by decide +kernel
theorem d_S_removeAt_63 : decode b_S_removeAt 63 = .ok (.return_, 1) := by decide +kernel
theorem d_S_append_0 : decode b_S_append 0 = .ok (.aload_n 0, 1) := by decide +kernel
theorem d_S_append_1 : decode b_S_append 1 = .ok (.getfield 9, 3) := by decide +kernel
theorem d_S_append_4 : decode b_S_append 4 = .ok (.aload_n 0, 1) := by decide +kernel
theorem d_S_append_5 : decode b_S_append 5 = .ok (.getfield 22, 3) := by decide +kernel
theorem d_S_append_8 : decode b_S_append 8 = .ok (.arraylength, 1) := by decide +kernel
theorem d_S_append_9 : decode b_S_append 9 = .ok (.if_icmp .lt 6, 3) := by decide +kernel
theorem d_S_append_12 : decode b_S_append 12 = .ok (.bipush (-3), 2) := by decide +kernel
theorem d_S_append_14 : decode b_S_append 14 = .ok (.ireturn, 1) := by decide +kernel
theorem d_S_append_15 : decode b_S_append 15 = .ok (.aload_n 0, 1) := by decide +kernel
theorem d_S_append_16 : decode b_S_append 16 = .ok (.getfield 18, 3) := by decide +kernel
theorem d_S_append_19 : decode b_S_append 19 = .ok (.aload_n 0, 1) := by decide +kernel
theorem d_S_append_20 : decode b_S_append 20 = .ok (.getfield 9, 3) := by decide +kernel
theorem d_S_append_23 : decode b_S_append 23 = .ok (.iload_n 1, 1) := by decide +kernel
theorem d_S_append_24 : decode b_S_append 24 = .ok (.iastore, 1) := by decide +kernel
theorem d_S_append_25 : decode b_S_append 25 = .ok (.aload_n 0, 1) := by decide +kernel
theorem d_S_append_26 : decode b_S_append 26 = .ok (.getfield 22, 3) := by decide +kernel
theorem d_S_append_29 : decode b_S_append 29 = .ok (.aload_n 0, 1) := by decide +kernel
theorem d_S_append_30 : decode b_S_append 30 = .ok (.getfield 9, 3) := by decide +kernel
theorem d_S_append_33 : decode b_S_append 33 = .ok (.lload_n 2, 1) := by decide +kernel
theorem d_S_append_34 : decode b_S_append 34 = .ok (.lastore, 1) := by decide +kernel
theorem d_S_append_35 : decode b_S_append 35 = .ok (.aload_n 0, 1) := by decide +kernel
theorem d_S_append_36 : decode b_S_append 36 = .ok (.dup, 1) := by decide +kernel
theorem d_S_append_37 : decode b_S_append 37 = .ok (.getfield 9, 3) := by decide +kernel
theorem d_S_append_40 : decode b_S_append 40 = .ok (.iconst 1, 1) := by decide +kernel
theorem d_S_append_41 : decode b_S_append 41 = .ok (.iadd, 1) := by decide +kernel
theorem d_S_append_42 : decode b_S_append 42 = .ok (.putfield 9, 3) := by decide +kernel
theorem d_S_append_45 : decode b_S_append 45 = .ok (.aload_n 0, 1) := by decide +kernel
theorem d_S_append_46 : decode b_S_append 46 = .ok (.getfield 9, 3) := by decide +kernel
theorem d_S_append_49 : decode b_S_append 49 = .ok (.ireturn, 1) := by decide +kernel
theorem d_S_assign_0 : decode b_S_assign 0 = .ok (.aload_n 0, 1) := by decide +kernel
theorem d_S_assign_1 : decode b_S_assign 1 = .ok (.iload_n 1, 1) := by decide +kernel
theorem d_S_assign_2 : decode b_S_assign 2 = .ok (.invokevirtual 35, 3) := by decide +kernel
theorem d_S_assign_5 : decode b_S_assign 5 = .ok (.istore 4, 2) := by decide +kernel
theorem d_S_assign_7 : decode b_S_assign 7 = .ok (.lload_n 2, 1) := by decide +kernel
theorem d_S_assign_8 : decode b_S_assign 8 = .ok (.ldc2_w 39, 3) := by decide +kernel
theorem d_S_assign_11 : decode b_S_assign 11 = .ok (.lcmp, 1) := by decide +kernel
theorem d_S_assign_12 : decode b_S_assign 12 = .ok (.ifCond .ne 14, 3) := by decide +kernel
theorem d_S_assign_15 : decode b_S_assign 15 = .ok (.aload_n 0, 1) := by decide +kernel
theorem d_S_assign_16 : decode b_S_assign 16 = .ok (.iload 4, 2) := by decide +kernel
theorem d_S_assign_18 : decode b_S_assign 18 = .ok (.invokevirtual 41, 3) := by decide +kernel
theorem d_S_assign_21 : decode b_S_assign 21 = .ok (.aload_n 0, 1) := by decide +kernel
theorem d_S_assign_22 : decode b_S_assign 22 = .ok (.getfield 9, 3) := by decide +kernel
theorem d_S_assign_25 : decode b_S_assign 25 = .ok (.ireturn, 1) := by decide +kernel
theorem d_S_assign_26 : decode b_S_assign 26 = .ok (.iload 4, 2) := by decide +kernel
theorem d_S_assign_28 : decode b_S_assign 28 = .ok (.aload_n 0, 1) := by decide +kernel
theorem d_S_assign_29 : decode b_S_assign 29 = .ok (.getfield 9, 3) := by decide +kernel
theorem d_S_assign_32 : decode b_S_assign 32 = .ok (.if_icmp .ne 10, 3) := by decide +kernel
theorem d_S_assign_35 : decode b_S_assign 35 = .ok (.aload_n 0, 1) := by decide +kernel
theorem d_S_assign_36 : decode b_S_assign 36 = .ok (.iload_n 1, 1) := by decide +kernel
theorem d_S_assign_37 : decode b_S_assign 37 = .ok (.lload_n 2, 1) := by decide +kernel
theorem d_S_assign_38 : decode b_S_assign 38 = .ok (.invokevirtual 45, 3) := by decide +kernel
theorem d_S_assign_41 : decode b_S_assign 41 = .ok (.ireturn, 1) := by decide +kernel
theorem d_S_assign_42 : decode b_S_assign 42 = .ok (.aload_n 0, 1) := by decide +kernel
theorem d_S_assign_43 : decode b_S_assign 43 = .ok (.getfield 22, 3) := by decide +kernel
theorem d_S_assign_46 : decode b_S_assign 46 = .ok (.iload 4, 2) := by decide +kernel
theorem d_S_assign_48 : decode b_S_assign 48 = .ok (.lload_n 2, 1) := by decide +kernel
theorem d_S_assign_49 : decode b_S_assign 49 = .ok (.lastore, 1) := by decide +kernel
theorem d_S_assign_50 : decode b_S_assign 50 = .ok (.aload_n 0, 1) := by decide +kernel
theorem d_S_assign_51 : decode b_S_assign 51 = .ok (.getfield 9, 3) := by decide +kernel
theorem d_S_assign_54 : decode b_S_assign 54 = .ok (.ireturn, 1) := by decide +kernel
theorem d_K_set_0 : decode b_K_set 0 = .ok (.aload_n 0, 1) := by decide +kernel
theorem d_K_set_1 : decode b_K_set 1 = .ok (.iload_n 3, 1) := by decide +kernel
theorem d_K_set_2 : decode b_K_set 2 = .ok (.iload 4, 2) := by decide +kernel
theorem d_K_set_4 : decode b_K_set 4 = .ok (.invokevirtual 52, 3) := by decide +kernel
theorem d_K_set_7 : decode b_K_set 7 = .ok (.lstore 5, 2) := by decide +kernel
theorem d_K_set_9 : decode b_K_set 9 = .ok (.aload_n 0, 1) := by decide +kernel
theorem d_K_set_10 : decode b_K_set 10 = .ok (.iload_n 1, 1) := by decide +kernel
theorem d_K_set_11 : decode b_K_set 11 = .ok (.iconst 1, 1) := by decide +kernel
theorem d_K_set_12 : decode b_K_set 12 = .ok (.invokevirtual 56, 3) := by decide +kernel
theorem d_K_set_15 : decode b_K_set 15 = .ok (.astore 7, 2) := by decide +kernel
theorem d_K_set_17 : decode b_K_set 17 = .ok (.lload 5, 2) := by decide +kernel
theorem d_K_set_19 : decode b_K_set 19 = .ok (.ldc2_w 60, 3) := by decide +kernel
theorem d_K_set_22 : decode b_K_set 22 = .ok (.lcmp, 1) := by decide +kernel
theorem d_K_set_23 : decode b_K_set 23 = .ok (.ifCond .eq 8, 3) := by decide +kernel
theorem d_K_set_26 : decode b_K_set 26 = .ok (.aload 7, 2) := by decide +kernel
theorem d_K_set_28 : decode b_K_set 28 = .ok (.ifnonnull 7, 3) := by decide +kernel
theorem d_K_set_31 : decode b_K_set 31 = .ok (.iconst (-1), 1) := by decide +kernel
theorem d_K_set_32 : decode b_K_set 32 = .ok (.goto 11, 3) := by decide +kernel
theorem d_K_set_35 : decode b_K_set 35 = .ok (.aload 7, 2) := by decide +kernel
theorem d_K_set_37 : decode b_K_set 37 = .ok (.iload_n 2, 1) := by decide +kernel
theorem d_K_set_38 : decode b_K_set 38 = .ok (.lload 5, 2) := by decide +kernel
theorem d_K_set_40 : decode b_K_set 40 = .ok (.invokevirtual 62, 3) := by decide +kernel
theorem d_K_set_43 : decode b_K_set 43 = .ok (.ireturn, 1) := by decide +kernel
theorem d_M_in_0 : decode b_M_in 0 = .ok (.lload_n 0, 1) := by decide +kernel
theorem d_M_in_1 : decode b_M_in 1 = .ok (.lload_n 2, 1) := by decide +kernel
theorem d_M_in_2 : decode b_M_in 2 = .ok (.lcmp, 1) := by decide +kernel
theorem d_M_in_3 : decode b_M_in 3 = .ok (.ifCond .lt 14, 3) := by decide +kernel
theorem d_M_in_6 : decode b_M_in 6 = .ok (.lload_n 0, 1) := by decide +kernel
theorem d_M_in_7 : decode b_M_in 7 = .ok (.lload 4, 2) := by decide +kernel
theorem d_M_in_9 : decode b_M_in 9 = .ok (.lcmp, 1) := by decide +kernel
theorem d_M_in_10 : decode b_M_in 10 = .ok (.ifCond .gt 7, 3) := by decide +kernel
theorem d_M_in_13 : decode b_M_in 13 = .ok (.iconst 1, 1) := by decide +kernel
theorem d_M_in_14 : decode b_M_in 14 = .ok (.goto 4, 3) := by decide +kernel
theorem d_M_in_17 : decode b_M_in 17 = .ok (.iconst 0, 1) := by decide +kernel
theorem d_M_in_18 : decode b_M_in 18 = .ok (.ireturn, 1) := by decide +kernel
theorem d_M_is_0 : decode b_M_is 0 = .ok (.iload_n 1, 1) := by decide +kernel
theorem d_M_is_1 : decode b_M_is 1 = .ok (.i2l, 1) := by decide +kernel
theorem d_M_is_2 : decode b_M_is 2 = .ok (.lconst 0, 1) := by decide +kernel
theorem d_M_is_3 : decode b_M_is 3 = .ok (.ldc2_w 34, 3) := by decide +kernel
theorem d_M_is_6 : decode b_M_is 6 = .ok (.invokestatic 36, 3) := by decide +kernel
theorem d_M_is_9 : decode b_M_is 9 = .ok (.ifCond .eq 20, 3) := by decide +kernel
theorem d_M_is_12 : decode b_M_is 12 = .ok (.aload_n 0, 1) := by decide +kernel
theorem d_M_is_13 : decode b_M_is 13 = .ok (.getfield 10, 3) := by decide +kernel
theorem d_M_is_16 : decode b_M_is 16 = .ok (.getfield 40, 3) := by decide +kernel
theorem d_M_is_19 : decode b_M_is 19 = .ok (.iload_n 1, 1) := by decide +kernel
theorem d_M_is_20 : decode b_M_is 20 = .ok (.iaload, 1) := by decide +kernel
theorem d_M_is_21 : decode b_M_is 21 = .ok (.iload_n 2, 1) := by decide +kernel
theorem d_M_is_22 : decode b_M_is 22 = .ok (.if_icmp .ne 7, 3) := by decide +kernel
theorem d_M_is_25 : decode b_M_is 25 = .ok (.iconst 1, 1) := by decide +kernel
theorem d_M_is_26 : decode b_M_is 26 = .ok (.goto 4, 3) := by decide +kernel
theorem d_M_is_29 : decode b_M_is 29 = .ok (.iconst 0, 1) := by decide +kernel
theorem d_M_is_30 : decode b_M_is 30 = .ok (.ireturn, 1) := by decide +kernel
theorem d_M_isThere_0 : decode b_M_isThere 0 = .ok (.iload_n 1, 1) := by decide +kernel
theorem d_M_isThere_1 : decode b_M_isThere 1 = .ok (.i2l, 1) := by decide +kernel
theorem d_M_isThere_2 : decode b_M_isThere 2 = .ok (.lconst 0, 1) := by decide +kernel
theorem d_M_isThere_3 : decode b_M_isThere 3 = .ok (.ldc2_w 34, 3) := by decide +kernel
theorem d_M_isThere_6 : decode b_M_isThere 6 = .ok (.invokestatic 36, 3) := by decide +kernel
theorem d_M_isThere_9 : decode b_M_isThere 9 = .ok (.ifCond .eq 19, 3) := by decide +kernel
theorem d_M_isThere_12 : decode b_M_isThere 12 = .ok (.aload_n 0, 1) := by decide +kernel
theorem d_M_isThere_13 : decode b_M_isThere 13 = .ok (.getfield 10, 3) := by decide +kernel
theorem d_M_isThere_16 : decode b_M_isThere 16 = .ok (.getfield 40, 3) := by decide +kernel
theorem d_M_isThere_19 : decode b_M_isThere 19 = .ok (.iload_n 1, 1) := by decide +kernel
theorem d_M_isThere_20 : decode b_M_isThere 20 = .ok (.iaload, 1) := by decide +kernel
theorem d_M_isThere_21 : decode b_M_isThere 21 = .ok (.ifCond .eq 7, 3) := by decide +kernel
theorem d_M_isThere_24 : decode b_M_isThere 24 = .ok (.iconst 1, 1) := by decide +kernel
theorem d_M_isThere_25 : decode b_M_isThere 25 = .ok (.goto 4, 3) := by decide +kernel
theorem d_M_isThere_28 : decode b_M_isThere 28 = .ok (.iconst 0, 1) := by decide +kernel
theorem d_M_isThere_29 : decode b_M_isThere 29 = .ok (.ireturn, 1) := by decide +kernel
theorem d_M_isValue_0 : decode b_M_isValue 0 = .ok (.iload_n 1, 1) := by decide +kernel
theorem d_M_isValue_1 : decode b_M_isValue 1 = .ok (.ifCond .eq 21, 3) := by decide +kernel
theorem d_M_isValue_4 : decode b_M_isValue 4 = .ok (.iload_n 1, 1) := by decide +kernel
theorem d_M_isValue_5 : decode b_M_isValue 5 = .ok (.iconst 1, 1) := by decide +kernel
theorem d_M_isValue_6 : decode b_M_isValue 6 = .ok (.if_icmp .eq 16, 3) := by decide +kernel
theorem d_M_isValue_9 : decode b_M_isValue 9 = .ok (.iload_n 1, 1) := by decide +kernel
theorem d_M_isValue_10 : decode b_M_isValue 10 = .ok (.iconst 2, 1) := by decide +kernel
theorem d_M_isValue_11 : decode b_M_isValue 11 = .ok (.if_icmp .ne 15, 3) := by decide +kernel
theorem d_M_isValue_14 : decode b_M_isValue 14 = .ok (.aload_n 0, 1) := by decide +kernel
theorem d_M_isValue_15 : decode b_M_isValue 15 = .ok (.iload_n 2, 1) := by decide +kernel
theorem d_M_isValue_16 : decode b_M_isValue 16 = .ok (.invokevirtual 43, 3) := by decide +kernel
theorem d_M_isValue_19 : decode b_M_isValue 19 = .ok (.ifCond .eq 7, 3) := by decide +kernel
theorem d_M_isValue_22 : decode b_M_isValue 22 = .ok (.iconst 1, 1) := by decide +kernel
theorem d_M_isValue_23 : decode b_M_isValue 23 = .ok (.goto 4, 3) := by decide +kernel
theorem d_M_isValue_26 : decode b_M_isValue 26 = .ok (.iconst 0, 1) := by decide +kernel
theorem d_M_isValue_27 : decode b_M_isValue 27 = .ok (.ireturn, 1) := by decide +kernel
theorem d_N_findField_0 : decode b_N_findField 0 = .ok (.iconst 0, 1) := by decide +kernel
theorem d_N_findField_1 : decode b_N_findField 1 = .ok (.istore_n 3, 1) := by decide +kernel
theorem d_N_findField_2 : decode b_N_findField 2 = .ok (.iload_n 3, 1) := by decide +kernel
theorem d_N_findField_3 : decode b_N_findField 3 = .ok (.aload_n 0, 1) := by decide +kernel
theorem d_N_findField_4 : decode b_N_findField 4 = .ok (.getfield 15, 3) := by decide +kernel
theorem d_N_findField_7 : decode b_N_findField 7 = .ok (.iload_n 1, 1) := by decide +kernel
theorem d_N_findField_8 : decode b_N_findField 8 = .ok (.iaload, 1) := by decide +kernel
theorem d_N_findField_9 : decode b_N_findField 9 = .ok (.if_icmp .ge 26, 3) := by decide +kernel
theorem d_N_findField_12 : decode b_N_findField 12 = .ok (.aload_n 0, 1) := by decide +kernel
theorem d_N_findField_13 : decode b_N_findField 13 = .ok (.getfield 18, 3) := by decide +kernel
theorem d_N_findField_16 : decode b_N_findField 16 = .ok (.bipush 8, 2) := by decide +kernel
theorem d_N_findField_18 : decode b_N_findField 18 = .ok (.iload_n 1, 1) := by decide +kernel
theorem d_N_findField_19 : decode b_N_findField 19 = .ok (.imul, 1) := by decide +kernel
theorem d_N_findField_20 : decode b_N_findField 20 = .ok (.iload_n 3, 1) := by decide +kernel
theorem d_N_findField_21 : decode b_N_findField 21 = .ok (.iadd, 1) := by decide +kernel
theorem d_N_findField_22 : decode b_N_findField 22 = .ok (.iaload, 1) := by decide +kernel
theorem d_N_findField_23 : decode b_N_findField 23 = .ok (.iload_n 2, 1) := by decide +kernel
theorem d_N_findField_24 : decode b_N_findField 24 = .ok (.if_icmp .ne 5, 3) := by decide +kernel
theorem d_N_findField_27 : decode b_N_findField 27 = .ok (.iload_n 3, 1) := by decide +kernel
theorem d_N_findField_28 : decode b_N_findField 28 = .ok (.ireturn, 1) := by decide +kernel
theorem d_N_findField_29 : decode b_N_findField 29 = .ok (.iinc 3 1, 3) := by decide +kernel
theorem d_N_findField_32 : decode b_N_findField 32 = .ok (.goto (-30), 3) := by decide +kernel
theorem d_N_findField_35 : decode b_N_findField 35 = .ok (.iconst (-1), 1) := by decide +kernel
theorem d_N_findField_36 : decode b_N_findField 36 = .ok (.ireturn, 1) := by decide +kernel
theorem d_M_value_0 : decode b_M_value 0 = .ok (.iload_n 0, 1) := by decide +kernel
theorem d_M_value_1 : decode b_M_value 1 = .ok (.ifCond .ne 9, 3) := by decide +kernel
theorem d_M_value_4 : decode b_M_value 4 = .ok (.ldc2_w 47, 3) := by decide +kernel
theorem d_M_value_7 : decode b_M_value 7 = .ok (.goto 19, 3) := by decide +kernel
theorem d_M_value_10 : decode b_M_value 10 = .ok (.iload_n 0, 1) := by decide +kernel
theorem d_M_value_11 : decode b_M_value 11 = .ok (.iconst 1, 1) := by decide +kernel
theorem d_M_value_12 : decode b_M_value 12 = .ok (.if_icmp .ne 8, 3) := by decide +kernel
theorem d_M_value_15 : decode b_M_value 15 = .ok (.iload_n 1, 1) := by decide +kernel
theorem d_M_value_16 : decode b_M_value 16 = .ok (.i2l, 1) := by decide +kernel
theorem d_M_value_17 : decode b_M_value 17 = .ok (.goto 9, 3) := by decide +kernel
theorem d_M_value_20 : decode b_M_value 20 = .ok (.ldc2_w 49, 3) := by decide +kernel
theorem d_M_value_23 : decode b_M_value 23 = .ok (.iload_n 1, 1) := by decide +kernel
theorem d_M_value_24 : decode b_M_value 24 = .ok (.i2l, 1) := by decide +kernel
theorem d_M_value_25 : decode b_M_value 25 = .ok (.ladd, 1) := by decide +kernel
theorem d_M_value_26 : decode b_M_value 26 = .ok (.lreturn, 1) := by decide +kernel
theorem d_M_set_0 : decode b_M_set 0 = .ok (.aload_n 0, 1) := by decide +kernel
theorem d_M_set_1 : decode b_M_set 1 = .ok (.iload_n 1, 1) := by decide +kernel
theorem d_M_set_2 : decode b_M_set 2 = .ok (.iconst 1, 1) := by decide +kernel
theorem d_M_set_3 : decode b_M_set 3 = .ok (.invokevirtual 54, 3) := by decide +kernel
theorem d_M_set_6 : decode b_M_set 6 = .ok (.ifCond .eq 13, 3) := by decide +kernel
theorem d_M_set_9 : decode b_M_set 9 = .ok (.aload_n 0, 1) := by decide +kernel
theorem d_M_set_10 : decode b_M_set 10 = .ok (.iload_n 3, 1) := by decide +kernel
theorem d_M_set_11 : decode b_M_set 11 = .ok (.iload 4, 2) := by decide +kernel
theorem d_M_set_13 : decode b_M_set 13 = .ok (.invokevirtual 58, 3) := by decide +kernel
theorem d_M_set_16 : decode b_M_set 16 = .ok (.ifCond .ne 5, 3) := by decide +kernel
theorem d_M_set_19 : decode b_M_set 19 = .ok (.iconst (-1), 1) := by decide +kernel
theorem d_M_set_20 : decode b_M_set 20 = .ok (.ireturn, 1) := by decide +kernel
theorem d_M_set_21 : decode b_M_set 21 = .ok (.aload_n 0, 1) := by decide +kernel
theorem d_M_set_22 : decode b_M_set 22 = .ok (.getfield 10, 3) := by decide +kernel
theorem d_M_set_25 : decode b_M_set 25 = .ok (.iload_n 1, 1) := by decide +kernel
theorem d_M_set_26 : decode b_M_set 26 = .ok (.iload_n 2, 1) := by decide +kernel
theorem d_M_set_27 : decode b_M_set 27 = .ok (.invokevirtual 61, 3) := by decide +kernel
theorem d_M_set_30 : decode b_M_set 30 = .ok (.istore 5, 2) := by decide +kernel
theorem d_M_set_32 : decode b_M_set 32 = .ok (.bipush 8, 2) := by decide +kernel
theorem d_M_set_34 : decode b_M_set 34 = .ok (.iload_n 1, 1) := by decide +kernel
theorem d_M_set_35 : decode b_M_set 35 = .ok (.imul, 1) := by decide +kernel
theorem d_M_set_36 : decode b_M_set 36 = .ok (.istore 6, 2) := by decide +kernel
theorem d_M_set_38 : decode b_M_set 38 = .ok (.bipush 20, 2) := by decide +kernel
theorem d_M_set_40 : decode b_M_set 40 = .ok (.iload_n 1, 1) := by decide +kernel
theorem d_M_set_41 : decode b_M_set 41 = .ok (.imul, 1) := by decide +kernel
theorem d_M_set_42 : decode b_M_set 42 = .ok (.istore 7, 2) := by decide +kernel
theorem d_M_set_44 : decode b_M_set 44 = .ok (.iload_n 3, 1) := by decide +kernel
theorem d_M_set_45 : decode b_M_set 45 = .ok (.ifCond .ne 121, 3) := by decide +kernel
theorem d_M_set_48 : decode b_M_set 48 = .ok (.iload 5, 2) := by decide +kernel
theorem d_M_set_50 : decode b_M_set 50 = .ok (.ifCond .ge 13, 3) := by decide +kernel
theorem d_M_set_53 : decode b_M_set 53 = .ok (.aload_n 0, 1) := by decide +kernel
theorem d_M_set_54 : decode b_M_set 54 = .ok (.getfield 10, 3) := by decide +kernel
theorem d_M_set_57 : decode b_M_set 57 = .ok (.getfield 51, 3) := by decide +kernel
theorem d_M_set_60 : decode b_M_set 60 = .ok (.iload_n 1, 1) := by decide +kernel
theorem d_M_set_61 : decode b_M_set 61 = .ok (.iaload, 1) := by decide +kernel
theorem d_M_set_62 : decode b_M_set 62 = .ok (.ireturn, 1) := by decide +kernel
theorem d_M_set_63 : decode b_M_set 63 = .ok (.aload_n 0, 1) := by decide +kernel
theorem d_M_set_64 : decode b_M_set 64 = .ok (.getfield 10, 3) := by decide +kernel
theorem d_M_set_67 : decode b_M_set 67 = .ok (.getfield 51, 3) := by decide +kernel
theorem d_M_set_70 : decode b_M_set 70 = .ok (.iload_n 1, 1) := by decide +kernel
theorem d_M_set_71 : decode b_M_set 71 = .ok (.dup2, 1) := by decide +kernel
theorem d_M_set_72 : decode b_M_set 72 = .ok (.iaload, 1) := by decide +kernel
theorem d_M_set_73 : decode b_M_set 73 = .ok (.iconst 1, 1) := by decide +kernel
theorem d_M_set_74 : decode b_M_set 74 = .ok (.isub, 1) := by decide +kernel
theorem d_M_set_75 : decode b_M_set 75 = .ok (.iastore, 1) := by decide +kernel
theorem d_M_set_76 : decode b_M_set 76 = .ok (.iload 5, 2) := by decide +kernel
theorem d_M_set_78 : decode b_M_set 78 = .ok (.istore 8, 2) := by decide +kernel
theorem d_M_set_80 : decode b_M_set 80 = .ok (.iload 8, 2) := by decide +kernel
theorem d_M_set_82 : decode b_M_set 82 = .ok (.aload_n 0, 1) := by decide +kernel
theorem d_M_set_83 : decode b_M_set 83 = .ok (.getfield 10, 3) := by decide +kernel
theorem d_M_set_86 : decode b_M_set 86 = .ok (.getfield 51, 3) := by decide +kernel
theorem d_M_set_89 : decode b_M_set 89 = .ok (.iload_n 1, 1) := by decide +kernel
theorem d_M_set_90 : decode b_M_set 90 = .ok (.iaload, 1) := by decide +kernel
theorem d_M_set_91 : decode b_M_set 91 = .ok (.if_icmp .ge 65, 3) := by decide +kernel
theorem d_M_set_94 : decode b_M_set 94 = .ok (.aload_n 0, 1) := by decide +kernel
theorem d_M_set_95 : decode b_M_set 95 = .ok (.getfield 10, 3) := by decide +kernel
theorem d_M_set_98 : decode b_M_set 98 = .ok (.getfield 65, 3) := by decide +kernel
theorem d_M_set_101 : decode b_M_set 101 = .ok (.iload 6, 2) := by decide +kernel
theorem d_M_set_103 : decode b_M_set 103 = .ok (.iload 8, 2) := by decide +kernel
theorem d_M_set_105 : decode b_M_set 105 = .ok (.iadd, 1) := by decide +kernel
theorem d_M_set_106 : decode b_M_set 106 = .ok (.aload_n 0, 1) := by decide +kernel
theorem d_M_set_107 : decode b_M_set 107 = .ok (.getfield 10, 3) := by decide +kernel
theorem d_M_set_110 : decode b_M_set 110 = .ok (.getfield 65, 3) := by decide +kernel
theorem d_M_set_113 : decode b_M_set 113 = .ok (.iload 6, 2) := by decide +kernel
theorem d_M_set_115 : decode b_M_set 115 = .ok (.iload 8, 2) := by decide +kernel
theorem d_M_set_117 : decode b_M_set 117 = .ok (.iadd, 1) := by decide +kernel
theorem d_M_set_118 : decode b_M_set 118 = .ok (.iconst 1, 1) := by decide +kernel
theorem d_M_set_119 : decode b_M_set 119 = .ok (.iadd, 1) := by decide +kernel
theorem d_M_set_120 : decode b_M_set 120 = .ok (.iaload, 1) := by decide +kernel
theorem d_M_set_121 : decode b_M_set 121 = .ok (.iastore, 1) := by decide +kernel
theorem d_M_set_122 : decode b_M_set 122 = .ok (.aload_n 0, 1) := by decide +kernel
theorem d_M_set_123 : decode b_M_set 123 = .ok (.getfield 10, 3) := by decide +kernel
theorem d_M_set_126 : decode b_M_set 126 = .ok (.getfield 68, 3) := by decide +kernel
theorem d_M_set_129 : decode b_M_set 129 = .ok (.iload 7, 2) := by decide +kernel
theorem d_M_set_131 : decode b_M_set 131 = .ok (.iload 8, 2) := by decide +kernel
theorem d_M_set_133 : decode b_M_set 133 = .ok (.iadd, 1) := by decide +kernel
theorem d_M_set_134 : decode b_M_set 134 = .ok (.aload_n 0, 1) := by decide +kernel
theorem d_M_set_135 : decode b_M_set 135 = .ok (.getfield 10, 3) := by decide +kernel
theorem d_M_set_138 : decode b_M_set 138 = .ok (.getfield 68, 3) := by decide +kernel
theorem d_M_set_141 : decode b_M_set 141 = .ok (.iload 7, 2) := by decide +kernel
theorem d_M_set_143 : decode b_M_set 143 = .ok (.iload 8, 2) := by decide +kernel
theorem d_M_set_145 : decode b_M_set 145 = .ok (.iadd, 1) := by decide +kernel
theorem d_M_set_146 : decode b_M_set 146 = .ok (.iconst 1, 1) := by decide +kernel
theorem d_M_set_147 : decode b_M_set 147 = .ok (.iadd, 1) := by decide +kernel
theorem d_M_set_148 : decode b_M_set 148 = .ok (.laload, 1) := by decide +kernel
theorem d_M_set_149 : decode b_M_set 149 = .ok (.lastore, 1) := by decide +kernel
theorem d_M_set_150 : decode b_M_set 150 = .ok (.iinc 8 1, 3) := by decide +kernel
theorem d_M_set_153 : decode b_M_set 153 = .ok (.goto (-73), 3) := by decide +kernel
theorem d_M_set_156 : decode b_M_set 156 = .ok (.aload_n 0, 1) := by decide +kernel
theorem d_M_set_157 : decode b_M_set 157 = .ok (.getfield 10, 3) := by decide +kernel
theorem d_M_set_160 : decode b_M_set 160 = .ok (.getfield 51, 3) := by decide +kernel
theorem d_M_set_163 : decode b_M_set 163 = .ok (.iload_n 1, 1) := by decide +kernel
theorem d_M_set_164 : decode b_M_set 164 = .ok (.iaload, 1) := by decide +kernel
theorem d_M_set_165 : decode b_M_set 165 = .ok (.ireturn, 1) := by decide +kernel
theorem d_M_set_166 : decode b_M_set 166 = .ok (.iload 5, 2) := by decide +kernel
theorem d_M_set_168 : decode b_M_set 168 = .ok (.ifCond .ge 58, 3) := by decide +kernel
theorem d_M_set_171 : decode b_M_set 171 = .ok (.aload_n 0, 1) := by decide +kernel
theorem d_M_set_172 : decode b_M_set 172 = .ok (.getfield 10, 3) := by decide +kernel
theorem d_M_set_175 : decode b_M_set 175 = .ok (.getfield 51, 3) := by decide +kernel
theorem d_M_set_178 : decode b_M_set 178 = .ok (.iload_n 1, 1) := by decide +kernel
theorem d_M_set_179 : decode b_M_set 179 = .ok (.iaload, 1) := by decide +kernel
theorem d_M_set_180 : decode b_M_set 180 = .ok (.bipush 8, 2) := by decide +kernel
theorem d_M_set_182 : decode b_M_set 182 = .ok (.if_icmp .ne 6, 3) := by decide +kernel
theorem d_M_set_185 : decode b_M_set 185 = .ok (.bipush (-3), 2) := by decide +kernel
theorem d_M_set_187 : decode b_M_set 187 = .ok (.ireturn, 1) := by decide +kernel
theorem d_M_set_188 : decode b_M_set 188 = .ok (.aload_n 0, 1) := by decide +kernel
theorem d_M_set_189 : decode b_M_set 189 = .ok (.getfield 10, 3) := by decide +kernel
theorem d_M_set_192 : decode b_M_set 192 = .ok (.getfield 51, 3) := by decide +kernel
theorem d_M_set_195 : decode b_M_set 195 = .ok (.iload_n 1, 1) := by decide +kernel
theorem d_M_set_196 : decode b_M_set 196 = .ok (.iaload, 1) := by decide +kernel
theorem d_M_set_197 : decode b_M_set 197 = .ok (.istore 5, 2) := by decide +kernel
theorem d_M_set_199 : decode b_M_set 199 = .ok (.aload_n 0, 1) := by decide +kernel
theorem d_M_set_200 : decode b_M_set 200 = .ok (.getfield 10, 3) := by decide +kernel
theorem d_M_set_203 : decode b_M_set 203 = .ok (.getfield 51, 3) := by decide +kernel
theorem d_M_set_206 : decode b_M_set 206 = .ok (.iload_n 1, 1) := by decide +kernel
theorem d_M_set_207 : decode b_M_set 207 = .ok (.dup2, 1) := by decide +kernel
theorem d_M_set_208 : decode b_M_set 208 = .ok (.iaload, 1) := by decide +kernel
theorem d_M_set_209 : decode b_M_set 209 = .ok (.iconst 1, 1) := by decide +kernel
theorem d_M_set_210 : decode b_M_set 210 = .ok (.iadd, 1) := by decide +kernel
theorem d_M_set_211 : decode b_M_set 211 = .ok (.iastore, 1) := by decide +kernel
theorem d_M_set_212 : decode b_M_set 212 = .ok (.aload_n 0, 1) := by decide +kernel
theorem d_M_set_213 : decode b_M_set 213 = .ok (.getfield 10, 3) := by decide +kernel
theorem d_M_set_216 : decode b_M_set 216 = .ok (.getfield 65, 3) := by decide +kernel
theorem d_M_set_219 : decode b_M_set 219 = .ok (.iload 6, 2) := by decide +kernel
theorem d_M_set_221 : decode b_M_set 221 = .ok (.iload 5, 2) := by decide +kernel
theorem d_M_set_223 : decode b_M_set 223 = .ok (.iadd, 1) := by decide +kernel
theorem d_M_set_224 : decode b_M_set 224 = .ok (.iload_n 2, 1) := by decide +kernel
theorem d_M_set_225 : decode b_M_set 225 = .ok (.iastore, 1) := by decide +kernel
theorem d_M_set_226 : decode b_M_set 226 = .ok (.aload_n 0, 1) := by decide +kernel
theorem d_M_set_227 : decode b_M_set 227 = .ok (.getfield 10, 3) := by decide +kernel
theorem d_M_set_230 : decode b_M_set 230 = .ok (.getfield 68, 3) := by decide +kernel
theorem d_M_set_233 : decode b_M_set 233 = .ok (.iload 7, 2) := by decide +kernel
theorem d_M_set_235 : decode b_M_set 235 = .ok (.iload 5, 2) := by decide +kernel
theorem d_M_set_237 : decode b_M_set 237 = .ok (.iadd, 1) := by decide +kernel
theorem d_M_set_238 : decode b_M_set 238 = .ok (.iload_n 3, 1) := by decide +kernel
theorem d_M_set_239 : decode b_M_set 239 = .ok (.iload 4, 2) := by decide +kernel
theorem d_M_set_241 : decode b_M_set 241 = .ok (.invokestatic 72, 3) := by decide +kernel
theorem d_M_set_244 : decode b_M_set 244 = .ok (.lastore, 1) := by decide +kernel
theorem d_M_set_245 : decode b_M_set 245 = .ok (.aload_n 0, 1) := by decide +kernel
theorem d_M_set_246 : decode b_M_set 246 = .ok (.getfield 10, 3) := by decide +kernel
theorem d_M_set_249 : decode b_M_set 249 = .ok (.getfield 51, 3) := by decide +kernel
theorem d_M_set_252 : decode b_M_set 252 = .ok (.iload_n 1, 1) := by decide +kernel
theorem d_M_set_253 : decode b_M_set 253 = .ok (.iaload, 1) := by decide +kernel
theorem d_M_set_254 : decode b_M_set 254 = .ok (.ireturn, 1) := by decide +kernel
theorem d_S_named_0 : decode b_S_named 0 = .ok (.aload_n 0, 1) := by decide +kernel
theorem d_S_named_1 : decode b_S_named 1 = .ok (.iload_n 1, 1) := by decide +kernel
theorem d_S_named_2 : decode b_S_named 2 = .ok (.invokevirtual 35, 3) := by decide +kernel
theorem d_S_named_5 : decode b_S_named 5 = .ok (.istore_n 2, 1) := by decide +kernel
theorem d_S_named_6 : decode b_S_named 6 = .ok (.iload_n 2, 1) := by decide +kernel
theorem d_S_named_7 : decode b_S_named 7 = .ok (.aload_n 0, 1) := by decide +kernel
theorem d_S_named_8 : decode b_S_named 8 = .ok (.getfield 9, 3) := by decide +kernel
theorem d_S_named_11 : decode b_S_named 11 = .ok (.if_icmp .ge 12, 3) := by decide +kernel
theorem d_S_named_14 : decode b_S_named 14 = .ok (.aload_n 0, 1) := by decide +kernel
theorem d_S_named_15 : decode b_S_named 15 = .ok (.getfield 22, 3) := by decide +kernel
theorem d_S_named_18 : decode b_S_named 18 = .ok (.iload_n 2, 1) := by decide +kernel
theorem d_S_named_19 : decode b_S_named 19 = .ok (.laload, 1) := by decide +kernel
theorem d_S_named_20 : decode b_S_named 20 = .ok (.goto 6, 3) := by decide +kernel
theorem d_S_named_23 : decode b_S_named 23 = .ok (.ldc2_w 39, 3) := by decide +kernel
theorem d_S_named_26 : decode b_S_named 26 = .ok (.lreturn, 1) := by decide +kernel
theorem d_K_get_0 : decode b_K_get 0 = .ok (.aload_n 0, 1) := by decide +kernel
theorem d_K_get_1 : decode b_K_get 1 = .ok (.getfield 44, 3) := by decide +kernel
theorem d_K_get_4 : decode b_K_get 4 = .ok (.iload_n 1, 1) := by decide +kernel
theorem d_K_get_5 : decode b_K_get 5 = .ok (.iconst 1, 1) := by decide +kernel
theorem d_K_get_6 : decode b_K_get 6 = .ok (.invokevirtual 66, 3) := by decide +kernel
theorem d_K_get_9 : decode b_K_get 9 = .ok (.astore_n 3, 1) := by decide +kernel
theorem d_K_get_10 : decode b_K_get 10 = .ok (.aload_n 3, 1) := by decide +kernel
theorem d_K_get_11 : decode b_K_get 11 = .ok (.ifnonnull 9, 3) := by decide +kernel
theorem d_K_get_14 : decode b_K_get 14 = .ok (.ldc2_w 60, 3) := by decide +kernel
theorem d_K_get_17 : decode b_K_get 17 = .ok (.goto 8, 3) := by decide +kernel
theorem d_K_get_20 : decode b_K_get 20 = .ok (.aload_n 3, 1) := by decide +kernel
theorem d_K_get_21 : decode b_K_get 21 = .ok (.iload_n 2, 1) := by decide +kernel
theorem d_K_get_22 : decode b_K_get 22 = .ok (.invokevirtual 69, 3) := by decide +kernel
theorem d_K_get_25 : decode b_K_get 25 = .ok (.lreturn, 1) := by decide +kernel
