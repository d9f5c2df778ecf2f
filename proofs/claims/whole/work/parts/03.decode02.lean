theorem d_M_get_0 : decode b_M_get 0 = .ok (.aload_n 0, 1) := by decide +kernel
theorem d_M_get_1 : decode b_M_get 1 = .ok (.iload_n 1, 1) := by decide +kernel
theorem d_M_get_2 : decode b_M_get 2 = .ok (.iconst 1, 1) := by decide +kernel
theorem d_M_get_3 : decode b_M_get 3 = .ok (.invokevirtual 54, 3) := by decide +kernel
theorem d_M_get_6 : decode b_M_get 6 = .ok (.ifCond .ne 7, 3) := by decide +kernel
theorem d_M_get_9 : decode b_M_get 9 = .ok (.ldc2_w 76, 3) := by decide +kernel
theorem d_M_get_12 : decode b_M_get 12 = .ok (.lreturn, 1) := by decide +kernel
theorem d_M_get_13 : decode b_M_get 13 = .ok (.aload_n 0, 1) := by decide +kernel
theorem d_M_get_14 : decode b_M_get 14 = .ok (.getfield 10, 3) := by decide +kernel
theorem d_M_get_17 : decode b_M_get 17 = .ok (.iload_n 1, 1) := by decide +kernel
theorem d_M_get_18 : decode b_M_get 18 = .ok (.iload_n 2, 1) := by decide +kernel
theorem d_M_get_19 : decode b_M_get 19 = .ok (.invokevirtual 61, 3) := by decide +kernel
theorem d_M_get_22 : decode b_M_get 22 = .ok (.istore_n 3, 1) := by decide +kernel
theorem d_M_get_23 : decode b_M_get 23 = .ok (.iload_n 3, 1) := by decide +kernel
theorem d_M_get_24 : decode b_M_get 24 = .ok (.ifCond .ge 9, 3) := by decide +kernel
theorem d_M_get_27 : decode b_M_get 27 = .ok (.ldc2_w 47, 3) := by decide +kernel
theorem d_M_get_30 : decode b_M_get 30 = .ok (.goto 17, 3) := by decide +kernel
theorem d_M_get_33 : decode b_M_get 33 = .ok (.aload_n 0, 1) := by decide +kernel
theorem d_M_get_34 : decode b_M_get 34 = .ok (.getfield 10, 3) := by decide +kernel
theorem d_M_get_37 : decode b_M_get 37 = .ok (.getfield 68, 3) := by decide +kernel
theorem d_M_get_40 : decode b_M_get 40 = .ok (.bipush 20, 2) := by decide +kernel
theorem d_M_get_42 : decode b_M_get 42 = .ok (.iload_n 1, 1) := by decide +kernel
theorem d_M_get_43 : decode b_M_get 43 = .ok (.imul, 1) := by decide +kernel
theorem d_M_get_44 : decode b_M_get 44 = .ok (.iload_n 3, 1) := by decide +kernel
theorem d_M_get_45 : decode b_M_get 45 = .ok (.iadd, 1) := by decide +kernel
theorem d_M_get_46 : decode b_M_get 46 = .ok (.laload, 1) := by decide +kernel
theorem d_M_get_47 : decode b_M_get 47 = .ok (.lreturn, 1) := by decide +kernel
theorem d_K_push_0 : decode b_K_push 0 = .ok (.aload_n 0, 1) := by decide +kernel
theorem d_K_push_1 : decode b_K_push 1 = .ok (.iload_n 2, 1) := by decide +kernel
theorem d_K_push_2 : decode b_K_push 2 = .ok (.iload_n 3, 1) := by decide +kernel
theorem d_K_push_3 : decode b_K_push 3 = .ok (.invokevirtual 52, 3) := by decide +kernel
theorem d_K_push_6 : decode b_K_push 6 = .ok (.lstore 4, 2) := by decide +kernel
theorem d_K_push_8 : decode b_K_push 8 = .ok (.aload_n 0, 1) := by decide +kernel
theorem d_K_push_9 : decode b_K_push 9 = .ok (.iload_n 1, 1) := by decide +kernel
theorem d_K_push_10 : decode b_K_push 10 = .ok (.iconst 2, 1) := by decide +kernel
theorem d_K_push_11 : decode b_K_push 11 = .ok (.invokevirtual 56, 3) := by decide +kernel
theorem d_K_push_14 : decode b_K_push 14 = .ok (.astore 6, 2) := by decide +kernel
theorem d_K_push_16 : decode b_K_push 16 = .ok (.lload 4, 2) := by decide +kernel
theorem d_K_push_18 : decode b_K_push 18 = .ok (.ldc2_w 60, 3) := by decide +kernel
theorem d_K_push_21 : decode b_K_push 21 = .ok (.lcmp, 1) := by decide +kernel
theorem d_K_push_22 : decode b_K_push 22 = .ok (.ifCond .eq 8, 3) := by decide +kernel
theorem d_K_push_25 : decode b_K_push 25 = .ok (.aload 6, 2) := by decide +kernel
theorem d_K_push_27 : decode b_K_push 27 = .ok (.ifnonnull 7, 3) := by decide +kernel
theorem d_K_push_30 : decode b_K_push 30 = .ok (.iconst (-1), 1) := by decide +kernel
theorem d_K_push_31 : decode b_K_push 31 = .ok (.goto 11, 3) := by decide +kernel
theorem d_K_push_34 : decode b_K_push 34 = .ok (.aload 6, 2) := by decide +kernel
theorem d_K_push_36 : decode b_K_push 36 = .ok (.iconst 0, 1) := by decide +kernel
theorem d_K_push_37 : decode b_K_push 37 = .ok (.lload 4, 2) := by decide +kernel
theorem d_K_push_39 : decode b_K_push 39 = .ok (.invokevirtual 73, 3) := by decide +kernel
theorem d_K_push_42 : decode b_K_push 42 = .ok (.ireturn, 1) := by decide +kernel
theorem d_M_push_0 : decode b_M_push 0 = .ok (.aload_n 0, 1) := by decide +kernel
theorem d_M_push_1 : decode b_M_push 1 = .ok (.iload_n 1, 1) := by decide +kernel
theorem d_M_push_2 : decode b_M_push 2 = .ok (.iconst 2, 1) := by decide +kernel
theorem d_M_push_3 : decode b_M_push 3 = .ok (.invokevirtual 54, 3) := by decide +kernel
theorem d_M_push_6 : decode b_M_push 6 = .ok (.ifCond .eq 12, 3) := by decide +kernel
theorem d_M_push_9 : decode b_M_push 9 = .ok (.aload_n 0, 1) := by decide +kernel
theorem d_M_push_10 : decode b_M_push 10 = .ok (.iload_n 2, 1) := by decide +kernel
theorem d_M_push_11 : decode b_M_push 11 = .ok (.iload_n 3, 1) := by decide +kernel
theorem d_M_push_12 : decode b_M_push 12 = .ok (.invokevirtual 58, 3) := by decide +kernel
theorem d_M_push_15 : decode b_M_push 15 = .ok (.ifCond .ne 5, 3) := by decide +kernel
theorem d_M_push_18 : decode b_M_push 18 = .ok (.iconst (-1), 1) := by decide +kernel
theorem d_M_push_19 : decode b_M_push 19 = .ok (.ireturn, 1) := by decide +kernel
theorem d_M_push_20 : decode b_M_push 20 = .ok (.aload_n 0, 1) := by decide +kernel
theorem d_M_push_21 : decode b_M_push 21 = .ok (.getfield 10, 3) := by decide +kernel
theorem d_M_push_24 : decode b_M_push 24 = .ok (.getfield 51, 3) := by decide +kernel
theorem d_M_push_27 : decode b_M_push 27 = .ok (.iload_n 1, 1) := by decide +kernel
theorem d_M_push_28 : decode b_M_push 28 = .ok (.iaload, 1) := by decide +kernel
theorem d_M_push_29 : decode b_M_push 29 = .ok (.bipush 20, 2) := by decide +kernel
theorem d_M_push_31 : decode b_M_push 31 = .ok (.if_icmp .ne 6, 3) := by decide +kernel
theorem d_M_push_34 : decode b_M_push 34 = .ok (.bipush (-3), 2) := by decide +kernel
theorem d_M_push_36 : decode b_M_push 36 = .ok (.ireturn, 1) := by decide +kernel
theorem d_M_push_37 : decode b_M_push 37 = .ok (.aload_n 0, 1) := by decide +kernel
theorem d_M_push_38 : decode b_M_push 38 = .ok (.getfield 10, 3) := by decide +kernel
theorem d_M_push_41 : decode b_M_push 41 = .ok (.getfield 68, 3) := by decide +kernel
theorem d_M_push_44 : decode b_M_push 44 = .ok (.bipush 20, 2) := by decide +kernel
theorem d_M_push_46 : decode b_M_push 46 = .ok (.iload_n 1, 1) := by decide +kernel
theorem d_M_push_47 : decode b_M_push 47 = .ok (.imul, 1) := by decide +kernel
theorem d_M_push_48 : decode b_M_push 48 = .ok (.aload_n 0, 1) := by decide +kernel
theorem d_M_push_49 : decode b_M_push 49 = .ok (.getfield 10, 3) := by decide +kernel
theorem d_M_push_52 : decode b_M_push 52 = .ok (.getfield 51, 3) := by decide +kernel
theorem d_M_push_55 : decode b_M_push 55 = .ok (.iload_n 1, 1) := by decide +kernel
theorem d_M_push_56 : decode b_M_push 56 = .ok (.iaload, 1) := by decide +kernel
theorem d_M_push_57 : decode b_M_push 57 = .ok (.iadd, 1) := by decide +kernel
theorem d_M_push_58 : decode b_M_push 58 = .ok (.iload_n 2, 1) := by decide +kernel
theorem d_M_push_59 : decode b_M_push 59 = .ok (.iload_n 3, 1) := by decide +kernel
theorem d_M_push_60 : decode b_M_push 60 = .ok (.invokestatic 72, 3) := by decide +kernel
theorem d_M_push_63 : decode b_M_push 63 = .ok (.lastore, 1) := by decide +kernel
theorem d_M_push_64 : decode b_M_push 64 = .ok (.aload_n 0, 1) := by decide +kernel
theorem d_M_push_65 : decode b_M_push 65 = .ok (.getfield 10, 3) := by decide +kernel
theorem d_M_push_68 : decode b_M_push 68 = .ok (.getfield 51, 3) := by decide +kernel
theorem d_M_push_71 : decode b_M_push 71 = .ok (.iload_n 1, 1) := by decide +kernel
theorem d_M_push_72 : decode b_M_push 72 = .ok (.dup2, 1) := by decide +kernel
theorem d_M_push_73 : decode b_M_push 73 = .ok (.iaload, 1) := by decide +kernel
theorem d_M_push_74 : decode b_M_push 74 = .ok (.iconst 1, 1) := by decide +kernel
theorem d_M_push_75 : decode b_M_push 75 = .ok (.iadd, 1) := by decide +kernel
theorem d_M_push_76 : decode b_M_push 76 = .ok (.iastore, 1) := by decide +kernel
theorem d_M_push_77 : decode b_M_push 77 = .ok (.aload_n 0, 1) := by decide +kernel
theorem d_M_push_78 : decode b_M_push 78 = .ok (.getfield 10, 3) := by decide +kernel
theorem d_M_push_81 : decode b_M_push 81 = .ok (.getfield 51, 3) := by decide +kernel
theorem d_M_push_84 : decode b_M_push 84 = .ok (.iload_n 1, 1) := by decide +kernel
theorem d_M_push_85 : decode b_M_push 85 = .ok (.iaload, 1) := by decide +kernel
theorem d_M_push_86 : decode b_M_push 86 = .ok (.ireturn, 1) := by decide +kernel
theorem d_S_takeLast_0 : decode b_S_takeLast 0 = .ok (.aload_n 0, 1) := by decide +kernel
theorem d_S_takeLast_1 : decode b_S_takeLast 1 = .ok (.getfield 9, 3) := by decide +kernel
theorem d_S_takeLast_4 : decode b_S_takeLast 4 = .ok (.ifCond .ne 7, 3) := by decide +kernel
theorem d_S_takeLast_7 : decode b_S_takeLast 7 = .ok (.ldc2_w 53, 3) := by decide +kernel
theorem d_S_takeLast_10 : decode b_S_takeLast 10 = .ok (.lreturn, 1) := by decide +kernel
theorem d_S_takeLast_11 : decode b_S_takeLast 11 = .ok (.aload_n 0, 1) := by decide +kernel
theorem d_S_takeLast_12 : decode b_S_takeLast 12 = .ok (.dup, 1) := by decide +kernel
theorem d_S_takeLast_13 : decode b_S_takeLast 13 = .ok (.getfield 9, 3) := by decide +kernel
theorem d_S_takeLast_16 : decode b_S_takeLast 16 = .ok (.iconst 1, 1) := by decide +kernel
theorem d_S_takeLast_17 : decode b_S_takeLast 17 = .ok (.isub, 1) := by decide +kernel
theorem d_S_takeLast_18 : decode b_S_takeLast 18 = .ok (.putfield 9, 3) := by decide +kernel
theorem d_S_takeLast_21 : decode b_S_takeLast 21 = .ok (.aload_n 0, 1) := by decide +kernel
theorem d_S_takeLast_22 : decode b_S_takeLast 22 = .ok (.getfield 22, 3) := by decide +kernel
theorem d_S_takeLast_25 : decode b_S_takeLast 25 = .ok (.aload_n 0, 1) := by decide +kernel
theorem d_S_takeLast_26 : decode b_S_takeLast 26 = .ok (.getfield 9, 3) := by decide +kernel
theorem d_S_takeLast_29 : decode b_S_takeLast 29 = .ok (.laload, 1) := by decide +kernel
theorem d_S_takeLast_30 : decode b_S_takeLast 30 = .ok (.lreturn, 1) := by decide +kernel
theorem d_K_pop_0 : decode b_K_pop 0 = .ok (.aload_n 0, 1) := by decide +kernel
theorem d_K_pop_1 : decode b_K_pop 1 = .ok (.iload_n 1, 1) := by decide +kernel
theorem d_K_pop_2 : decode b_K_pop 2 = .ok (.iconst 2, 1) := by decide +kernel
theorem d_K_pop_3 : decode b_K_pop 3 = .ok (.invokevirtual 56, 3) := by decide +kernel
theorem d_K_pop_6 : decode b_K_pop 6 = .ok (.astore_n 2, 1) := by decide +kernel
theorem d_K_pop_7 : decode b_K_pop 7 = .ok (.aload_n 2, 1) := by decide +kernel
theorem d_K_pop_8 : decode b_K_pop 8 = .ok (.ifnonnull 9, 3) := by decide +kernel
theorem d_K_pop_11 : decode b_K_pop 11 = .ok (.ldc2_w 60, 3) := by decide +kernel
theorem d_K_pop_14 : decode b_K_pop 14 = .ok (.goto 7, 3) := by decide +kernel
theorem d_K_pop_17 : decode b_K_pop 17 = .ok (.aload_n 2, 1) := by decide +kernel
theorem d_K_pop_18 : decode b_K_pop 18 = .ok (.invokevirtual 76, 3) := by decide +kernel
theorem d_K_pop_21 : decode b_K_pop 21 = .ok (.lreturn, 1) := by decide +kernel
theorem d_M_pop_0 : decode b_M_pop 0 = .ok (.aload_n 0, 1) := by decide +kernel
theorem d_M_pop_1 : decode b_M_pop 1 = .ok (.iload_n 1, 1) := by decide +kernel
theorem d_M_pop_2 : decode b_M_pop 2 = .ok (.iconst 2, 1) := by decide +kernel
theorem d_M_pop_3 : decode b_M_pop 3 = .ok (.invokevirtual 54, 3) := by decide +kernel
theorem d_M_pop_6 : decode b_M_pop 6 = .ok (.ifCond .eq 15, 3) := by decide +kernel
theorem d_M_pop_9 : decode b_M_pop 9 = .ok (.aload_n 0, 1) := by decide +kernel
theorem d_M_pop_10 : decode b_M_pop 10 = .ok (.getfield 10, 3) := by decide +kernel
theorem d_M_pop_13 : decode b_M_pop 13 = .ok (.getfield 51, 3) := by decide +kernel
theorem d_M_pop_16 : decode b_M_pop 16 = .ok (.iload_n 1, 1) := by decide +kernel
theorem d_M_pop_17 : decode b_M_pop 17 = .ok (.iaload, 1) := by decide +kernel
theorem d_M_pop_18 : decode b_M_pop 18 = .ok (.ifCond .ne 7, 3) := by decide +kernel
theorem d_M_pop_21 : decode b_M_pop 21 = .ok (.ldc2_w 76, 3) := by decide +kernel
theorem d_M_pop_24 : decode b_M_pop 24 = .ok (.lreturn, 1) := by decide +kernel
theorem d_M_pop_25 : decode b_M_pop 25 = .ok (.aload_n 0, 1) := by decide +kernel
theorem d_M_pop_26 : decode b_M_pop 26 = .ok (.getfield 10, 3) := by decide +kernel
theorem d_M_pop_29 : decode b_M_pop 29 = .ok (.getfield 51, 3) := by decide +kernel
theorem d_M_pop_32 : decode b_M_pop 32 = .ok (.iload_n 1, 1) := by decide +kernel
theorem d_M_pop_33 : decode b_M_pop 33 = .ok (.dup2, 1) := by decide +kernel
theorem d_M_pop_34 : decode b_M_pop 34 = .ok (.iaload, 1) := by decide +kernel
theorem d_M_pop_35 : decode b_M_pop 35 = .ok (.iconst 1, 1) := by decide +kernel
theorem d_M_pop_36 : decode b_M_pop 36 = .ok (.isub, 1) := by decide +kernel
theorem d_M_pop_37 : decode b_M_pop 37 = .ok (.iastore, 1) := by decide +kernel
theorem d_M_pop_38 : decode b_M_pop 38 = .ok (.aload_n 0, 1) := by decide +kernel
theorem d_M_pop_39 : decode b_M_pop 39 = .ok (.getfield 10, 3) := by decide +kernel
theorem d_M_pop_42 : decode b_M_pop 42 = .ok (.getfield 68, 3) := by decide +kernel
theorem d_M_pop_45 : decode b_M_pop 45 = .ok (.bipush 20, 2) := by decide +kernel
theorem d_M_pop_47 : decode b_M_pop 47 = .ok (.iload_n 1, 1) := by decide +kernel
theorem d_M_pop_48 : decode b_M_pop 48 = .ok (.imul, 1) := by decide +kernel
theorem d_M_pop_49 : decode b_M_pop 49 = .ok (.aload_n 0, 1) := by decide +kernel
theorem d_M_pop_50 : decode b_M_pop 50 = .ok (.getfield 10, 3) := by decide +kernel
theorem d_M_pop_53 : decode b_M_pop 53 = .ok (.getfield 51, 3) := by decide +kernel
theorem d_M_pop_56 : decode b_M_pop 56 = .ok (.iload_n 1, 1) := by decide +kernel
theorem d_M_pop_57 : decode b_M_pop 57 = .ok (.iaload, 1) := by decide +kernel
theorem d_M_pop_58 : decode b_M_pop 58 = .ok (.iadd, 1) := by decide +kernel
theorem d_M_pop_59 : decode b_M_pop 59 = .ok (.laload, 1) := by decide +kernel
theorem d_M_pop_60 : decode b_M_pop 60 = .ok (.lreturn, 1) := by decide +kernel
theorem d_K_put_0 : decode b_K_put 0 = .ok (.aload_n 0, 1) := by decide +kernel
theorem d_K_put_1 : decode b_K_put 1 = .ok (.iload_n 3, 1) := by decide +kernel
theorem d_K_put_2 : decode b_K_put 2 = .ok (.iload 4, 2) := by decide +kernel
theorem d_K_put_4 : decode b_K_put 4 = .ok (.invokevirtual 52, 3) := by decide +kernel
theorem d_K_put_7 : decode b_K_put 7 = .ok (.lstore 5, 2) := by decide +kernel
theorem d_K_put_9 : decode b_K_put 9 = .ok (.aload_n 0, 1) := by decide +kernel
theorem d_K_put_10 : decode b_K_put 10 = .ok (.iload_n 1, 1) := by decide +kernel
theorem d_K_put_11 : decode b_K_put 11 = .ok (.iconst 2, 1) := by decide +kernel
theorem d_K_put_12 : decode b_K_put 12 = .ok (.invokevirtual 56, 3) := by decide +kernel
theorem d_K_put_15 : decode b_K_put 15 = .ok (.astore 7, 2) := by decide +kernel
theorem d_K_put_17 : decode b_K_put 17 = .ok (.lload 5, 2) := by decide +kernel
theorem d_K_put_19 : decode b_K_put 19 = .ok (.ldc2_w 60, 3) := by decide +kernel
theorem d_K_put_22 : decode b_K_put 22 = .ok (.lcmp, 1) := by decide +kernel
theorem d_K_put_23 : decode b_K_put 23 = .ok (.ifCond .eq 17, 3) := by decide +kernel
theorem d_K_put_26 : decode b_K_put 26 = .ok (.aload 7, 2) := by decide +kernel
theorem d_K_put_28 : decode b_K_put 28 = .ok (.ifnull 12, 3) := by decide +kernel
theorem d_K_put_31 : decode b_K_put 31 = .ok (.aload 7, 2) := by decide +kernel
theorem d_K_put_33 : decode b_K_put 33 = .ok (.iload_n 2, 1) := by decide +kernel
theorem d_K_put_34 : decode b_K_put 34 = .ok (.invokevirtual 80, 3) := by decide +kernel
theorem d_K_put_37 : decode b_K_put 37 = .ok (.ifCond .ne 5, 3) := by decide +kernel
theorem d_K_put_40 : decode b_K_put 40 = .ok (.iconst (-1), 1) := by decide +kernel
theorem d_K_put_41 : decode b_K_put 41 = .ok (.ireturn, 1) := by decide +kernel
theorem d_K_put_42 : decode b_K_put 42 = .ok (.aload 7, 2) := by decide +kernel
theorem d_K_put_44 : decode b_K_put 44 = .ok (.getfield 84, 3) := by decide +kernel
theorem d_K_put_47 : decode b_K_put 47 = .ok (.iload_n 2, 1) := by decide +kernel
theorem d_K_put_48 : decode b_K_put 48 = .ok (.lload 5, 2) := by decide +kernel
theorem d_K_put_50 : decode b_K_put 50 = .ok (.lastore, 1) := by decide +kernel
theorem d_K_put_51 : decode b_K_put 51 = .ok (.iconst 0, 1) := by decide +kernel
theorem d_K_put_52 : decode b_K_put 52 = .ok (.ireturn, 1) := by decide +kernel
theorem d_M_put_0 : decode b_M_put 0 = .ok (.aload_n 0, 1) := by decide +kernel
theorem d_M_put_1 : decode b_M_put 1 = .ok (.iload_n 1, 1) := by decide +kernel
theorem d_M_put_2 : decode b_M_put 2 = .ok (.iconst 2, 1) := by decide +kernel
theorem d_M_put_3 : decode b_M_put 3 = .ok (.invokevirtual 54, 3) := by decide +kernel
theorem d_M_put_6 : decode b_M_put 6 = .ok (.ifCond .eq 34, 3) := by decide +kernel
theorem d_M_put_9 : decode b_M_put 9 = .ok (.iload_n 2, 1) := by decide +kernel
theorem d_M_put_10 : decode b_M_put 10 = .ok (.i2l, 1) := by decide +kernel
theorem d_M_put_11 : decode b_M_put 11 = .ok (.lconst 0, 1) := by decide +kernel
theorem d_M_put_12 : decode b_M_put 12 = .ok (.aload_n 0, 1) := by decide +kernel
theorem d_M_put_13 : decode b_M_put 13 = .ok (.getfield 10, 3) := by decide +kernel
theorem d_M_put_16 : decode b_M_put 16 = .ok (.getfield 51, 3) := by decide +kernel
theorem d_M_put_19 : decode b_M_put 19 = .ok (.iload_n 1, 1) := by decide +kernel
theorem d_M_put_20 : decode b_M_put 20 = .ok (.iaload, 1) := by decide +kernel
theorem d_M_put_21 : decode b_M_put 21 = .ok (.iconst 1, 1) := by decide +kernel
theorem d_M_put_22 : decode b_M_put 22 = .ok (.isub, 1) := by decide +kernel
theorem d_M_put_23 : decode b_M_put 23 = .ok (.i2l, 1) := by decide +kernel
theorem d_M_put_24 : decode b_M_put 24 = .ok (.invokestatic 36, 3) := by decide +kernel
theorem d_M_put_27 : decode b_M_put 27 = .ok (.ifCond .eq 13, 3) := by decide +kernel
theorem d_M_put_30 : decode b_M_put 30 = .ok (.aload_n 0, 1) := by decide +kernel
theorem d_M_put_31 : decode b_M_put 31 = .ok (.iload_n 3, 1) := by decide +kernel
theorem d_M_put_32 : decode b_M_put 32 = .ok (.iload 4, 2) := by decide +kernel
theorem d_M_put_34 : decode b_M_put 34 = .ok (.invokevirtual 58, 3) := by decide +kernel
theorem d_M_put_37 : decode b_M_put 37 = .ok (.ifCond .ne 5, 3) := by decide +kernel
theorem d_M_put_40 : decode b_M_put 40 = .ok (.iconst (-1), 1) := by decide +kernel
theorem d_M_put_41 : decode b_M_put 41 = .ok (.ireturn, 1) := by decide +kernel
theorem d_M_put_42 : decode b_M_put 42 = .ok (.aload_n 0, 1) := by decide +kernel
theorem d_M_put_43 : decode b_M_put 43 = .ok (.getfield 10, 3) := by decide +kernel
theorem d_M_put_46 : decode b_M_put 46 = .ok (.getfield 68, 3) := by decide +kernel
theorem d_M_put_49 : decode b_M_put 49 = .ok (.bipush 20, 2) := by decide +kernel
theorem d_M_put_51 : decode b_M_put 51 = .ok (.iload_n 1, 1) := by decide +kernel
theorem d_M_put_52 : decode b_M_put 52 = .ok (.imul, 1) := by decide +kernel
theorem d_M_put_53 : decode b_M_put 53 = .ok (.iload_n 2, 1) := by decide +kernel
theorem d_M_put_54 : decode b_M_put 54 = .ok (.iadd, 1) := by decide +kernel
theorem d_M_put_55 : decode b_M_put 55 = .ok (.iload_n 3, 1) := by decide +kernel
theorem d_M_put_56 : decode b_M_put 56 = .ok (.iload 4, 2) := by decide +kernel
theorem d_M_put_58 : decode b_M_put 58 = .ok (.invokestatic 72, 3) := by decide +kernel
theorem d_M_put_61 : decode b_M_put 61 = .ok (.lastore, 1) := by decide +kernel
theorem d_M_put_62 : decode b_M_put 62 = .ok (.iconst 0, 1) := by decide +kernel
theorem d_M_put_63 : decode b_M_put 63 = .ok (.ireturn, 1) := by decide +kernel
theorem d_K_item_0 : decode b_K_item 0 = .ok (.aload_n 0, 1) := by decide +kernel
theorem d_K_item_1 : decode b_K_item 1 = .ok (.getfield 44, 3) := by decide +kernel
theorem d_K_item_4 : decode b_K_item 4 = .ok (.iload_n 1, 1) := by decide +kernel
theorem d_K_item_5 : decode b_K_item 5 = .ok (.iconst 2, 1) := by decide +kernel
theorem d_K_item_6 : decode b_K_item 6 = .ok (.invokevirtual 66, 3) := by decide +kernel
theorem d_K_item_9 : decode b_K_item 9 = .ok (.astore_n 3, 1) := by decide +kernel
theorem d_K_item_10 : decode b_K_item 10 = .ok (.aload_n 3, 1) := by decide +kernel
theorem d_K_item_11 : decode b_K_item 11 = .ok (.ifnull 11, 3) := by decide +kernel
theorem d_K_item_14 : decode b_K_item 14 = .ok (.aload_n 3, 1) := by decide +kernel
theorem d_K_item_15 : decode b_K_item 15 = .ok (.iload_n 2, 1) := by decide +kernel
theorem d_K_item_16 : decode b_K_item 16 = .ok (.invokevirtual 80, 3) := by decide +kernel
theorem d_K_item_19 : decode b_K_item 19 = .ok (.ifCond .ne 9, 3) := by decide +kernel
theorem d_K_item_22 : decode b_K_item 22 = .ok (.ldc2_w 60, 3) := by decide +kernel
theorem d_K_item_25 : decode b_K_item 25 = .ok (.goto 9, 3) := by decide +kernel
theorem d_K_item_28 : decode b_K_item 28 = .ok (.aload_n 3, 1) := by decide +kernel
theorem d_K_item_29 : decode b_K_item 29 = .ok (.getfield 84, 3) := by decide +kernel
theorem d_K_item_32 : decode b_K_item 32 = .ok (.iload_n 2, 1) := by decide +kernel
theorem d_K_item_33 : decode b_K_item 33 = .ok (.laload, 1) := by decide +kernel
theorem d_K_item_34 : decode b_K_item 34 = .ok (.lreturn, 1) := by decide +kernel
theorem d_M_item_0 : decode b_M_item 0 = .ok (.aload_n 0, 1) := by decide +kernel
theorem d_M_item_1 : decode b_M_item 1 = .ok (.iload_n 1, 1) := by decide +kernel
theorem d_M_item_2 : decode b_M_item 2 = .ok (.iconst 2, 1) := by decide +kernel
theorem d_M_item_3 : decode b_M_item 3 = .ok (.invokevirtual 54, 3) := by decide +kernel
theorem d_M_item_6 : decode b_M_item 6 = .ok (.ifCond .eq 41, 3) := by decide +kernel
theorem d_M_item_9 : decode b_M_item 9 = .ok (.iload_n 2, 1) := by decide +kernel
theorem d_M_item_10 : decode b_M_item 10 = .ok (.i2l, 1) := by decide +kernel
theorem d_M_item_11 : decode b_M_item 11 = .ok (.lconst 0, 1) := by decide +kernel
theorem d_M_item_12 : decode b_M_item 12 = .ok (.aload_n 0, 1) := by decide +kernel
theorem d_M_item_13 : decode b_M_item 13 = .ok (.getfield 10, 3) := by decide +kernel
theorem d_M_item_16 : decode b_M_item 16 = .ok (.getfield 51, 3) := by decide +kernel
theorem d_M_item_19 : decode b_M_item 19 = .ok (.iload_n 1, 1) := by decide +kernel
theorem d_M_item_20 : decode b_M_item 20 = .ok (.iaload, 1) := by decide +kernel
theorem d_M_item_21 : decode b_M_item 21 = .ok (.iconst 1, 1) := by decide +kernel
theorem d_M_item_22 : decode b_M_item 22 = .ok (.isub, 1) := by decide +kernel
theorem d_M_item_23 : decode b_M_item 23 = .ok (.i2l, 1) := by decide +kernel
theorem d_M_item_24 : decode b_M_item 24 = .ok (.invokestatic 36, 3) := by decide +kernel
theorem d_M_item_27 : decode b_M_item 27 = .ok (.ifCond .eq 20, 3) := by decide +kernel
theorem d_M_item_30 : decode b_M_item 30 = .ok (.aload_n 0, 1) := by decide +kernel
theorem d_M_item_31 : decode b_M_item 31 = .ok (.getfield 10, 3) := by decide +kernel
theorem d_M_item_34 : decode b_M_item 34 = .ok (.getfield 68, 3) := by decide +kernel
theorem d_M_item_37 : decode b_M_item 37 = .ok (.bipush 20, 2) := by decide +kernel
theorem d_M_item_39 : decode b_M_item 39 = .ok (.iload_n 1, 1) := by decide +kernel
theorem d_M_item_40 : decode b_M_item 40 = .ok (.imul, 1) := by decide +kernel
theorem d_M_item_41 : decode b_M_item 41 = .ok (.iload_n 2, 1) := by decide +kernel
theorem d_M_item_42 : decode b_M_item 42 = .ok (.iadd, 1) := by decide +kernel
theorem d_M_item_43 : decode b_M_item 43 = .ok (.laload, 1) := by decide +kernel
theorem d_M_item_44 : decode b_M_item 44 = .ok (.goto 6, 3) := by decide +kernel
theorem d_M_item_47 : decode b_M_item 47 = .ok (.ldc2_w 76, 3) := by decide +kernel
theorem d_M_item_50 : decode b_M_item 50 = .ok (.lreturn, 1) := by decide +kernel
theorem d_K_ownRoots_0 : decode b_K_ownRoots 0 = .ok (.aload_n 0, 1) := by decide +kernel
theorem d_K_ownRoots_1 : decode b_K_ownRoots 1 = .ok (.getfield 44, 3) := by decide +kernel
theorem d_K_ownRoots_4 : decode b_K_ownRoots 4 = .ok (.getfield 92, 3) := by decide +kernel
theorem d_K_ownRoots_7 : decode b_K_ownRoots 7 = .ok (.aload_n 0, 1) := by decide +kernel
theorem d_K_ownRoots_8 : decode b_K_ownRoots 8 = .ok (.invokevirtual 104, 3) := by decide +kernel
theorem d_K_ownRoots_11 : decode b_K_ownRoots 11 = .ok (.getfield 92, 3) := by decide +kernel
theorem d_K_ownRoots_14 : decode b_K_ownRoots 14 = .ok (.if_acmp .ne 20, 3) := by decide +kernel
theorem d_K_ownRoots_17 : decode b_K_ownRoots 17 = .ok (.aload_n 0, 1) := by decide +kernel
theorem d_K_ownRoots_18 : decode b_K_ownRoots 18 = .ok (.getfield 44, 3) := by decide +kernel
theorem d_K_ownRoots_21 : decode b_K_ownRoots 21 = .ok (.aload_n 0, 1) := by decide +kernel
theorem d_K_ownRoots_22 : decode b_K_ownRoots 22 = .ok (.getfield 44, 3) := by decide +kernel
theorem d_K_ownRoots_25 : decode b_K_ownRoots 25 = .ok (.getfield 92, 3) := by decide +kernel
theorem d_K_ownRoots_28 : decode b_K_ownRoots 28 = .ok (.invokevirtual 139, 3) := by decide +kernel
theorem d_K_ownRoots_31 : decode b_K_ownRoots 31 = .ok (.putfield 92, 3) := by decide +kernel
theorem d_K_ownRoots_34 : decode b_K_ownRoots 34 = .ok (.aload_n 0, 1) := by decide +kernel
theorem d_K_ownRoots_35 : decode b_K_ownRoots 35 = .ok (.getfield 44, 3) := by decide +kernel
theorem d_K_ownRoots_38 : decode b_K_ownRoots 38 = .ok (.getfield 92, 3) := by decide +kernel
theorem d_K_ownRoots_41 : decode b_K_ownRoots 41 = .ok (.areturn, 1) := by decide +kernel
theorem d_K_root_0 : decode b_K_root 0 = .ok (.aload_n 0, 1) := by decide +kernel
theorem d_K_root_1 : decode b_K_root 1 = .ok (.iload_n 2, 1) := by decide +kernel
theorem d_K_root_2 : decode b_K_root 2 = .ok (.iload_n 3, 1) := by decide +kernel
theorem d_K_root_3 : decode b_K_root 3 = .ok (.invokevirtual 52, 3) := by decide +kernel
theorem d_K_root_6 : decode b_K_root 6 = .ok (.lstore 4, 2) := by decide +kernel
theorem d_K_root_8 : decode b_K_root 8 = .ok (.lload 4, 2) := by decide +kernel
theorem d_K_root_10 : decode b_K_root 10 = .ok (.ldc2_w 60, 3) := by decide +kernel
theorem d_K_root_13 : decode b_K_root 13 = .ok (.lcmp, 1) := by decide +kernel
theorem d_K_root_14 : decode b_K_root 14 = .ok (.ifCond .ne 7, 3) := by decide +kernel
theorem d_K_root_17 : decode b_K_root 17 = .ok (.iconst (-1), 1) := by decide +kernel
theorem d_K_root_18 : decode b_K_root 18 = .ok (.goto 13, 3) := by decide +kernel
theorem d_K_root_21 : decode b_K_root 21 = .ok (.aload_n 0, 1) := by decide +kernel
theorem d_K_root_22 : decode b_K_root 22 = .ok (.invokevirtual 88, 3) := by decide +kernel
theorem d_K_root_25 : decode b_K_root 25 = .ok (.iload_n 1, 1) := by decide +kernel
theorem d_K_root_26 : decode b_K_root 26 = .ok (.lload 4, 2) := by decide +kernel
theorem d_K_root_28 : decode b_K_root 28 = .ok (.invokevirtual 62, 3) := by decide +kernel
theorem d_K_root_31 : decode b_K_root 31 = .ok (.ireturn, 1) := by decide +kernel
theorem d_N_findRoot_0 : decode b_N_findRoot 0 = .ok (.iconst 0, 1) := by decide +kernel
theorem d_N_findRoot_1 : decode b_N_findRoot 1 = .ok (.istore_n 2, 1) := by decide +kernel
theorem d_N_findRoot_2 : decode b_N_findRoot 2 = .ok (.iload_n 2, 1) := by decide +kernel
theorem d_N_findRoot_3 : decode b_N_findRoot 3 = .ok (.aload_n 0, 1) := by decide +kernel
theorem d_N_findRoot_4 : decode b_N_findRoot 4 = .ok (.getfield 37, 3) := by decide +kernel
theorem d_N_findRoot_7 : decode b_N_findRoot 7 = .ok (.if_icmp .ge 21, 3) := by decide +kernel
theorem d_N_findRoot_10 : decode b_N_findRoot 10 = .ok (.aload_n 0, 1) := by decide +kernel
theorem d_N_findRoot_11 : decode b_N_findRoot 11 = .ok (.getfield 21, 3) := by decide +kernel
theorem d_N_findRoot_14 : decode b_N_findRoot 14 = .ok (.iload_n 2, 1) := by decide +kernel
theorem d_N_findRoot_15 : decode b_N_findRoot 15 = .ok (.iaload, 1) := by decide +kernel
theorem d_N_findRoot_16 : decode b_N_findRoot 16 = .ok (.iload_n 1, 1) := by decide +kernel
theorem d_N_findRoot_17 : decode b_N_findRoot 17 = .ok (.if_icmp .ne 5, 3) := by decide +kernel
theorem d_N_findRoot_20 : decode b_N_findRoot 20 = .ok (.iload_n 2, 1) := by decide +kernel
theorem d_N_findRoot_21 : decode b_N_findRoot 21 = .ok (.ireturn, 1) := by decide +kernel
theorem d_N_findRoot_22 : decode b_N_findRoot 22 = .ok (.iinc 2 1, 3) := by decide +kernel
theorem d_N_findRoot_25 : decode b_N_findRoot 25 = .ok (.goto (-23), 3) := by decide +kernel
theorem d_N_findRoot_28 : decode b_N_findRoot 28 = .ok (.iconst (-1), 1) := by decide +kernel
theorem d_N_findRoot_29 : decode b_N_findRoot 29 = .ok (.ireturn, 1) := by decide +kernel
