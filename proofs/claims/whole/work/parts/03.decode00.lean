theorem d_R_init_0 : decode b_R_init 0 = .ok (.aload_n 0, 1) := by decide +kernel
theorem d_R_init_1 : decode b_R_init 1 = .ok (.invokespecial 3, 3) := by decide +kernel
theorem d_R_init_4 : decode b_R_init 4 = .ok (.aload_n 0, 1) := by decide +kernel
theorem d_R_init_5 : decode b_R_init 5 = .ok (.bipush 100, 2) := by decide +kernel
theorem d_R_init_7 : decode b_R_init 7 = .ok (.newarray .boolean, 2) := by decide +kernel
theorem d_R_init_9 : decode b_R_init 9 = .ok (.putfield 9, 3) := by decide +kernel
theorem d_R_init_12 : decode b_R_init 12 = .ok (.aload_n 0, 1) := by decide +kernel
theorem d_R_init_13 : decode b_R_init 13 = .ok (.bipush 100, 2) := by decide +kernel
theorem d_R_init_15 : decode b_R_init 15 = .ok (.newarray .int, 2) := by decide +kernel
theorem d_R_init_17 : decode b_R_init 17 = .ok (.putfield 15, 3) := by decide +kernel
theorem d_R_init_20 : decode b_R_init 20 = .ok (.aload_n 0, 1) := by decide +kernel
theorem d_R_init_21 : decode b_R_init 21 = .ok (.iconst 0, 1) := by decide +kernel
theorem d_R_init_22 : decode b_R_init 22 = .ok (.putfield 19, 3) := by decide +kernel
theorem d_R_init_25 : decode b_R_init 25 = .ok (.return_, 1) := by decide +kernel
theorem d_S_init_0 : decode b_S_init 0 = .ok (.aload_n 0, 1) := by decide +kernel
theorem d_S_init_1 : decode b_S_init 1 = .ok (.invokespecial 3, 3) := by decide +kernel
theorem d_S_init_4 : decode b_S_init 4 = .ok (.aload_n 0, 1) := by decide +kernel
theorem d_S_init_5 : decode b_S_init 5 = .ok (.iconst 0, 1) := by decide +kernel
theorem d_S_init_6 : decode b_S_init 6 = .ok (.putfield 9, 3) := by decide +kernel
theorem d_S_init_9 : decode b_S_init 9 = .ok (.aload_n 0, 1) := by decide +kernel
theorem d_S_init_10 : decode b_S_init 10 = .ok (.iload_n 1, 1) := by decide +kernel
theorem d_S_init_11 : decode b_S_init 11 = .ok (.putfield 15, 3) := by decide +kernel
theorem d_S_init_14 : decode b_S_init 14 = .ok (.aload_n 0, 1) := by decide +kernel
theorem d_S_init_15 : decode b_S_init 15 = .ok (.iload_n 2, 1) := by decide +kernel
theorem d_S_init_16 : decode b_S_init 16 = .ok (.newarray .int, 2) := by decide +kernel
theorem d_S_init_18 : decode b_S_init 18 = .ok (.putfield 18, 3) := by decide +kernel
theorem d_S_init_21 : decode b_S_init 21 = .ok (.aload_n 0, 1) := by decide +kernel
theorem d_S_init_22 : decode b_S_init 22 = .ok (.iload_n 2, 1) := by decide +kernel
theorem d_S_init_23 : decode b_S_init 23 = .ok (.newarray .long, 2) := by decide +kernel
theorem d_S_init_25 : decode b_S_init 25 = .ok (.putfield 22, 3) := by decide +kernel
theorem d_S_init_28 : decode b_S_init 28 = .ok (.return_, 1) := by decide +kernel
theorem d_T_init_0 : decode b_T_init 0 = .ok (.aload_n 0, 1) := by decide +kernel
theorem d_T_init_1 : decode b_T_init 1 = .ok (.invokespecial 3, 3) := by decide +kernel
theorem d_T_init_4 : decode b_T_init 4 = .ok (.aload_n 0, 1) := by decide +kernel
theorem d_T_init_5 : decode b_T_init 5 = .ok (.bipush 100, 2) := by decide +kernel
theorem d_T_init_7 : decode b_T_init 7 = .ok (.anewarray 9, 3) := by decide +kernel
theorem d_T_init_10 : decode b_T_init 10 = .ok (.putfield 11, 3) := by decide +kernel
theorem d_T_init_13 : decode b_T_init 13 = .ok (.aload_n 0, 1) := by decide +kernel
theorem d_T_init_14 : decode b_T_init 14 = .ok (.aload_n 1, 1) := by decide +kernel
theorem d_T_init_15 : decode b_T_init 15 = .ok (.putfield 17, 3) := by decide +kernel
theorem d_T_init_18 : decode b_T_init 18 = .ok (.return_, 1) := by decide +kernel
theorem d_K_init_0 : decode b_K_init 0 = .ok (.aload_n 0, 1) := by decide +kernel
theorem d_K_init_1 : decode b_K_init 1 = .ok (.invokespecial 3, 3) := by decide +kernel
theorem d_K_init_4 : decode b_K_init 4 = .ok (.aload_n 0, 1) := by decide +kernel
theorem d_K_init_5 : decode b_K_init 5 = .ok (.bipush 9, 2) := by decide +kernel
theorem d_K_init_7 : decode b_K_init 7 = .ok (.anewarray 9, 3) := by decide +kernel
theorem d_K_init_10 : decode b_K_init 10 = .ok (.putfield 11, 3) := by decide +kernel
theorem d_K_init_13 : decode b_K_init 13 = .ok (.aload_n 0, 1) := by decide +kernel
theorem d_K_init_14 : decode b_K_init 14 = .ok (.bipush 9, 2) := by decide +kernel
theorem d_K_init_16 : decode b_K_init 16 = .ok (.newarray .int, 2) := by decide +kernel
theorem d_K_init_18 : decode b_K_init 18 = .ok (.putfield 15, 3) := by decide +kernel
theorem d_K_init_21 : decode b_K_init 21 = .ok (.aload_n 0, 1) := by decide +kernel
theorem d_K_init_22 : decode b_K_init 22 = .ok (.new 19, 3) := by decide +kernel
theorem d_K_init_25 : decode b_K_init 25 = .ok (.dup, 1) := by decide +kernel
theorem d_K_init_26 : decode b_K_init 26 = .ok (.invokespecial 21, 3) := by decide +kernel
theorem d_K_init_29 : decode b_K_init 29 = .ok (.putfield 22, 3) := by decide +kernel
theorem d_K_init_32 : decode b_K_init 32 = .ok (.aload_n 0, 1) := by decide +kernel
theorem d_K_init_33 : decode b_K_init 33 = .ok (.iconst 0, 1) := by decide +kernel
theorem d_K_init_34 : decode b_K_init 34 = .ok (.putfield 26, 3) := by decide +kernel
theorem d_K_init_37 : decode b_K_init 37 = .ok (.aload_n 0, 1) := by decide +kernel
theorem d_K_init_38 : decode b_K_init 38 = .ok (.iconst 0, 1) := by decide +kernel
theorem d_K_init_39 : decode b_K_init 39 = .ok (.putfield 30, 3) := by decide +kernel
theorem d_K_init_42 : decode b_K_init 42 = .ok (.aload_n 0, 1) := by decide +kernel
theorem d_K_init_43 : decode b_K_init 43 = .ok (.iconst 0, 1) := by decide +kernel
theorem d_K_init_44 : decode b_K_init 44 = .ok (.putfield 33, 3) := by decide +kernel
theorem d_K_init_47 : decode b_K_init 47 = .ok (.new 36, 3) := by decide +kernel
theorem d_K_init_50 : decode b_K_init 50 = .ok (.dup, 1) := by decide +kernel
theorem d_K_init_51 : decode b_K_init 51 = .ok (.iconst 1, 1) := by decide +kernel
theorem d_K_init_52 : decode b_K_init 52 = .ok (.bipush 12, 2) := by decide +kernel
theorem d_K_init_54 : decode b_K_init 54 = .ok (.invokespecial 38, 3) := by decide +kernel
theorem d_K_init_57 : decode b_K_init 57 = .ok (.astore_n 1, 1) := by decide +kernel
theorem d_K_init_58 : decode b_K_init 58 = .ok (.aload_n 0, 1) := by decide +kernel
theorem d_K_init_59 : decode b_K_init 59 = .ok (.new 9, 3) := by decide +kernel
theorem d_K_init_62 : decode b_K_init 62 = .ok (.dup, 1) := by decide +kernel
theorem d_K_init_63 : decode b_K_init 63 = .ok (.aload_n 1, 1) := by decide +kernel
theorem d_K_init_64 : decode b_K_init 64 = .ok (.invokespecial 41, 3) := by decide +kernel
theorem d_K_init_67 : decode b_K_init 67 = .ok (.putfield 44, 3) := by decide +kernel
theorem d_K_init_70 : decode b_K_init 70 = .ok (.iconst 0, 1) := by decide +kernel
theorem d_K_init_71 : decode b_K_init 71 = .ok (.istore_n 2, 1) := by decide +kernel
theorem d_K_init_72 : decode b_K_init 72 = .ok (.iload_n 2, 1) := by decide +kernel
theorem d_K_init_73 : decode b_K_init 73 = .ok (.bipush 9, 2) := by decide +kernel
theorem d_K_init_75 : decode b_K_init 75 = .ok (.if_icmp .ge 23, 3) := by decide +kernel
theorem d_K_init_78 : decode b_K_init 78 = .ok (.aload_n 0, 1) := by decide +kernel
theorem d_K_init_79 : decode b_K_init 79 = .ok (.getfield 11, 3) := by decide +kernel
theorem d_K_init_82 : decode b_K_init 82 = .ok (.iload_n 2, 1) := by decide +kernel
theorem d_K_init_83 : decode b_K_init 83 = .ok (.new 9, 3) := by decide +kernel
theorem d_K_init_86 : decode b_K_init 86 = .ok (.dup, 1) := by decide +kernel
theorem d_K_init_87 : decode b_K_init 87 = .ok (.aload_n 1, 1) := by decide +kernel
theorem d_K_init_88 : decode b_K_init 88 = .ok (.invokespecial 41, 3) := by decide +kernel
theorem d_K_init_91 : decode b_K_init 91 = .ok (.aastore, 1) := by decide +kernel
theorem d_K_init_92 : decode b_K_init 92 = .ok (.iinc 2 1, 3) := by decide +kernel
theorem d_K_init_95 : decode b_K_init 95 = .ok (.goto (-23), 3) := by decide +kernel
theorem d_K_init_98 : decode b_K_init 98 = .ok (.return_, 1) := by decide +kernel
theorem d_N_init_0 : decode b_N_init 0 = .ok (.aload_n 0, 1) := by decide +kernel
theorem d_N_init_1 : decode b_N_init 1 = .ok (.invokespecial 3, 3) := by decide +kernel
theorem d_N_init_4 : decode b_N_init 4 = .ok (.aload_n 0, 1) := by decide +kernel
theorem d_N_init_5 : decode b_N_init 5 = .ok (.bipush 100, 2) := by decide +kernel
theorem d_N_init_7 : decode b_N_init 7 = .ok (.newarray .int, 2) := by decide +kernel
theorem d_N_init_9 : decode b_N_init 9 = .ok (.putfield 9, 3) := by decide +kernel
theorem d_N_init_12 : decode b_N_init 12 = .ok (.aload_n 0, 1) := by decide +kernel
theorem d_N_init_13 : decode b_N_init 13 = .ok (.bipush 100, 2) := by decide +kernel
theorem d_N_init_15 : decode b_N_init 15 = .ok (.newarray .int, 2) := by decide +kernel
theorem d_N_init_17 : decode b_N_init 17 = .ok (.putfield 15, 3) := by decide +kernel
theorem d_N_init_20 : decode b_N_init 20 = .ok (.aload_n 0, 1) := by decide +kernel
theorem d_N_init_21 : decode b_N_init 21 = .ok (.sipush 800, 3) := by decide +kernel
theorem d_N_init_24 : decode b_N_init 24 = .ok (.newarray .int, 2) := by decide +kernel
theorem d_N_init_26 : decode b_N_init 26 = .ok (.putfield 18, 3) := by decide +kernel
theorem d_N_init_29 : decode b_N_init 29 = .ok (.aload_n 0, 1) := by decide +kernel
theorem d_N_init_30 : decode b_N_init 30 = .ok (.bipush 12, 2) := by decide +kernel
theorem d_N_init_32 : decode b_N_init 32 = .ok (.newarray .int, 2) := by decide +kernel
theorem d_N_init_34 : decode b_N_init 34 = .ok (.putfield 21, 3) := by decide +kernel
theorem d_N_init_37 : decode b_N_init 37 = .ok (.aload_n 0, 1) := by decide +kernel
theorem d_N_init_38 : decode b_N_init 38 = .ok (.sipush 2000, 3) := by decide +kernel
theorem d_N_init_41 : decode b_N_init 41 = .ok (.newarray .long, 2) := by decide +kernel
theorem d_N_init_43 : decode b_N_init 43 = .ok (.putfield 24, 3) := by decide +kernel
theorem d_N_init_46 : decode b_N_init 46 = .ok (.aload_n 0, 1) := by decide +kernel
theorem d_N_init_47 : decode b_N_init 47 = .ok (.bipush 12, 2) := by decide +kernel
theorem d_N_init_49 : decode b_N_init 49 = .ok (.newarray .long, 2) := by decide +kernel
theorem d_N_init_51 : decode b_N_init 51 = .ok (.putfield 28, 3) := by decide +kernel
theorem d_N_init_54 : decode b_N_init 54 = .ok (.return_, 1) := by decide +kernel
theorem d_M_init_0 : decode b_M_init 0 = .ok (.aload_n 0, 1) := by decide +kernel
theorem d_M_init_1 : decode b_M_init 1 = .ok (.invokespecial 1, 3) := by decide +kernel
theorem d_M_init_4 : decode b_M_init 4 = .ok (.aload_n 0, 1) := by decide +kernel
theorem d_M_init_5 : decode b_M_init 5 = .ok (.new 7, 3) := by decide +kernel
theorem d_M_init_8 : decode b_M_init 8 = .ok (.dup, 1) := by decide +kernel
theorem d_M_init_9 : decode b_M_init 9 = .ok (.invokespecial 9, 3) := by decide +kernel
theorem d_M_init_12 : decode b_M_init 12 = .ok (.putfield 10, 3) := by decide +kernel
theorem d_M_init_15 : decode b_M_init 15 = .ok (.aload_n 0, 1) := by decide +kernel
theorem d_M_init_16 : decode b_M_init 16 = .ok (.new 7, 3) := by decide +kernel
theorem d_M_init_19 : decode b_M_init 19 = .ok (.dup, 1) := by decide +kernel
theorem d_M_init_20 : decode b_M_init 20 = .ok (.invokespecial 9, 3) := by decide +kernel
theorem d_M_init_23 : decode b_M_init 23 = .ok (.putfield 16, 3) := by decide +kernel
theorem d_M_init_26 : decode b_M_init 26 = .ok (.aload_n 0, 1) := by decide +kernel
theorem d_M_init_27 : decode b_M_init 27 = .ok (.new 7, 3) := by decide +kernel
theorem d_M_init_30 : decode b_M_init 30 = .ok (.dup, 1) := by decide +kernel
theorem d_M_init_31 : decode b_M_init 31 = .ok (.invokespecial 9, 3) := by decide +kernel
theorem d_M_init_34 : decode b_M_init 34 = .ok (.putfield 19, 3) := by decide +kernel
theorem d_M_init_37 : decode b_M_init 37 = .ok (.aload_n 0, 1) := by decide +kernel
theorem d_M_init_38 : decode b_M_init 38 = .ok (.bipush 8, 2) := by decide +kernel
theorem d_M_init_40 : decode b_M_init 40 = .ok (.anewarray 7, 3) := by decide +kernel
theorem d_M_init_43 : decode b_M_init 43 = .ok (.putfield 22, 3) := by decide +kernel
theorem d_M_init_46 : decode b_M_init 46 = .ok (.aload_n 0, 1) := by decide +kernel
theorem d_M_init_47 : decode b_M_init 47 = .ok (.bipush 100, 2) := by decide +kernel
theorem d_M_init_49 : decode b_M_init 49 = .ok (.newarray .boolean, 2) := by decide +kernel
theorem d_M_init_51 : decode b_M_init 51 = .ok (.putfield 26, 3) := by decide +kernel
theorem d_M_init_54 : decode b_M_init 54 = .ok (.aload_n 0, 1) := by decide +kernel
theorem d_M_init_55 : decode b_M_init 55 = .ok (.bipush 100, 2) := by decide +kernel
theorem d_M_init_57 : decode b_M_init 57 = .ok (.newarray .int, 2) := by decide +kernel
theorem d_M_init_59 : decode b_M_init 59 = .ok (.putfield 30, 3) := by decide +kernel
theorem d_M_init_62 : decode b_M_init 62 = .ok (.iconst 0, 1) := by decide +kernel
theorem d_M_init_63 : decode b_M_init 63 = .ok (.istore_n 1, 1) := by decide +kernel
theorem d_M_init_64 : decode b_M_init 64 = .ok (.iload_n 1, 1) := by decide +kernel
theorem d_M_init_65 : decode b_M_init 65 = .ok (.bipush 8, 2) := by decide +kernel
theorem d_M_init_67 : decode b_M_init 67 = .ok (.if_icmp .ge 22, 3) := by decide +kernel
theorem d_M_init_70 : decode b_M_init 70 = .ok (.aload_n 0, 1) := by decide +kernel
theorem d_M_init_71 : decode b_M_init 71 = .ok (.getfield 22, 3) := by decide +kernel
theorem d_M_init_74 : decode b_M_init 74 = .ok (.iload_n 1, 1) := by decide +kernel
theorem d_M_init_75 : decode b_M_init 75 = .ok (.new 7, 3) := by decide +kernel
theorem d_M_init_78 : decode b_M_init 78 = .ok (.dup, 1) := by decide +kernel
theorem d_M_init_79 : decode b_M_init 79 = .ok (.invokespecial 9, 3) := by decide +kernel
theorem d_M_init_82 : decode b_M_init 82 = .ok (.aastore, 1) := by decide +kernel
theorem d_M_init_83 : decode b_M_init 83 = .ok (.iinc 1 1, 3) := by decide +kernel
theorem d_M_init_86 : decode b_M_init 86 = .ok (.goto (-22), 3) := by decide +kernel
theorem d_M_init_89 : decode b_M_init 89 = .ok (.return_, 1) := by decide +kernel
theorem d_K_make_0 : decode b_K_make 0 = .ok (.iconst 0, 1) := by decide +kernel
theorem d_K_make_1 : decode b_K_make 1 = .ok (.istore_n 2, 1) := by decide +kernel
theorem d_K_make_2 : decode b_K_make 2 = .ok (.iload_n 2, 1) := by decide +kernel
theorem d_K_make_3 : decode b_K_make 3 = .ok (.bipush 100, 2) := by decide +kernel
theorem d_K_make_5 : decode b_K_make 5 = .ok (.if_icmp .ge 59, 3) := by decide +kernel
theorem d_K_make_8 : decode b_K_make 8 = .ok (.aload_n 0, 1) := by decide +kernel
theorem d_K_make_9 : decode b_K_make 9 = .ok (.getfield 44, 3) := by decide +kernel
theorem d_K_make_12 : decode b_K_make 12 = .ok (.getfield 48, 3) := by decide +kernel
theorem d_K_make_15 : decode b_K_make 15 = .ok (.iload_n 2, 1) := by decide +kernel
theorem d_K_make_16 : decode b_K_make 16 = .ok (.aaload, 1) := by decide +kernel
theorem d_K_make_17 : decode b_K_make 17 = .ok (.ifnonnull 41, 3) := by decide +kernel
theorem d_K_make_20 : decode b_K_make 20 = .ok (.aload_n 0, 1) := by decide +kernel
theorem d_K_make_21 : decode b_K_make 21 = .ok (.getfield 44, 3) := by decide +kernel
theorem d_K_make_24 : decode b_K_make 24 = .ok (.getfield 48, 3) := by decide +kernel
theorem d_K_make_27 : decode b_K_make 27 = .ok (.iload_n 2, 1) := by decide +kernel
theorem d_K_make_28 : decode b_K_make 28 = .ok (.iload_n 1, 1) := by decide +kernel
theorem d_K_make_29 : decode b_K_make 29 = .ok (.ifCond .eq 16, 3) := by decide +kernel
theorem d_K_make_32 : decode b_K_make 32 = .ok (.new 36, 3) := by decide +kernel
theorem d_K_make_35 : decode b_K_make 35 = .ok (.dup, 1) := by decide +kernel
theorem d_K_make_36 : decode b_K_make 36 = .ok (.iconst 2, 1) := by decide +kernel
theorem d_K_make_37 : decode b_K_make 37 = .ok (.bipush 20, 2) := by decide +kernel
theorem d_K_make_39 : decode b_K_make 39 = .ok (.invokespecial 38, 3) := by decide +kernel
theorem d_K_make_42 : decode b_K_make 42 = .ok (.goto 13, 3) := by decide +kernel
theorem d_K_make_45 : decode b_K_make 45 = .ok (.new 36, 3) := by decide +kernel
theorem d_K_make_48 : decode b_K_make 48 = .ok (.dup, 1) := by decide +kernel
theorem d_K_make_49 : decode b_K_make 49 = .ok (.iconst 1, 1) := by decide +kernel
theorem d_K_make_50 : decode b_K_make 50 = .ok (.bipush 8, 2) := by decide +kernel
theorem d_K_make_52 : decode b_K_make 52 = .ok (.invokespecial 38, 3) := by decide +kernel
theorem d_K_make_55 : decode b_K_make 55 = .ok (.aastore, 1) := by decide +kernel
theorem d_K_make_56 : decode b_K_make 56 = .ok (.iload_n 2, 1) := by decide +kernel
theorem d_K_make_57 : decode b_K_make 57 = .ok (.ireturn, 1) := by decide +kernel
theorem d_K_make_58 : decode b_K_make 58 = .ok (.iinc 2 1, 3) := by decide +kernel
theorem d_K_make_61 : decode b_K_make 61 = .ok (.goto (-59), 3) := by decide +kernel
theorem d_K_make_64 : decode b_K_make 64 = .ok (.bipush (-3), 2) := by decide +kernel
theorem d_K_make_66 : decode b_K_make 66 = .ok (.ireturn, 1) := by decide +kernel
theorem d_M_make_0 : decode b_M_make 0 = .ok (.iconst 0, 1) := by decide +kernel
theorem d_M_make_1 : decode b_M_make 1 = .ok (.istore_n 2, 1) := by decide +kernel
theorem d_M_make_2 : decode b_M_make 2 = .ok (.iload_n 2, 1) := by decide +kernel
theorem d_M_make_3 : decode b_M_make 3 = .ok (.bipush 100, 2) := by decide +kernel
theorem d_M_make_5 : decode b_M_make 5 = .ok (.if_icmp .ge 54, 3) := by decide +kernel
theorem d_M_make_8 : decode b_M_make 8 = .ok (.aload_n 0, 1) := by decide +kernel
theorem d_M_make_9 : decode b_M_make 9 = .ok (.getfield 10, 3) := by decide +kernel
theorem d_M_make_12 : decode b_M_make 12 = .ok (.getfield 40, 3) := by decide +kernel
theorem d_M_make_15 : decode b_M_make 15 = .ok (.iload_n 2, 1) := by decide +kernel
theorem d_M_make_16 : decode b_M_make 16 = .ok (.iaload, 1) := by decide +kernel
theorem d_M_make_17 : decode b_M_make 17 = .ok (.ifCond .eq 6, 3) := by decide +kernel
theorem d_M_make_20 : decode b_M_make 20 = .ok (.goto 33, 3) := by decide +kernel
theorem d_M_make_23 : decode b_M_make 23 = .ok (.aload_n 0, 1) := by decide +kernel
theorem d_M_make_24 : decode b_M_make 24 = .ok (.getfield 10, 3) := by decide +kernel
theorem d_M_make_27 : decode b_M_make 27 = .ok (.getfield 40, 3) := by decide +kernel
theorem d_M_make_30 : decode b_M_make 30 = .ok (.iload_n 2, 1) := by decide +kernel
theorem d_M_make_31 : decode b_M_make 31 = .ok (.iload_n 1, 1) := by decide +kernel
theorem d_M_make_32 : decode b_M_make 32 = .ok (.ifCond .eq 7, 3) := by decide +kernel
theorem d_M_make_35 : decode b_M_make 35 = .ok (.iconst 2, 1) := by decide +kernel
theorem d_M_make_36 : decode b_M_make 36 = .ok (.goto 4, 3) := by decide +kernel
theorem d_M_make_39 : decode b_M_make 39 = .ok (.iconst 1, 1) := by decide +kernel
theorem d_M_make_40 : decode b_M_make 40 = .ok (.iastore, 1) := by decide +kernel
theorem d_M_make_41 : decode b_M_make 41 = .ok (.aload_n 0, 1) := by decide +kernel
theorem d_M_make_42 : decode b_M_make 42 = .ok (.getfield 10, 3) := by decide +kernel
theorem d_M_make_45 : decode b_M_make 45 = .ok (.getfield 51, 3) := by decide +kernel
theorem d_M_make_48 : decode b_M_make 48 = .ok (.iload_n 2, 1) := by decide +kernel
theorem d_M_make_49 : decode b_M_make 49 = .ok (.iconst 0, 1) := by decide +kernel
theorem d_M_make_50 : decode b_M_make 50 = .ok (.iastore, 1) := by decide +kernel
theorem d_M_make_51 : decode b_M_make 51 = .ok (.iload_n 2, 1) := by decide +kernel
theorem d_M_make_52 : decode b_M_make 52 = .ok (.ireturn, 1) := by decide +kernel
theorem d_M_make_53 : decode b_M_make 53 = .ok (.iinc 2 1, 3) := by decide +kernel
theorem d_M_make_56 : decode b_M_make 56 = .ok (.goto (-54), 3) := by decide +kernel
theorem d_M_make_59 : decode b_M_make 59 = .ok (.bipush (-3), 2) := by decide +kernel
theorem d_M_make_61 : decode b_M_make 61 = .ok (.ireturn, 1) := by decide +kernel
theorem d_T_has_0 : decode b_T_has 0 = .ok (.iload_n 1, 1) := by decide +kernel
theorem d_T_has_1 : decode b_T_has 1 = .ok (.ifCond .lt 22, 3) := by decide +kernel
theorem d_T_has_4 : decode b_T_has 4 = .ok (.iload_n 1, 1) := by decide +kernel
theorem d_T_has_5 : decode b_T_has 5 = .ok (.bipush 100, 2) := by decide +kernel
theorem d_T_has_7 : decode b_T_has 7 = .ok (.if_icmp .ge 16, 3) := by decide +kernel
theorem d_T_has_10 : decode b_T_has 10 = .ok (.aload_n 0, 1) := by decide +kernel
theorem d_T_has_11 : decode b_T_has 11 = .ok (.getfield 11, 3) := by decide +kernel
theorem d_T_has_14 : decode b_T_has 14 = .ok (.iload_n 1, 1) := by decide +kernel
theorem d_T_has_15 : decode b_T_has 15 = .ok (.aaload, 1) := by decide +kernel
theorem d_T_has_16 : decode b_T_has 16 = .ok (.ifnull 7, 3) := by decide +kernel
theorem d_T_has_19 : decode b_T_has 19 = .ok (.iconst 1, 1) := by decide +kernel
theorem d_T_has_20 : decode b_T_has 20 = .ok (.goto 4, 3) := by decide +kernel
theorem d_T_has_23 : decode b_T_has 23 = .ok (.iconst 0, 1) := by decide +kernel
theorem d_T_has_24 : decode b_T_has 24 = .ok (.ireturn, 1) := by decide +kernel
theorem d_K_valueOf_0 : decode b_K_valueOf 0 = .ok (.iload_n 1, 1) := by decide +kernel
theorem d_K_valueOf_1 : decode b_K_valueOf 1 = .ok (.tableswitch 58 0 2 #[27, 31, 34], 27) := by decide +kernel
theorem d_K_valueOf_28 : decode b_K_valueOf 28 = .ok (.ldc2_w 132, 3) := by decide +kernel
theorem d_K_valueOf_31 : decode b_K_valueOf 31 = .ok (.lreturn, 1) := by decide +kernel
theorem d_K_valueOf_32 : decode b_K_valueOf 32 = .ok (.iload_n 2, 1) := by decide +kernel
theorem d_K_valueOf_33 : decode b_K_valueOf 33 = .ok (.i2l, 1) := by decide +kernel
theorem d_K_valueOf_34 : decode b_K_valueOf 34 = .ok (.lreturn, 1) := by decide +kernel
theorem d_K_valueOf_35 : decode b_K_valueOf 35 = .ok (.aload_n 0, 1) := by decide +kernel
theorem d_K_valueOf_36 : decode b_K_valueOf 36 = .ok (.getfield 44, 3) := by decide +kernel
theorem d_K_valueOf_39 : decode b_K_valueOf 39 = .ok (.iload_n 2, 1) := by decide +kernel
theorem d_K_valueOf_40 : decode b_K_valueOf 40 = .ok (.invokevirtual 134, 3) := by decide +kernel
theorem d_K_valueOf_43 : decode b_K_valueOf 43 = .ok (.ifCond .eq 12, 3) := by decide +kernel
theorem d_K_valueOf_46 : decode b_K_valueOf 46 = .ok (.ldc2_w 137, 3) := by decide +kernel
theorem d_K_valueOf_49 : decode b_K_valueOf 49 = .ok (.iload_n 2, 1) := by decide +kernel
theorem d_K_valueOf_50 : decode b_K_valueOf 50 = .ok (.i2l, 1) := by decide +kernel
theorem d_K_valueOf_51 : decode b_K_valueOf 51 = .ok (.ladd, 1) := by decide +kernel
theorem d_K_valueOf_52 : decode b_K_valueOf 52 = .ok (.goto 6, 3) := by decide +kernel
theorem d_K_valueOf_55 : decode b_K_valueOf 55 = .ok (.ldc2_w 60, 3) := by decide +kernel
theorem d_K_valueOf_58 : decode b_K_valueOf 58 = .ok (.lreturn, 1) := by decide +kernel
theorem d_K_valueOf_59 : decode b_K_valueOf 59 = .ok (.ldc2_w 60, 3) := by decide +kernel
theorem d_K_valueOf_62 : decode b_K_valueOf 62 = .ok (.lreturn, 1) := by decide +kernel
theorem d_T_find_0 : decode b_T_find 0 = .ok (.aload_n 0, 1) := by decide +kernel
theorem d_T_find_1 : decode b_T_find 1 = .ok (.iload_n 1, 1) := by decide +kernel
theorem d_T_find_2 : decode b_T_find 2 = .ok (.invokevirtual 21, 3) := by decide +kernel
theorem d_T_find_5 : decode b_T_find 5 = .ok (.ifCond .eq 25, 3) := by decide +kernel
theorem d_T_find_8 : decode b_T_find 8 = .ok (.aload_n 0, 1) := by decide +kernel
theorem d_T_find_9 : decode b_T_find 9 = .ok (.getfield 11, 3) := by decide +kernel
theorem d_T_find_12 : decode b_T_find 12 = .ok (.iload_n 1, 1) := by decide +kernel
theorem d_T_find_13 : decode b_T_find 13 = .ok (.aaload, 1) := by decide +kernel
theorem d_T_find_14 : decode b_T_find 14 = .ok (.getfield 25, 3) := by decide +kernel
theorem d_T_find_17 : decode b_T_find 17 = .ok (.iload_n 2, 1) := by decide +kernel
theorem d_T_find_18 : decode b_T_find 18 = .ok (.if_icmp .ne 12, 3) := by decide +kernel
theorem d_T_find_21 : decode b_T_find 21 = .ok (.aload_n 0, 1) := by decide +kernel
theorem d_T_find_22 : decode b_T_find 22 = .ok (.getfield 11, 3) := by decide +kernel
theorem d_T_find_25 : decode b_T_find 25 = .ok (.iload_n 1, 1) := by decide +kernel
theorem d_T_find_26 : decode b_T_find 26 = .ok (.aaload, 1) := by decide +kernel
theorem d_T_find_27 : decode b_T_find 27 = .ok (.goto 4, 3) := by decide +kernel
theorem d_T_find_30 : decode b_T_find 30 = .ok (.aconst_null, 1) := by decide +kernel
theorem d_T_find_31 : decode b_T_find 31 = .ok (.areturn, 1) := by decide +kernel
theorem d_K_ringIndex_0 : decode b_K_ringIndex 0 = .ok (.aload_n 0, 1) := by decide +kernel
theorem d_K_ringIndex_1 : decode b_K_ringIndex 1 = .ok (.getfield 26, 3) := by decide +kernel
theorem d_K_ringIndex_4 : decode b_K_ringIndex 4 = .ok (.iload_n 1, 1) := by decide +kernel
theorem d_K_ringIndex_5 : decode b_K_ringIndex 5 = .ok (.iadd, 1) := by decide +kernel
theorem d_K_ringIndex_6 : decode b_K_ringIndex 6 = .ok (.bipush 9, 2) := by decide +kernel
theorem d_K_ringIndex_8 : decode b_K_ringIndex 8 = .ok (.irem, 1) := by decide +kernel
theorem d_K_ringIndex_9 : decode b_K_ringIndex 9 = .ok (.ireturn, 1) := by decide +kernel
theorem d_K_kept_0 : decode b_K_kept 0 = .ok (.aload_n 0, 1) := by decide +kernel
theorem d_K_kept_1 : decode b_K_kept 1 = .ok (.getfield 11, 3) := by decide +kernel
theorem d_K_kept_4 : decode b_K_kept 4 = .ok (.aload_n 0, 1) := by decide +kernel
theorem d_K_kept_5 : decode b_K_kept 5 = .ok (.aload_n 0, 1) := by decide +kernel
theorem d_K_kept_6 : decode b_K_kept 6 = .ok (.getfield 30, 3) := by decide +kernel
theorem d_K_kept_9 : decode b_K_kept 9 = .ok (.invokevirtual 116, 3) := by decide +kernel
theorem d_K_kept_12 : decode b_K_kept 12 = .ok (.aaload, 1) := by decide +kernel
theorem d_K_kept_13 : decode b_K_kept 13 = .ok (.areturn, 1) := by decide +kernel
theorem d_S_twin_0 : decode b_S_twin 0 = .ok (.new 10, 3) := by decide +kernel
theorem d_S_twin_3 : decode b_S_twin 3 = .ok (.dup, 1) := by decide +kernel
theorem d_S_twin_4 : decode b_S_twin 4 = .ok (.aload_n 0, 1) := by decide +kernel
theorem d_S_twin_5 : decode b_S_twin 5 = .ok (.getfield 15, 3) := by decide +kernel
theorem d_S_twin_8 : decode b_S_twin 8 = .ok (.aload_n 0, 1) := by decide +kernel
theorem d_S_twin_9 : decode b_S_twin 9 = .ok (.getfield 22, 3) := by decide +kernel
theorem d_S_twin_12 : decode b_S_twin 12 = .ok (.arraylength, 1) := by decide +kernel
theorem d_S_twin_13 : decode b_S_twin 13 = .ok (.invokespecial 26, 3) := by decide +kernel
theorem d_S_twin_16 : decode b_S_twin 16 = .ok (.astore_n 1, 1) := by decide +kernel
theorem d_S_twin_17 : decode b_S_twin 17 = .ok (.aload_n 0, 1) := by decide +kernel
theorem d_S_twin_18 : decode b_S_twin 18 = .ok (.getfield 18, 3) := by decide +kernel
theorem d_S_twin_21 : decode b_S_twin 21 = .ok (.iconst 0, 1) := by decide +kernel
theorem d_S_twin_22 : decode b_S_twin 22 = .ok (.aload_n 1, 1) := by decide +kernel
theorem d_S_twin_23 : decode b_S_twin 23 = .ok (.getfield 18, 3) := by decide +kernel
theorem d_S_twin_26 : decode b_S_twin 26 = .ok (.iconst 0, 1) := by decide +kernel
theorem d_S_twin_27 : decode b_S_twin 27 = .ok (.aload_n 0, 1) := by decide +kernel
theorem d_S_twin_28 : decode b_S_twin 28 = .ok (.getfield 9, 3) := by decide +kernel
theorem d_S_twin_31 : decode b_S_twin 31 = .ok (.invokestatic 29, 3) := by decide +kernel
theorem d_S_twin_34 : decode b_S_twin 34 = .ok (.aload_n 0, 1) := by decide +kernel
theorem d_S_twin_35 : decode b_S_twin 35 = .ok (.getfield 22, 3) := by decide +kernel
theorem d_S_twin_38 : decode b_S_twin 38 = .ok (.iconst 0, 1) := by decide +kernel
theorem d_S_twin_39 : decode b_S_twin 39 = .ok (.aload_n 1, 1) := by decide +kernel
theorem d_S_twin_40 : decode b_S_twin 40 = .ok (.getfield 22, 3) := by decide +kernel
theorem d_S_twin_43 : decode b_S_twin 43 = .ok (.iconst 0, 1) := by decide +kernel
theorem d_S_twin_44 : decode b_S_twin 44 = .ok (.aload_n 0, 1) := by decide +kernel
theorem d_S_twin_45 : decode b_S_twin 45 = .ok (.getfield 9, 3) := by decide +kernel
theorem d_S_twin_48 : decode b_S_twin 48 = .ok (.invokestatic 29, 3) := by decide +kernel
theorem d_S_twin_51 : decode b_S_twin 51 = .ok (.aload_n 1, 1) := by decide +kernel
theorem d_S_twin_52 : decode b_S_twin 52 = .ok (.aload_n 0, 1) := by decide +kernel
theorem d_S_twin_53 : decode b_S_twin 53 = .ok (.getfield 9, 3) := by decide +kernel
theorem d_S_twin_56 : decode b_S_twin 56 = .ok (.putfield 9, 3) := by decide +kernel
theorem d_S_twin_59 : decode b_S_twin 59 = .ok (.aload_n 1, 1) := by decide +kernel
theorem d_S_twin_60 : decode b_S_twin 60 = .ok (.areturn, 1) := by decide +kernel
theorem d_K_own_0 : decode b_K_own 0 = .ok (.aload_n 0, 1) := by decide +kernel
theorem d_K_own_1 : decode b_K_own 1 = .ok (.getfield 44, 3) := by decide +kernel
theorem d_K_own_4 : decode b_K_own 4 = .ok (.iload_n 1, 1) := by decide +kernel
theorem d_K_own_5 : decode b_K_own 5 = .ok (.iload_n 2, 1) := by decide +kernel
theorem d_K_own_6 : decode b_K_own 6 = .ok (.invokevirtual 66, 3) := by decide +kernel
theorem d_K_own_9 : decode b_K_own 9 = .ok (.astore_n 3, 1) := by decide +kernel
theorem d_K_own_10 : decode b_K_own 10 = .ok (.aload_n 3, 1) := by decide +kernel
theorem d_K_own_11 : decode b_K_own 11 = .ok (.ifnull 31, 3) := by decide +kernel
theorem d_K_own_14 : decode b_K_own 14 = .ok (.aload_n 3, 1) := by decide +kernel
theorem d_K_own_15 : decode b_K_own 15 = .ok (.aload_n 0, 1) := by decide +kernel
theorem d_K_own_16 : decode b_K_own 16 = .ok (.invokevirtual 104, 3) := by decide +kernel
theorem d_K_own_19 : decode b_K_own 19 = .ok (.getfield 48, 3) := by decide +kernel
theorem d_K_own_22 : decode b_K_own 22 = .ok (.iload_n 1, 1) := by decide +kernel
theorem d_K_own_23 : decode b_K_own 23 = .ok (.aaload, 1) := by decide +kernel
theorem d_K_own_24 : decode b_K_own 24 = .ok (.if_acmp .ne 18, 3) := by decide +kernel
theorem d_K_own_27 : decode b_K_own 27 = .ok (.aload_n 3, 1) := by decide +kernel
theorem d_K_own_28 : decode b_K_own 28 = .ok (.invokevirtual 139, 3) := by decide +kernel
theorem d_K_own_31 : decode b_K_own 31 = .ok (.astore_n 3, 1) := by decide +kernel
theorem d_K_own_32 : decode b_K_own 32 = .ok (.aload_n 0, 1) := by decide +kernel
theorem d_K_own_33 : decode b_K_own 33 = .ok (.getfield 44, 3) := by decide +kernel
theorem d_K_own_36 : decode b_K_own 36 = .ok (.getfield 48, 3) := by decide +kernel
theorem d_K_own_39 : decode b_K_own 39 = .ok (.iload_n 1, 1) := by decide +kernel
theorem d_K_own_40 : decode b_K_own 40 = .ok (.aload_n 3, 1) := by decide +kernel
theorem d_K_own_41 : decode b_K_own 41 = .ok (.aastore, 1) := by decide +kernel
theorem d_K_own_42 : decode b_K_own 42 = .ok (.aload_n 3, 1) := by decide +kernel
theorem d_K_own_43 : decode b_K_own 43 = .ok (.areturn, 1) := by decide +kernel
theorem d_S_placeOf_0 : decode b_S_placeOf 0 = .ok (.iconst 0, 1) := by decide +kernel
theorem d_S_placeOf_1 : decode b_S_placeOf 1 = .ok (.istore_n 2, 1) := by decide +kernel
theorem d_S_placeOf_2 : decode b_S_placeOf 2 = .ok (.iload_n 2, 1) := by decide +kernel
theorem d_S_placeOf_3 : decode b_S_placeOf 3 = .ok (.aload_n 0, 1) := by decide +kernel
theorem d_S_placeOf_4 : decode b_S_placeOf 4 = .ok (.getfield 9, 3) := by decide +kernel
theorem d_S_placeOf_7 : decode b_S_placeOf 7 = .ok (.if_icmp .ge 19, 3) := by decide +kernel
theorem d_S_placeOf_10 : decode b_S_placeOf 10 = .ok (.aload_n 0, 1) := by decide +kernel
theorem d_S_placeOf_11 : decode b_S_placeOf 11 = .ok (.getfield 18, 3) := by decide +kernel
theorem d_S_placeOf_14 : decode b_S_placeOf 14 = .ok (.iload_n 2, 1) := by decide +kernel
theorem d_S_placeOf_15 : decode b_S_placeOf 15 = .ok (.iaload, 1) := by decide +kernel
theorem d_S_placeOf_16 : decode b_S_placeOf 16 = .ok (.iload_n 1, 1) := by decide +kernel
theorem d_S_placeOf_17 : decode b_S_placeOf 17 = .ok (.if_icmp .eq 9, 3) := by decide +kernel
theorem d_S_placeOf_20 : decode b_S_placeOf 20 = .ok (.iinc 2 1, 3) := by decide +kernel
theorem d_S_placeOf_23 : decode b_S_placeOf 23 = .ok (.goto (-21), 3) := by decide +kernel
theorem d_S_placeOf_26 : decode b_S_placeOf 26 = .ok (.iload_n 2, 1) := by decide +kernel
theorem d_S_placeOf_27 : decode b_S_placeOf 27 = .ok (.ireturn, 1) := by decide +kernel
theorem d_S_holds_0 : decode b_S_holds 0 = .ok (.iload_n 1, 1) := by decide +kernel
theorem d_S_holds_1 : decode b_S_holds 1 = .ok (.ifCond .lt 15, 3) := by decide +kernel
theorem d_S_holds_4 : decode b_S_holds 4 = .ok (.iload_n 1, 1) := by decide +kernel
theorem d_S_holds_5 : decode b_S_holds 5 = .ok (.aload_n 0, 1) := by decide +kernel
theorem d_S_holds_6 : decode b_S_holds 6 = .ok (.getfield 9, 3) := by decide +kernel
theorem d_S_holds_9 : decode b_S_holds 9 = .ok (.if_icmp .ge 7, 3) := by decide +kernel
theorem d_S_holds_12 : decode b_S_holds 12 = .ok (.iconst 1, 1) := by decide +kernel
theorem d_S_holds_13 : decode b_S_holds 13 = .ok (.goto 4, 3) := by decide +kernel
theorem d_S_holds_16 : decode b_S_holds 16 = .ok (.iconst 0, 1) := by decide +kernel
theorem d_S_holds_17 : decode b_S_holds 17 = .ok (.ireturn, 1) := by decide +kernel
