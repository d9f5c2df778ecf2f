theorem d_N_bytesBehind_0 : decode b_N_bytesBehind 0 = .ok (.iconst 0, 1) := by decide +kernel
theorem d_N_bytesBehind_1 : decode b_N_bytesBehind 1 = .ok (.istore_n 2, 1) := by decide +kernel
theorem d_N_bytesBehind_2 : decode b_N_bytesBehind 2 = .ok (.iconst 0, 1) := by decide +kernel
theorem d_N_bytesBehind_3 : decode b_N_bytesBehind 3 = .ok (.istore_n 3, 1) := by decide +kernel
theorem d_N_bytesBehind_4 : decode b_N_bytesBehind 4 = .ok (.iload_n 3, 1) := by decide +kernel
theorem d_N_bytesBehind_5 : decode b_N_bytesBehind 5 = .ok (.bipush 100, 2) := by decide +kernel
theorem d_N_bytesBehind_7 : decode b_N_bytesBehind 7 = .ok (.if_icmp .ge 30, 3) := by decide +kernel
theorem d_N_bytesBehind_10 : decode b_N_bytesBehind 10 = .ok (.aload_n 0, 1) := by decide +kernel
theorem d_N_bytesBehind_11 : decode b_N_bytesBehind 11 = .ok (.getfield 9, 3) := by decide +kernel
theorem d_N_bytesBehind_14 : decode b_N_bytesBehind 14 = .ok (.iload_n 3, 1) := by decide +kernel
theorem d_N_bytesBehind_15 : decode b_N_bytesBehind 15 = .ok (.iaload, 1) := by decide +kernel
theorem d_N_bytesBehind_16 : decode b_N_bytesBehind 16 = .ok (.ifCond .eq 15, 3) := by decide +kernel
theorem d_N_bytesBehind_19 : decode b_N_bytesBehind 19 = .ok (.aload_n 0, 1) := by decide +kernel
theorem d_N_bytesBehind_20 : decode b_N_bytesBehind 20 = .ok (.iload_n 3, 1) := by decide +kernel
theorem d_N_bytesBehind_21 : decode b_N_bytesBehind 21 = .ok (.aload_n 1, 1) := by decide +kernel
theorem d_N_bytesBehind_22 : decode b_N_bytesBehind 22 = .ok (.invokevirtual 41, 3) := by decide +kernel
theorem d_N_bytesBehind_25 : decode b_N_bytesBehind 25 = .ok (.ifCond .ne 6, 3) := by decide +kernel
theorem d_N_bytesBehind_28 : decode b_N_bytesBehind 28 = .ok (.iinc 2 16, 3) := by decide +kernel
theorem d_N_bytesBehind_31 : decode b_N_bytesBehind 31 = .ok (.iinc 3 1, 3) := by decide +kernel
theorem d_N_bytesBehind_34 : decode b_N_bytesBehind 34 = .ok (.goto (-30), 3) := by decide +kernel
theorem d_N_bytesBehind_37 : decode b_N_bytesBehind 37 = .ok (.iconst 0, 1) := by decide +kernel
theorem d_N_bytesBehind_38 : decode b_N_bytesBehind 38 = .ok (.istore_n 3, 1) := by decide +kernel
theorem d_N_bytesBehind_39 : decode b_N_bytesBehind 39 = .ok (.iload_n 3, 1) := by decide +kernel
theorem d_N_bytesBehind_40 : decode b_N_bytesBehind 40 = .ok (.aload_n 0, 1) := by decide +kernel
theorem d_N_bytesBehind_41 : decode b_N_bytesBehind 41 = .ok (.getfield 37, 3) := by decide +kernel
theorem d_N_bytesBehind_44 : decode b_N_bytesBehind 44 = .ok (.if_icmp .ge 46, 3) := by decide +kernel
theorem d_N_bytesBehind_47 : decode b_N_bytesBehind 47 = .ok (.aload_n 1, 1) := by decide +kernel
theorem d_N_bytesBehind_48 : decode b_N_bytesBehind 48 = .ok (.aload_n 0, 1) := by decide +kernel
theorem d_N_bytesBehind_49 : decode b_N_bytesBehind 49 = .ok (.getfield 21, 3) := by decide +kernel
theorem d_N_bytesBehind_52 : decode b_N_bytesBehind 52 = .ok (.iload_n 3, 1) := by decide +kernel
theorem d_N_bytesBehind_53 : decode b_N_bytesBehind 53 = .ok (.iaload, 1) := by decide +kernel
theorem d_N_bytesBehind_54 : decode b_N_bytesBehind 54 = .ok (.invokevirtual 45, 3) := by decide +kernel
theorem d_N_bytesBehind_57 : decode b_N_bytesBehind 57 = .ok (.istore 4, 2) := by decide +kernel
theorem d_N_bytesBehind_59 : decode b_N_bytesBehind 59 = .ok (.iload 4, 2) := by decide +kernel
theorem d_N_bytesBehind_61 : decode b_N_bytesBehind 61 = .ok (.ifCond .lt 20, 3) := by decide +kernel
theorem d_N_bytesBehind_64 : decode b_N_bytesBehind 64 = .ok (.aload_n 1, 1) := by decide +kernel
theorem d_N_bytesBehind_65 : decode b_N_bytesBehind 65 = .ok (.getfield 28, 3) := by decide +kernel
theorem d_N_bytesBehind_68 : decode b_N_bytesBehind 68 = .ok (.iload 4, 2) := by decide +kernel
theorem d_N_bytesBehind_70 : decode b_N_bytesBehind 70 = .ok (.laload, 1) := by decide +kernel
theorem d_N_bytesBehind_71 : decode b_N_bytesBehind 71 = .ok (.aload_n 0, 1) := by decide +kernel
theorem d_N_bytesBehind_72 : decode b_N_bytesBehind 72 = .ok (.getfield 28, 3) := by decide +kernel
theorem d_N_bytesBehind_75 : decode b_N_bytesBehind 75 = .ok (.iload_n 3, 1) := by decide +kernel
theorem d_N_bytesBehind_76 : decode b_N_bytesBehind 76 = .ok (.laload, 1) := by decide +kernel
theorem d_N_bytesBehind_77 : decode b_N_bytesBehind 77 = .ok (.lcmp, 1) := by decide +kernel
theorem d_N_bytesBehind_78 : decode b_N_bytesBehind 78 = .ok (.ifCond .eq 6, 3) := by decide +kernel
theorem d_N_bytesBehind_81 : decode b_N_bytesBehind 81 = .ok (.iinc 2 6, 3) := by decide +kernel
theorem d_N_bytesBehind_84 : decode b_N_bytesBehind 84 = .ok (.iinc 3 1, 3) := by decide +kernel
theorem d_N_bytesBehind_87 : decode b_N_bytesBehind 87 = .ok (.goto (-48), 3) := by decide +kernel
theorem d_N_bytesBehind_90 : decode b_N_bytesBehind 90 = .ok (.iconst 0, 1) := by decide +kernel
theorem d_N_bytesBehind_91 : decode b_N_bytesBehind 91 = .ok (.istore_n 3, 1) := by decide +kernel
theorem d_N_bytesBehind_92 : decode b_N_bytesBehind 92 = .ok (.iload_n 3, 1) := by decide +kernel
theorem d_N_bytesBehind_93 : decode b_N_bytesBehind 93 = .ok (.aload_n 1, 1) := by decide +kernel
theorem d_N_bytesBehind_94 : decode b_N_bytesBehind 94 = .ok (.getfield 37, 3) := by decide +kernel
theorem d_N_bytesBehind_97 : decode b_N_bytesBehind 97 = .ok (.if_icmp .ge 25, 3) := by decide +kernel
theorem d_N_bytesBehind_100 : decode b_N_bytesBehind 100 = .ok (.aload_n 0, 1) := by decide +kernel
theorem d_N_bytesBehind_101 : decode b_N_bytesBehind 101 = .ok (.aload_n 1, 1) := by decide +kernel
theorem d_N_bytesBehind_102 : decode b_N_bytesBehind 102 = .ok (.getfield 21, 3) := by decide +kernel
theorem d_N_bytesBehind_105 : decode b_N_bytesBehind 105 = .ok (.iload_n 3, 1) := by decide +kernel
theorem d_N_bytesBehind_106 : decode b_N_bytesBehind 106 = .ok (.iaload, 1) := by decide +kernel
theorem d_N_bytesBehind_107 : decode b_N_bytesBehind 107 = .ok (.invokevirtual 45, 3) := by decide +kernel
theorem d_N_bytesBehind_110 : decode b_N_bytesBehind 110 = .ok (.ifCond .ge 6, 3) := by decide +kernel
theorem d_N_bytesBehind_113 : decode b_N_bytesBehind 113 = .ok (.iinc 2 6, 3) := by decide +kernel
theorem d_N_bytesBehind_116 : decode b_N_bytesBehind 116 = .ok (.iinc 3 1, 3) := by decide +kernel
theorem d_N_bytesBehind_119 : decode b_N_bytesBehind 119 = .ok (.goto (-27), 3) := by decide +kernel
theorem d_N_bytesBehind_122 : decode b_N_bytesBehind 122 = .ok (.iload_n 2, 1) := by decide +kernel
theorem d_N_bytesBehind_123 : decode b_N_bytesBehind 123 = .ok (.ireturn, 1) := by decide +kernel
theorem d_N_copy_0 : decode b_N_copy 0 = .ok (.aload_n 1, 1) := by decide +kernel
theorem d_N_copy_1 : decode b_N_copy 1 = .ok (.getfield 9, 3) := by decide +kernel
theorem d_N_copy_4 : decode b_N_copy 4 = .ok (.iconst 0, 1) := by decide +kernel
theorem d_N_copy_5 : decode b_N_copy 5 = .ok (.aload_n 0, 1) := by decide +kernel
theorem d_N_copy_6 : decode b_N_copy 6 = .ok (.getfield 9, 3) := by decide +kernel
theorem d_N_copy_9 : decode b_N_copy 9 = .ok (.iconst 0, 1) := by decide +kernel
theorem d_N_copy_10 : decode b_N_copy 10 = .ok (.bipush 100, 2) := by decide +kernel
theorem d_N_copy_12 : decode b_N_copy 12 = .ok (.invokestatic 31, 3) := by decide +kernel
theorem d_N_copy_15 : decode b_N_copy 15 = .ok (.aload_n 1, 1) := by decide +kernel
theorem d_N_copy_16 : decode b_N_copy 16 = .ok (.getfield 15, 3) := by decide +kernel
theorem d_N_copy_19 : decode b_N_copy 19 = .ok (.iconst 0, 1) := by decide +kernel
theorem d_N_copy_20 : decode b_N_copy 20 = .ok (.aload_n 0, 1) := by decide +kernel
theorem d_N_copy_21 : decode b_N_copy 21 = .ok (.getfield 15, 3) := by decide +kernel
theorem d_N_copy_24 : decode b_N_copy 24 = .ok (.iconst 0, 1) := by decide +kernel
theorem d_N_copy_25 : decode b_N_copy 25 = .ok (.bipush 100, 2) := by decide +kernel
theorem d_N_copy_27 : decode b_N_copy 27 = .ok (.invokestatic 31, 3) := by decide +kernel
theorem d_N_copy_30 : decode b_N_copy 30 = .ok (.aload_n 1, 1) := by decide +kernel
theorem d_N_copy_31 : decode b_N_copy 31 = .ok (.getfield 18, 3) := by decide +kernel
theorem d_N_copy_34 : decode b_N_copy 34 = .ok (.iconst 0, 1) := by decide +kernel
theorem d_N_copy_35 : decode b_N_copy 35 = .ok (.aload_n 0, 1) := by decide +kernel
theorem d_N_copy_36 : decode b_N_copy 36 = .ok (.getfield 18, 3) := by decide +kernel
theorem d_N_copy_39 : decode b_N_copy 39 = .ok (.iconst 0, 1) := by decide +kernel
theorem d_N_copy_40 : decode b_N_copy 40 = .ok (.sipush 800, 3) := by decide +kernel
theorem d_N_copy_43 : decode b_N_copy 43 = .ok (.invokestatic 31, 3) := by decide +kernel
theorem d_N_copy_46 : decode b_N_copy 46 = .ok (.aload_n 1, 1) := by decide +kernel
theorem d_N_copy_47 : decode b_N_copy 47 = .ok (.getfield 24, 3) := by decide +kernel
theorem d_N_copy_50 : decode b_N_copy 50 = .ok (.iconst 0, 1) := by decide +kernel
theorem d_N_copy_51 : decode b_N_copy 51 = .ok (.aload_n 0, 1) := by decide +kernel
theorem d_N_copy_52 : decode b_N_copy 52 = .ok (.getfield 24, 3) := by decide +kernel
theorem d_N_copy_55 : decode b_N_copy 55 = .ok (.iconst 0, 1) := by decide +kernel
theorem d_N_copy_56 : decode b_N_copy 56 = .ok (.sipush 2000, 3) := by decide +kernel
theorem d_N_copy_59 : decode b_N_copy 59 = .ok (.invokestatic 31, 3) := by decide +kernel
theorem d_N_copy_62 : decode b_N_copy 62 = .ok (.aload_n 1, 1) := by decide +kernel
theorem d_N_copy_63 : decode b_N_copy 63 = .ok (.getfield 21, 3) := by decide +kernel
theorem d_N_copy_66 : decode b_N_copy 66 = .ok (.iconst 0, 1) := by decide +kernel
theorem d_N_copy_67 : decode b_N_copy 67 = .ok (.aload_n 0, 1) := by decide +kernel
theorem d_N_copy_68 : decode b_N_copy 68 = .ok (.getfield 21, 3) := by decide +kernel
theorem d_N_copy_71 : decode b_N_copy 71 = .ok (.iconst 0, 1) := by decide +kernel
theorem d_N_copy_72 : decode b_N_copy 72 = .ok (.bipush 12, 2) := by decide +kernel
theorem d_N_copy_74 : decode b_N_copy 74 = .ok (.invokestatic 31, 3) := by decide +kernel
theorem d_N_copy_77 : decode b_N_copy 77 = .ok (.aload_n 1, 1) := by decide +kernel
theorem d_N_copy_78 : decode b_N_copy 78 = .ok (.getfield 28, 3) := by decide +kernel
theorem d_N_copy_81 : decode b_N_copy 81 = .ok (.iconst 0, 1) := by decide +kernel
theorem d_N_copy_82 : decode b_N_copy 82 = .ok (.aload_n 0, 1) := by decide +kernel
theorem d_N_copy_83 : decode b_N_copy 83 = .ok (.getfield 28, 3) := by decide +kernel
theorem d_N_copy_86 : decode b_N_copy 86 = .ok (.iconst 0, 1) := by decide +kernel
theorem d_N_copy_87 : decode b_N_copy 87 = .ok (.bipush 12, 2) := by decide +kernel
theorem d_N_copy_89 : decode b_N_copy 89 = .ok (.invokestatic 31, 3) := by decide +kernel
theorem d_N_copy_92 : decode b_N_copy 92 = .ok (.aload_n 0, 1) := by decide +kernel
theorem d_N_copy_93 : decode b_N_copy 93 = .ok (.aload_n 1, 1) := by decide +kernel
theorem d_N_copy_94 : decode b_N_copy 94 = .ok (.getfield 37, 3) := by decide +kernel
theorem d_N_copy_97 : decode b_N_copy 97 = .ok (.putfield 37, 3) := by decide +kernel
theorem d_N_copy_100 : decode b_N_copy 100 = .ok (.return_, 1) := by decide +kernel
theorem d_M_keep_0 : decode b_M_keep 0 = .ok (.aload_n 0, 1) := by decide +kernel
theorem d_M_keep_1 : decode b_M_keep 1 = .ok (.getfield 16, 3) := by decide +kernel
theorem d_M_keep_4 : decode b_M_keep 4 = .ok (.aload_n 0, 1) := by decide +kernel
theorem d_M_keep_5 : decode b_M_keep 5 = .ok (.getfield 10, 3) := by decide +kernel
theorem d_M_keep_8 : decode b_M_keep 8 = .ok (.invokevirtual 91, 3) := by decide +kernel
theorem d_M_keep_11 : decode b_M_keep 11 = .ok (.aload_n 0, 1) := by decide +kernel
theorem d_M_keep_12 : decode b_M_keep 12 = .ok (.dup, 1) := by decide +kernel
theorem d_M_keep_13 : decode b_M_keep 13 = .ok (.getfield 95, 3) := by decide +kernel
theorem d_M_keep_16 : decode b_M_keep 16 = .ok (.iload_n 1, 1) := by decide +kernel
theorem d_M_keep_17 : decode b_M_keep 17 = .ok (.iadd, 1) := by decide +kernel
theorem d_M_keep_18 : decode b_M_keep 18 = .ok (.putfield 95, 3) := by decide +kernel
theorem d_M_keep_21 : decode b_M_keep 21 = .ok (.aload_n 0, 1) := by decide +kernel
theorem d_M_keep_22 : decode b_M_keep 22 = .ok (.getfield 98, 3) := by decide +kernel
theorem d_M_keep_25 : decode b_M_keep 25 = .ok (.bipush 8, 2) := by decide +kernel
theorem d_M_keep_27 : decode b_M_keep 27 = .ok (.if_icmp .ne 64, 3) := by decide +kernel
theorem d_M_keep_30 : decode b_M_keep 30 = .ok (.aload_n 0, 1) := by decide +kernel
theorem d_M_keep_31 : decode b_M_keep 31 = .ok (.getfield 22, 3) := by decide +kernel
theorem d_M_keep_34 : decode b_M_keep 34 = .ok (.iconst 0, 1) := by decide +kernel
theorem d_M_keep_35 : decode b_M_keep 35 = .ok (.aaload, 1) := by decide +kernel
theorem d_M_keep_36 : decode b_M_keep 36 = .ok (.astore_n 2, 1) := by decide +kernel
theorem d_M_keep_37 : decode b_M_keep 37 = .ok (.aload_n 0, 1) := by decide +kernel
theorem d_M_keep_38 : decode b_M_keep 38 = .ok (.getfield 19, 3) := by decide +kernel
theorem d_M_keep_41 : decode b_M_keep 41 = .ok (.aload_n 2, 1) := by decide +kernel
theorem d_M_keep_42 : decode b_M_keep 42 = .ok (.invokevirtual 91, 3) := by decide +kernel
theorem d_M_keep_45 : decode b_M_keep 45 = .ok (.iconst 1, 1) := by decide +kernel
theorem d_M_keep_46 : decode b_M_keep 46 = .ok (.istore_n 3, 1) := by decide +kernel
theorem d_M_keep_47 : decode b_M_keep 47 = .ok (.iload_n 3, 1) := by decide +kernel
theorem d_M_keep_48 : decode b_M_keep 48 = .ok (.bipush 8, 2) := by decide +kernel
theorem d_M_keep_50 : decode b_M_keep 50 = .ok (.if_icmp .ge 23, 3) := by decide +kernel
theorem d_M_keep_53 : decode b_M_keep 53 = .ok (.aload_n 0, 1) := by decide +kernel
theorem d_M_keep_54 : decode b_M_keep 54 = .ok (.getfield 22, 3) := by decide +kernel
theorem d_M_keep_57 : decode b_M_keep 57 = .ok (.iload_n 3, 1) := by decide +kernel
theorem d_M_keep_58 : decode b_M_keep 58 = .ok (.iconst 1, 1) := by decide +kernel
theorem d_M_keep_59 : decode b_M_keep 59 = .ok (.isub, 1) := by decide +kernel
theorem d_M_keep_60 : decode b_M_keep 60 = .ok (.aload_n 0, 1) := by decide +kernel
theorem d_M_keep_61 : decode b_M_keep 61 = .ok (.getfield 22, 3) := by decide +kernel
theorem d_M_keep_64 : decode b_M_keep 64 = .ok (.iload_n 3, 1) := by decide +kernel
theorem d_M_keep_65 : decode b_M_keep 65 = .ok (.aaload, 1) := by decide +kernel
theorem d_M_keep_66 : decode b_M_keep 66 = .ok (.aastore, 1) := by decide +kernel
theorem d_M_keep_67 : decode b_M_keep 67 = .ok (.iinc 3 1, 3) := by decide +kernel
theorem d_M_keep_70 : decode b_M_keep 70 = .ok (.goto (-23), 3) := by decide +kernel
theorem d_M_keep_73 : decode b_M_keep 73 = .ok (.aload_n 0, 1) := by decide +kernel
theorem d_M_keep_74 : decode b_M_keep 74 = .ok (.getfield 22, 3) := by decide +kernel
theorem d_M_keep_77 : decode b_M_keep 77 = .ok (.bipush 7, 2) := by decide +kernel
theorem d_M_keep_79 : decode b_M_keep 79 = .ok (.aload_n 2, 1) := by decide +kernel
theorem d_M_keep_80 : decode b_M_keep 80 = .ok (.aastore, 1) := by decide +kernel
theorem d_M_keep_81 : decode b_M_keep 81 = .ok (.aload_n 0, 1) := by decide +kernel
theorem d_M_keep_82 : decode b_M_keep 82 = .ok (.dup, 1) := by decide +kernel
theorem d_M_keep_83 : decode b_M_keep 83 = .ok (.getfield 98, 3) := by decide +kernel
theorem d_M_keep_86 : decode b_M_keep 86 = .ok (.iconst 1, 1) := by decide +kernel
theorem d_M_keep_87 : decode b_M_keep 87 = .ok (.isub, 1) := by decide +kernel
theorem d_M_keep_88 : decode b_M_keep 88 = .ok (.putfield 98, 3) := by decide +kernel
theorem d_M_keep_91 : decode b_M_keep 91 = .ok (.aload_n 0, 1) := by decide +kernel
theorem d_M_keep_92 : decode b_M_keep 92 = .ok (.getfield 22, 3) := by decide +kernel
theorem d_M_keep_95 : decode b_M_keep 95 = .ok (.aload_n 0, 1) := by decide +kernel
theorem d_M_keep_96 : decode b_M_keep 96 = .ok (.getfield 98, 3) := by decide +kernel
theorem d_M_keep_99 : decode b_M_keep 99 = .ok (.aaload, 1) := by decide +kernel
theorem d_M_keep_100 : decode b_M_keep 100 = .ok (.aload_n 0, 1) := by decide +kernel
theorem d_M_keep_101 : decode b_M_keep 101 = .ok (.getfield 10, 3) := by decide +kernel
theorem d_M_keep_104 : decode b_M_keep 104 = .ok (.invokevirtual 91, 3) := by decide +kernel
theorem d_M_keep_107 : decode b_M_keep 107 = .ok (.aload_n 0, 1) := by decide +kernel
theorem d_M_keep_108 : decode b_M_keep 108 = .ok (.getfield 22, 3) := by decide +kernel
theorem d_M_keep_111 : decode b_M_keep 111 = .ok (.aload_n 0, 1) := by decide +kernel
theorem d_M_keep_112 : decode b_M_keep 112 = .ok (.getfield 98, 3) := by decide +kernel
theorem d_M_keep_115 : decode b_M_keep 115 = .ok (.aaload, 1) := by decide +kernel
theorem d_M_keep_116 : decode b_M_keep 116 = .ok (.iload_n 1, 1) := by decide +kernel
theorem d_M_keep_117 : decode b_M_keep 117 = .ok (.putfield 101, 3) := by decide +kernel
theorem d_M_keep_120 : decode b_M_keep 120 = .ok (.aload_n 0, 1) := by decide +kernel
theorem d_M_keep_121 : decode b_M_keep 121 = .ok (.dup, 1) := by decide +kernel
theorem d_M_keep_122 : decode b_M_keep 122 = .ok (.getfield 98, 3) := by decide +kernel
theorem d_M_keep_125 : decode b_M_keep 125 = .ok (.iconst 1, 1) := by decide +kernel
theorem d_M_keep_126 : decode b_M_keep 126 = .ok (.iadd, 1) := by decide +kernel
theorem d_M_keep_127 : decode b_M_keep 127 = .ok (.putfield 98, 3) := by decide +kernel
theorem d_M_keep_130 : decode b_M_keep 130 = .ok (.return_, 1) := by decide +kernel
theorem d_M_commit_0 : decode b_M_commit 0 = .ok (.bipush 8, 2) := by decide +kernel
theorem d_M_commit_2 : decode b_M_commit 2 = .ok (.aload_n 0, 1) := by decide +kernel
theorem d_M_commit_3 : decode b_M_commit 3 = .ok (.getfield 10, 3) := by decide +kernel
theorem d_M_commit_6 : decode b_M_commit 6 = .ok (.aload_n 0, 1) := by decide +kernel
theorem d_M_commit_7 : decode b_M_commit 7 = .ok (.getfield 16, 3) := by decide +kernel
theorem d_M_commit_10 : decode b_M_commit 10 = .ok (.invokevirtual 104, 3) := by decide +kernel
theorem d_M_commit_13 : decode b_M_commit 13 = .ok (.iadd, 1) := by decide +kernel
theorem d_M_commit_14 : decode b_M_commit 14 = .ok (.istore_n 1, 1) := by decide +kernel
theorem d_M_commit_15 : decode b_M_commit 15 = .ok (.aload_n 0, 1) := by decide +kernel
theorem d_M_commit_16 : decode b_M_commit 16 = .ok (.iload_n 1, 1) := by decide +kernel
theorem d_M_commit_17 : decode b_M_commit 17 = .ok (.invokevirtual 108, 3) := by decide +kernel
theorem d_M_commit_20 : decode b_M_commit 20 = .ok (.iload_n 1, 1) := by decide +kernel
theorem d_M_commit_21 : decode b_M_commit 21 = .ok (.ireturn, 1) := by decide +kernel
theorem d_K_undo_0 : decode b_K_undo 0 = .ok (.aload_n 0, 1) := by decide +kernel
theorem d_K_undo_1 : decode b_K_undo 1 = .ok (.invokevirtual 96, 3) := by decide +kernel
theorem d_K_undo_4 : decode b_K_undo 4 = .ok (.istore_n 1, 1) := by decide +kernel
theorem d_K_undo_5 : decode b_K_undo 5 = .ok (.aload_n 0, 1) := by decide +kernel
theorem d_K_undo_6 : decode b_K_undo 6 = .ok (.getfield 44, 3) := by decide +kernel
theorem d_K_undo_9 : decode b_K_undo 9 = .ok (.aload_n 0, 1) := by decide +kernel
theorem d_K_undo_10 : decode b_K_undo 10 = .ok (.invokevirtual 104, 3) := by decide +kernel
theorem d_K_undo_13 : decode b_K_undo 13 = .ok (.invokevirtual 108, 3) := by decide +kernel
theorem d_K_undo_16 : decode b_K_undo 16 = .ok (.iload_n 1, 1) := by decide +kernel
theorem d_K_undo_17 : decode b_K_undo 17 = .ok (.ireturn, 1) := by decide +kernel
theorem d_M_undo_0 : decode b_M_undo 0 = .ok (.aload_n 0, 1) := by decide +kernel
theorem d_M_undo_1 : decode b_M_undo 1 = .ok (.getfield 10, 3) := by decide +kernel
theorem d_M_undo_4 : decode b_M_undo 4 = .ok (.aload_n 0, 1) := by decide +kernel
theorem d_M_undo_5 : decode b_M_undo 5 = .ok (.getfield 16, 3) := by decide +kernel
theorem d_M_undo_8 : decode b_M_undo 8 = .ok (.invokevirtual 104, 3) := by decide +kernel
theorem d_M_undo_11 : decode b_M_undo 11 = .ok (.istore_n 1, 1) := by decide +kernel
theorem d_M_undo_12 : decode b_M_undo 12 = .ok (.aload_n 0, 1) := by decide +kernel
theorem d_M_undo_13 : decode b_M_undo 13 = .ok (.getfield 10, 3) := by decide +kernel
theorem d_M_undo_16 : decode b_M_undo 16 = .ok (.aload_n 0, 1) := by decide +kernel
theorem d_M_undo_17 : decode b_M_undo 17 = .ok (.getfield 16, 3) := by decide +kernel
theorem d_M_undo_20 : decode b_M_undo 20 = .ok (.invokevirtual 91, 3) := by decide +kernel
theorem d_M_undo_23 : decode b_M_undo 23 = .ok (.iload_n 1, 1) := by decide +kernel
theorem d_M_undo_24 : decode b_M_undo 24 = .ok (.ireturn, 1) := by decide +kernel
theorem d_R_enqueue_0 : decode b_R_enqueue 0 = .ok (.aload_n 0, 1) := by decide +kernel
theorem d_R_enqueue_1 : decode b_R_enqueue 1 = .ok (.getfield 9, 3) := by decide +kernel
theorem d_R_enqueue_4 : decode b_R_enqueue 4 = .ok (.iload_n 1, 1) := by decide +kernel
theorem d_R_enqueue_5 : decode b_R_enqueue 5 = .ok (.baload, 1) := by decide +kernel
theorem d_R_enqueue_6 : decode b_R_enqueue 6 = .ok (.ifCond .ne 30, 3) := by decide +kernel
theorem d_R_enqueue_9 : decode b_R_enqueue 9 = .ok (.aload_n 0, 1) := by decide +kernel
theorem d_R_enqueue_10 : decode b_R_enqueue 10 = .ok (.getfield 9, 3) := by decide +kernel
theorem d_R_enqueue_13 : decode b_R_enqueue 13 = .ok (.iload_n 1, 1) := by decide +kernel
theorem d_R_enqueue_14 : decode b_R_enqueue 14 = .ok (.iconst 1, 1) := by decide +kernel
theorem d_R_enqueue_15 : decode b_R_enqueue 15 = .ok (.bastore, 1) := by decide +kernel
theorem d_R_enqueue_16 : decode b_R_enqueue 16 = .ok (.aload_n 0, 1) := by decide +kernel
theorem d_R_enqueue_17 : decode b_R_enqueue 17 = .ok (.getfield 15, 3) := by decide +kernel
theorem d_R_enqueue_20 : decode b_R_enqueue 20 = .ok (.aload_n 0, 1) := by decide +kernel
theorem d_R_enqueue_21 : decode b_R_enqueue 21 = .ok (.getfield 19, 3) := by decide +kernel
theorem d_R_enqueue_24 : decode b_R_enqueue 24 = .ok (.iload_n 1, 1) := by decide +kernel
theorem d_R_enqueue_25 : decode b_R_enqueue 25 = .ok (.iastore, 1) := by decide +kernel
theorem d_R_enqueue_26 : decode b_R_enqueue 26 = .ok (.aload_n 0, 1) := by decide +kernel
theorem d_R_enqueue_27 : decode b_R_enqueue 27 = .ok (.dup, 1) := by decide +kernel
theorem d_R_enqueue_28 : decode b_R_enqueue 28 = .ok (.getfield 19, 3) := by decide +kernel
theorem d_R_enqueue_31 : decode b_R_enqueue 31 = .ok (.iconst 1, 1) := by decide +kernel
theorem d_R_enqueue_32 : decode b_R_enqueue 32 = .ok (.iadd, 1) := by decide +kernel
theorem d_R_enqueue_33 : decode b_R_enqueue 33 = .ok (.putfield 19, 3) := by decide +kernel
theorem d_R_enqueue_36 : decode b_R_enqueue 36 = .ok (.return_, 1) := by decide +kernel
theorem d_R_enqueueAll_0 : decode b_R_enqueueAll 0 = .ok (.aload_n 1, 1) := by decide +kernel
theorem d_R_enqueueAll_1 : decode b_R_enqueueAll 1 = .ok (.ifnonnull 4, 3) := by decide +kernel
theorem d_R_enqueueAll_4 : decode b_R_enqueueAll 4 = .ok (.return_, 1) := by decide +kernel
theorem d_R_enqueueAll_5 : decode b_R_enqueueAll 5 = .ok (.iconst 0, 1) := by decide +kernel
theorem d_R_enqueueAll_6 : decode b_R_enqueueAll 6 = .ok (.istore_n 2, 1) := by decide +kernel
theorem d_R_enqueueAll_7 : decode b_R_enqueueAll 7 = .ok (.iload_n 2, 1) := by decide +kernel
theorem d_R_enqueueAll_8 : decode b_R_enqueueAll 8 = .ok (.aload_n 1, 1) := by decide +kernel
theorem d_R_enqueueAll_9 : decode b_R_enqueueAll 9 = .ok (.getfield 41, 3) := by decide +kernel
theorem d_R_enqueueAll_12 : decode b_R_enqueueAll 12 = .ok (.if_icmp .ge 40, 3) := by decide +kernel
theorem d_R_enqueueAll_15 : decode b_R_enqueueAll 15 = .ok (.aload_n 1, 1) := by decide +kernel
theorem d_R_enqueueAll_16 : decode b_R_enqueueAll 16 = .ok (.getfield 46, 3) := by decide +kernel
theorem d_R_enqueueAll_19 : decode b_R_enqueueAll 19 = .ok (.iload_n 2, 1) := by decide +kernel
theorem d_R_enqueueAll_20 : decode b_R_enqueueAll 20 = .ok (.laload, 1) := by decide +kernel
theorem d_R_enqueueAll_21 : decode b_R_enqueueAll 21 = .ok (.ldc2_w 50, 3) := by decide +kernel
theorem d_R_enqueueAll_24 : decode b_R_enqueueAll 24 = .ok (.lsub, 1) := by decide +kernel
theorem d_R_enqueueAll_25 : decode b_R_enqueueAll 25 = .ok (.lstore_n 3, 1) := by decide +kernel
theorem d_R_enqueueAll_26 : decode b_R_enqueueAll 26 = .ok (.lload_n 3, 1) := by decide +kernel
theorem d_R_enqueueAll_27 : decode b_R_enqueueAll 27 = .ok (.lconst 0, 1) := by decide +kernel
theorem d_R_enqueueAll_28 : decode b_R_enqueueAll 28 = .ok (.lcmp, 1) := by decide +kernel
theorem d_R_enqueueAll_29 : decode b_R_enqueueAll 29 = .ok (.ifCond .lt 17, 3) := by decide +kernel
theorem d_R_enqueueAll_32 : decode b_R_enqueueAll 32 = .ok (.lload_n 3, 1) := by decide +kernel
theorem d_R_enqueueAll_33 : decode b_R_enqueueAll 33 = .ok (.ldc2_w 52, 3) := by decide +kernel
theorem d_R_enqueueAll_36 : decode b_R_enqueueAll 36 = .ok (.lcmp, 1) := by decide +kernel
theorem d_R_enqueueAll_37 : decode b_R_enqueueAll 37 = .ok (.ifCond .ge 9, 3) := by decide +kernel
theorem d_R_enqueueAll_40 : decode b_R_enqueueAll 40 = .ok (.aload_n 0, 1) := by decide +kernel
theorem d_R_enqueueAll_41 : decode b_R_enqueueAll 41 = .ok (.lload_n 3, 1) := by decide +kernel
theorem d_R_enqueueAll_42 : decode b_R_enqueueAll 42 = .ok (.l2i, 1) := by decide +kernel
theorem d_R_enqueueAll_43 : decode b_R_enqueueAll 43 = .ok (.invokevirtual 54, 3) := by decide +kernel
theorem d_R_enqueueAll_46 : decode b_R_enqueueAll 46 = .ok (.iinc 2 1, 3) := by decide +kernel
theorem d_R_enqueueAll_49 : decode b_R_enqueueAll 49 = .ok (.goto (-42), 3) := by decide +kernel
theorem d_R_enqueueAll_52 : decode b_R_enqueueAll 52 = .ok (.return_, 1) := by decide +kernel
theorem d_R_walk_0 : decode b_R_walk 0 = .ok (.aload_n 0, 1) := by decide +kernel
theorem d_R_walk_1 : decode b_R_walk 1 = .ok (.iconst 0, 1) := by decide +kernel
theorem d_R_walk_2 : decode b_R_walk 2 = .ok (.putfield 19, 3) := by decide +kernel
theorem d_R_walk_5 : decode b_R_walk 5 = .ok (.iconst 0, 1) := by decide +kernel
theorem d_R_walk_6 : decode b_R_walk 6 = .ok (.istore_n 2, 1) := by decide +kernel
theorem d_R_walk_7 : decode b_R_walk 7 = .ok (.iload_n 2, 1) := by decide +kernel
theorem d_R_walk_8 : decode b_R_walk 8 = .ok (.bipush 100, 2) := by decide +kernel
theorem d_R_walk_10 : decode b_R_walk 10 = .ok (.if_icmp .ge 16, 3) := by decide +kernel
theorem d_R_walk_13 : decode b_R_walk 13 = .ok (.aload_n 0, 1) := by decide +kernel
theorem d_R_walk_14 : decode b_R_walk 14 = .ok (.getfield 9, 3) := by decide +kernel
theorem d_R_walk_17 : decode b_R_walk 17 = .ok (.iload_n 2, 1) := by decide +kernel
theorem d_R_walk_18 : decode b_R_walk 18 = .ok (.iconst 0, 1) := by decide +kernel
theorem d_R_walk_19 : decode b_R_walk 19 = .ok (.bastore, 1) := by decide +kernel
theorem d_R_walk_20 : decode b_R_walk 20 = .ok (.iinc 2 1, 3) := by decide +kernel
theorem d_R_walk_23 : decode b_R_walk 23 = .ok (.goto (-16), 3) := by decide +kernel
theorem d_R_walk_26 : decode b_R_walk 26 = .ok (.aload_n 0, 1) := by decide +kernel
theorem d_R_walk_27 : decode b_R_walk 27 = .ok (.aload_n 1, 1) := by decide +kernel
theorem d_R_walk_28 : decode b_R_walk 28 = .ok (.getfield 33, 3) := by decide +kernel
theorem d_R_walk_31 : decode b_R_walk 31 = .ok (.invokevirtual 37, 3) := by decide +kernel
theorem d_R_walk_34 : decode b_R_walk 34 = .ok (.iconst 0, 1) := by decide +kernel
theorem d_R_walk_35 : decode b_R_walk 35 = .ok (.istore_n 2, 1) := by decide +kernel
theorem d_R_walk_36 : decode b_R_walk 36 = .ok (.iload_n 2, 1) := by decide +kernel
theorem d_R_walk_37 : decode b_R_walk 37 = .ok (.aload_n 0, 1) := by decide +kernel
theorem d_R_walk_38 : decode b_R_walk 38 = .ok (.getfield 19, 3) := by decide +kernel
theorem d_R_walk_41 : decode b_R_walk 41 = .ok (.if_icmp .ge 30, 3) := by decide +kernel
theorem d_R_walk_44 : decode b_R_walk 44 = .ok (.iload_n 2, 1) := by decide +kernel
theorem d_R_walk_45 : decode b_R_walk 45 = .ok (.bipush 100, 2) := by decide +kernel
theorem d_R_walk_47 : decode b_R_walk 47 = .ok (.if_icmp .ge 24, 3) := by decide +kernel
theorem d_R_walk_50 : decode b_R_walk 50 = .ok (.aload_n 0, 1) := by decide +kernel
theorem d_R_walk_51 : decode b_R_walk 51 = .ok (.aload_n 1, 1) := by decide +kernel
theorem d_R_walk_52 : decode b_R_walk 52 = .ok (.getfield 27, 3) := by decide +kernel
theorem d_R_walk_55 : decode b_R_walk 55 = .ok (.aload_n 0, 1) := by decide +kernel
theorem d_R_walk_56 : decode b_R_walk 56 = .ok (.getfield 15, 3) := by decide +kernel
theorem d_R_walk_59 : decode b_R_walk 59 = .ok (.iload_n 2, 1) := by decide +kernel
theorem d_R_walk_60 : decode b_R_walk 60 = .ok (.iaload, 1) := by decide +kernel
theorem d_R_walk_61 : decode b_R_walk 61 = .ok (.aaload, 1) := by decide +kernel
theorem d_R_walk_62 : decode b_R_walk 62 = .ok (.invokevirtual 37, 3) := by decide +kernel
theorem d_R_walk_65 : decode b_R_walk 65 = .ok (.iinc 2 1, 3) := by decide +kernel
theorem d_R_walk_68 : decode b_R_walk 68 = .ok (.goto (-32), 3) := by decide +kernel
theorem d_R_walk_71 : decode b_R_walk 71 = .ok (.return_, 1) := by decide +kernel
theorem d_R_dropUnreached_0 : decode b_R_dropUnreached 0 = .ok (.aload_n 0, 1) := by decide +kernel
theorem d_R_dropUnreached_1 : decode b_R_dropUnreached 1 = .ok (.aload_n 1, 1) := by decide +kernel
theorem d_R_dropUnreached_2 : decode b_R_dropUnreached 2 = .ok (.invokevirtual 23, 3) := by decide +kernel
theorem d_R_dropUnreached_5 : decode b_R_dropUnreached 5 = .ok (.iconst 0, 1) := by decide +kernel
theorem d_R_dropUnreached_6 : decode b_R_dropUnreached 6 = .ok (.istore_n 2, 1) := by decide +kernel
theorem d_R_dropUnreached_7 : decode b_R_dropUnreached 7 = .ok (.iconst 0, 1) := by decide +kernel
theorem d_R_dropUnreached_8 : decode b_R_dropUnreached 8 = .ok (.istore_n 3, 1) := by decide +kernel
theorem d_R_dropUnreached_9 : decode b_R_dropUnreached 9 = .ok (.iload_n 3, 1) := by decide +kernel
theorem d_R_dropUnreached_10 : decode b_R_dropUnreached 10 = .ok (.bipush 100, 2) := by decide +kernel
theorem d_R_dropUnreached_12 : decode b_R_dropUnreached 12 = .ok (.if_icmp .ge 37, 3) := by decide +kernel
theorem d_R_dropUnreached_15 : decode b_R_dropUnreached 15 = .ok (.aload_n 1, 1) := by decide +kernel
theorem d_R_dropUnreached_16 : decode b_R_dropUnreached 16 = .ok (.getfield 27, 3) := by decide +kernel
theorem d_R_dropUnreached_19 : decode b_R_dropUnreached 19 = .ok (.iload_n 3, 1) := by decide +kernel
theorem d_R_dropUnreached_20 : decode b_R_dropUnreached 20 = .ok (.aaload, 1) := by decide +kernel
theorem d_R_dropUnreached_21 : decode b_R_dropUnreached 21 = .ok (.ifnull 22, 3) := by decide +kernel
theorem d_R_dropUnreached_24 : decode b_R_dropUnreached 24 = .ok (.aload_n 0, 1) := by decide +kernel
theorem d_R_dropUnreached_25 : decode b_R_dropUnreached 25 = .ok (.getfield 9, 3) := by decide +kernel
theorem d_R_dropUnreached_28 : decode b_R_dropUnreached 28 = .ok (.iload_n 3, 1) := by decide +kernel
theorem d_R_dropUnreached_29 : decode b_R_dropUnreached 29 = .ok (.baload, 1) := by decide +kernel
theorem d_R_dropUnreached_30 : decode b_R_dropUnreached 30 = .ok (.ifCond .ne 13, 3) := by decide +kernel
theorem d_R_dropUnreached_33 : decode b_R_dropUnreached 33 = .ok (.aload_n 1, 1) := by decide +kernel
theorem d_R_dropUnreached_34 : decode b_R_dropUnreached 34 = .ok (.getfield 27, 3) := by decide +kernel
theorem d_R_dropUnreached_37 : decode b_R_dropUnreached 37 = .ok (.iload_n 3, 1) := by decide +kernel
theorem d_R_dropUnreached_38 : decode b_R_dropUnreached 38 = .ok (.aconst_null, 1) := by decide +kernel
theorem d_R_dropUnreached_39 : decode b_R_dropUnreached 39 = .ok (.aastore, 1) := by decide +kernel
theorem d_R_dropUnreached_40 : decode b_R_dropUnreached 40 = .ok (.iinc 2 1, 3) := by decide +kernel
theorem d_R_dropUnreached_43 : decode b_R_dropUnreached 43 = .ok (.iinc 3 1, 3) := by decide +kernel
theorem d_R_dropUnreached_46 : decode b_R_dropUnreached 46 = .ok (.goto (-37), 3) := by decide +kernel
theorem d_R_dropUnreached_49 : decode b_R_dropUnreached 49 = .ok (.iload_n 2, 1) := by decide +kernel
theorem d_R_dropUnreached_50 : decode b_R_dropUnreached 50 = .ok (.ireturn, 1) := by decide +kernel
theorem d_K_sweep_0 : decode b_K_sweep 0 = .ok (.aload_n 0, 1) := by decide +kernel
theorem d_K_sweep_1 : decode b_K_sweep 1 = .ok (.getfield 44, 3) := by decide +kernel
theorem d_K_sweep_4 : decode b_K_sweep 4 = .ok (.aload_n 0, 1) := by decide +kernel
theorem d_K_sweep_5 : decode b_K_sweep 5 = .ok (.invokevirtual 104, 3) := by decide +kernel
theorem d_K_sweep_8 : decode b_K_sweep 8 = .ok (.invokevirtual 108, 3) := by decide +kernel
theorem d_K_sweep_11 : decode b_K_sweep 11 = .ok (.aload_n 0, 1) := by decide +kernel
theorem d_K_sweep_12 : decode b_K_sweep 12 = .ok (.getfield 22, 3) := by decide +kernel
theorem d_K_sweep_15 : decode b_K_sweep 15 = .ok (.aload_n 0, 1) := by decide +kernel
theorem d_K_sweep_16 : decode b_K_sweep 16 = .ok (.getfield 44, 3) := by decide +kernel
theorem d_K_sweep_19 : decode b_K_sweep 19 = .ok (.invokevirtual 112, 3) := by decide +kernel
theorem d_K_sweep_22 : decode b_K_sweep 22 = .ok (.istore_n 1, 1) := by decide +kernel
theorem d_K_sweep_23 : decode b_K_sweep 23 = .ok (.iload_n 1, 1) := by decide +kernel
theorem d_K_sweep_24 : decode b_K_sweep 24 = .ok (.ifCond .le 9, 3) := by decide +kernel
theorem d_K_sweep_27 : decode b_K_sweep 27 = .ok (.aload_n 0, 1) := by decide +kernel
theorem d_K_sweep_28 : decode b_K_sweep 28 = .ok (.bipush 8, 2) := by decide +kernel
theorem d_K_sweep_30 : decode b_K_sweep 30 = .ok (.invokevirtual 100, 3) := by decide +kernel
theorem d_K_sweep_33 : decode b_K_sweep 33 = .ok (.iload_n 1, 1) := by decide +kernel
theorem d_K_sweep_34 : decode b_K_sweep 34 = .ok (.ireturn, 1) := by decide +kernel
theorem d_M_reach_0 : decode b_M_reach 0 = .ok (.lload_n 1, 1) := by decide +kernel
theorem d_M_reach_1 : decode b_M_reach 1 = .ok (.ldc2_w 47, 3) := by decide +kernel
theorem d_M_reach_4 : decode b_M_reach 4 = .ok (.lcmp, 1) := by decide +kernel
theorem d_M_reach_5 : decode b_M_reach 5 = .ok (.ifCond .le 19, 3) := by decide +kernel
theorem d_M_reach_8 : decode b_M_reach 8 = .ok (.aload_n 0, 1) := by decide +kernel
theorem d_M_reach_9 : decode b_M_reach 9 = .ok (.getfield 26, 3) := by decide +kernel
theorem d_M_reach_12 : decode b_M_reach 12 = .ok (.lload_n 1, 1) := by decide +kernel
theorem d_M_reach_13 : decode b_M_reach 13 = .ok (.ldc2_w 47, 3) := by decide +kernel
theorem d_M_reach_16 : decode b_M_reach 16 = .ok (.lsub, 1) := by decide +kernel
theorem d_M_reach_17 : decode b_M_reach 17 = .ok (.lconst 1, 1) := by decide +kernel
theorem d_M_reach_18 : decode b_M_reach 18 = .ok (.lsub, 1) := by decide +kernel
theorem d_M_reach_19 : decode b_M_reach 19 = .ok (.l2i, 1) := by decide +kernel
theorem d_M_reach_20 : decode b_M_reach 20 = .ok (.baload, 1) := by decide +kernel
theorem d_M_reach_21 : decode b_M_reach 21 = .ok (.ifCond .eq 5, 3) := by decide +kernel
theorem d_M_reach_24 : decode b_M_reach 24 = .ok (.iload_n 3, 1) := by decide +kernel
theorem d_M_reach_25 : decode b_M_reach 25 = .ok (.ireturn, 1) := by decide +kernel
theorem d_M_reach_26 : decode b_M_reach 26 = .ok (.aload_n 0, 1) := by decide +kernel
theorem d_M_reach_27 : decode b_M_reach 27 = .ok (.getfield 26, 3) := by decide +kernel
theorem d_M_reach_30 : decode b_M_reach 30 = .ok (.lload_n 1, 1) := by decide +kernel
theorem d_M_reach_31 : decode b_M_reach 31 = .ok (.ldc2_w 47, 3) := by decide +kernel
theorem d_M_reach_34 : decode b_M_reach 34 = .ok (.lsub, 1) := by decide +kernel
theorem d_M_reach_35 : decode b_M_reach 35 = .ok (.lconst 1, 1) := by decide +kernel
theorem d_M_reach_36 : decode b_M_reach 36 = .ok (.lsub, 1) := by decide +kernel
theorem d_M_reach_37 : decode b_M_reach 37 = .ok (.l2i, 1) := by decide +kernel
theorem d_M_reach_38 : decode b_M_reach 38 = .ok (.iconst 1, 1) := by decide +kernel
theorem d_M_reach_39 : decode b_M_reach 39 = .ok (.bastore, 1) := by decide +kernel
theorem d_M_reach_40 : decode b_M_reach 40 = .ok (.aload_n 0, 1) := by decide +kernel
theorem d_M_reach_41 : decode b_M_reach 41 = .ok (.getfield 30, 3) := by decide +kernel
theorem d_M_reach_44 : decode b_M_reach 44 = .ok (.iload_n 3, 1) := by decide +kernel
theorem d_M_reach_45 : decode b_M_reach 45 = .ok (.lload_n 1, 1) := by decide +kernel
theorem d_M_reach_46 : decode b_M_reach 46 = .ok (.ldc2_w 47, 3) := by decide +kernel
theorem d_M_reach_49 : decode b_M_reach 49 = .ok (.lsub, 1) := by decide +kernel
theorem d_M_reach_50 : decode b_M_reach 50 = .ok (.lconst 1, 1) := by decide +kernel
theorem d_M_reach_51 : decode b_M_reach 51 = .ok (.lsub, 1) := by decide +kernel
theorem d_M_reach_52 : decode b_M_reach 52 = .ok (.l2i, 1) := by decide +kernel
theorem d_M_reach_53 : decode b_M_reach 53 = .ok (.iastore, 1) := by decide +kernel
theorem d_M_reach_54 : decode b_M_reach 54 = .ok (.iload_n 3, 1) := by decide +kernel
theorem d_M_reach_55 : decode b_M_reach 55 = .ok (.iconst 1, 1) := by decide +kernel
theorem d_M_reach_56 : decode b_M_reach 56 = .ok (.iadd, 1) := by decide +kernel
theorem d_M_reach_57 : decode b_M_reach 57 = .ok (.ireturn, 1) := by decide +kernel
