theorem d_M_root_0 : decode b_M_root 0 = .ok (.aload_n 0, 1) := by decide +kernel
theorem d_M_root_1 : decode b_M_root 1 = .ok (.iload_n 2, 1) := by decide +kernel
theorem d_M_root_2 : decode b_M_root 2 = .ok (.iload_n 3, 1) := by decide +kernel
theorem d_M_root_3 : decode b_M_root 3 = .ok (.invokevirtual 58, 3) := by decide +kernel
theorem d_M_root_6 : decode b_M_root 6 = .ok (.ifCond .ne 5, 3) := by decide +kernel
theorem d_M_root_9 : decode b_M_root 9 = .ok (.iconst (-1), 1) := by decide +kernel
theorem d_M_root_10 : decode b_M_root 10 = .ok (.ireturn, 1) := by decide +kernel
theorem d_M_root_11 : decode b_M_root 11 = .ok (.aload_n 0, 1) := by decide +kernel
theorem d_M_root_12 : decode b_M_root 12 = .ok (.getfield 10, 3) := by decide +kernel
theorem d_M_root_15 : decode b_M_root 15 = .ok (.iload_n 1, 1) := by decide +kernel
theorem d_M_root_16 : decode b_M_root 16 = .ok (.invokevirtual 78, 3) := by decide +kernel
theorem d_M_root_19 : decode b_M_root 19 = .ok (.istore 4, 2) := by decide +kernel
theorem d_M_root_21 : decode b_M_root 21 = .ok (.iload_n 2, 1) := by decide +kernel
theorem d_M_root_22 : decode b_M_root 22 = .ok (.ifCond .ne 87, 3) := by decide +kernel
theorem d_M_root_25 : decode b_M_root 25 = .ok (.iload 4, 2) := by decide +kernel
theorem d_M_root_27 : decode b_M_root 27 = .ok (.ifCond .ge 11, 3) := by decide +kernel
theorem d_M_root_30 : decode b_M_root 30 = .ok (.aload_n 0, 1) := by decide +kernel
theorem d_M_root_31 : decode b_M_root 31 = .ok (.getfield 10, 3) := by decide +kernel
theorem d_M_root_34 : decode b_M_root 34 = .ok (.getfield 82, 3) := by decide +kernel
theorem d_M_root_37 : decode b_M_root 37 = .ok (.ireturn, 1) := by decide +kernel
theorem d_M_root_38 : decode b_M_root 38 = .ok (.aload_n 0, 1) := by decide +kernel
theorem d_M_root_39 : decode b_M_root 39 = .ok (.getfield 10, 3) := by decide +kernel
theorem d_M_root_42 : decode b_M_root 42 = .ok (.dup, 1) := by decide +kernel
theorem d_M_root_43 : decode b_M_root 43 = .ok (.getfield 82, 3) := by decide +kernel
theorem d_M_root_46 : decode b_M_root 46 = .ok (.iconst 1, 1) := by decide +kernel
theorem d_M_root_47 : decode b_M_root 47 = .ok (.isub, 1) := by decide +kernel
theorem d_M_root_48 : decode b_M_root 48 = .ok (.putfield 82, 3) := by decide +kernel
theorem d_M_root_51 : decode b_M_root 51 = .ok (.aload_n 0, 1) := by decide +kernel
theorem d_M_root_52 : decode b_M_root 52 = .ok (.getfield 10, 3) := by decide +kernel
theorem d_M_root_55 : decode b_M_root 55 = .ok (.getfield 86, 3) := by decide +kernel
theorem d_M_root_58 : decode b_M_root 58 = .ok (.iload 4, 2) := by decide +kernel
theorem d_M_root_60 : decode b_M_root 60 = .ok (.aload_n 0, 1) := by decide +kernel
theorem d_M_root_61 : decode b_M_root 61 = .ok (.getfield 10, 3) := by decide +kernel
theorem d_M_root_64 : decode b_M_root 64 = .ok (.getfield 86, 3) := by decide +kernel
theorem d_M_root_67 : decode b_M_root 67 = .ok (.aload_n 0, 1) := by decide +kernel
theorem d_M_root_68 : decode b_M_root 68 = .ok (.getfield 10, 3) := by decide +kernel
theorem d_M_root_71 : decode b_M_root 71 = .ok (.getfield 82, 3) := by decide +kernel
theorem d_M_root_74 : decode b_M_root 74 = .ok (.iaload, 1) := by decide +kernel
theorem d_M_root_75 : decode b_M_root 75 = .ok (.iastore, 1) := by decide +kernel
theorem d_M_root_76 : decode b_M_root 76 = .ok (.aload_n 0, 1) := by decide +kernel
theorem d_M_root_77 : decode b_M_root 77 = .ok (.getfield 10, 3) := by decide +kernel
theorem d_M_root_80 : decode b_M_root 80 = .ok (.getfield 89, 3) := by decide +kernel
theorem d_M_root_83 : decode b_M_root 83 = .ok (.iload 4, 2) := by decide +kernel
theorem d_M_root_85 : decode b_M_root 85 = .ok (.aload_n 0, 1) := by decide +kernel
theorem d_M_root_86 : decode b_M_root 86 = .ok (.getfield 10, 3) := by decide +kernel
theorem d_M_root_89 : decode b_M_root 89 = .ok (.getfield 89, 3) := by decide +kernel
theorem d_M_root_92 : decode b_M_root 92 = .ok (.aload_n 0, 1) := by decide +kernel
theorem d_M_root_93 : decode b_M_root 93 = .ok (.getfield 10, 3) := by decide +kernel
theorem d_M_root_96 : decode b_M_root 96 = .ok (.getfield 82, 3) := by decide +kernel
theorem d_M_root_99 : decode b_M_root 99 = .ok (.laload, 1) := by decide +kernel
theorem d_M_root_100 : decode b_M_root 100 = .ok (.lastore, 1) := by decide +kernel
theorem d_M_root_101 : decode b_M_root 101 = .ok (.aload_n 0, 1) := by decide +kernel
theorem d_M_root_102 : decode b_M_root 102 = .ok (.getfield 10, 3) := by decide +kernel
theorem d_M_root_105 : decode b_M_root 105 = .ok (.getfield 82, 3) := by decide +kernel
theorem d_M_root_108 : decode b_M_root 108 = .ok (.ireturn, 1) := by decide +kernel
theorem d_M_root_109 : decode b_M_root 109 = .ok (.iload 4, 2) := by decide +kernel
theorem d_M_root_111 : decode b_M_root 111 = .ok (.ifCond .ge 51, 3) := by decide +kernel
theorem d_M_root_114 : decode b_M_root 114 = .ok (.aload_n 0, 1) := by decide +kernel
theorem d_M_root_115 : decode b_M_root 115 = .ok (.getfield 10, 3) := by decide +kernel
theorem d_M_root_118 : decode b_M_root 118 = .ok (.getfield 82, 3) := by decide +kernel
theorem d_M_root_121 : decode b_M_root 121 = .ok (.bipush 12, 2) := by decide +kernel
theorem d_M_root_123 : decode b_M_root 123 = .ok (.if_icmp .ne 6, 3) := by decide +kernel
theorem d_M_root_126 : decode b_M_root 126 = .ok (.bipush (-3), 2) := by decide +kernel
theorem d_M_root_128 : decode b_M_root 128 = .ok (.ireturn, 1) := by decide +kernel
theorem d_M_root_129 : decode b_M_root 129 = .ok (.aload_n 0, 1) := by decide +kernel
theorem d_M_root_130 : decode b_M_root 130 = .ok (.getfield 10, 3) := by decide +kernel
theorem d_M_root_133 : decode b_M_root 133 = .ok (.getfield 82, 3) := by decide +kernel
theorem d_M_root_136 : decode b_M_root 136 = .ok (.istore 4, 2) := by decide +kernel
theorem d_M_root_138 : decode b_M_root 138 = .ok (.aload_n 0, 1) := by decide +kernel
theorem d_M_root_139 : decode b_M_root 139 = .ok (.getfield 10, 3) := by decide +kernel
theorem d_M_root_142 : decode b_M_root 142 = .ok (.dup, 1) := by decide +kernel
theorem d_M_root_143 : decode b_M_root 143 = .ok (.getfield 82, 3) := by decide +kernel
theorem d_M_root_146 : decode b_M_root 146 = .ok (.iconst 1, 1) := by decide +kernel
theorem d_M_root_147 : decode b_M_root 147 = .ok (.iadd, 1) := by decide +kernel
theorem d_M_root_148 : decode b_M_root 148 = .ok (.putfield 82, 3) := by decide +kernel
theorem d_M_root_151 : decode b_M_root 151 = .ok (.aload_n 0, 1) := by decide +kernel
theorem d_M_root_152 : decode b_M_root 152 = .ok (.getfield 10, 3) := by decide +kernel
theorem d_M_root_155 : decode b_M_root 155 = .ok (.getfield 86, 3) := by decide +kernel
theorem d_M_root_158 : decode b_M_root 158 = .ok (.iload 4, 2) := by decide +kernel
theorem d_M_root_160 : decode b_M_root 160 = .ok (.iload_n 1, 1) := by decide +kernel
theorem d_M_root_161 : decode b_M_root 161 = .ok (.iastore, 1) := by decide +kernel
theorem d_M_root_162 : decode b_M_root 162 = .ok (.aload_n 0, 1) := by decide +kernel
theorem d_M_root_163 : decode b_M_root 163 = .ok (.getfield 10, 3) := by decide +kernel
theorem d_M_root_166 : decode b_M_root 166 = .ok (.getfield 89, 3) := by decide +kernel
theorem d_M_root_169 : decode b_M_root 169 = .ok (.iload 4, 2) := by decide +kernel
theorem d_M_root_171 : decode b_M_root 171 = .ok (.iload_n 2, 1) := by decide +kernel
theorem d_M_root_172 : decode b_M_root 172 = .ok (.iload_n 3, 1) := by decide +kernel
theorem d_M_root_173 : decode b_M_root 173 = .ok (.invokestatic 72, 3) := by decide +kernel
theorem d_M_root_176 : decode b_M_root 176 = .ok (.lastore, 1) := by decide +kernel
theorem d_M_root_177 : decode b_M_root 177 = .ok (.aload_n 0, 1) := by decide +kernel
theorem d_M_root_178 : decode b_M_root 178 = .ok (.getfield 10, 3) := by decide +kernel
theorem d_M_root_181 : decode b_M_root 181 = .ok (.getfield 82, 3) := by decide +kernel
theorem d_M_root_184 : decode b_M_root 184 = .ok (.ireturn, 1) := by decide +kernel
theorem d_K_rooted_0 : decode b_K_rooted 0 = .ok (.aload_n 0, 1) := by decide +kernel
theorem d_K_rooted_1 : decode b_K_rooted 1 = .ok (.getfield 44, 3) := by decide +kernel
theorem d_K_rooted_4 : decode b_K_rooted 4 = .ok (.getfield 92, 3) := by decide +kernel
theorem d_K_rooted_7 : decode b_K_rooted 7 = .ok (.iload_n 1, 1) := by decide +kernel
theorem d_K_rooted_8 : decode b_K_rooted 8 = .ok (.invokevirtual 69, 3) := by decide +kernel
theorem d_K_rooted_11 : decode b_K_rooted 11 = .ok (.lreturn, 1) := by decide +kernel
theorem d_M_rooted_0 : decode b_M_rooted 0 = .ok (.aload_n 0, 1) := by decide +kernel
theorem d_M_rooted_1 : decode b_M_rooted 1 = .ok (.getfield 10, 3) := by decide +kernel
theorem d_M_rooted_4 : decode b_M_rooted 4 = .ok (.iload_n 1, 1) := by decide +kernel
theorem d_M_rooted_5 : decode b_M_rooted 5 = .ok (.invokevirtual 78, 3) := by decide +kernel
theorem d_M_rooted_8 : decode b_M_rooted 8 = .ok (.istore_n 2, 1) := by decide +kernel
theorem d_M_rooted_9 : decode b_M_rooted 9 = .ok (.iload_n 2, 1) := by decide +kernel
theorem d_M_rooted_10 : decode b_M_rooted 10 = .ok (.ifCond .ge 9, 3) := by decide +kernel
theorem d_M_rooted_13 : decode b_M_rooted 13 = .ok (.ldc2_w 47, 3) := by decide +kernel
theorem d_M_rooted_16 : decode b_M_rooted 16 = .ok (.goto 12, 3) := by decide +kernel
theorem d_M_rooted_19 : decode b_M_rooted 19 = .ok (.aload_n 0, 1) := by decide +kernel
theorem d_M_rooted_20 : decode b_M_rooted 20 = .ok (.getfield 10, 3) := by decide +kernel
theorem d_M_rooted_23 : decode b_M_rooted 23 = .ok (.getfield 89, 3) := by decide +kernel
theorem d_M_rooted_26 : decode b_M_rooted 26 = .ok (.iload_n 2, 1) := by decide +kernel
theorem d_M_rooted_27 : decode b_M_rooted 27 = .ok (.laload, 1) := by decide +kernel
theorem d_M_rooted_28 : decode b_M_rooted 28 = .ok (.lreturn, 1) := by decide +kernel
theorem d_S_sameAs_0 : decode b_S_sameAs 0 = .ok (.aload_n 1, 1) := by decide +kernel
theorem d_S_sameAs_1 : decode b_S_sameAs 1 = .ok (.ifnull 25, 3) := by decide +kernel
theorem d_S_sameAs_4 : decode b_S_sameAs 4 = .ok (.aload_n 1, 1) := by decide +kernel
theorem d_S_sameAs_5 : decode b_S_sameAs 5 = .ok (.getfield 15, 3) := by decide +kernel
theorem d_S_sameAs_8 : decode b_S_sameAs 8 = .ok (.aload_n 0, 1) := by decide +kernel
theorem d_S_sameAs_9 : decode b_S_sameAs 9 = .ok (.getfield 15, 3) := by decide +kernel
theorem d_S_sameAs_12 : decode b_S_sameAs 12 = .ok (.if_icmp .ne 14, 3) := by decide +kernel
theorem d_S_sameAs_15 : decode b_S_sameAs 15 = .ok (.aload_n 1, 1) := by decide +kernel
theorem d_S_sameAs_16 : decode b_S_sameAs 16 = .ok (.getfield 9, 3) := by decide +kernel
theorem d_S_sameAs_19 : decode b_S_sameAs 19 = .ok (.aload_n 0, 1) := by decide +kernel
theorem d_S_sameAs_20 : decode b_S_sameAs 20 = .ok (.getfield 9, 3) := by decide +kernel
theorem d_S_sameAs_23 : decode b_S_sameAs 23 = .ok (.if_icmp .eq 5, 3) := by decide +kernel
theorem d_S_sameAs_26 : decode b_S_sameAs 26 = .ok (.iconst 0, 1) := by decide +kernel
theorem d_S_sameAs_27 : decode b_S_sameAs 27 = .ok (.ireturn, 1) := by decide +kernel
theorem d_S_sameAs_28 : decode b_S_sameAs 28 = .ok (.iconst 0, 1) := by decide +kernel
theorem d_S_sameAs_29 : decode b_S_sameAs 29 = .ok (.istore_n 2, 1) := by decide +kernel
theorem d_S_sameAs_30 : decode b_S_sameAs 30 = .ok (.iload_n 2, 1) := by decide +kernel
theorem d_S_sameAs_31 : decode b_S_sameAs 31 = .ok (.aload_n 0, 1) := by decide +kernel
theorem d_S_sameAs_32 : decode b_S_sameAs 32 = .ok (.getfield 9, 3) := by decide +kernel
theorem d_S_sameAs_35 : decode b_S_sameAs 35 = .ok (.if_icmp .ge 42, 3) := by decide +kernel
theorem d_S_sameAs_38 : decode b_S_sameAs 38 = .ok (.aload_n 1, 1) := by decide +kernel
theorem d_S_sameAs_39 : decode b_S_sameAs 39 = .ok (.getfield 18, 3) := by decide +kernel
theorem d_S_sameAs_42 : decode b_S_sameAs 42 = .ok (.iload_n 2, 1) := by decide +kernel
theorem d_S_sameAs_43 : decode b_S_sameAs 43 = .ok (.iaload, 1) := by decide +kernel
theorem d_S_sameAs_44 : decode b_S_sameAs 44 = .ok (.aload_n 0, 1) := by decide +kernel
theorem d_S_sameAs_45 : decode b_S_sameAs 45 = .ok (.getfield 18, 3) := by decide +kernel
theorem d_S_sameAs_48 : decode b_S_sameAs 48 = .ok (.iload_n 2, 1) := by decide +kernel
theorem d_S_sameAs_49 : decode b_S_sameAs 49 = .ok (.iaload, 1) := by decide +kernel
theorem d_S_sameAs_50 : decode b_S_sameAs 50 = .ok (.if_icmp .ne 19, 3) := by decide +kernel
theorem d_S_sameAs_53 : decode b_S_sameAs 53 = .ok (.aload_n 1, 1) := by decide +kernel
theorem d_S_sameAs_54 : decode b_S_sameAs 54 = .ok (.getfield 22, 3) := by decide +kernel
theorem d_S_sameAs_57 : decode b_S_sameAs 57 = .ok (.iload_n 2, 1) := by decide +kernel
theorem d_S_sameAs_58 : decode b_S_sameAs 58 = .ok (.laload, 1) := by decide +kernel
theorem d_S_sameAs_59 : decode b_S_sameAs 59 = .ok (.aload_n 0, 1) := by decide +kernel
theorem d_S_sameAs_60 : decode b_S_sameAs 60 = .ok (.getfield 22, 3) := by decide +kernel
theorem d_S_sameAs_63 : decode b_S_sameAs 63 = .ok (.iload_n 2, 1) := by decide +kernel
theorem d_S_sameAs_64 : decode b_S_sameAs 64 = .ok (.laload, 1) := by decide +kernel
theorem d_S_sameAs_65 : decode b_S_sameAs 65 = .ok (.lcmp, 1) := by decide +kernel
theorem d_S_sameAs_66 : decode b_S_sameAs 66 = .ok (.ifCond .eq 5, 3) := by decide +kernel
theorem d_S_sameAs_69 : decode b_S_sameAs 69 = .ok (.iconst 0, 1) := by decide +kernel
theorem d_S_sameAs_70 : decode b_S_sameAs 70 = .ok (.ireturn, 1) := by decide +kernel
theorem d_S_sameAs_71 : decode b_S_sameAs 71 = .ok (.iinc 2 1, 3) := by decide +kernel
theorem d_S_sameAs_74 : decode b_S_sameAs 74 = .ok (.goto (-44), 3) := by decide +kernel
theorem d_S_sameAs_77 : decode b_S_sameAs 77 = .ok (.iconst 1, 1) := by decide +kernel
theorem d_S_sameAs_78 : decode b_S_sameAs 78 = .ok (.ireturn, 1) := by decide +kernel
theorem d_S_namesChangedFrom_0 : decode b_S_namesChangedFrom 0 = .ok (.iconst 0, 1) := by decide +kernel
theorem d_S_namesChangedFrom_1 : decode b_S_namesChangedFrom 1 = .ok (.istore_n 2, 1) := by decide +kernel
theorem d_S_namesChangedFrom_2 : decode b_S_namesChangedFrom 2 = .ok (.iconst 0, 1) := by decide +kernel
theorem d_S_namesChangedFrom_3 : decode b_S_namesChangedFrom 3 = .ok (.istore_n 3, 1) := by decide +kernel
theorem d_S_namesChangedFrom_4 : decode b_S_namesChangedFrom 4 = .ok (.iload_n 3, 1) := by decide +kernel
theorem d_S_namesChangedFrom_5 : decode b_S_namesChangedFrom 5 = .ok (.aload_n 0, 1) := by decide +kernel
theorem d_S_namesChangedFrom_6 : decode b_S_namesChangedFrom 6 = .ok (.getfield 9, 3) := by decide +kernel
theorem d_S_namesChangedFrom_9 : decode b_S_namesChangedFrom 9 = .ok (.if_icmp .ge 32, 3) := by decide +kernel
theorem d_S_namesChangedFrom_12 : decode b_S_namesChangedFrom 12 = .ok (.aload_n 1, 1) := by decide +kernel
theorem d_S_namesChangedFrom_13 : decode b_S_namesChangedFrom 13 = .ok (.aload_n 0, 1) := by decide +kernel
theorem d_S_namesChangedFrom_14 : decode b_S_namesChangedFrom 14 = .ok (.getfield 18, 3) := by decide +kernel
theorem d_S_namesChangedFrom_17 : decode b_S_namesChangedFrom 17 = .ok (.iload_n 3, 1) := by decide +kernel
theorem d_S_namesChangedFrom_18 : decode b_S_namesChangedFrom 18 = .ok (.iaload, 1) := by decide +kernel
theorem d_S_namesChangedFrom_19 : decode b_S_namesChangedFrom 19 = .ok (.invokevirtual 55, 3) := by decide +kernel
theorem d_S_namesChangedFrom_22 : decode b_S_namesChangedFrom 22 = .ok (.aload_n 0, 1) := by decide +kernel
theorem d_S_namesChangedFrom_23 : decode b_S_namesChangedFrom 23 = .ok (.getfield 22, 3) := by decide +kernel
theorem d_S_namesChangedFrom_26 : decode b_S_namesChangedFrom 26 = .ok (.iload_n 3, 1) := by decide +kernel
theorem d_S_namesChangedFrom_27 : decode b_S_namesChangedFrom 27 = .ok (.laload, 1) := by decide +kernel
theorem d_S_namesChangedFrom_28 : decode b_S_namesChangedFrom 28 = .ok (.lcmp, 1) := by decide +kernel
theorem d_S_namesChangedFrom_29 : decode b_S_namesChangedFrom 29 = .ok (.ifCond .eq 6, 3) := by decide +kernel
theorem d_S_namesChangedFrom_32 : decode b_S_namesChangedFrom 32 = .ok (.iinc 2 1, 3) := by decide +kernel
theorem d_S_namesChangedFrom_35 : decode b_S_namesChangedFrom 35 = .ok (.iinc 3 1, 3) := by decide +kernel
theorem d_S_namesChangedFrom_38 : decode b_S_namesChangedFrom 38 = .ok (.goto (-34), 3) := by decide +kernel
theorem d_S_namesChangedFrom_41 : decode b_S_namesChangedFrom 41 = .ok (.iconst 0, 1) := by decide +kernel
theorem d_S_namesChangedFrom_42 : decode b_S_namesChangedFrom 42 = .ok (.istore_n 3, 1) := by decide +kernel
theorem d_S_namesChangedFrom_43 : decode b_S_namesChangedFrom 43 = .ok (.iload_n 3, 1) := by decide +kernel
theorem d_S_namesChangedFrom_44 : decode b_S_namesChangedFrom 44 = .ok (.aload_n 1, 1) := by decide +kernel
theorem d_S_namesChangedFrom_45 : decode b_S_namesChangedFrom 45 = .ok (.getfield 9, 3) := by decide +kernel
theorem d_S_namesChangedFrom_48 : decode b_S_namesChangedFrom 48 = .ok (.if_icmp .ge 29, 3) := by decide +kernel
theorem d_S_namesChangedFrom_51 : decode b_S_namesChangedFrom 51 = .ok (.aload_n 0, 1) := by decide +kernel
theorem d_S_namesChangedFrom_52 : decode b_S_namesChangedFrom 52 = .ok (.aload_n 1, 1) := by decide +kernel
theorem d_S_namesChangedFrom_53 : decode b_S_namesChangedFrom 53 = .ok (.getfield 18, 3) := by decide +kernel
theorem d_S_namesChangedFrom_56 : decode b_S_namesChangedFrom 56 = .ok (.iload_n 3, 1) := by decide +kernel
theorem d_S_namesChangedFrom_57 : decode b_S_namesChangedFrom 57 = .ok (.iaload, 1) := by decide +kernel
theorem d_S_namesChangedFrom_58 : decode b_S_namesChangedFrom 58 = .ok (.invokevirtual 55, 3) := by decide +kernel
theorem d_S_namesChangedFrom_61 : decode b_S_namesChangedFrom 61 = .ok (.ldc2_w 39, 3) := by decide +kernel
theorem d_S_namesChangedFrom_64 : decode b_S_namesChangedFrom 64 = .ok (.lcmp, 1) := by decide +kernel
theorem d_S_namesChangedFrom_65 : decode b_S_namesChangedFrom 65 = .ok (.ifCond .ne 6, 3) := by decide +kernel
theorem d_S_namesChangedFrom_68 : decode b_S_namesChangedFrom 68 = .ok (.iinc 2 1, 3) := by decide +kernel
theorem d_S_namesChangedFrom_71 : decode b_S_namesChangedFrom 71 = .ok (.iinc 3 1, 3) := by decide +kernel
theorem d_S_namesChangedFrom_74 : decode b_S_namesChangedFrom 74 = .ok (.goto (-31), 3) := by decide +kernel
theorem d_S_namesChangedFrom_77 : decode b_S_namesChangedFrom 77 = .ok (.iload_n 2, 1) := by decide +kernel
theorem d_S_namesChangedFrom_78 : decode b_S_namesChangedFrom 78 = .ok (.ireturn, 1) := by decide +kernel
theorem d_K_changedBytes_0 : decode b_K_changedBytes 0 = .ok (.aload_n 0, 1) := by decide +kernel
theorem d_K_changedBytes_1 : decode b_K_changedBytes 1 = .ok (.invokevirtual 104, 3) := by decide +kernel
theorem d_K_changedBytes_4 : decode b_K_changedBytes 4 = .ok (.astore_n 1, 1) := by decide +kernel
theorem d_K_changedBytes_5 : decode b_K_changedBytes 5 = .ok (.iconst 0, 1) := by decide +kernel
theorem d_K_changedBytes_6 : decode b_K_changedBytes 6 = .ok (.istore_n 2, 1) := by decide +kernel
theorem d_K_changedBytes_7 : decode b_K_changedBytes 7 = .ok (.iconst 0, 1) := by decide +kernel
theorem d_K_changedBytes_8 : decode b_K_changedBytes 8 = .ok (.istore_n 3, 1) := by decide +kernel
theorem d_K_changedBytes_9 : decode b_K_changedBytes 9 = .ok (.iload_n 3, 1) := by decide +kernel
theorem d_K_changedBytes_10 : decode b_K_changedBytes 10 = .ok (.bipush 100, 2) := by decide +kernel
theorem d_K_changedBytes_12 : decode b_K_changedBytes 12 = .ok (.if_icmp .ge 42, 3) := by decide +kernel
theorem d_K_changedBytes_15 : decode b_K_changedBytes 15 = .ok (.aload_n 0, 1) := by decide +kernel
theorem d_K_changedBytes_16 : decode b_K_changedBytes 16 = .ok (.getfield 44, 3) := by decide +kernel
theorem d_K_changedBytes_19 : decode b_K_changedBytes 19 = .ok (.getfield 48, 3) := by decide +kernel
theorem d_K_changedBytes_22 : decode b_K_changedBytes 22 = .ok (.iload_n 3, 1) := by decide +kernel
theorem d_K_changedBytes_23 : decode b_K_changedBytes 23 = .ok (.aaload, 1) := by decide +kernel
theorem d_K_changedBytes_24 : decode b_K_changedBytes 24 = .ok (.astore 4, 2) := by decide +kernel
theorem d_K_changedBytes_26 : decode b_K_changedBytes 26 = .ok (.aload 4, 2) := by decide +kernel
theorem d_K_changedBytes_28 : decode b_K_changedBytes 28 = .ok (.ifnull 20, 3) := by decide +kernel
theorem d_K_changedBytes_31 : decode b_K_changedBytes 31 = .ok (.aload 4, 2) := by decide +kernel
theorem d_K_changedBytes_33 : decode b_K_changedBytes 33 = .ok (.aload_n 1, 1) := by decide +kernel
theorem d_K_changedBytes_34 : decode b_K_changedBytes 34 = .ok (.getfield 48, 3) := by decide +kernel
theorem d_K_changedBytes_37 : decode b_K_changedBytes 37 = .ok (.iload_n 3, 1) := by decide +kernel
theorem d_K_changedBytes_38 : decode b_K_changedBytes 38 = .ok (.aaload, 1) := by decide +kernel
theorem d_K_changedBytes_39 : decode b_K_changedBytes 39 = .ok (.invokevirtual 142, 3) := by decide +kernel
theorem d_K_changedBytes_42 : decode b_K_changedBytes 42 = .ok (.ifCond .ne 6, 3) := by decide +kernel
theorem d_K_changedBytes_45 : decode b_K_changedBytes 45 = .ok (.iinc 2 1, 3) := by decide +kernel
theorem d_K_changedBytes_48 : decode b_K_changedBytes 48 = .ok (.iinc 3 1, 3) := by decide +kernel
theorem d_K_changedBytes_51 : decode b_K_changedBytes 51 = .ok (.goto (-42), 3) := by decide +kernel
theorem d_K_changedBytes_54 : decode b_K_changedBytes 54 = .ok (.bipush 16, 2) := by decide +kernel
theorem d_K_changedBytes_56 : decode b_K_changedBytes 56 = .ok (.iload_n 2, 1) := by decide +kernel
theorem d_K_changedBytes_57 : decode b_K_changedBytes 57 = .ok (.imul, 1) := by decide +kernel
theorem d_K_changedBytes_58 : decode b_K_changedBytes 58 = .ok (.bipush 6, 2) := by decide +kernel
theorem d_K_changedBytes_60 : decode b_K_changedBytes 60 = .ok (.aload_n 0, 1) := by decide +kernel
theorem d_K_changedBytes_61 : decode b_K_changedBytes 61 = .ok (.getfield 44, 3) := by decide +kernel
theorem d_K_changedBytes_64 : decode b_K_changedBytes 64 = .ok (.getfield 92, 3) := by decide +kernel
theorem d_K_changedBytes_67 : decode b_K_changedBytes 67 = .ok (.aload_n 1, 1) := by decide +kernel
theorem d_K_changedBytes_68 : decode b_K_changedBytes 68 = .ok (.getfield 92, 3) := by decide +kernel
theorem d_K_changedBytes_71 : decode b_K_changedBytes 71 = .ok (.invokevirtual 146, 3) := by decide +kernel
theorem d_K_changedBytes_74 : decode b_K_changedBytes 74 = .ok (.imul, 1) := by decide +kernel
theorem d_K_changedBytes_75 : decode b_K_changedBytes 75 = .ok (.iadd, 1) := by decide +kernel
theorem d_K_changedBytes_76 : decode b_K_changedBytes 76 = .ok (.ireturn, 1) := by decide +kernel
theorem d_T_become_0 : decode b_T_become 0 = .ok (.iconst 0, 1) := by decide +kernel
theorem d_T_become_1 : decode b_T_become 1 = .ok (.istore_n 2, 1) := by decide +kernel
theorem d_T_become_2 : decode b_T_become 2 = .ok (.iload_n 2, 1) := by decide +kernel
theorem d_T_become_3 : decode b_T_become 3 = .ok (.bipush 100, 2) := by decide +kernel
theorem d_T_become_5 : decode b_T_become 5 = .ok (.if_icmp .ge 21, 3) := by decide +kernel
theorem d_T_become_8 : decode b_T_become 8 = .ok (.aload_n 0, 1) := by decide +kernel
theorem d_T_become_9 : decode b_T_become 9 = .ok (.getfield 11, 3) := by decide +kernel
theorem d_T_become_12 : decode b_T_become 12 = .ok (.iload_n 2, 1) := by decide +kernel
theorem d_T_become_13 : decode b_T_become 13 = .ok (.aload_n 1, 1) := by decide +kernel
theorem d_T_become_14 : decode b_T_become 14 = .ok (.getfield 11, 3) := by decide +kernel
theorem d_T_become_17 : decode b_T_become 17 = .ok (.iload_n 2, 1) := by decide +kernel
theorem d_T_become_18 : decode b_T_become 18 = .ok (.aaload, 1) := by decide +kernel
theorem d_T_become_19 : decode b_T_become 19 = .ok (.aastore, 1) := by decide +kernel
theorem d_T_become_20 : decode b_T_become 20 = .ok (.iinc 2 1, 3) := by decide +kernel
theorem d_T_become_23 : decode b_T_become 23 = .ok (.goto (-21), 3) := by decide +kernel
theorem d_T_become_26 : decode b_T_become 26 = .ok (.aload_n 0, 1) := by decide +kernel
theorem d_T_become_27 : decode b_T_become 27 = .ok (.aload_n 1, 1) := by decide +kernel
theorem d_T_become_28 : decode b_T_become 28 = .ok (.getfield 17, 3) := by decide +kernel
theorem d_T_become_31 : decode b_T_become 31 = .ok (.putfield 17, 3) := by decide +kernel
theorem d_T_become_34 : decode b_T_become 34 = .ok (.return_, 1) := by decide +kernel
theorem d_K_keepNow_0 : decode b_K_keepNow 0 = .ok (.aload_n 0, 1) := by decide +kernel
theorem d_K_keepNow_1 : decode b_K_keepNow 1 = .ok (.getfield 30, 3) := by decide +kernel
theorem d_K_keepNow_4 : decode b_K_keepNow 4 = .ok (.bipush 8, 2) := by decide +kernel
theorem d_K_keepNow_6 : decode b_K_keepNow 6 = .ok (.if_icmp .ne 15, 3) := by decide +kernel
theorem d_K_keepNow_9 : decode b_K_keepNow 9 = .ok (.aload_n 0, 1) := by decide +kernel
theorem d_K_keepNow_10 : decode b_K_keepNow 10 = .ok (.aload_n 0, 1) := by decide +kernel
theorem d_K_keepNow_11 : decode b_K_keepNow 11 = .ok (.iconst 1, 1) := by decide +kernel
theorem d_K_keepNow_12 : decode b_K_keepNow 12 = .ok (.invokevirtual 116, 3) := by decide +kernel
theorem d_K_keepNow_15 : decode b_K_keepNow 15 = .ok (.putfield 26, 3) := by decide +kernel
theorem d_K_keepNow_18 : decode b_K_keepNow 18 = .ok (.goto 13, 3) := by decide +kernel
theorem d_K_keepNow_21 : decode b_K_keepNow 21 = .ok (.aload_n 0, 1) := by decide +kernel
theorem d_K_keepNow_22 : decode b_K_keepNow 22 = .ok (.dup, 1) := by decide +kernel
theorem d_K_keepNow_23 : decode b_K_keepNow 23 = .ok (.getfield 30, 3) := by decide +kernel
theorem d_K_keepNow_26 : decode b_K_keepNow 26 = .ok (.iconst 1, 1) := by decide +kernel
theorem d_K_keepNow_27 : decode b_K_keepNow 27 = .ok (.iadd, 1) := by decide +kernel
theorem d_K_keepNow_28 : decode b_K_keepNow 28 = .ok (.putfield 30, 3) := by decide +kernel
theorem d_K_keepNow_31 : decode b_K_keepNow 31 = .ok (.aload_n 0, 1) := by decide +kernel
theorem d_K_keepNow_32 : decode b_K_keepNow 32 = .ok (.aload_n 0, 1) := by decide +kernel
theorem d_K_keepNow_33 : decode b_K_keepNow 33 = .ok (.getfield 30, 3) := by decide +kernel
theorem d_K_keepNow_36 : decode b_K_keepNow 36 = .ok (.invokevirtual 116, 3) := by decide +kernel
theorem d_K_keepNow_39 : decode b_K_keepNow 39 = .ok (.istore_n 2, 1) := by decide +kernel
theorem d_K_keepNow_40 : decode b_K_keepNow 40 = .ok (.aload_n 0, 1) := by decide +kernel
theorem d_K_keepNow_41 : decode b_K_keepNow 41 = .ok (.getfield 11, 3) := by decide +kernel
theorem d_K_keepNow_44 : decode b_K_keepNow 44 = .ok (.iload_n 2, 1) := by decide +kernel
theorem d_K_keepNow_45 : decode b_K_keepNow 45 = .ok (.aaload, 1) := by decide +kernel
theorem d_K_keepNow_46 : decode b_K_keepNow 46 = .ok (.aload_n 0, 1) := by decide +kernel
theorem d_K_keepNow_47 : decode b_K_keepNow 47 = .ok (.getfield 44, 3) := by decide +kernel
theorem d_K_keepNow_50 : decode b_K_keepNow 50 = .ok (.invokevirtual 108, 3) := by decide +kernel
theorem d_K_keepNow_53 : decode b_K_keepNow 53 = .ok (.aload_n 0, 1) := by decide +kernel
theorem d_K_keepNow_54 : decode b_K_keepNow 54 = .ok (.getfield 15, 3) := by decide +kernel
theorem d_K_keepNow_57 : decode b_K_keepNow 57 = .ok (.iload_n 2, 1) := by decide +kernel
theorem d_K_keepNow_58 : decode b_K_keepNow 58 = .ok (.iload_n 1, 1) := by decide +kernel
theorem d_K_keepNow_59 : decode b_K_keepNow 59 = .ok (.iastore, 1) := by decide +kernel
theorem d_K_keepNow_60 : decode b_K_keepNow 60 = .ok (.aload_n 0, 1) := by decide +kernel
theorem d_K_keepNow_61 : decode b_K_keepNow 61 = .ok (.dup, 1) := by decide +kernel
theorem d_K_keepNow_62 : decode b_K_keepNow 62 = .ok (.getfield 33, 3) := by decide +kernel
theorem d_K_keepNow_65 : decode b_K_keepNow 65 = .ok (.iload_n 1, 1) := by decide +kernel
theorem d_K_keepNow_66 : decode b_K_keepNow 66 = .ok (.iadd, 1) := by decide +kernel
theorem d_K_keepNow_67 : decode b_K_keepNow 67 = .ok (.putfield 33, 3) := by decide +kernel
theorem d_K_keepNow_70 : decode b_K_keepNow 70 = .ok (.return_, 1) := by decide +kernel
theorem d_K_commit_0 : decode b_K_commit 0 = .ok (.bipush 8, 2) := by decide +kernel
theorem d_K_commit_2 : decode b_K_commit 2 = .ok (.aload_n 0, 1) := by decide +kernel
theorem d_K_commit_3 : decode b_K_commit 3 = .ok (.invokevirtual 96, 3) := by decide +kernel
theorem d_K_commit_6 : decode b_K_commit 6 = .ok (.iadd, 1) := by decide +kernel
theorem d_K_commit_7 : decode b_K_commit 7 = .ok (.istore_n 1, 1) := by decide +kernel
theorem d_K_commit_8 : decode b_K_commit 8 = .ok (.aload_n 0, 1) := by decide +kernel
theorem d_K_commit_9 : decode b_K_commit 9 = .ok (.iload_n 1, 1) := by decide +kernel
theorem d_K_commit_10 : decode b_K_commit 10 = .ok (.invokevirtual 100, 3) := by decide +kernel
theorem d_K_commit_13 : decode b_K_commit 13 = .ok (.iload_n 1, 1) := by decide +kernel
theorem d_K_commit_14 : decode b_K_commit 14 = .ok (.ireturn, 1) := by decide +kernel
theorem d_N_isSame_0 : decode b_N_isSame 0 = .ok (.aload_n 0, 1) := by decide +kernel
theorem d_N_isSame_1 : decode b_N_isSame 1 = .ok (.getfield 9, 3) := by decide +kernel
theorem d_N_isSame_4 : decode b_N_isSame 4 = .ok (.iload_n 1, 1) := by decide +kernel
theorem d_N_isSame_5 : decode b_N_isSame 5 = .ok (.iaload, 1) := by decide +kernel
theorem d_N_isSame_6 : decode b_N_isSame 6 = .ok (.aload_n 2, 1) := by decide +kernel
theorem d_N_isSame_7 : decode b_N_isSame 7 = .ok (.getfield 9, 3) := by decide +kernel
theorem d_N_isSame_10 : decode b_N_isSame 10 = .ok (.iload_n 1, 1) := by decide +kernel
theorem d_N_isSame_11 : decode b_N_isSame 11 = .ok (.iaload, 1) := by decide +kernel
theorem d_N_isSame_12 : decode b_N_isSame 12 = .ok (.if_icmp .ne 18, 3) := by decide +kernel
theorem d_N_isSame_15 : decode b_N_isSame 15 = .ok (.aload_n 0, 1) := by decide +kernel
theorem d_N_isSame_16 : decode b_N_isSame 16 = .ok (.getfield 15, 3) := by decide +kernel
theorem d_N_isSame_19 : decode b_N_isSame 19 = .ok (.iload_n 1, 1) := by decide +kernel
theorem d_N_isSame_20 : decode b_N_isSame 20 = .ok (.iaload, 1) := by decide +kernel
theorem d_N_isSame_21 : decode b_N_isSame 21 = .ok (.aload_n 2, 1) := by decide +kernel
theorem d_N_isSame_22 : decode b_N_isSame 22 = .ok (.getfield 15, 3) := by decide +kernel
theorem d_N_isSame_25 : decode b_N_isSame 25 = .ok (.iload_n 1, 1) := by decide +kernel
theorem d_N_isSame_26 : decode b_N_isSame 26 = .ok (.iaload, 1) := by decide +kernel
theorem d_N_isSame_27 : decode b_N_isSame 27 = .ok (.if_icmp .eq 5, 3) := by decide +kernel
theorem d_N_isSame_30 : decode b_N_isSame 30 = .ok (.iconst 0, 1) := by decide +kernel
theorem d_N_isSame_31 : decode b_N_isSame 31 = .ok (.ireturn, 1) := by decide +kernel
theorem d_N_isSame_32 : decode b_N_isSame 32 = .ok (.iconst 0, 1) := by decide +kernel
theorem d_N_isSame_33 : decode b_N_isSame 33 = .ok (.istore_n 3, 1) := by decide +kernel
theorem d_N_isSame_34 : decode b_N_isSame 34 = .ok (.iload_n 3, 1) := by decide +kernel
theorem d_N_isSame_35 : decode b_N_isSame 35 = .ok (.aload_n 0, 1) := by decide +kernel
theorem d_N_isSame_36 : decode b_N_isSame 36 = .ok (.getfield 15, 3) := by decide +kernel
theorem d_N_isSame_39 : decode b_N_isSame 39 = .ok (.iload_n 1, 1) := by decide +kernel
theorem d_N_isSame_40 : decode b_N_isSame 40 = .ok (.iaload, 1) := by decide +kernel
theorem d_N_isSame_41 : decode b_N_isSame 41 = .ok (.if_icmp .ge 72, 3) := by decide +kernel
theorem d_N_isSame_44 : decode b_N_isSame 44 = .ok (.aload_n 0, 1) := by decide +kernel
theorem d_N_isSame_45 : decode b_N_isSame 45 = .ok (.getfield 24, 3) := by decide +kernel
theorem d_N_isSame_48 : decode b_N_isSame 48 = .ok (.bipush 20, 2) := by decide +kernel
theorem d_N_isSame_50 : decode b_N_isSame 50 = .ok (.iload_n 1, 1) := by decide +kernel
theorem d_N_isSame_51 : decode b_N_isSame 51 = .ok (.imul, 1) := by decide +kernel
theorem d_N_isSame_52 : decode b_N_isSame 52 = .ok (.iload_n 3, 1) := by decide +kernel
theorem d_N_isSame_53 : decode b_N_isSame 53 = .ok (.iadd, 1) := by decide +kernel
theorem d_N_isSame_54 : decode b_N_isSame 54 = .ok (.laload, 1) := by decide +kernel
theorem d_N_isSame_55 : decode b_N_isSame 55 = .ok (.aload_n 2, 1) := by decide +kernel
theorem d_N_isSame_56 : decode b_N_isSame 56 = .ok (.getfield 24, 3) := by decide +kernel
theorem d_N_isSame_59 : decode b_N_isSame 59 = .ok (.bipush 20, 2) := by decide +kernel
theorem d_N_isSame_61 : decode b_N_isSame 61 = .ok (.iload_n 1, 1) := by decide +kernel
theorem d_N_isSame_62 : decode b_N_isSame 62 = .ok (.imul, 1) := by decide +kernel
theorem d_N_isSame_63 : decode b_N_isSame 63 = .ok (.iload_n 3, 1) := by decide +kernel
theorem d_N_isSame_64 : decode b_N_isSame 64 = .ok (.iadd, 1) := by decide +kernel
theorem d_N_isSame_65 : decode b_N_isSame 65 = .ok (.laload, 1) := by decide +kernel
theorem d_N_isSame_66 : decode b_N_isSame 66 = .ok (.lcmp, 1) := by decide +kernel
theorem d_N_isSame_67 : decode b_N_isSame 67 = .ok (.ifCond .ne 38, 3) := by decide +kernel
theorem d_N_isSame_70 : decode b_N_isSame 70 = .ok (.aload_n 0, 1) := by decide +kernel
theorem d_N_isSame_71 : decode b_N_isSame 71 = .ok (.getfield 9, 3) := by decide +kernel
theorem d_N_isSame_74 : decode b_N_isSame 74 = .ok (.iload_n 1, 1) := by decide +kernel
theorem d_N_isSame_75 : decode b_N_isSame 75 = .ok (.iaload, 1) := by decide +kernel
theorem d_N_isSame_76 : decode b_N_isSame 76 = .ok (.iconst 1, 1) := by decide +kernel
theorem d_N_isSame_77 : decode b_N_isSame 77 = .ok (.if_icmp .ne 30, 3) := by decide +kernel
theorem d_N_isSame_80 : decode b_N_isSame 80 = .ok (.aload_n 0, 1) := by decide +kernel
theorem d_N_isSame_81 : decode b_N_isSame 81 = .ok (.getfield 18, 3) := by decide +kernel
theorem d_N_isSame_84 : decode b_N_isSame 84 = .ok (.bipush 8, 2) := by decide +kernel
theorem d_N_isSame_86 : decode b_N_isSame 86 = .ok (.iload_n 1, 1) := by decide +kernel
theorem d_N_isSame_87 : decode b_N_isSame 87 = .ok (.imul, 1) := by decide +kernel
theorem d_N_isSame_88 : decode b_N_isSame 88 = .ok (.iload_n 3, 1) := by decide +kernel
theorem d_N_isSame_89 : decode b_N_isSame 89 = .ok (.iadd, 1) := by decide +kernel
theorem d_N_isSame_90 : decode b_N_isSame 90 = .ok (.iaload, 1) := by decide +kernel
theorem d_N_isSame_91 : decode b_N_isSame 91 = .ok (.aload_n 2, 1) := by decide +kernel
theorem d_N_isSame_92 : decode b_N_isSame 92 = .ok (.getfield 18, 3) := by decide +kernel
theorem d_N_isSame_95 : decode b_N_isSame 95 = .ok (.bipush 8, 2) := by decide +kernel
theorem d_N_isSame_97 : decode b_N_isSame 97 = .ok (.iload_n 1, 1) := by decide +kernel
theorem d_N_isSame_98 : decode b_N_isSame 98 = .ok (.imul, 1) := by decide +kernel
theorem d_N_isSame_99 : decode b_N_isSame 99 = .ok (.iload_n 3, 1) := by decide +kernel
theorem d_N_isSame_100 : decode b_N_isSame 100 = .ok (.iadd, 1) := by decide +kernel
theorem d_N_isSame_101 : decode b_N_isSame 101 = .ok (.iaload, 1) := by decide +kernel
theorem d_N_isSame_102 : decode b_N_isSame 102 = .ok (.if_icmp .eq 5, 3) := by decide +kernel
theorem d_N_isSame_105 : decode b_N_isSame 105 = .ok (.iconst 0, 1) := by decide +kernel
theorem d_N_isSame_106 : decode b_N_isSame 106 = .ok (.ireturn, 1) := by decide +kernel
theorem d_N_isSame_107 : decode b_N_isSame 107 = .ok (.iinc 3 1, 3) := by decide +kernel
theorem d_N_isSame_110 : decode b_N_isSame 110 = .ok (.goto (-76), 3) := by decide +kernel
theorem d_N_isSame_113 : decode b_N_isSame 113 = .ok (.iconst 1, 1) := by decide +kernel
theorem d_N_isSame_114 : decode b_N_isSame 114 = .ok (.ireturn, 1) := by decide +kernel
