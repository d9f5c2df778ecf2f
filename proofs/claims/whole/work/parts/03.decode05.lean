theorem d_M_sweep_0 : decode b_M_sweep 0 = .ok (.aload_n 0, 1) := by decide +kernel
theorem d_M_sweep_1 : decode b_M_sweep 1 = .ok (.getfield 10, 3) := by decide +kernel
theorem d_M_sweep_4 : decode b_M_sweep 4 = .ok (.aload_n 0, 1) := by decide +kernel
theorem d_M_sweep_5 : decode b_M_sweep 5 = .ok (.getfield 16, 3) := by decide +kernel
theorem d_M_sweep_8 : decode b_M_sweep 8 = .ok (.invokevirtual 91, 3) := by decide +kernel
theorem d_M_sweep_11 : decode b_M_sweep 11 = .ok (.aload_n 0, 1) := by decide +kernel
theorem d_M_sweep_12 : decode b_M_sweep 12 = .ok (.getfield 26, 3) := by decide +kernel
theorem d_M_sweep_15 : decode b_M_sweep 15 = .ok (.astore_n 1, 1) := by decide +kernel
theorem d_M_sweep_16 : decode b_M_sweep 16 = .ok (.aload_n 0, 1) := by decide +kernel
theorem d_M_sweep_17 : decode b_M_sweep 17 = .ok (.getfield 30, 3) := by decide +kernel
theorem d_M_sweep_20 : decode b_M_sweep 20 = .ok (.astore_n 2, 1) := by decide +kernel
theorem d_M_sweep_21 : decode b_M_sweep 21 = .ok (.iconst 0, 1) := by decide +kernel
theorem d_M_sweep_22 : decode b_M_sweep 22 = .ok (.istore_n 3, 1) := by decide +kernel
theorem d_M_sweep_23 : decode b_M_sweep 23 = .ok (.iconst 0, 1) := by decide +kernel
theorem d_M_sweep_24 : decode b_M_sweep 24 = .ok (.istore 4, 2) := by decide +kernel
theorem d_M_sweep_26 : decode b_M_sweep 26 = .ok (.iconst 0, 1) := by decide +kernel
theorem d_M_sweep_27 : decode b_M_sweep 27 = .ok (.istore 5, 2) := by decide +kernel
theorem d_M_sweep_29 : decode b_M_sweep 29 = .ok (.iload 5, 2) := by decide +kernel
theorem d_M_sweep_31 : decode b_M_sweep 31 = .ok (.bipush 100, 2) := by decide +kernel
theorem d_M_sweep_33 : decode b_M_sweep 33 = .ok (.if_icmp .ge 14, 3) := by decide +kernel
theorem d_M_sweep_36 : decode b_M_sweep 36 = .ok (.aload_n 1, 1) := by decide +kernel
theorem d_M_sweep_37 : decode b_M_sweep 37 = .ok (.iload 5, 2) := by decide +kernel
theorem d_M_sweep_39 : decode b_M_sweep 39 = .ok (.iconst 0, 1) := by decide +kernel
theorem d_M_sweep_40 : decode b_M_sweep 40 = .ok (.bastore, 1) := by decide +kernel
theorem d_M_sweep_41 : decode b_M_sweep 41 = .ok (.iinc 5 1, 3) := by decide +kernel
theorem d_M_sweep_44 : decode b_M_sweep 44 = .ok (.goto (-15), 3) := by decide +kernel
theorem d_M_sweep_47 : decode b_M_sweep 47 = .ok (.iconst 0, 1) := by decide +kernel
theorem d_M_sweep_48 : decode b_M_sweep 48 = .ok (.istore 5, 2) := by decide +kernel
theorem d_M_sweep_50 : decode b_M_sweep 50 = .ok (.iload 5, 2) := by decide +kernel
theorem d_M_sweep_52 : decode b_M_sweep 52 = .ok (.aload_n 0, 1) := by decide +kernel
theorem d_M_sweep_53 : decode b_M_sweep 53 = .ok (.getfield 10, 3) := by decide +kernel
theorem d_M_sweep_56 : decode b_M_sweep 56 = .ok (.getfield 82, 3) := by decide +kernel
theorem d_M_sweep_59 : decode b_M_sweep 59 = .ok (.if_icmp .ge 25, 3) := by decide +kernel
theorem d_M_sweep_62 : decode b_M_sweep 62 = .ok (.aload_n 0, 1) := by decide +kernel
theorem d_M_sweep_63 : decode b_M_sweep 63 = .ok (.aload_n 0, 1) := by decide +kernel
theorem d_M_sweep_64 : decode b_M_sweep 64 = .ok (.getfield 10, 3) := by decide +kernel
theorem d_M_sweep_67 : decode b_M_sweep 67 = .ok (.getfield 89, 3) := by decide +kernel
theorem d_M_sweep_70 : decode b_M_sweep 70 = .ok (.iload 5, 2) := by decide +kernel
theorem d_M_sweep_72 : decode b_M_sweep 72 = .ok (.laload, 1) := by decide +kernel
theorem d_M_sweep_73 : decode b_M_sweep 73 = .ok (.iload_n 3, 1) := by decide +kernel
theorem d_M_sweep_74 : decode b_M_sweep 74 = .ok (.invokevirtual 112, 3) := by decide +kernel
theorem d_M_sweep_77 : decode b_M_sweep 77 = .ok (.istore_n 3, 1) := by decide +kernel
theorem d_M_sweep_78 : decode b_M_sweep 78 = .ok (.iinc 5 1, 3) := by decide +kernel
theorem d_M_sweep_81 : decode b_M_sweep 81 = .ok (.goto (-31), 3) := by decide +kernel
theorem d_M_sweep_84 : decode b_M_sweep 84 = .ok (.iconst 0, 1) := by decide +kernel
theorem d_M_sweep_85 : decode b_M_sweep 85 = .ok (.istore 5, 2) := by decide +kernel
theorem d_M_sweep_87 : decode b_M_sweep 87 = .ok (.iload 5, 2) := by decide +kernel
theorem d_M_sweep_89 : decode b_M_sweep 89 = .ok (.iload_n 3, 1) := by decide +kernel
theorem d_M_sweep_90 : decode b_M_sweep 90 = .ok (.if_icmp .ge 59, 3) := by decide +kernel
theorem d_M_sweep_93 : decode b_M_sweep 93 = .ok (.iconst 0, 1) := by decide +kernel
theorem d_M_sweep_94 : decode b_M_sweep 94 = .ok (.istore 6, 2) := by decide +kernel
theorem d_M_sweep_96 : decode b_M_sweep 96 = .ok (.iload 6, 2) := by decide +kernel
theorem d_M_sweep_98 : decode b_M_sweep 98 = .ok (.aload_n 0, 1) := by decide +kernel
theorem d_M_sweep_99 : decode b_M_sweep 99 = .ok (.getfield 10, 3) := by decide +kernel
theorem d_M_sweep_102 : decode b_M_sweep 102 = .ok (.getfield 51, 3) := by decide +kernel
theorem d_M_sweep_105 : decode b_M_sweep 105 = .ok (.aload_n 2, 1) := by decide +kernel
theorem d_M_sweep_106 : decode b_M_sweep 106 = .ok (.iload 5, 2) := by decide +kernel
theorem d_M_sweep_108 : decode b_M_sweep 108 = .ok (.iaload, 1) := by decide +kernel
theorem d_M_sweep_109 : decode b_M_sweep 109 = .ok (.iaload, 1) := by decide +kernel
theorem d_M_sweep_110 : decode b_M_sweep 110 = .ok (.if_icmp .ge 33, 3) := by decide +kernel
theorem d_M_sweep_113 : decode b_M_sweep 113 = .ok (.aload_n 0, 1) := by decide +kernel
theorem d_M_sweep_114 : decode b_M_sweep 114 = .ok (.aload_n 0, 1) := by decide +kernel
theorem d_M_sweep_115 : decode b_M_sweep 115 = .ok (.getfield 10, 3) := by decide +kernel
theorem d_M_sweep_118 : decode b_M_sweep 118 = .ok (.getfield 68, 3) := by decide +kernel
theorem d_M_sweep_121 : decode b_M_sweep 121 = .ok (.bipush 20, 2) := by decide +kernel
theorem d_M_sweep_123 : decode b_M_sweep 123 = .ok (.aload_n 2, 1) := by decide +kernel
theorem d_M_sweep_124 : decode b_M_sweep 124 = .ok (.iload 5, 2) := by decide +kernel
theorem d_M_sweep_126 : decode b_M_sweep 126 = .ok (.iaload, 1) := by decide +kernel
theorem d_M_sweep_127 : decode b_M_sweep 127 = .ok (.imul, 1) := by decide +kernel
theorem d_M_sweep_128 : decode b_M_sweep 128 = .ok (.iload 6, 2) := by decide +kernel
theorem d_M_sweep_130 : decode b_M_sweep 130 = .ok (.iadd, 1) := by decide +kernel
theorem d_M_sweep_131 : decode b_M_sweep 131 = .ok (.laload, 1) := by decide +kernel
theorem d_M_sweep_132 : decode b_M_sweep 132 = .ok (.iload_n 3, 1) := by decide +kernel
theorem d_M_sweep_133 : decode b_M_sweep 133 = .ok (.invokevirtual 112, 3) := by decide +kernel
theorem d_M_sweep_136 : decode b_M_sweep 136 = .ok (.istore_n 3, 1) := by decide +kernel
theorem d_M_sweep_137 : decode b_M_sweep 137 = .ok (.iinc 6 1, 3) := by decide +kernel
theorem d_M_sweep_140 : decode b_M_sweep 140 = .ok (.goto (-44), 3) := by decide +kernel
theorem d_M_sweep_143 : decode b_M_sweep 143 = .ok (.iinc 5 1, 3) := by decide +kernel
theorem d_M_sweep_146 : decode b_M_sweep 146 = .ok (.goto (-59), 3) := by decide +kernel
theorem d_M_sweep_149 : decode b_M_sweep 149 = .ok (.iconst 0, 1) := by decide +kernel
theorem d_M_sweep_150 : decode b_M_sweep 150 = .ok (.istore 5, 2) := by decide +kernel
theorem d_M_sweep_152 : decode b_M_sweep 152 = .ok (.iload 5, 2) := by decide +kernel
theorem d_M_sweep_154 : decode b_M_sweep 154 = .ok (.bipush 100, 2) := by decide +kernel
theorem d_M_sweep_156 : decode b_M_sweep 156 = .ok (.if_icmp .ge 46, 3) := by decide +kernel
theorem d_M_sweep_159 : decode b_M_sweep 159 = .ok (.aload_n 0, 1) := by decide +kernel
theorem d_M_sweep_160 : decode b_M_sweep 160 = .ok (.getfield 10, 3) := by decide +kernel
theorem d_M_sweep_163 : decode b_M_sweep 163 = .ok (.getfield 40, 3) := by decide +kernel
theorem d_M_sweep_166 : decode b_M_sweep 166 = .ok (.iload 5, 2) := by decide +kernel
theorem d_M_sweep_168 : decode b_M_sweep 168 = .ok (.iaload, 1) := by decide +kernel
theorem d_M_sweep_169 : decode b_M_sweep 169 = .ok (.ifCond .eq 27, 3) := by decide +kernel
theorem d_M_sweep_172 : decode b_M_sweep 172 = .ok (.aload_n 1, 1) := by decide +kernel
theorem d_M_sweep_173 : decode b_M_sweep 173 = .ok (.iload 5, 2) := by decide +kernel
theorem d_M_sweep_175 : decode b_M_sweep 175 = .ok (.baload, 1) := by decide +kernel
theorem d_M_sweep_176 : decode b_M_sweep 176 = .ok (.ifCond .eq 6, 3) := by decide +kernel
theorem d_M_sweep_179 : decode b_M_sweep 179 = .ok (.goto 17, 3) := by decide +kernel
theorem d_M_sweep_182 : decode b_M_sweep 182 = .ok (.aload_n 0, 1) := by decide +kernel
theorem d_M_sweep_183 : decode b_M_sweep 183 = .ok (.getfield 10, 3) := by decide +kernel
theorem d_M_sweep_186 : decode b_M_sweep 186 = .ok (.getfield 40, 3) := by decide +kernel
theorem d_M_sweep_189 : decode b_M_sweep 189 = .ok (.iload 5, 2) := by decide +kernel
theorem d_M_sweep_191 : decode b_M_sweep 191 = .ok (.iconst 0, 1) := by decide +kernel
theorem d_M_sweep_192 : decode b_M_sweep 192 = .ok (.iastore, 1) := by decide +kernel
theorem d_M_sweep_193 : decode b_M_sweep 193 = .ok (.iinc 4 1, 3) := by decide +kernel
theorem d_M_sweep_196 : decode b_M_sweep 196 = .ok (.iinc 5 1, 3) := by decide +kernel
theorem d_M_sweep_199 : decode b_M_sweep 199 = .ok (.goto (-47), 3) := by decide +kernel
theorem d_M_sweep_202 : decode b_M_sweep 202 = .ok (.iload 4, 2) := by decide +kernel
theorem d_M_sweep_204 : decode b_M_sweep 204 = .ok (.ifCond .le 9, 3) := by decide +kernel
theorem d_M_sweep_207 : decode b_M_sweep 207 = .ok (.aload_n 0, 1) := by decide +kernel
theorem d_M_sweep_208 : decode b_M_sweep 208 = .ok (.bipush 8, 2) := by decide +kernel
theorem d_M_sweep_210 : decode b_M_sweep 210 = .ok (.invokevirtual 108, 3) := by decide +kernel
theorem d_M_sweep_213 : decode b_M_sweep 213 = .ok (.iload 4, 2) := by decide +kernel
theorem d_M_sweep_215 : decode b_M_sweep 215 = .ok (.ireturn, 1) := by decide +kernel
theorem d_K_sync_0 : decode b_K_sync 0 = .ok (.aload_n 0, 1) := by decide +kernel
theorem d_K_sync_1 : decode b_K_sync 1 = .ok (.getfield 30, 3) := by decide +kernel
theorem d_K_sync_4 : decode b_K_sync 4 = .ok (.istore_n 1, 1) := by decide +kernel
theorem d_K_sync_5 : decode b_K_sync 5 = .ok (.aload_n 0, 1) := by decide +kernel
theorem d_K_sync_6 : decode b_K_sync 6 = .ok (.aload_n 0, 1) := by decide +kernel
theorem d_K_sync_7 : decode b_K_sync 7 = .ok (.iload_n 1, 1) := by decide +kernel
theorem d_K_sync_8 : decode b_K_sync 8 = .ok (.invokevirtual 116, 3) := by decide +kernel
theorem d_K_sync_11 : decode b_K_sync 11 = .ok (.putfield 26, 3) := by decide +kernel
theorem d_K_sync_14 : decode b_K_sync 14 = .ok (.aload_n 0, 1) := by decide +kernel
theorem d_K_sync_15 : decode b_K_sync 15 = .ok (.iconst 0, 1) := by decide +kernel
theorem d_K_sync_16 : decode b_K_sync 16 = .ok (.putfield 30, 3) := by decide +kernel
theorem d_K_sync_19 : decode b_K_sync 19 = .ok (.iload_n 1, 1) := by decide +kernel
theorem d_K_sync_20 : decode b_K_sync 20 = .ok (.ireturn, 1) := by decide +kernel
theorem d_M_sync_0 : decode b_M_sync 0 = .ok (.aload_n 0, 1) := by decide +kernel
theorem d_M_sync_1 : decode b_M_sync 1 = .ok (.getfield 98, 3) := by decide +kernel
theorem d_M_sync_4 : decode b_M_sync 4 = .ok (.istore_n 1, 1) := by decide +kernel
theorem d_M_sync_5 : decode b_M_sync 5 = .ok (.aload_n 0, 1) := by decide +kernel
theorem d_M_sync_6 : decode b_M_sync 6 = .ok (.getfield 19, 3) := by decide +kernel
theorem d_M_sync_9 : decode b_M_sync 9 = .ok (.aload_n 0, 1) := by decide +kernel
theorem d_M_sync_10 : decode b_M_sync 10 = .ok (.getfield 16, 3) := by decide +kernel
theorem d_M_sync_13 : decode b_M_sync 13 = .ok (.invokevirtual 91, 3) := by decide +kernel
theorem d_M_sync_16 : decode b_M_sync 16 = .ok (.aload_n 0, 1) := by decide +kernel
theorem d_M_sync_17 : decode b_M_sync 17 = .ok (.iconst 0, 1) := by decide +kernel
theorem d_M_sync_18 : decode b_M_sync 18 = .ok (.putfield 98, 3) := by decide +kernel
theorem d_M_sync_21 : decode b_M_sync 21 = .ok (.iload_n 1, 1) := by decide +kernel
theorem d_M_sync_22 : decode b_M_sync 22 = .ok (.ireturn, 1) := by decide +kernel
theorem d_K_entriesWithin_0 : decode b_K_entriesWithin 0 = .ok (.iload_n 1, 1) := by decide +kernel
theorem d_K_entriesWithin_1 : decode b_K_entriesWithin 1 = .ok (.istore_n 2, 1) := by decide +kernel
theorem d_K_entriesWithin_2 : decode b_K_entriesWithin 2 = .ok (.iconst 1, 1) := by decide +kernel
theorem d_K_entriesWithin_3 : decode b_K_entriesWithin 3 = .ok (.istore_n 3, 1) := by decide +kernel
theorem d_K_entriesWithin_4 : decode b_K_entriesWithin 4 = .ok (.iload_n 3, 1) := by decide +kernel
theorem d_K_entriesWithin_5 : decode b_K_entriesWithin 5 = .ok (.aload_n 0, 1) := by decide +kernel
theorem d_K_entriesWithin_6 : decode b_K_entriesWithin 6 = .ok (.getfield 30, 3) := by decide +kernel
theorem d_K_entriesWithin_9 : decode b_K_entriesWithin 9 = .ok (.if_icmp .gt 36, 3) := by decide +kernel
theorem d_K_entriesWithin_12 : decode b_K_entriesWithin 12 = .ok (.aload_n 0, 1) := by decide +kernel
theorem d_K_entriesWithin_13 : decode b_K_entriesWithin 13 = .ok (.getfield 15, 3) := by decide +kernel
theorem d_K_entriesWithin_16 : decode b_K_entriesWithin 16 = .ok (.aload_n 0, 1) := by decide +kernel
theorem d_K_entriesWithin_17 : decode b_K_entriesWithin 17 = .ok (.iload_n 3, 1) := by decide +kernel
theorem d_K_entriesWithin_18 : decode b_K_entriesWithin 18 = .ok (.invokevirtual 116, 3) := by decide +kernel
theorem d_K_entriesWithin_21 : decode b_K_entriesWithin 21 = .ok (.iaload, 1) := by decide +kernel
theorem d_K_entriesWithin_22 : decode b_K_entriesWithin 22 = .ok (.istore 4, 2) := by decide +kernel
theorem d_K_entriesWithin_24 : decode b_K_entriesWithin 24 = .ok (.iload 4, 2) := by decide +kernel
theorem d_K_entriesWithin_26 : decode b_K_entriesWithin 26 = .ok (.iload_n 2, 1) := by decide +kernel
theorem d_K_entriesWithin_27 : decode b_K_entriesWithin 27 = .ok (.if_icmp .le 7, 3) := by decide +kernel
theorem d_K_entriesWithin_30 : decode b_K_entriesWithin 30 = .ok (.iload_n 3, 1) := by decide +kernel
theorem d_K_entriesWithin_31 : decode b_K_entriesWithin 31 = .ok (.iconst 1, 1) := by decide +kernel
theorem d_K_entriesWithin_32 : decode b_K_entriesWithin 32 = .ok (.isub, 1) := by decide +kernel
theorem d_K_entriesWithin_33 : decode b_K_entriesWithin 33 = .ok (.ireturn, 1) := by decide +kernel
theorem d_K_entriesWithin_34 : decode b_K_entriesWithin 34 = .ok (.iload_n 2, 1) := by decide +kernel
theorem d_K_entriesWithin_35 : decode b_K_entriesWithin 35 = .ok (.iload 4, 2) := by decide +kernel
theorem d_K_entriesWithin_37 : decode b_K_entriesWithin 37 = .ok (.isub, 1) := by decide +kernel
theorem d_K_entriesWithin_38 : decode b_K_entriesWithin 38 = .ok (.istore_n 2, 1) := by decide +kernel
theorem d_K_entriesWithin_39 : decode b_K_entriesWithin 39 = .ok (.iinc 3 1, 3) := by decide +kernel
theorem d_K_entriesWithin_42 : decode b_K_entriesWithin 42 = .ok (.goto (-38), 3) := by decide +kernel
theorem d_K_entriesWithin_45 : decode b_K_entriesWithin 45 = .ok (.aload_n 0, 1) := by decide +kernel
theorem d_K_entriesWithin_46 : decode b_K_entriesWithin 46 = .ok (.getfield 30, 3) := by decide +kernel
theorem d_K_entriesWithin_49 : decode b_K_entriesWithin 49 = .ok (.ireturn, 1) := by decide +kernel
theorem d_K_crash_0 : decode b_K_crash 0 = .ok (.iload_n 1, 1) := by decide +kernel
theorem d_K_crash_1 : decode b_K_crash 1 = .ok (.ifCond .ge 5, 3) := by decide +kernel
theorem d_K_crash_4 : decode b_K_crash 4 = .ok (.iconst (-1), 1) := by decide +kernel
theorem d_K_crash_5 : decode b_K_crash 5 = .ok (.ireturn, 1) := by decide +kernel
theorem d_K_crash_6 : decode b_K_crash 6 = .ok (.aload_n 0, 1) := by decide +kernel
theorem d_K_crash_7 : decode b_K_crash 7 = .ok (.iload_n 1, 1) := by decide +kernel
theorem d_K_crash_8 : decode b_K_crash 8 = .ok (.invokevirtual 120, 3) := by decide +kernel
theorem d_K_crash_11 : decode b_K_crash 11 = .ok (.istore_n 2, 1) := by decide +kernel
theorem d_K_crash_12 : decode b_K_crash 12 = .ok (.iload_n 2, 1) := by decide +kernel
theorem d_K_crash_13 : decode b_K_crash 13 = .ok (.iconst 1, 1) := by decide +kernel
theorem d_K_crash_14 : decode b_K_crash 14 = .ok (.iadd, 1) := by decide +kernel
theorem d_K_crash_15 : decode b_K_crash 15 = .ok (.istore_n 3, 1) := by decide +kernel
theorem d_K_crash_16 : decode b_K_crash 16 = .ok (.iload_n 3, 1) := by decide +kernel
theorem d_K_crash_17 : decode b_K_crash 17 = .ok (.aload_n 0, 1) := by decide +kernel
theorem d_K_crash_18 : decode b_K_crash 18 = .ok (.getfield 30, 3) := by decide +kernel
theorem d_K_crash_21 : decode b_K_crash 21 = .ok (.if_icmp .gt 28, 3) := by decide +kernel
theorem d_K_crash_24 : decode b_K_crash 24 = .ok (.aload_n 0, 1) := by decide +kernel
theorem d_K_crash_25 : decode b_K_crash 25 = .ok (.dup, 1) := by decide +kernel
theorem d_K_crash_26 : decode b_K_crash 26 = .ok (.getfield 33, 3) := by decide +kernel
theorem d_K_crash_29 : decode b_K_crash 29 = .ok (.aload_n 0, 1) := by decide +kernel
theorem d_K_crash_30 : decode b_K_crash 30 = .ok (.getfield 15, 3) := by decide +kernel
theorem d_K_crash_33 : decode b_K_crash 33 = .ok (.aload_n 0, 1) := by decide +kernel
theorem d_K_crash_34 : decode b_K_crash 34 = .ok (.iload_n 3, 1) := by decide +kernel
theorem d_K_crash_35 : decode b_K_crash 35 = .ok (.invokevirtual 116, 3) := by decide +kernel
theorem d_K_crash_38 : decode b_K_crash 38 = .ok (.iaload, 1) := by decide +kernel
theorem d_K_crash_39 : decode b_K_crash 39 = .ok (.isub, 1) := by decide +kernel
theorem d_K_crash_40 : decode b_K_crash 40 = .ok (.putfield 33, 3) := by decide +kernel
theorem d_K_crash_43 : decode b_K_crash 43 = .ok (.iinc 3 1, 3) := by decide +kernel
theorem d_K_crash_46 : decode b_K_crash 46 = .ok (.goto (-30), 3) := by decide +kernel
theorem d_K_crash_49 : decode b_K_crash 49 = .ok (.aload_n 0, 1) := by decide +kernel
theorem d_K_crash_50 : decode b_K_crash 50 = .ok (.aload_n 0, 1) := by decide +kernel
theorem d_K_crash_51 : decode b_K_crash 51 = .ok (.iload_n 2, 1) := by decide +kernel
theorem d_K_crash_52 : decode b_K_crash 52 = .ok (.invokevirtual 116, 3) := by decide +kernel
theorem d_K_crash_55 : decode b_K_crash 55 = .ok (.putfield 26, 3) := by decide +kernel
theorem d_K_crash_58 : decode b_K_crash 58 = .ok (.aload_n 0, 1) := by decide +kernel
theorem d_K_crash_59 : decode b_K_crash 59 = .ok (.iconst 0, 1) := by decide +kernel
theorem d_K_crash_60 : decode b_K_crash 60 = .ok (.putfield 30, 3) := by decide +kernel
theorem d_K_crash_63 : decode b_K_crash 63 = .ok (.aload_n 0, 1) := by decide +kernel
theorem d_K_crash_64 : decode b_K_crash 64 = .ok (.getfield 44, 3) := by decide +kernel
theorem d_K_crash_67 : decode b_K_crash 67 = .ok (.aload_n 0, 1) := by decide +kernel
theorem d_K_crash_68 : decode b_K_crash 68 = .ok (.invokevirtual 104, 3) := by decide +kernel
theorem d_K_crash_71 : decode b_K_crash 71 = .ok (.invokevirtual 108, 3) := by decide +kernel
theorem d_K_crash_74 : decode b_K_crash 74 = .ok (.iload_n 2, 1) := by decide +kernel
theorem d_K_crash_75 : decode b_K_crash 75 = .ok (.ireturn, 1) := by decide +kernel
theorem d_M_crash_0 : decode b_M_crash 0 = .ok (.iload_n 1, 1) := by decide +kernel
theorem d_M_crash_1 : decode b_M_crash 1 = .ok (.ifCond .ge 5, 3) := by decide +kernel
theorem d_M_crash_4 : decode b_M_crash 4 = .ok (.iconst (-1), 1) := by decide +kernel
theorem d_M_crash_5 : decode b_M_crash 5 = .ok (.ireturn, 1) := by decide +kernel
theorem d_M_crash_6 : decode b_M_crash 6 = .ok (.iconst 0, 1) := by decide +kernel
theorem d_M_crash_7 : decode b_M_crash 7 = .ok (.istore_n 2, 1) := by decide +kernel
theorem d_M_crash_8 : decode b_M_crash 8 = .ok (.lconst 0, 1) := by decide +kernel
theorem d_M_crash_9 : decode b_M_crash 9 = .ok (.lstore_n 3, 1) := by decide +kernel
theorem d_M_crash_10 : decode b_M_crash 10 = .ok (.iload_n 2, 1) := by decide +kernel
theorem d_M_crash_11 : decode b_M_crash 11 = .ok (.aload_n 0, 1) := by decide +kernel
theorem d_M_crash_12 : decode b_M_crash 12 = .ok (.getfield 98, 3) := by decide +kernel
theorem d_M_crash_15 : decode b_M_crash 15 = .ok (.if_icmp .ge 40, 3) := by decide +kernel
theorem d_M_crash_18 : decode b_M_crash 18 = .ok (.lload_n 3, 1) := by decide +kernel
theorem d_M_crash_19 : decode b_M_crash 19 = .ok (.aload_n 0, 1) := by decide +kernel
theorem d_M_crash_20 : decode b_M_crash 20 = .ok (.getfield 22, 3) := by decide +kernel
theorem d_M_crash_23 : decode b_M_crash 23 = .ok (.iload_n 2, 1) := by decide +kernel
theorem d_M_crash_24 : decode b_M_crash 24 = .ok (.aaload, 1) := by decide +kernel
theorem d_M_crash_25 : decode b_M_crash 25 = .ok (.getfield 101, 3) := by decide +kernel
theorem d_M_crash_28 : decode b_M_crash 28 = .ok (.i2l, 1) := by decide +kernel
theorem d_M_crash_29 : decode b_M_crash 29 = .ok (.ladd, 1) := by decide +kernel
theorem d_M_crash_30 : decode b_M_crash 30 = .ok (.iload_n 1, 1) := by decide +kernel
theorem d_M_crash_31 : decode b_M_crash 31 = .ok (.i2l, 1) := by decide +kernel
theorem d_M_crash_32 : decode b_M_crash 32 = .ok (.lcmp, 1) := by decide +kernel
theorem d_M_crash_33 : decode b_M_crash 33 = .ok (.ifCond .gt 22, 3) := by decide +kernel
theorem d_M_crash_36 : decode b_M_crash 36 = .ok (.lload_n 3, 1) := by decide +kernel
theorem d_M_crash_37 : decode b_M_crash 37 = .ok (.aload_n 0, 1) := by decide +kernel
theorem d_M_crash_38 : decode b_M_crash 38 = .ok (.getfield 22, 3) := by decide +kernel
theorem d_M_crash_41 : decode b_M_crash 41 = .ok (.iload_n 2, 1) := by decide +kernel
theorem d_M_crash_42 : decode b_M_crash 42 = .ok (.aaload, 1) := by decide +kernel
theorem d_M_crash_43 : decode b_M_crash 43 = .ok (.getfield 101, 3) := by decide +kernel
theorem d_M_crash_46 : decode b_M_crash 46 = .ok (.i2l, 1) := by decide +kernel
theorem d_M_crash_47 : decode b_M_crash 47 = .ok (.ladd, 1) := by decide +kernel
theorem d_M_crash_48 : decode b_M_crash 48 = .ok (.lstore_n 3, 1) := by decide +kernel
theorem d_M_crash_49 : decode b_M_crash 49 = .ok (.iinc 2 1, 3) := by decide +kernel
theorem d_M_crash_52 : decode b_M_crash 52 = .ok (.goto (-42), 3) := by decide +kernel
theorem d_M_crash_55 : decode b_M_crash 55 = .ok (.iload_n 2, 1) := by decide +kernel
theorem d_M_crash_56 : decode b_M_crash 56 = .ok (.istore 5, 2) := by decide +kernel
theorem d_M_crash_58 : decode b_M_crash 58 = .ok (.iload 5, 2) := by decide +kernel
theorem d_M_crash_60 : decode b_M_crash 60 = .ok (.aload_n 0, 1) := by decide +kernel
theorem d_M_crash_61 : decode b_M_crash 61 = .ok (.getfield 98, 3) := by decide +kernel
theorem d_M_crash_64 : decode b_M_crash 64 = .ok (.if_icmp .ge 28, 3) := by decide +kernel
theorem d_M_crash_67 : decode b_M_crash 67 = .ok (.aload_n 0, 1) := by decide +kernel
theorem d_M_crash_68 : decode b_M_crash 68 = .ok (.dup, 1) := by decide +kernel
theorem d_M_crash_69 : decode b_M_crash 69 = .ok (.getfield 95, 3) := by decide +kernel
theorem d_M_crash_72 : decode b_M_crash 72 = .ok (.aload_n 0, 1) := by decide +kernel
theorem d_M_crash_73 : decode b_M_crash 73 = .ok (.getfield 22, 3) := by decide +kernel
theorem d_M_crash_76 : decode b_M_crash 76 = .ok (.iload 5, 2) := by decide +kernel
theorem d_M_crash_78 : decode b_M_crash 78 = .ok (.aaload, 1) := by decide +kernel
theorem d_M_crash_79 : decode b_M_crash 79 = .ok (.getfield 101, 3) := by decide +kernel
theorem d_M_crash_82 : decode b_M_crash 82 = .ok (.isub, 1) := by decide +kernel
theorem d_M_crash_83 : decode b_M_crash 83 = .ok (.putfield 95, 3) := by decide +kernel
theorem d_M_crash_86 : decode b_M_crash 86 = .ok (.iinc 5 1, 3) := by decide +kernel
theorem d_M_crash_89 : decode b_M_crash 89 = .ok (.goto (-31), 3) := by decide +kernel
theorem d_M_crash_92 : decode b_M_crash 92 = .ok (.iload_n 2, 1) := by decide +kernel
theorem d_M_crash_93 : decode b_M_crash 93 = .ok (.ifCond .le 18, 3) := by decide +kernel
theorem d_M_crash_96 : decode b_M_crash 96 = .ok (.aload_n 0, 1) := by decide +kernel
theorem d_M_crash_97 : decode b_M_crash 97 = .ok (.getfield 19, 3) := by decide +kernel
theorem d_M_crash_100 : decode b_M_crash 100 = .ok (.aload_n 0, 1) := by decide +kernel
theorem d_M_crash_101 : decode b_M_crash 101 = .ok (.getfield 22, 3) := by decide +kernel
theorem d_M_crash_104 : decode b_M_crash 104 = .ok (.iload_n 2, 1) := by decide +kernel
theorem d_M_crash_105 : decode b_M_crash 105 = .ok (.iconst 1, 1) := by decide +kernel
theorem d_M_crash_106 : decode b_M_crash 106 = .ok (.isub, 1) := by decide +kernel
theorem d_M_crash_107 : decode b_M_crash 107 = .ok (.aaload, 1) := by decide +kernel
theorem d_M_crash_108 : decode b_M_crash 108 = .ok (.invokevirtual 91, 3) := by decide +kernel
theorem d_M_crash_111 : decode b_M_crash 111 = .ok (.aload_n 0, 1) := by decide +kernel
theorem d_M_crash_112 : decode b_M_crash 112 = .ok (.getfield 10, 3) := by decide +kernel
theorem d_M_crash_115 : decode b_M_crash 115 = .ok (.aload_n 0, 1) := by decide +kernel
theorem d_M_crash_116 : decode b_M_crash 116 = .ok (.getfield 19, 3) := by decide +kernel
theorem d_M_crash_119 : decode b_M_crash 119 = .ok (.invokevirtual 91, 3) := by decide +kernel
theorem d_M_crash_122 : decode b_M_crash 122 = .ok (.aload_n 0, 1) := by decide +kernel
theorem d_M_crash_123 : decode b_M_crash 123 = .ok (.getfield 16, 3) := by decide +kernel
theorem d_M_crash_126 : decode b_M_crash 126 = .ok (.aload_n 0, 1) := by decide +kernel
theorem d_M_crash_127 : decode b_M_crash 127 = .ok (.getfield 19, 3) := by decide +kernel
theorem d_M_crash_130 : decode b_M_crash 130 = .ok (.invokevirtual 91, 3) := by decide +kernel
theorem d_M_crash_133 : decode b_M_crash 133 = .ok (.aload_n 0, 1) := by decide +kernel
theorem d_M_crash_134 : decode b_M_crash 134 = .ok (.iconst 0, 1) := by decide +kernel
theorem d_M_crash_135 : decode b_M_crash 135 = .ok (.putfield 98, 3) := by decide +kernel
theorem d_M_crash_138 : decode b_M_crash 138 = .ok (.iload_n 2, 1) := by decide +kernel
theorem d_M_crash_139 : decode b_M_crash 139 = .ok (.ireturn, 1) := by decide +kernel
theorem d_K_kind_0 : decode b_K_kind 0 = .ok (.iload_n 1, 1) := by decide +kernel
theorem d_K_kind_1 : decode b_K_kind 1 = .ok (.ifCond .lt 9, 3) := by decide +kernel
theorem d_K_kind_4 : decode b_K_kind 4 = .ok (.iload_n 1, 1) := by decide +kernel
theorem d_K_kind_5 : decode b_K_kind 5 = .ok (.bipush 100, 2) := by decide +kernel
theorem d_K_kind_7 : decode b_K_kind 7 = .ok (.if_icmp .lt 5, 3) := by decide +kernel
theorem d_K_kind_10 : decode b_K_kind 10 = .ok (.iconst (-1), 1) := by decide +kernel
theorem d_K_kind_11 : decode b_K_kind 11 = .ok (.ireturn, 1) := by decide +kernel
theorem d_K_kind_12 : decode b_K_kind 12 = .ok (.aload_n 0, 1) := by decide +kernel
theorem d_K_kind_13 : decode b_K_kind 13 = .ok (.getfield 44, 3) := by decide +kernel
theorem d_K_kind_16 : decode b_K_kind 16 = .ok (.getfield 48, 3) := by decide +kernel
theorem d_K_kind_19 : decode b_K_kind 19 = .ok (.iload_n 1, 1) := by decide +kernel
theorem d_K_kind_20 : decode b_K_kind 20 = .ok (.aaload, 1) := by decide +kernel
theorem d_K_kind_21 : decode b_K_kind 21 = .ok (.astore_n 2, 1) := by decide +kernel
theorem d_K_kind_22 : decode b_K_kind 22 = .ok (.aload_n 2, 1) := by decide +kernel
theorem d_K_kind_23 : decode b_K_kind 23 = .ok (.ifnonnull 7, 3) := by decide +kernel
theorem d_K_kind_26 : decode b_K_kind 26 = .ok (.iconst 0, 1) := by decide +kernel
theorem d_K_kind_27 : decode b_K_kind 27 = .ok (.goto 7, 3) := by decide +kernel
theorem d_K_kind_30 : decode b_K_kind 30 = .ok (.aload_n 2, 1) := by decide +kernel
theorem d_K_kind_31 : decode b_K_kind 31 = .ok (.getfield 123, 3) := by decide +kernel
theorem d_K_kind_34 : decode b_K_kind 34 = .ok (.ireturn, 1) := by decide +kernel
theorem d_M_kind_0 : decode b_M_kind 0 = .ok (.iload_n 1, 1) := by decide +kernel
theorem d_M_kind_1 : decode b_M_kind 1 = .ok (.i2l, 1) := by decide +kernel
theorem d_M_kind_2 : decode b_M_kind 2 = .ok (.lconst 0, 1) := by decide +kernel
theorem d_M_kind_3 : decode b_M_kind 3 = .ok (.ldc2_w 34, 3) := by decide +kernel
theorem d_M_kind_6 : decode b_M_kind 6 = .ok (.invokestatic 36, 3) := by decide +kernel
theorem d_M_kind_9 : decode b_M_kind 9 = .ok (.ifCond .eq 15, 3) := by decide +kernel
theorem d_M_kind_12 : decode b_M_kind 12 = .ok (.aload_n 0, 1) := by decide +kernel
theorem d_M_kind_13 : decode b_M_kind 13 = .ok (.getfield 10, 3) := by decide +kernel
theorem d_M_kind_16 : decode b_M_kind 16 = .ok (.getfield 40, 3) := by decide +kernel
theorem d_M_kind_19 : decode b_M_kind 19 = .ok (.iload_n 1, 1) := by decide +kernel
theorem d_M_kind_20 : decode b_M_kind 20 = .ok (.iaload, 1) := by decide +kernel
theorem d_M_kind_21 : decode b_M_kind 21 = .ok (.goto 4, 3) := by decide +kernel
theorem d_M_kind_24 : decode b_M_kind 24 = .ok (.iconst (-1), 1) := by decide +kernel
theorem d_M_kind_25 : decode b_M_kind 25 = .ok (.ireturn, 1) := by decide +kernel
theorem d_K_size_0 : decode b_K_size 0 = .ok (.iload_n 1, 1) := by decide +kernel
theorem d_K_size_1 : decode b_K_size 1 = .ok (.ifCond .lt 9, 3) := by decide +kernel
theorem d_K_size_4 : decode b_K_size 4 = .ok (.iload_n 1, 1) := by decide +kernel
theorem d_K_size_5 : decode b_K_size 5 = .ok (.bipush 100, 2) := by decide +kernel
theorem d_K_size_7 : decode b_K_size 7 = .ok (.if_icmp .lt 5, 3) := by decide +kernel
theorem d_K_size_10 : decode b_K_size 10 = .ok (.iconst (-1), 1) := by decide +kernel
theorem d_K_size_11 : decode b_K_size 11 = .ok (.ireturn, 1) := by decide +kernel
theorem d_K_size_12 : decode b_K_size 12 = .ok (.aload_n 0, 1) := by decide +kernel
theorem d_K_size_13 : decode b_K_size 13 = .ok (.getfield 44, 3) := by decide +kernel
theorem d_K_size_16 : decode b_K_size 16 = .ok (.getfield 48, 3) := by decide +kernel
theorem d_K_size_19 : decode b_K_size 19 = .ok (.iload_n 1, 1) := by decide +kernel
theorem d_K_size_20 : decode b_K_size 20 = .ok (.aaload, 1) := by decide +kernel
theorem d_K_size_21 : decode b_K_size 21 = .ok (.astore_n 2, 1) := by decide +kernel
theorem d_K_size_22 : decode b_K_size 22 = .ok (.aload_n 2, 1) := by decide +kernel
theorem d_K_size_23 : decode b_K_size 23 = .ok (.ifnonnull 7, 3) := by decide +kernel
theorem d_K_size_26 : decode b_K_size 26 = .ok (.iconst (-1), 1) := by decide +kernel
theorem d_K_size_27 : decode b_K_size 27 = .ok (.goto 7, 3) := by decide +kernel
theorem d_K_size_30 : decode b_K_size 30 = .ok (.aload_n 2, 1) := by decide +kernel
theorem d_K_size_31 : decode b_K_size 31 = .ok (.getfield 126, 3) := by decide +kernel
theorem d_K_size_34 : decode b_K_size 34 = .ok (.ireturn, 1) := by decide +kernel
theorem d_M_size_0 : decode b_M_size 0 = .ok (.aload_n 0, 1) := by decide +kernel
theorem d_M_size_1 : decode b_M_size 1 = .ok (.iload_n 1, 1) := by decide +kernel
theorem d_M_size_2 : decode b_M_size 2 = .ok (.invokevirtual 43, 3) := by decide +kernel
theorem d_M_size_5 : decode b_M_size 5 = .ok (.ifCond .eq 15, 3) := by decide +kernel
theorem d_M_size_8 : decode b_M_size 8 = .ok (.aload_n 0, 1) := by decide +kernel
theorem d_M_size_9 : decode b_M_size 9 = .ok (.getfield 10, 3) := by decide +kernel
theorem d_M_size_12 : decode b_M_size 12 = .ok (.getfield 51, 3) := by decide +kernel
theorem d_M_size_15 : decode b_M_size 15 = .ok (.iload_n 1, 1) := by decide +kernel
theorem d_M_size_16 : decode b_M_size 16 = .ok (.iaload, 1) := by decide +kernel
theorem d_M_size_17 : decode b_M_size 17 = .ok (.goto 4, 3) := by decide +kernel
theorem d_M_size_20 : decode b_M_size 20 = .ok (.iconst (-1), 1) := by decide +kernel
theorem d_M_size_21 : decode b_M_size 21 = .ok (.ireturn, 1) := by decide +kernel
theorem d_T_objectsThere_0 : decode b_T_objectsThere 0 = .ok (.iconst 0, 1) := by decide +kernel
theorem d_T_objectsThere_1 : decode b_T_objectsThere 1 = .ok (.istore_n 1, 1) := by decide +kernel
theorem d_T_objectsThere_2 : decode b_T_objectsThere 2 = .ok (.iconst 0, 1) := by decide +kernel
theorem d_T_objectsThere_3 : decode b_T_objectsThere 3 = .ok (.istore_n 2, 1) := by decide +kernel
theorem d_T_objectsThere_4 : decode b_T_objectsThere 4 = .ok (.iload_n 2, 1) := by decide +kernel
theorem d_T_objectsThere_5 : decode b_T_objectsThere 5 = .ok (.bipush 100, 2) := by decide +kernel
theorem d_T_objectsThere_7 : decode b_T_objectsThere 7 = .ok (.if_icmp .ge 21, 3) := by decide +kernel
theorem d_T_objectsThere_10 : decode b_T_objectsThere 10 = .ok (.aload_n 0, 1) := by decide +kernel
theorem d_T_objectsThere_11 : decode b_T_objectsThere 11 = .ok (.getfield 11, 3) := by decide +kernel
theorem d_T_objectsThere_14 : decode b_T_objectsThere 14 = .ok (.iload_n 2, 1) := by decide +kernel
theorem d_T_objectsThere_15 : decode b_T_objectsThere 15 = .ok (.aaload, 1) := by decide +kernel
theorem d_T_objectsThere_16 : decode b_T_objectsThere 16 = .ok (.ifnull 6, 3) := by decide +kernel
theorem d_T_objectsThere_19 : decode b_T_objectsThere 19 = .ok (.iinc 1 1, 3) := by decide +kernel
theorem d_T_objectsThere_22 : decode b_T_objectsThere 22 = .ok (.iinc 2 1, 3) := by decide +kernel
theorem d_T_objectsThere_25 : decode b_T_objectsThere 25 = .ok (.goto (-21), 3) := by decide +kernel
theorem d_T_objectsThere_28 : decode b_T_objectsThere 28 = .ok (.iload_n 1, 1) := by decide +kernel
theorem d_T_objectsThere_29 : decode b_T_objectsThere 29 = .ok (.ireturn, 1) := by decide +kernel
theorem d_K_count_0 : decode b_K_count 0 = .ok (.iload_n 1, 1) := by decide +kernel
theorem d_K_count_1 : decode b_K_count 1 = .ok (.tableswitch 60 0 3 #[31, 39, 50, 55], 31) := by decide +kernel
theorem d_K_count_32 : decode b_K_count 32 = .ok (.aload_n 0, 1) := by decide +kernel
theorem d_K_count_33 : decode b_K_count 33 = .ok (.getfield 44, 3) := by decide +kernel
theorem d_K_count_36 : decode b_K_count 36 = .ok (.invokevirtual 129, 3) := by decide +kernel
theorem d_K_count_39 : decode b_K_count 39 = .ok (.ireturn, 1) := by decide +kernel
theorem d_K_count_40 : decode b_K_count 40 = .ok (.aload_n 0, 1) := by decide +kernel
theorem d_K_count_41 : decode b_K_count 41 = .ok (.getfield 44, 3) := by decide +kernel
theorem d_K_count_44 : decode b_K_count 44 = .ok (.getfield 92, 3) := by decide +kernel
theorem d_K_count_47 : decode b_K_count 47 = .ok (.getfield 126, 3) := by decide +kernel
theorem d_K_count_50 : decode b_K_count 50 = .ok (.ireturn, 1) := by decide +kernel
theorem d_K_count_51 : decode b_K_count 51 = .ok (.aload_n 0, 1) := by decide +kernel
theorem d_K_count_52 : decode b_K_count 52 = .ok (.getfield 30, 3) := by decide +kernel
theorem d_K_count_55 : decode b_K_count 55 = .ok (.ireturn, 1) := by decide +kernel
theorem d_K_count_56 : decode b_K_count 56 = .ok (.aload_n 0, 1) := by decide +kernel
theorem d_K_count_57 : decode b_K_count 57 = .ok (.getfield 33, 3) := by decide +kernel
theorem d_K_count_60 : decode b_K_count 60 = .ok (.ireturn, 1) := by decide +kernel
theorem d_K_count_61 : decode b_K_count 61 = .ok (.iconst (-1), 1) := by decide +kernel
theorem d_K_count_62 : decode b_K_count 62 = .ok (.ireturn, 1) := by decide +kernel
