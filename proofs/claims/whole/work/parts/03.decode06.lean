theorem d_M_count_0 : decode b_M_count 0 = .ok (.iconst 0, 1) := by decide +kernel
theorem d_M_count_1 : decode b_M_count 1 = .ok (.istore_n 2, 1) := by decide +kernel
theorem d_M_count_2 : decode b_M_count 2 = .ok (.iload_n 1, 1) := by decide +kernel
theorem d_M_count_3 : decode b_M_count 3 = .ok (.tableswitch 91 0 3 #[29, 73, 81, 86], 29) := by decide +kernel
theorem d_M_count_32 : decode b_M_count 32 = .ok (.aload_n 0, 1) := by decide +kernel
theorem d_M_count_33 : decode b_M_count 33 = .ok (.getfield 10, 3) := by decide +kernel
theorem d_M_count_36 : decode b_M_count 36 = .ok (.getfield 40, 3) := by decide +kernel
theorem d_M_count_39 : decode b_M_count 39 = .ok (.astore_n 3, 1) := by decide +kernel
theorem d_M_count_40 : decode b_M_count 40 = .ok (.aload_n 3, 1) := by decide +kernel
theorem d_M_count_41 : decode b_M_count 41 = .ok (.arraylength, 1) := by decide +kernel
theorem d_M_count_42 : decode b_M_count 42 = .ok (.istore 4, 2) := by decide +kernel
theorem d_M_count_44 : decode b_M_count 44 = .ok (.iconst 0, 1) := by decide +kernel
theorem d_M_count_45 : decode b_M_count 45 = .ok (.istore 5, 2) := by decide +kernel
theorem d_M_count_47 : decode b_M_count 47 = .ok (.iload 5, 2) := by decide +kernel
theorem d_M_count_49 : decode b_M_count 49 = .ok (.iload 4, 2) := by decide +kernel
theorem d_M_count_51 : decode b_M_count 51 = .ok (.if_icmp .ge 23, 3) := by decide +kernel
theorem d_M_count_54 : decode b_M_count 54 = .ok (.aload_n 3, 1) := by decide +kernel
theorem d_M_count_55 : decode b_M_count 55 = .ok (.iload 5, 2) := by decide +kernel
theorem d_M_count_57 : decode b_M_count 57 = .ok (.iaload, 1) := by decide +kernel
theorem d_M_count_58 : decode b_M_count 58 = .ok (.istore 6, 2) := by decide +kernel
theorem d_M_count_60 : decode b_M_count 60 = .ok (.iload 6, 2) := by decide +kernel
theorem d_M_count_62 : decode b_M_count 62 = .ok (.ifCond .eq 6, 3) := by decide +kernel
theorem d_M_count_65 : decode b_M_count 65 = .ok (.iinc 2 1, 3) := by decide +kernel
theorem d_M_count_68 : decode b_M_count 68 = .ok (.iinc 5 1, 3) := by decide +kernel
theorem d_M_count_71 : decode b_M_count 71 = .ok (.goto (-24), 3) := by decide +kernel
theorem d_M_count_74 : decode b_M_count 74 = .ok (.iload_n 2, 1) := by decide +kernel
theorem d_M_count_75 : decode b_M_count 75 = .ok (.ireturn, 1) := by decide +kernel
theorem d_M_count_76 : decode b_M_count 76 = .ok (.aload_n 0, 1) := by decide +kernel
theorem d_M_count_77 : decode b_M_count 77 = .ok (.getfield 10, 3) := by decide +kernel
theorem d_M_count_80 : decode b_M_count 80 = .ok (.getfield 82, 3) := by decide +kernel
theorem d_M_count_83 : decode b_M_count 83 = .ok (.ireturn, 1) := by decide +kernel
theorem d_M_count_84 : decode b_M_count 84 = .ok (.aload_n 0, 1) := by decide +kernel
theorem d_M_count_85 : decode b_M_count 85 = .ok (.getfield 98, 3) := by decide +kernel
theorem d_M_count_88 : decode b_M_count 88 = .ok (.ireturn, 1) := by decide +kernel
theorem d_M_count_89 : decode b_M_count 89 = .ok (.aload_n 0, 1) := by decide +kernel
theorem d_M_count_90 : decode b_M_count 90 = .ok (.getfield 95, 3) := by decide +kernel
theorem d_M_count_93 : decode b_M_count 93 = .ok (.ireturn, 1) := by decide +kernel
theorem d_M_count_94 : decode b_M_count 94 = .ok (.iconst (-1), 1) := by decide +kernel
theorem d_M_count_95 : decode b_M_count 95 = .ok (.ireturn, 1) := by decide +kernel
