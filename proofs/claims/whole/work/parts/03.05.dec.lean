theorem dX10_end_11 : decode cX10_end 11 = .ok (.getfield 205, 3) := by decide +kernel
theorem dX10_end_14 : decode cX10_end 14 = .ok (.if_icmp .le 5, 3) := by decide +kernel
theorem dX10_end_17 : decode cX10_end 17 = .ok (.iconst 0, 1) := by decide +kernel
theorem dX10_end_18 : decode cX10_end 18 = .ok (.ireturn, 1) := by decide +kernel
theorem dX10_end_19 : decode cX10_end 19 = .ok (.aload_n 0, 1) := by decide +kernel
theorem dX10_end_20 : decode cX10_end 20 = .ok (.iload_n 1, 1) := by decide +kernel
theorem dX10_end_21 : decode cX10_end 21 = .ok (.putfield 205, 3) := by decide +kernel
theorem dX10_end_24 : decode cX10_end 24 = .ok (.iconst 1, 1) := by decide +kernel
theorem dX10_end_25 : decode cX10_end 25 = .ok (.ireturn, 1) := by decide +kernel
theorem dX10_fault_0 : decode cX10_fault 0 = .ok (.aload_n 0, 1) := by decide +kernel
theorem dX10_fault_1 : decode cX10_fault 1 = .ok (.iconst 0, 1) := by decide +kernel
theorem dX10_fault_2 : decode cX10_fault 2 = .ok (.putfield 117, 3) := by decide +kernel
theorem dX10_fault_5 : decode cX10_fault 5 = .ok (.aload_n 0, 1) := by decide +kernel
theorem dX10_fault_6 : decode cX10_fault 6 = .ok (.aload_n 0, 1) := by decide +kernel
theorem dX10_fault_7 : decode cX10_fault 7 = .ok (.getfield 58, 3) := by decide +kernel
theorem dX10_fault_10 : decode cX10_fault 10 = .ok (.iconst 0, 1) := by decide +kernel
theorem dX10_fault_11 : decode cX10_fault 11 = .ok (.aload_n 0, 1) := by decide +kernel
theorem dX10_fault_12 : decode cX10_fault 12 = .ok (.getfield 205, 3) := by decide +kernel
theorem dX10_fault_15 : decode cX10_fault 15 = .ok (.invokevirtual 208, 3) := by decide +kernel
theorem dX10_fault_18 : decode cX10_fault 18 = .ok (.istore_n 1, 1) := by decide +kernel
theorem dX10_fault_19 : decode cX10_fault 19 = .ok (.aload_n 0, 1) := by decide +kernel
theorem dX10_fault_20 : decode cX10_fault 20 = .ok (.getfield 182, 3) := by decide +kernel
theorem dX10_fault_23 : decode cX10_fault 23 = .ok (.ireturn, 1) := by decide +kernel
theorem dX10_statute_0 : decode cX10_statute 0 = .ok (.aload_n 0, 1) := by decide +kernel
theorem dX10_statute_1 : decode cX10_statute 1 = .ok (.iconst 0, 1) := by decide +kernel
theorem dX10_statute_2 : decode cX10_statute 2 = .ok (.putfield 117, 3) := by decide +kernel
theorem dX10_statute_5 : decode cX10_statute 5 = .ok (.aload_n 0, 1) := by decide +kernel
theorem dX10_statute_6 : decode cX10_statute 6 = .ok (.aload_n 0, 1) := by decide +kernel
theorem dX10_statute_7 : decode cX10_statute 7 = .ok (.getfield 58, 3) := by decide +kernel
theorem dX10_statute_10 : decode cX10_statute 10 = .ok (.iconst 0, 1) := by decide +kernel
theorem dX10_statute_11 : decode cX10_statute 11 = .ok (.aload_n 0, 1) := by decide +kernel
theorem dX10_statute_12 : decode cX10_statute 12 = .ok (.getfield 205, 3) := by decide +kernel
theorem dX10_statute_15 : decode cX10_statute 15 = .ok (.invokevirtual 208, 3) := by decide +kernel
theorem dX10_statute_18 : decode cX10_statute 18 = .ok (.istore_n 2, 1) := by decide +kernel
theorem dX10_statute_19 : decode cX10_statute 19 = .ok (.aload_n 0, 1) := by decide +kernel
theorem dX10_statute_20 : decode cX10_statute 20 = .ok (.getfield 182, 3) := by decide +kernel
theorem dX10_statute_23 : decode cX10_statute 23 = .ok (.iconst (-1), 1) := by decide +kernel
theorem dX10_statute_24 : decode cX10_statute 24 = .ok (.if_icmp .ne 23, 3) := by decide +kernel
theorem dX10_statute_27 : decode cX10_statute 27 = .ok (.iload_n 1, 1) := by decide +kernel
theorem dX10_statute_28 : decode cX10_statute 28 = .ok (.iconst 0, 1) := by decide +kernel
theorem dX10_statute_29 : decode cX10_statute 29 = .ok (.sipush 20000, 3) := by decide +kernel
theorem dX10_statute_32 : decode cX10_statute 32 = .ok (.invokestatic 137, 3) := by decide +kernel
theorem dX10_statute_35 : decode cX10_statute 35 = .ok (.ifCond .eq 12, 3) := by decide +kernel
theorem dX10_statute_38 : decode cX10_statute 38 = .ok (.aload_n 0, 1) := by decide +kernel
theorem dX10_statute_39 : decode cX10_statute 39 = .ok (.getfield 212, 3) := by decide +kernel
theorem dX10_statute_42 : decode cX10_statute 42 = .ok (.bipush 30, 2) := by decide +kernel
theorem dX10_statute_44 : decode cX10_statute 44 = .ok (.if_icmp .ne 5, 3) := by decide +kernel
theorem dX10_statute_47 : decode cX10_statute 47 = .ok (.iconst (-1), 1) := by decide +kernel
theorem dX10_statute_48 : decode cX10_statute 48 = .ok (.ireturn, 1) := by decide +kernel
theorem dX10_statute_49 : decode cX10_statute 49 = .ok (.iconst 0, 1) := by decide +kernel
theorem dX10_statute_50 : decode cX10_statute 50 = .ok (.istore_n 3, 1) := by decide +kernel
theorem dX10_statute_51 : decode cX10_statute 51 = .ok (.iload_n 3, 1) := by decide +kernel
theorem dX10_statute_52 : decode cX10_statute 52 = .ok (.aload_n 0, 1) := by decide +kernel
theorem dX10_statute_53 : decode cX10_statute 53 = .ok (.getfield 205, 3) := by decide +kernel
theorem dX10_statute_56 : decode cX10_statute 56 = .ok (.if_icmp .ge 29, 3) := by decide +kernel
theorem dX10_statute_59 : decode cX10_statute 59 = .ok (.aload_n 0, 1) := by decide +kernel
theorem dX10_statute_60 : decode cX10_statute 60 = .ok (.getfield 62, 3) := by decide +kernel
theorem dX10_statute_63 : decode cX10_statute 63 = .ok (.bipush 120, 2) := by decide +kernel
theorem dX10_statute_65 : decode cX10_statute 65 = .ok (.aload_n 0, 1) := by decide +kernel
theorem dX10_statute_66 : decode cX10_statute 66 = .ok (.getfield 212, 3) := by decide +kernel
theorem dX10_statute_69 : decode cX10_statute 69 = .ok (.imul, 1) := by decide +kernel
theorem dX10_statute_70 : decode cX10_statute 70 = .ok (.iload_n 3, 1) := by decide +kernel
theorem dX10_statute_71 : decode cX10_statute 71 = .ok (.iadd, 1) := by decide +kernel
theorem dX10_statute_72 : decode cX10_statute 72 = .ok (.aload_n 0, 1) := by decide +kernel
theorem dX10_statute_73 : decode cX10_statute 73 = .ok (.getfield 58, 3) := by decide +kernel
theorem dX10_statute_76 : decode cX10_statute 76 = .ok (.iload_n 3, 1) := by decide +kernel
theorem dX10_statute_77 : decode cX10_statute 77 = .ok (.baload, 1) := by decide +kernel
theorem dX10_statute_78 : decode cX10_statute 78 = .ok (.bastore, 1) := by decide +kernel
theorem dX10_statute_79 : decode cX10_statute 79 = .ok (.iinc 3 1, 3) := by decide +kernel
theorem dX10_statute_82 : decode cX10_statute 82 = .ok (.goto (-31), 3) := by decide +kernel
theorem dX10_statute_85 : decode cX10_statute 85 = .ok (.aload_n 0, 1) := by decide +kernel
theorem dX10_statute_86 : decode cX10_statute 86 = .ok (.getfield 65, 3) := by decide +kernel
theorem dX10_statute_89 : decode cX10_statute 89 = .ok (.aload_n 0, 1) := by decide +kernel
theorem dX10_statute_90 : decode cX10_statute 90 = .ok (.getfield 212, 3) := by decide +kernel
theorem dX10_statute_93 : decode cX10_statute 93 = .ok (.aload_n 0, 1) := by decide +kernel
theorem dX10_statute_94 : decode cX10_statute 94 = .ok (.getfield 205, 3) := by decide +kernel
theorem dX10_statute_97 : decode cX10_statute 97 = .ok (.iastore, 1) := by decide +kernel
theorem dX10_statute_98 : decode cX10_statute 98 = .ok (.aload_n 0, 1) := by decide +kernel
theorem dX10_statute_99 : decode cX10_statute 99 = .ok (.getfield 68, 3) := by decide +kernel
theorem dX10_statute_102 : decode cX10_statute 102 = .ok (.aload_n 0, 1) := by decide +kernel
theorem dX10_statute_103 : decode cX10_statute 103 = .ok (.getfield 212, 3) := by decide +kernel
theorem dX10_statute_106 : decode cX10_statute 106 = .ok (.iload_n 1, 1) := by decide +kernel
theorem dX10_statute_107 : decode cX10_statute 107 = .ok (.iastore, 1) := by decide +kernel
theorem dX10_statute_108 : decode cX10_statute 108 = .ok (.aload_n 0, 1) := by decide +kernel
theorem dX10_statute_109 : decode cX10_statute 109 = .ok (.getfield 71, 3) := by decide +kernel
theorem dX10_statute_112 : decode cX10_statute 112 = .ok (.aload_n 0, 1) := by decide +kernel
theorem dX10_statute_113 : decode cX10_statute 113 = .ok (.getfield 212, 3) := by decide +kernel
theorem dX10_statute_116 : decode cX10_statute 116 = .ok (.aload_n 0, 1) := by decide +kernel
theorem dX10_statute_117 : decode cX10_statute 117 = .ok (.getfield 134, 3) := by decide +kernel
theorem dX10_statute_120 : decode cX10_statute 120 = .ok (.iastore, 1) := by decide +kernel
theorem dX10_statute_121 : decode cX10_statute 121 = .ok (.aload_n 0, 1) := by decide +kernel
theorem dX10_statute_122 : decode cX10_statute 122 = .ok (.dup, 1) := by decide +kernel
theorem dX10_statute_123 : decode cX10_statute 123 = .ok (.getfield 212, 3) := by decide +kernel
theorem dX10_statute_126 : decode cX10_statute 126 = .ok (.iconst 1, 1) := by decide +kernel
theorem dX10_statute_127 : decode cX10_statute 127 = .ok (.iadd, 1) := by decide +kernel
theorem dX10_statute_128 : decode cX10_statute 128 = .ok (.putfield 212, 3) := by decide +kernel
theorem dX10_statute_131 : decode cX10_statute 131 = .ok (.aload_n 0, 1) := by decide +kernel
theorem dX10_statute_132 : decode cX10_statute 132 = .ok (.iconst 0, 1) := by decide +kernel
theorem dX10_statute_133 : decode cX10_statute 133 = .ok (.putfield 205, 3) := by decide +kernel
theorem dX10_statute_136 : decode cX10_statute 136 = .ok (.aload_n 0, 1) := by decide +kernel
theorem dX10_statute_137 : decode cX10_statute 137 = .ok (.getfield 212, 3) := by decide +kernel
theorem dX10_statute_140 : decode cX10_statute 140 = .ok (.iconst 1, 1) := by decide +kernel
theorem dX10_statute_141 : decode cX10_statute 141 = .ok (.isub, 1) := by decide +kernel
theorem dX10_statute_142 : decode cX10_statute 142 = .ok (.ireturn, 1) := by decide +kernel
theorem dX10_inForce_0 : decode cX10_inForce 0 = .ok (.iconst (-1), 1) := by decide +kernel
theorem dX10_inForce_1 : decode cX10_inForce 1 = .ok (.istore_n 3, 1) := by decide +kernel
theorem dX10_inForce_2 : decode cX10_inForce 2 = .ok (.iconst 0, 1) := by decide +kernel
theorem dX10_inForce_3 : decode cX10_inForce 3 = .ok (.istore 4, 2) := by decide +kernel
theorem dX10_inForce_5 : decode cX10_inForce 5 = .ok (.iload 4, 2) := by decide +kernel
theorem dX10_inForce_7 : decode cX10_inForce 7 = .ok (.aload_n 0, 1) := by decide +kernel
theorem dX10_inForce_8 : decode cX10_inForce 8 = .ok (.getfield 212, 3) := by decide +kernel
theorem dX10_inForce_11 : decode cX10_inForce 11 = .ok (.if_icmp .ge 55, 3) := by decide +kernel
theorem dX10_inForce_14 : decode cX10_inForce 14 = .ok (.aload_n 0, 1) := by decide +kernel
theorem dX10_inForce_15 : decode cX10_inForce 15 = .ok (.getfield 71, 3) := by decide +kernel
theorem dX10_inForce_18 : decode cX10_inForce 18 = .ok (.iload 4, 2) := by decide +kernel
theorem dX10_inForce_20 : decode cX10_inForce 20 = .ok (.iaload, 1) := by decide +kernel
theorem dX10_inForce_21 : decode cX10_inForce 21 = .ok (.iload_n 2, 1) := by decide +kernel
theorem dX10_inForce_22 : decode cX10_inForce 22 = .ok (.if_icmp .gt 38, 3) := by decide +kernel
theorem dX10_inForce_25 : decode cX10_inForce 25 = .ok (.aload_n 0, 1) := by decide +kernel
theorem dX10_inForce_26 : decode cX10_inForce 26 = .ok (.getfield 68, 3) := by decide +kernel
theorem dX10_inForce_29 : decode cX10_inForce 29 = .ok (.iload 4, 2) := by decide +kernel
theorem dX10_inForce_31 : decode cX10_inForce 31 = .ok (.iaload, 1) := by decide +kernel
theorem dX10_inForce_32 : decode cX10_inForce 32 = .ok (.iload_n 1, 1) := by decide +kernel
theorem dX10_inForce_33 : decode cX10_inForce 33 = .ok (.if_icmp .gt 27, 3) := by decide +kernel
theorem dX10_inForce_36 : decode cX10_inForce 36 = .ok (.iload_n 3, 1) := by decide +kernel
theorem dX10_inForce_37 : decode cX10_inForce 37 = .ok (.iconst (-1), 1) := by decide +kernel
theorem dX10_inForce_38 : decode cX10_inForce 38 = .ok (.if_icmp .eq 19, 3) := by decide +kernel
theorem dX10_inForce_41 : decode cX10_inForce 41 = .ok (.aload_n 0, 1) := by decide +kernel
theorem dX10_inForce_42 : decode cX10_inForce 42 = .ok (.getfield 68, 3) := by decide +kernel
theorem dX10_inForce_45 : decode cX10_inForce 45 = .ok (.iload 4, 2) := by decide +kernel
theorem dX10_inForce_47 : decode cX10_inForce 47 = .ok (.iaload, 1) := by decide +kernel
theorem dX10_inForce_48 : decode cX10_inForce 48 = .ok (.aload_n 0, 1) := by decide +kernel
theorem dX10_inForce_49 : decode cX10_inForce 49 = .ok (.getfield 68, 3) := by decide +kernel
theorem dX10_inForce_52 : decode cX10_inForce 52 = .ok (.iload_n 3, 1) := by decide +kernel
theorem dX10_inForce_53 : decode cX10_inForce 53 = .ok (.iaload, 1) := by decide +kernel
theorem dX10_inForce_54 : decode cX10_inForce 54 = .ok (.if_icmp .lt 6, 3) := by decide +kernel
theorem dX10_inForce_57 : decode cX10_inForce 57 = .ok (.iload 4, 2) := by decide +kernel
theorem dX10_inForce_59 : decode cX10_inForce 59 = .ok (.istore_n 3, 1) := by decide +kernel
theorem dX10_inForce_60 : decode cX10_inForce 60 = .ok (.iinc 4 1, 3) := by decide +kernel
theorem dX10_inForce_63 : decode cX10_inForce 63 = .ok (.goto (-58), 3) := by decide +kernel
theorem dX10_inForce_66 : decode cX10_inForce 66 = .ok (.iload_n 3, 1) := by decide +kernel
theorem dX10_inForce_67 : decode cX10_inForce 67 = .ok (.ireturn, 1) := by decide +kernel
theorem dX10_force_0 : decode cX10_force 0 = .ok (.aload_n 0, 1) := by decide +kernel
theorem dX10_force_1 : decode cX10_force 1 = .ok (.iconst 0, 1) := by decide +kernel
theorem dX10_force_2 : decode cX10_force 2 = .ok (.putfield 117, 3) := by decide +kernel
theorem dX10_force_5 : decode cX10_force 5 = .ok (.iload_n 1, 1) := by decide +kernel
theorem dX10_force_6 : decode cX10_force 6 = .ok (.iconst 0, 1) := by decide +kernel
theorem dX10_force_7 : decode cX10_force 7 = .ok (.sipush 20000, 3) := by decide +kernel
theorem dX10_force_10 : decode cX10_force 10 = .ok (.invokestatic 137, 3) := by decide +kernel
theorem dX10_force_13 : decode cX10_force 13 = .ok (.ifCond .eq 24, 3) := by decide +kernel
theorem dX10_force_16 : decode cX10_force 16 = .ok (.iload_n 2, 1) := by decide +kernel
theorem dX10_force_17 : decode cX10_force 17 = .ok (.iconst 0, 1) := by decide +kernel
theorem dX10_force_18 : decode cX10_force 18 = .ok (.aload_n 0, 1) := by decide +kernel
theorem dX10_force_19 : decode cX10_force 19 = .ok (.getfield 134, 3) := by decide +kernel
theorem dX10_force_22 : decode cX10_force 22 = .ok (.invokestatic 137, 3) := by decide +kernel
theorem dX10_force_25 : decode cX10_force 25 = .ok (.ifCond .eq 12, 3) := by decide +kernel
theorem dX10_force_28 : decode cX10_force 28 = .ok (.aload_n 0, 1) := by decide +kernel
theorem dX10_force_29 : decode cX10_force 29 = .ok (.iload_n 1, 1) := by decide +kernel
theorem dX10_force_30 : decode cX10_force 30 = .ok (.iload_n 2, 1) := by decide +kernel
theorem dX10_force_31 : decode cX10_force 31 = .ok (.invokevirtual 215, 3) := by decide +kernel
theorem dX10_force_34 : decode cX10_force 34 = .ok (.goto 4, 3) := by decide +kernel
theorem dX10_force_37 : decode cX10_force 37 = .ok (.iconst (-1), 1) := by decide +kernel
theorem dX10_force_38 : decode cX10_force 38 = .ok (.ireturn, 1) := by decide +kernel
theorem dX10_lets_0 : decode cX10_lets 0 = .ok (.iload_n 1, 1) := by decide +kernel
theorem dX10_lets_1 : decode cX10_lets 1 = .ok (.iconst (-1), 1) := by decide +kernel
theorem dX10_lets_2 : decode cX10_lets 2 = .ok (.if_icmp .eq 24, 3) := by decide +kernel
theorem dX10_lets_5 : decode cX10_lets 5 = .ok (.aload_n 0, 1) := by decide +kernel
theorem dX10_lets_6 : decode cX10_lets 6 = .ok (.aload_n 0, 1) := by decide +kernel
theorem dX10_lets_7 : decode cX10_lets 7 = .ok (.getfield 62, 3) := by decide +kernel
theorem dX10_lets_10 : decode cX10_lets 10 = .ok (.bipush 120, 2) := by decide +kernel
theorem dX10_lets_12 : decode cX10_lets 12 = .ok (.iload_n 1, 1) := by decide +kernel
theorem dX10_lets_13 : decode cX10_lets 13 = .ok (.imul, 1) := by decide +kernel
theorem dX10_lets_14 : decode cX10_lets 14 = .ok (.aload_n 0, 1) := by decide +kernel
theorem dX10_lets_15 : decode cX10_lets 15 = .ok (.getfield 65, 3) := by decide +kernel
theorem dX10_lets_18 : decode cX10_lets 18 = .ok (.iload_n 1, 1) := by decide +kernel
theorem dX10_lets_19 : decode cX10_lets 19 = .ok (.iaload, 1) := by decide +kernel
theorem dX10_lets_20 : decode cX10_lets 20 = .ok (.invokevirtual 208, 3) := by decide +kernel
theorem dX10_lets_23 : decode cX10_lets 23 = .ok (.ifCond .eq 7, 3) := by decide +kernel
theorem dX10_lets_26 : decode cX10_lets 26 = .ok (.iconst 1, 1) := by decide +kernel
theorem dX10_lets_27 : decode cX10_lets 27 = .ok (.goto 4, 3) := by decide +kernel
theorem dX10_lets_30 : decode cX10_lets 30 = .ok (.iconst 0, 1) := by decide +kernel
theorem dX10_lets_31 : decode cX10_lets 31 = .ok (.ireturn, 1) := by decide +kernel
theorem dX10_mayCome_0 : decode cX10_mayCome 0 = .ok (.aload_n 0, 1) := by decide +kernel
theorem dX10_mayCome_1 : decode cX10_mayCome 1 = .ok (.iload_n 1, 1) := by decide +kernel
theorem dX10_mayCome_2 : decode cX10_mayCome 2 = .ok (.iload_n 2, 1) := by decide +kernel
theorem dX10_mayCome_3 : decode cX10_mayCome 3 = .ok (.iload_n 3, 1) := by decide +kernel
theorem dX10_mayCome_4 : decode cX10_mayCome 4 = .ok (.invokevirtual 170, 3) := by decide +kernel
theorem dX10_mayCome_7 : decode cX10_mayCome 7 = .ok (.aload_n 0, 1) := by decide +kernel
theorem dX10_mayCome_8 : decode cX10_mayCome 8 = .ok (.aload_n 0, 1) := by decide +kernel
theorem dX10_mayCome_9 : decode cX10_mayCome 9 = .ok (.iload_n 2, 1) := by decide +kernel
theorem dX10_mayCome_10 : decode cX10_mayCome 10 = .ok (.iload_n 3, 1) := by decide +kernel
theorem dX10_mayCome_11 : decode cX10_mayCome 11 = .ok (.invokevirtual 215, 3) := by decide +kernel
theorem dX10_mayCome_14 : decode cX10_mayCome 14 = .ok (.invokevirtual 219, 3) := by decide +kernel
theorem dX10_mayCome_17 : decode cX10_mayCome 17 = .ok (.ifCond .eq 5, 3) := by decide +kernel
theorem dX10_mayCome_20 : decode cX10_mayCome 20 = .ok (.iconst 1, 1) := by decide +kernel
theorem dX10_mayCome_21 : decode cX10_mayCome 21 = .ok (.ireturn, 1) := by decide +kernel
theorem dX10_mayCome_22 : decode cX10_mayCome 22 = .ok (.aload_n 0, 1) := by decide +kernel
theorem dX10_mayCome_23 : decode cX10_mayCome 23 = .ok (.getfield 111, 3) := by decide +kernel
theorem dX10_mayCome_26 : decode cX10_mayCome 26 = .ok (.bipush 7, 2) := by decide +kernel
theorem dX10_mayCome_28 : decode cX10_mayCome 28 = .ok (.iaload, 1) := by decide +kernel
theorem dX10_mayCome_29 : decode cX10_mayCome 29 = .ok (.iconst (-1), 1) := by decide +kernel
theorem dX10_mayCome_30 : decode cX10_mayCome 30 = .ok (.if_icmp .eq 26, 3) := by decide +kernel
theorem dX10_mayCome_33 : decode cX10_mayCome 33 = .ok (.aload_n 0, 1) := by decide +kernel
theorem dX10_mayCome_34 : decode cX10_mayCome 34 = .ok (.aload_n 0, 1) := by decide +kernel
theorem dX10_mayCome_35 : decode cX10_mayCome 35 = .ok (.aload_n 0, 1) := by decide +kernel
theorem dX10_mayCome_36 : decode cX10_mayCome 36 = .ok (.getfield 111, 3) := by decide +kernel
theorem dX10_mayCome_39 : decode cX10_mayCome 39 = .ok (.bipush 7, 2) := by decide +kernel
theorem dX10_mayCome_41 : decode cX10_mayCome 41 = .ok (.iaload, 1) := by decide +kernel
theorem dX10_mayCome_42 : decode cX10_mayCome 42 = .ok (.iload_n 3, 1) := by decide +kernel
theorem dX10_mayCome_43 : decode cX10_mayCome 43 = .ok (.invokevirtual 215, 3) := by decide +kernel
theorem dX10_mayCome_46 : decode cX10_mayCome 46 = .ok (.invokevirtual 219, 3) := by decide +kernel
theorem dX10_mayCome_49 : decode cX10_mayCome 49 = .ok (.ifCond .eq 7, 3) := by decide +kernel
theorem dX10_mayCome_52 : decode cX10_mayCome 52 = .ok (.iconst 2, 1) := by decide +kernel
theorem dX10_mayCome_53 : decode cX10_mayCome 53 = .ok (.goto 4, 3) := by decide +kernel
theorem dX10_mayCome_56 : decode cX10_mayCome 56 = .ok (.iconst 0, 1) := by decide +kernel
theorem dX10_mayCome_57 : decode cX10_mayCome 57 = .ok (.ireturn, 1) := by decide +kernel
theorem dX10_may_0 : decode cX10_may 0 = .ok (.aload_n 0, 1) := by decide +kernel
theorem dX10_may_1 : decode cX10_may 1 = .ok (.iload_n 1, 1) := by decide +kernel
theorem dX10_may_2 : decode cX10_may 2 = .ok (.iload_n 2, 1) := by decide +kernel
theorem dX10_may_3 : decode cX10_may 3 = .ok (.iload_n 3, 1) := by decide +kernel
theorem dX10_may_4 : decode cX10_may 4 = .ok (.invokevirtual 167, 3) := by decide +kernel
theorem dX10_may_7 : decode cX10_may 7 = .ok (.ifCond .eq 13, 3) := by decide +kernel
theorem dX10_may_10 : decode cX10_may 10 = .ok (.aload_n 0, 1) := by decide +kernel
theorem dX10_may_11 : decode cX10_may 11 = .ok (.iload_n 1, 1) := by decide +kernel
theorem dX10_may_12 : decode cX10_may 12 = .ok (.iload_n 2, 1) := by decide +kernel
theorem dX10_may_13 : decode cX10_may 13 = .ok (.iload_n 3, 1) := by decide +kernel
theorem dX10_may_14 : decode cX10_may 14 = .ok (.invokevirtual 222, 3) := by decide +kernel
theorem dX10_may_17 : decode cX10_may 17 = .ok (.goto 4, 3) := by decide +kernel
theorem dX10_may_20 : decode cX10_may 20 = .ok (.iconst (-1), 1) := by decide +kernel
theorem dX10_may_21 : decode cX10_may 21 = .ok (.ireturn, 1) := by decide +kernel
theorem dX10_mayJudge_0 : decode cX10_mayJudge 0 = .ok (.aload_n 0, 1) := by decide +kernel
theorem dX10_mayJudge_1 : decode cX10_mayJudge 1 = .ok (.iload_n 1, 1) := by decide +kernel
theorem dX10_mayJudge_2 : decode cX10_mayJudge 2 = .ok (.invokevirtual 131, 3) := by decide +kernel
theorem dX10_mayJudge_5 : decode cX10_mayJudge 5 = .ok (.ifCond .eq 12, 3) := by decide +kernel
theorem dX10_mayJudge_8 : decode cX10_mayJudge 8 = .ok (.aload_n 0, 1) := by decide +kernel
theorem dX10_mayJudge_9 : decode cX10_mayJudge 9 = .ok (.iload_n 1, 1) := by decide +kernel
theorem dX10_mayJudge_10 : decode cX10_mayJudge 10 = .ok (.iload_n 2, 1) := by decide +kernel
theorem dX10_mayJudge_11 : decode cX10_mayJudge 11 = .ok (.invokevirtual 145, 3) := by decide +kernel
theorem dX10_mayJudge_14 : decode cX10_mayJudge 14 = .ok (.ifCond .eq 5, 3) := by decide +kernel
theorem dX10_mayJudge_17 : decode cX10_mayJudge 17 = .ok (.iconst 0, 1) := by decide +kernel
theorem dX10_mayJudge_18 : decode cX10_mayJudge 18 = .ok (.ireturn, 1) := by decide +kernel
theorem dX10_mayJudge_19 : decode cX10_mayJudge 19 = .ok (.iconst 0, 1) := by decide +kernel
theorem dX10_mayJudge_20 : decode cX10_mayJudge 20 = .ok (.istore_n 3, 1) := by decide +kernel
theorem dX10_mayJudge_21 : decode cX10_mayJudge 21 = .ok (.iconst 0, 1) := by decide +kernel
theorem dX10_mayJudge_22 : decode cX10_mayJudge 22 = .ok (.istore 4, 2) := by decide +kernel
theorem dX10_mayJudge_24 : decode cX10_mayJudge 24 = .ok (.iload 4, 2) := by decide +kernel
theorem dX10_mayJudge_26 : decode cX10_mayJudge 26 = .ok (.aload_n 0, 1) := by decide +kernel
theorem dX10_mayJudge_27 : decode cX10_mayJudge 27 = .ok (.getfield 148, 3) := by decide +kernel
theorem dX10_mayJudge_30 : decode cX10_mayJudge 30 = .ok (.if_icmp .ge 54, 3) := by decide +kernel
theorem dX10_mayJudge_33 : decode cX10_mayJudge 33 = .ok (.iload_n 3, 1) := by decide +kernel
theorem dX10_mayJudge_34 : decode cX10_mayJudge 34 = .ok (.ifCond .ne 38, 3) := by decide +kernel
theorem dX10_mayJudge_37 : decode cX10_mayJudge 37 = .ok (.aload_n 0, 1) := by decide +kernel
theorem dX10_mayJudge_38 : decode cX10_mayJudge 38 = .ok (.getfield 28, 3) := by decide +kernel
theorem dX10_mayJudge_41 : decode cX10_mayJudge 41 = .ok (.iload 4, 2) := by decide +kernel
theorem dX10_mayJudge_43 : decode cX10_mayJudge 43 = .ok (.iaload, 1) := by decide +kernel
theorem dX10_mayJudge_44 : decode cX10_mayJudge 44 = .ok (.iload_n 2, 1) := by decide +kernel
theorem dX10_mayJudge_45 : decode cX10_mayJudge 45 = .ok (.if_icmp .ne 31, 3) := by decide +kernel
theorem dX10_mayJudge_48 : decode cX10_mayJudge 48 = .ok (.aload_n 0, 1) := by decide +kernel
theorem dX10_mayJudge_49 : decode cX10_mayJudge 49 = .ok (.getfield 31, 3) := by decide +kernel
theorem dX10_mayJudge_52 : decode cX10_mayJudge 52 = .ok (.iload 4, 2) := by decide +kernel
theorem dX10_mayJudge_54 : decode cX10_mayJudge 54 = .ok (.iaload, 1) := by decide +kernel
theorem dX10_mayJudge_55 : decode cX10_mayJudge 55 = .ok (.iload_n 1, 1) := by decide +kernel
theorem dX10_mayJudge_56 : decode cX10_mayJudge 56 = .ok (.if_icmp .ne 20, 3) := by decide +kernel
theorem dX10_mayJudge_59 : decode cX10_mayJudge 59 = .ok (.aload_n 0, 1) := by decide +kernel
theorem dX10_mayJudge_60 : decode cX10_mayJudge 60 = .ok (.iload 4, 2) := by decide +kernel
theorem dX10_mayJudge_62 : decode cX10_mayJudge 62 = .ok (.aload_n 0, 1) := by decide +kernel
theorem dX10_mayJudge_63 : decode cX10_mayJudge 63 = .ok (.getfield 134, 3) := by decide +kernel
theorem dX10_mayJudge_66 : decode cX10_mayJudge 66 = .ok (.invokevirtual 154, 3) := by decide +kernel
theorem dX10_mayJudge_69 : decode cX10_mayJudge 69 = .ok (.ifCond .eq 7, 3) := by decide +kernel
theorem dX10_mayJudge_72 : decode cX10_mayJudge 72 = .ok (.iconst 1, 1) := by decide +kernel
theorem dX10_mayJudge_73 : decode cX10_mayJudge 73 = .ok (.goto 4, 3) := by decide +kernel
theorem dX10_mayJudge_76 : decode cX10_mayJudge 76 = .ok (.iconst 0, 1) := by decide +kernel
theorem dX10_mayJudge_77 : decode cX10_mayJudge 77 = .ok (.istore_n 3, 1) := by decide +kernel
theorem dX10_mayJudge_78 : decode cX10_mayJudge 78 = .ok (.iinc 4 1, 3) := by decide +kernel
theorem dX10_mayJudge_81 : decode cX10_mayJudge 81 = .ok (.goto (-57), 3) := by decide +kernel
theorem dX10_mayJudge_84 : decode cX10_mayJudge 84 = .ok (.iload_n 3, 1) := by decide +kernel
theorem dX10_mayJudge_85 : decode cX10_mayJudge 85 = .ok (.ifCond .ne 7, 3) := by decide +kernel
theorem dX10_mayJudge_88 : decode cX10_mayJudge 88 = .ok (.iconst 1, 1) := by decide +kernel
theorem dX10_mayJudge_89 : decode cX10_mayJudge 89 = .ok (.goto 4, 3) := by decide +kernel
theorem dX10_mayJudge_92 : decode cX10_mayJudge 92 = .ok (.iconst 0, 1) := by decide +kernel
theorem dX10_mayJudge_93 : decode cX10_mayJudge 93 = .ok (.ireturn, 1) := by decide +kernel
theorem dX10_piece_0 : decode cX10_piece 0 = .ok (.aload_n 0, 1) := by decide +kernel
theorem dX10_piece_1 : decode cX10_piece 1 = .ok (.iconst 0, 1) := by decide +kernel
theorem dX10_piece_2 : decode cX10_piece 2 = .ok (.putfield 117, 3) := by decide +kernel
theorem dX10_piece_5 : decode cX10_piece 5 = .ok (.aload_n 0, 1) := by decide +kernel
theorem dX10_piece_6 : decode cX10_piece 6 = .ok (.getfield 161, 3) := by decide +kernel
theorem dX10_piece_9 : decode cX10_piece 9 = .ok (.bipush 40, 2) := by decide +kernel
theorem dX10_piece_11 : decode cX10_piece 11 = .ok (.if_icmp .eq 35, 3) := by decide +kernel
theorem dX10_piece_14 : decode cX10_piece 14 = .ok (.aload_n 0, 1) := by decide +kernel
theorem dX10_piece_15 : decode cX10_piece 15 = .ok (.iload_n 1, 1) := by decide +kernel
theorem dX10_piece_16 : decode cX10_piece 16 = .ok (.invokevirtual 128, 3) := by decide +kernel
theorem dX10_piece_19 : decode cX10_piece 19 = .ok (.ifCond .eq 27, 3) := by decide +kernel
theorem dX10_piece_22 : decode cX10_piece 22 = .ok (.aload_n 0, 1) := by decide +kernel
theorem dX10_piece_23 : decode cX10_piece 23 = .ok (.iload_n 1, 1) := by decide +kernel
theorem dX10_piece_24 : decode cX10_piece 24 = .ok (.invokevirtual 131, 3) := by decide +kernel
theorem dX10_piece_27 : decode cX10_piece 27 = .ok (.ifCond .ne 19, 3) := by decide +kernel
theorem dX10_piece_30 : decode cX10_piece 30 = .ok (.aload_n 0, 1) := by decide +kernel
theorem dX10_piece_31 : decode cX10_piece 31 = .ok (.iload_n 1, 1) := by decide +kernel
theorem dX10_piece_32 : decode cX10_piece 32 = .ok (.aload_n 0, 1) := by decide +kernel
theorem dX10_piece_33 : decode cX10_piece 33 = .ok (.getfield 134, 3) := by decide +kernel
theorem dX10_piece_36 : decode cX10_piece 36 = .ok (.aload_n 0, 1) := by decide +kernel
theorem dX10_piece_37 : decode cX10_piece 37 = .ok (.getfield 134, 3) := by decide +kernel
theorem dX10_piece_40 : decode cX10_piece 40 = .ok (.invokevirtual 222, 3) := by decide +kernel
theorem dX10_piece_43 : decode cX10_piece 43 = .ok (.ifCond .ne 5, 3) := by decide +kernel
theorem dX10_piece_46 : decode cX10_piece 46 = .ok (.iconst (-1), 1) := by decide +kernel
theorem dX10_piece_47 : decode cX10_piece 47 = .ok (.ireturn, 1) := by decide +kernel
theorem dX10_piece_48 : decode cX10_piece 48 = .ok (.iconst 0, 1) := by decide +kernel
theorem dX10_piece_49 : decode cX10_piece 49 = .ok (.istore 4, 2) := by decide +kernel
theorem dX10_piece_51 : decode cX10_piece 51 = .ok (.iload 4, 2) := by decide +kernel
theorem dX10_piece_53 : decode cX10_piece 53 = .ok (.aload_n 0, 1) := by decide +kernel
theorem dX10_piece_54 : decode cX10_piece 54 = .ok (.getfield 161, 3) := by decide +kernel
theorem dX10_piece_57 : decode cX10_piece 57 = .ok (.if_icmp .ge 33, 3) := by decide +kernel
theorem dX10_piece_60 : decode cX10_piece 60 = .ok (.aload_n 0, 1) := by decide +kernel
theorem dX10_piece_61 : decode cX10_piece 61 = .ok (.getfield 74, 3) := by decide +kernel
theorem dX10_piece_64 : decode cX10_piece 64 = .ok (.iload 4, 2) := by decide +kernel
theorem dX10_piece_66 : decode cX10_piece 66 = .ok (.iaload, 1) := by decide +kernel
theorem dX10_piece_67 : decode cX10_piece 67 = .ok (.iload_n 1, 1) := by decide +kernel
theorem dX10_piece_68 : decode cX10_piece 68 = .ok (.if_icmp .ne 16, 3) := by decide +kernel
theorem dX10_piece_71 : decode cX10_piece 71 = .ok (.aload_n 0, 1) := by decide +kernel
theorem dX10_piece_72 : decode cX10_piece 72 = .ok (.getfield 77, 3) := by decide +kernel
theorem dX10_piece_75 : decode cX10_piece 75 = .ok (.iload 4, 2) := by decide +kernel
theorem dX10_piece_77 : decode cX10_piece 77 = .ok (.iaload, 1) := by decide +kernel
theorem dX10_piece_78 : decode cX10_piece 78 = .ok (.iconst (-1), 1) := by decide +kernel
theorem dX10_piece_79 : decode cX10_piece 79 = .ok (.if_icmp .ne 5, 3) := by decide +kernel
theorem dX10_piece_82 : decode cX10_piece 82 = .ok (.iconst (-1), 1) := by decide +kernel
theorem dX10_piece_83 : decode cX10_piece 83 = .ok (.ireturn, 1) := by decide +kernel
theorem dX10_piece_84 : decode cX10_piece 84 = .ok (.iinc 4 1, 3) := by decide +kernel
theorem dX10_piece_87 : decode cX10_piece 87 = .ok (.goto (-36), 3) := by decide +kernel
theorem dX10_piece_90 : decode cX10_piece 90 = .ok (.bipush 30, 2) := by decide +kernel
theorem dX10_piece_92 : decode cX10_piece 92 = .ok (.newarray .boolean, 2) := by decide +kernel
theorem dX10_piece_94 : decode cX10_piece 94 = .ok (.astore 4, 2) := by decide +kernel
theorem dX10_piece_96 : decode cX10_piece 96 = .ok (.iconst 0, 1) := by decide +kernel
theorem dX10_piece_97 : decode cX10_piece 97 = .ok (.istore 5, 2) := by decide +kernel
theorem dX10_piece_99 : decode cX10_piece 99 = .ok (.iconst 0, 1) := by decide +kernel
theorem dX10_piece_100 : decode cX10_piece 100 = .ok (.istore 6, 2) := by decide +kernel
theorem dX10_piece_102 : decode cX10_piece 102 = .ok (.iload 6, 2) := by decide +kernel
theorem dX10_piece_104 : decode cX10_piece 104 = .ok (.aload_n 0, 1) := by decide +kernel
theorem dX10_piece_105 : decode cX10_piece 105 = .ok (.getfield 121, 3) := by decide +kernel
theorem dX10_piece_108 : decode cX10_piece 108 = .ok (.if_icmp .ge 39, 3) := by decide +kernel
theorem dX10_piece_111 : decode cX10_piece 111 = .ok (.aload 4, 2) := by decide +kernel
theorem dX10_piece_113 : decode cX10_piece 113 = .ok (.iload 6, 2) := by decide +kernel
theorem dX10_piece_115 : decode cX10_piece 115 = .ok (.aload_n 0, 1) := by decide +kernel
theorem dX10_piece_116 : decode cX10_piece 116 = .ok (.iload 6, 2) := by decide +kernel
theorem dX10_piece_118 : decode cX10_piece 118 = .ok (.iload_n 1, 1) := by decide +kernel
theorem dX10_piece_119 : decode cX10_piece 119 = .ok (.invokevirtual 226, 3) := by decide +kernel
theorem dX10_piece_122 : decode cX10_piece 122 = .ok (.bastore, 1) := by decide +kernel
theorem dX10_piece_123 : decode cX10_piece 123 = .ok (.iload 5, 2) := by decide +kernel
theorem dX10_piece_125 : decode cX10_piece 125 = .ok (.aload 4, 2) := by decide +kernel
theorem dX10_piece_127 : decode cX10_piece 127 = .ok (.iload 6, 2) := by decide +kernel
theorem dX10_piece_129 : decode cX10_piece 129 = .ok (.baload, 1) := by decide +kernel
theorem dX10_piece_130 : decode cX10_piece 130 = .ok (.ifCond .eq 7, 3) := by decide +kernel
theorem dX10_piece_133 : decode cX10_piece 133 = .ok (.iconst 1, 1) := by decide +kernel
theorem dX10_piece_134 : decode cX10_piece 134 = .ok (.goto 4, 3) := by decide +kernel
theorem dX10_piece_137 : decode cX10_piece 137 = .ok (.iconst 0, 1) := by decide +kernel
theorem dX10_piece_138 : decode cX10_piece 138 = .ok (.iadd, 1) := by decide +kernel
theorem dX10_piece_139 : decode cX10_piece 139 = .ok (.istore 5, 2) := by decide +kernel
theorem dX10_piece_141 : decode cX10_piece 141 = .ok (.iinc 6 1, 3) := by decide +kernel
theorem dX10_piece_144 : decode cX10_piece 144 = .ok (.goto (-42), 3) := by decide +kernel
theorem dX10_piece_147 : decode cX10_piece 147 = .ok (.iload 5, 2) := by decide +kernel
theorem dX10_piece_149 : decode cX10_piece 149 = .ok (.iconst 3, 1) := by decide +kernel
theorem dX10_piece_150 : decode cX10_piece 150 = .ok (.if_icmp .ge 5, 3) := by decide +kernel
theorem dX10_piece_153 : decode cX10_piece 153 = .ok (.iconst (-1), 1) := by decide +kernel
theorem dX10_piece_154 : decode cX10_piece 154 = .ok (.ireturn, 1) := by decide +kernel
theorem dX10_piece_155 : decode cX10_piece 155 = .ok (.lload_n 2, 1) := by decide +kernel
theorem dX10_piece_156 : decode cX10_piece 156 = .ok (.lstore 6, 2) := by decide +kernel
theorem dX10_piece_158 : decode cX10_piece 158 = .ok (.iconst 0, 1) := by decide +kernel
theorem dX10_piece_159 : decode cX10_piece 159 = .ok (.istore 8, 2) := by decide +kernel
theorem dX10_piece_161 : decode cX10_piece 161 = .ok (.iload 8, 2) := by decide +kernel
theorem dX10_piece_163 : decode cX10_piece 163 = .ok (.iconst 3, 1) := by decide +kernel
theorem dX10_piece_164 : decode cX10_piece 164 = .ok (.if_icmp .ge 91, 3) := by decide +kernel
theorem dX10_piece_167 : decode cX10_piece 167 = .ok (.lload 6, 2) := by decide +kernel
theorem dX10_piece_169 : decode cX10_piece 169 = .ok (.ldc2_w 229, 3) := by decide +kernel
theorem dX10_piece_172 : decode cX10_piece 172 = .ok (.lmul, 1) := by decide +kernel
theorem dX10_piece_173 : decode cX10_piece 173 = .ok (.ldc2_w 231, 3) := by decide +kernel
theorem dX10_piece_176 : decode cX10_piece 176 = .ok (.ladd, 1) := by decide +kernel
theorem dX10_piece_177 : decode cX10_piece 177 = .ok (.lstore 6, 2) := by decide +kernel
theorem dX10_piece_179 : decode cX10_piece 179 = .ok (.lload 6, 2) := by decide +kernel
theorem dX10_piece_181 : decode cX10_piece 181 = .ok (.bipush 33, 2) := by decide +kernel
theorem dX10_piece_183 : decode cX10_piece 183 = .ok (.lushr, 1) := by decide +kernel
theorem dX10_piece_184 : decode cX10_piece 184 = .ok (.iload 5, 2) := by decide +kernel
theorem dX10_piece_186 : decode cX10_piece 186 = .ok (.i2l, 1) := by decide +kernel
theorem dX10_piece_187 : decode cX10_piece 187 = .ok (.lrem, 1) := by decide +kernel
theorem dX10_piece_188 : decode cX10_piece 188 = .ok (.l2i, 1) := by decide +kernel
theorem dX10_piece_189 : decode cX10_piece 189 = .ok (.istore 9, 2) := by decide +kernel
theorem dX10_piece_191 : decode cX10_piece 191 = .ok (.iconst 0, 1) := by decide +kernel
theorem dX10_piece_192 : decode cX10_piece 192 = .ok (.istore 10, 2) := by decide +kernel
theorem dX10_piece_194 : decode cX10_piece 194 = .ok (.aload 4, 2) := by decide +kernel
theorem dX10_piece_196 : decode cX10_piece 196 = .ok (.iload 10, 2) := by decide +kernel
theorem dX10_piece_198 : decode cX10_piece 198 = .ok (.baload, 1) := by decide +kernel
theorem dX10_piece_199 : decode cX10_piece 199 = .ok (.ifCond .eq 8, 3) := by decide +kernel
theorem dX10_piece_202 : decode cX10_piece 202 = .ok (.iload 9, 2) := by decide +kernel
theorem dX10_piece_204 : decode cX10_piece 204 = .ok (.ifCond .le 20, 3) := by decide +kernel
theorem dX10_piece_207 : decode cX10_piece 207 = .ok (.aload 4, 2) := by decide +kernel
theorem dX10_piece_209 : decode cX10_piece 209 = .ok (.iload 10, 2) := by decide +kernel
theorem dX10_piece_211 : decode cX10_piece 211 = .ok (.baload, 1) := by decide +kernel
theorem dX10_piece_212 : decode cX10_piece 212 = .ok (.ifCond .eq 6, 3) := by decide +kernel
theorem dX10_piece_215 : decode cX10_piece 215 = .ok (.iinc 9 (-1), 3) := by decide +kernel
theorem dX10_piece_218 : decode cX10_piece 218 = .ok (.iinc 10 1, 3) := by decide +kernel
theorem dX10_piece_221 : decode cX10_piece 221 = .ok (.goto (-27), 3) := by decide +kernel
theorem dX10_piece_224 : decode cX10_piece 224 = .ok (.aload 4, 2) := by decide +kernel
theorem dX10_piece_226 : decode cX10_piece 226 = .ok (.iload 10, 2) := by decide +kernel
theorem dX10_piece_228 : decode cX10_piece 228 = .ok (.iconst 0, 1) := by decide +kernel
theorem dX10_piece_229 : decode cX10_piece 229 = .ok (.bastore, 1) := by decide +kernel
theorem dX10_piece_230 : decode cX10_piece 230 = .ok (.iinc 5 (-1), 3) := by decide +kernel
theorem dX10_piece_233 : decode cX10_piece 233 = .ok (.aload_n 0, 1) := by decide +kernel
theorem dX10_piece_234 : decode cX10_piece 234 = .ok (.getfield 86, 3) := by decide +kernel
theorem dX10_piece_237 : decode cX10_piece 237 = .ok (.iconst 3, 1) := by decide +kernel
theorem dX10_piece_238 : decode cX10_piece 238 = .ok (.aload_n 0, 1) := by decide +kernel
theorem dX10_piece_239 : decode cX10_piece 239 = .ok (.getfield 161, 3) := by decide +kernel
theorem dX10_piece_242 : decode cX10_piece 242 = .ok (.imul, 1) := by decide +kernel
theorem dX10_piece_243 : decode cX10_piece 243 = .ok (.iload 8, 2) := by decide +kernel
theorem dX10_piece_245 : decode cX10_piece 245 = .ok (.iadd, 1) := by decide +kernel
theorem dX10_piece_246 : decode cX10_piece 246 = .ok (.iload 10, 2) := by decide +kernel
theorem dX10_piece_248 : decode cX10_piece 248 = .ok (.iastore, 1) := by decide +kernel
theorem dX10_piece_249 : decode cX10_piece 249 = .ok (.iinc 8 1, 3) := by decide +kernel
theorem dX10_piece_252 : decode cX10_piece 252 = .ok (.goto (-91), 3) := by decide +kernel
theorem dX10_piece_255 : decode cX10_piece 255 = .ok (.aload_n 0, 1) := by decide +kernel
theorem dX10_piece_256 : decode cX10_piece 256 = .ok (.getfield 74, 3) := by decide +kernel
theorem dX10_piece_259 : decode cX10_piece 259 = .ok (.aload_n 0, 1) := by decide +kernel
theorem dX10_piece_260 : decode cX10_piece 260 = .ok (.getfield 161, 3) := by decide +kernel
theorem dX10_piece_263 : decode cX10_piece 263 = .ok (.iload_n 1, 1) := by decide +kernel
theorem dX10_piece_264 : decode cX10_piece 264 = .ok (.iastore, 1) := by decide +kernel
theorem dX10_piece_265 : decode cX10_piece 265 = .ok (.aload_n 0, 1) := by decide +kernel
theorem dX10_piece_266 : decode cX10_piece 266 = .ok (.getfield 77, 3) := by decide +kernel
theorem dX10_piece_269 : decode cX10_piece 269 = .ok (.aload_n 0, 1) := by decide +kernel
theorem dX10_piece_270 : decode cX10_piece 270 = .ok (.getfield 161, 3) := by decide +kernel
theorem dX10_piece_273 : decode cX10_piece 273 = .ok (.iconst (-1), 1) := by decide +kernel
theorem dX10_piece_274 : decode cX10_piece 274 = .ok (.iastore, 1) := by decide +kernel
theorem dX10_piece_275 : decode cX10_piece 275 = .ok (.aload_n 0, 1) := by decide +kernel
theorem dX10_piece_276 : decode cX10_piece 276 = .ok (.getfield 80, 3) := by decide +kernel
theorem dX10_piece_279 : decode cX10_piece 279 = .ok (.aload_n 0, 1) := by decide +kernel
theorem dX10_piece_280 : decode cX10_piece 280 = .ok (.getfield 161, 3) := by decide +kernel
theorem dX10_piece_283 : decode cX10_piece 283 = .ok (.iconst (-1), 1) := by decide +kernel
theorem dX10_piece_284 : decode cX10_piece 284 = .ok (.iastore, 1) := by decide +kernel
theorem dX10_piece_285 : decode cX10_piece 285 = .ok (.aload_n 0, 1) := by decide +kernel
theorem dX10_piece_286 : decode cX10_piece 286 = .ok (.getfield 83, 3) := by decide +kernel
theorem dX10_piece_289 : decode cX10_piece 289 = .ok (.aload_n 0, 1) := by decide +kernel
theorem dX10_piece_290 : decode cX10_piece 290 = .ok (.getfield 161, 3) := by decide +kernel
theorem dX10_piece_293 : decode cX10_piece 293 = .ok (.iconst (-1), 1) := by decide +kernel
theorem dX10_piece_294 : decode cX10_piece 294 = .ok (.iastore, 1) := by decide +kernel
theorem dX10_piece_295 : decode cX10_piece 295 = .ok (.iconst 0, 1) := by decide +kernel
theorem dX10_piece_296 : decode cX10_piece 296 = .ok (.istore 8, 2) := by decide +kernel
theorem dX10_piece_298 : decode cX10_piece 298 = .ok (.iload 8, 2) := by decide +kernel
theorem dX10_piece_300 : decode cX10_piece 300 = .ok (.bipush 12, 2) := by decide +kernel
theorem dX10_piece_302 : decode cX10_piece 302 = .ok (.if_icmp .ge 25, 3) := by decide +kernel
theorem dX10_piece_305 : decode cX10_piece 305 = .ok (.aload_n 0, 1) := by decide +kernel
theorem dX10_piece_306 : decode cX10_piece 306 = .ok (.getfield 89, 3) := by decide +kernel
theorem dX10_piece_309 : decode cX10_piece 309 = .ok (.bipush 12, 2) := by decide +kernel
theorem dX10_piece_311 : decode cX10_piece 311 = .ok (.aload_n 0, 1) := by decide +kernel
theorem dX10_piece_312 : decode cX10_piece 312 = .ok (.getfield 161, 3) := by decide +kernel
theorem dX10_piece_315 : decode cX10_piece 315 = .ok (.imul, 1) := by decide +kernel
theorem dX10_piece_316 : decode cX10_piece 316 = .ok (.iload 8, 2) := by decide +kernel
theorem dX10_piece_318 : decode cX10_piece 318 = .ok (.iadd, 1) := by decide +kernel
theorem dX10_piece_319 : decode cX10_piece 319 = .ok (.iconst (-1), 1) := by decide +kernel
theorem dX10_piece_320 : decode cX10_piece 320 = .ok (.iastore, 1) := by decide +kernel
theorem dX10_piece_321 : decode cX10_piece 321 = .ok (.iinc 8 1, 3) := by decide +kernel
theorem dX10_piece_324 : decode cX10_piece 324 = .ok (.goto (-26), 3) := by decide +kernel
theorem dX10_piece_327 : decode cX10_piece 327 = .ok (.aload_n 0, 1) := by decide +kernel
theorem dX10_piece_328 : decode cX10_piece 328 = .ok (.dup, 1) := by decide +kernel
theorem dX10_piece_329 : decode cX10_piece 329 = .ok (.getfield 161, 3) := by decide +kernel
theorem dX10_piece_332 : decode cX10_piece 332 = .ok (.iconst 1, 1) := by decide +kernel
theorem dX10_piece_333 : decode cX10_piece 333 = .ok (.iadd, 1) := by decide +kernel
theorem dX10_piece_334 : decode cX10_piece 334 = .ok (.putfield 161, 3) := by decide +kernel
theorem dX10_piece_337 : decode cX10_piece 337 = .ok (.aload_n 0, 1) := by decide +kernel
theorem dX10_piece_338 : decode cX10_piece 338 = .ok (.getfield 161, 3) := by decide +kernel
theorem dX10_piece_341 : decode cX10_piece 341 = .ok (.iconst 1, 1) := by decide +kernel
theorem dX10_piece_342 : decode cX10_piece 342 = .ok (.isub, 1) := by decide +kernel
theorem dX10_piece_343 : decode cX10_piece 343 = .ok (.ireturn, 1) := by decide +kernel
theorem dX10_isPiece_0 : decode cX10_isPiece 0 = .ok (.iload_n 1, 1) := by decide +kernel
theorem dX10_isPiece_1 : decode cX10_isPiece 1 = .ok (.ifCond .lt 15, 3) := by decide +kernel
theorem dX10_isPiece_4 : decode cX10_isPiece 4 = .ok (.iload_n 1, 1) := by decide +kernel
theorem dX10_isPiece_5 : decode cX10_isPiece 5 = .ok (.aload_n 0, 1) := by decide +kernel
theorem dX10_isPiece_6 : decode cX10_isPiece 6 = .ok (.getfield 161, 3) := by decide +kernel
theorem dX10_isPiece_9 : decode cX10_isPiece 9 = .ok (.if_icmp .ge 7, 3) := by decide +kernel
theorem dX10_isPiece_12 : decode cX10_isPiece 12 = .ok (.iconst 1, 1) := by decide +kernel
theorem dX10_isPiece_13 : decode cX10_isPiece 13 = .ok (.goto 4, 3) := by decide +kernel
theorem dX10_isPiece_16 : decode cX10_isPiece 16 = .ok (.iconst 0, 1) := by decide +kernel
theorem dX10_isPiece_17 : decode cX10_isPiece 17 = .ok (.ireturn, 1) := by decide +kernel
theorem dX10_judge_0 : decode cX10_judge 0 = .ok (.aload_n 0, 1) := by decide +kernel
theorem dX10_judge_1 : decode cX10_judge 1 = .ok (.iconst 0, 1) := by decide +kernel
theorem dX10_judge_2 : decode cX10_judge 2 = .ok (.putfield 117, 3) := by decide +kernel
theorem dX10_judge_5 : decode cX10_judge 5 = .ok (.aload_n 0, 1) := by decide +kernel
theorem dX10_judge_6 : decode cX10_judge 6 = .ok (.iload_n 1, 1) := by decide +kernel
theorem dX10_judge_7 : decode cX10_judge 7 = .ok (.invokevirtual 233, 3) := by decide +kernel
theorem dX10_judge_10 : decode cX10_judge 10 = .ok (.ifCond .eq 25, 3) := by decide +kernel
theorem dX10_judge_13 : decode cX10_judge 13 = .ok (.iload_n 2, 1) := by decide +kernel
theorem dX10_judge_14 : decode cX10_judge 14 = .ok (.iconst 0, 1) := by decide +kernel
theorem dX10_judge_15 : decode cX10_judge 15 = .ok (.iconst 2, 1) := by decide +kernel
theorem dX10_judge_16 : decode cX10_judge 16 = .ok (.invokestatic 137, 3) := by decide +kernel
theorem dX10_judge_19 : decode cX10_judge 19 = .ok (.ifCond .eq 16, 3) := by decide +kernel
theorem dX10_judge_22 : decode cX10_judge 22 = .ok (.aload_n 0, 1) := by decide +kernel
theorem dX10_judge_23 : decode cX10_judge 23 = .ok (.getfield 86, 3) := by decide +kernel
theorem dX10_judge_26 : decode cX10_judge 26 = .ok (.iconst 3, 1) := by decide +kernel
theorem dX10_judge_27 : decode cX10_judge 27 = .ok (.iload_n 1, 1) := by decide +kernel
theorem dX10_judge_28 : decode cX10_judge 28 = .ok (.imul, 1) := by decide +kernel
theorem dX10_judge_29 : decode cX10_judge 29 = .ok (.iload_n 2, 1) := by decide +kernel
theorem dX10_judge_30 : decode cX10_judge 30 = .ok (.iadd, 1) := by decide +kernel
theorem dX10_judge_31 : decode cX10_judge 31 = .ok (.iaload, 1) := by decide +kernel
theorem dX10_judge_32 : decode cX10_judge 32 = .ok (.goto 4, 3) := by decide +kernel
theorem dX10_judge_35 : decode cX10_judge 35 = .ok (.iconst (-1), 1) := by decide +kernel
theorem dX10_judge_36 : decode cX10_judge 36 = .ok (.ireturn, 1) := by decide +kernel
theorem dX10_mark__0 : decode cX10_mark_ 0 = .ok (.aload_n 0, 1) := by decide +kernel
theorem dX10_mark__1 : decode cX10_mark_ 1 = .ok (.iconst 0, 1) := by decide +kernel
theorem dX10_mark__2 : decode cX10_mark_ 2 = .ok (.putfield 117, 3) := by decide +kernel
theorem dX10_mark__5 : decode cX10_mark_ 5 = .ok (.aload_n 0, 1) := by decide +kernel
theorem dX10_mark__6 : decode cX10_mark_ 6 = .ok (.iload_n 1, 1) := by decide +kernel
theorem dX10_mark__7 : decode cX10_mark_ 7 = .ok (.invokevirtual 233, 3) := by decide +kernel
theorem dX10_mark__10 : decode cX10_mark_ 10 = .ok (.ifCond .eq 42, 3) := by decide +kernel
theorem dX10_mark__13 : decode cX10_mark_ 13 = .ok (.iload_n 2, 1) := by decide +kernel
theorem dX10_mark__14 : decode cX10_mark_ 14 = .ok (.iconst 0, 1) := by decide +kernel
theorem dX10_mark__15 : decode cX10_mark_ 15 = .ok (.iconst 2, 1) := by decide +kernel
theorem dX10_mark__16 : decode cX10_mark_ 16 = .ok (.invokestatic 137, 3) := by decide +kernel
theorem dX10_mark__19 : decode cX10_mark_ 19 = .ok (.ifCond .eq 33, 3) := by decide +kernel
theorem dX10_mark__22 : decode cX10_mark_ 22 = .ok (.iload_n 3, 1) := by decide +kernel
theorem dX10_mark__23 : decode cX10_mark_ 23 = .ok (.iconst 0, 1) := by decide +kernel
theorem dX10_mark__24 : decode cX10_mark_ 24 = .ok (.iconst 3, 1) := by decide +kernel
theorem dX10_mark__25 : decode cX10_mark_ 25 = .ok (.invokestatic 137, 3) := by decide +kernel
theorem dX10_mark__28 : decode cX10_mark_ 28 = .ok (.ifCond .eq 24, 3) := by decide +kernel
theorem dX10_mark__31 : decode cX10_mark_ 31 = .ok (.iload 4, 2) := by decide +kernel
theorem dX10_mark__33 : decode cX10_mark_ 33 = .ok (.iconst 0, 1) := by decide +kernel
theorem dX10_mark__34 : decode cX10_mark_ 34 = .ok (.bipush 10, 2) := by decide +kernel
theorem dX10_mark__36 : decode cX10_mark_ 36 = .ok (.invokestatic 137, 3) := by decide +kernel
theorem dX10_mark__39 : decode cX10_mark_ 39 = .ok (.ifCond .eq 13, 3) := by decide +kernel
theorem dX10_mark__42 : decode cX10_mark_ 42 = .ok (.aload_n 0, 1) := by decide +kernel
theorem dX10_mark__43 : decode cX10_mark_ 43 = .ok (.getfield 77, 3) := by decide +kernel
theorem dX10_mark__46 : decode cX10_mark_ 46 = .ok (.iload_n 1, 1) := by decide +kernel
theorem dX10_mark__47 : decode cX10_mark_ 47 = .ok (.iaload, 1) := by decide +kernel
theorem dX10_mark__48 : decode cX10_mark_ 48 = .ok (.iconst (-1), 1) := by decide +kernel
theorem dX10_mark__49 : decode cX10_mark_ 49 = .ok (.if_icmp .eq 5, 3) := by decide +kernel
theorem dX10_mark__52 : decode cX10_mark_ 52 = .ok (.iconst 0, 1) := by decide +kernel
theorem dX10_mark__53 : decode cX10_mark_ 53 = .ok (.ireturn, 1) := by decide +kernel
theorem dX10_mark__54 : decode cX10_mark_ 54 = .ok (.aload_n 0, 1) := by decide +kernel
theorem dX10_mark__55 : decode cX10_mark_ 55 = .ok (.getfield 89, 3) := by decide +kernel
theorem dX10_mark__58 : decode cX10_mark_ 58 = .ok (.bipush 12, 2) := by decide +kernel
theorem dX10_mark__60 : decode cX10_mark_ 60 = .ok (.iload_n 1, 1) := by decide +kernel
theorem dX10_mark__61 : decode cX10_mark_ 61 = .ok (.imul, 1) := by decide +kernel
theorem dX10_mark__62 : decode cX10_mark_ 62 = .ok (.iconst 4, 1) := by decide +kernel
theorem dX10_mark__63 : decode cX10_mark_ 63 = .ok (.iload_n 2, 1) := by decide +kernel
theorem dX10_mark__64 : decode cX10_mark_ 64 = .ok (.imul, 1) := by decide +kernel
theorem dX10_mark__65 : decode cX10_mark_ 65 = .ok (.iadd, 1) := by decide +kernel
theorem dX10_mark__66 : decode cX10_mark_ 66 = .ok (.iload_n 3, 1) := by decide +kernel
theorem dX10_mark__67 : decode cX10_mark_ 67 = .ok (.iadd, 1) := by decide +kernel
theorem dX10_mark__68 : decode cX10_mark_ 68 = .ok (.iload 4, 2) := by decide +kernel
theorem dX10_mark__70 : decode cX10_mark_ 70 = .ok (.iastore, 1) := by decide +kernel
theorem dX10_mark__71 : decode cX10_mark_ 71 = .ok (.iconst 0, 1) := by decide +kernel
theorem dX10_mark__72 : decode cX10_mark_ 72 = .ok (.istore 5, 2) := by decide +kernel
theorem dX10_mark__74 : decode cX10_mark_ 74 = .ok (.iconst (-1), 1) := by decide +kernel
theorem dX10_mark__75 : decode cX10_mark_ 75 = .ok (.istore 6, 2) := by decide +kernel
theorem dX10_mark__77 : decode cX10_mark_ 77 = .ok (.iconst 0, 1) := by decide +kernel
theorem dX10_mark__78 : decode cX10_mark_ 78 = .ok (.istore 7, 2) := by decide +kernel
theorem dX10_mark__80 : decode cX10_mark_ 80 = .ok (.iload 7, 2) := by decide +kernel
theorem dX10_mark__82 : decode cX10_mark_ 82 = .ok (.iconst 4, 1) := by decide +kernel
theorem dX10_mark__83 : decode cX10_mark_ 83 = .ok (.if_icmp .ge 85, 3) := by decide +kernel
theorem dX10_mark__86 : decode cX10_mark_ 86 = .ok (.iconst 0, 1) := by decide +kernel
theorem dX10_mark__87 : decode cX10_mark_ 87 = .ok (.istore 8, 2) := by decide +kernel
theorem dX10_mark__89 : decode cX10_mark_ 89 = .ok (.iconst 0, 1) := by decide +kernel
theorem dX10_mark__90 : decode cX10_mark_ 90 = .ok (.istore 9, 2) := by decide +kernel
theorem dX10_mark__92 : decode cX10_mark_ 92 = .ok (.iload 9, 2) := by decide +kernel
theorem dX10_mark__94 : decode cX10_mark_ 94 = .ok (.iconst 3, 1) := by decide +kernel
theorem dX10_mark__95 : decode cX10_mark_ 95 = .ok (.if_icmp .ge 43, 3) := by decide +kernel
theorem dX10_mark__98 : decode cX10_mark_ 98 = .ok (.aload_n 0, 1) := by decide +kernel
theorem dX10_mark__99 : decode cX10_mark_ 99 = .ok (.getfield 89, 3) := by decide +kernel
theorem dX10_mark__102 : decode cX10_mark_ 102 = .ok (.bipush 12, 2) := by decide +kernel
theorem dX10_mark__104 : decode cX10_mark_ 104 = .ok (.iload_n 1, 1) := by decide +kernel
theorem dX10_mark__105 : decode cX10_mark_ 105 = .ok (.imul, 1) := by decide +kernel
theorem dX10_mark__106 : decode cX10_mark_ 106 = .ok (.iconst 4, 1) := by decide +kernel
theorem dX10_mark__107 : decode cX10_mark_ 107 = .ok (.iload 9, 2) := by decide +kernel
theorem dX10_mark__109 : decode cX10_mark_ 109 = .ok (.imul, 1) := by decide +kernel
theorem dX10_mark__110 : decode cX10_mark_ 110 = .ok (.iadd, 1) := by decide +kernel
theorem dX10_mark__111 : decode cX10_mark_ 111 = .ok (.iload 7, 2) := by decide +kernel
theorem dX10_mark__113 : decode cX10_mark_ 113 = .ok (.iadd, 1) := by decide +kernel
theorem dX10_mark__114 : decode cX10_mark_ 114 = .ok (.iaload, 1) := by decide +kernel
theorem dX10_mark__115 : decode cX10_mark_ 115 = .ok (.istore 10, 2) := by decide +kernel
theorem dX10_mark__117 : decode cX10_mark_ 117 = .ok (.iload 10, 2) := by decide +kernel
theorem dX10_mark__119 : decode cX10_mark_ 119 = .ok (.iconst (-1), 1) := by decide +kernel
theorem dX10_mark__120 : decode cX10_mark_ 120 = .ok (.if_icmp .ne 5, 3) := by decide +kernel
theorem dX10_mark__123 : decode cX10_mark_ 123 = .ok (.iconst 1, 1) := by decide +kernel
theorem dX10_mark__124 : decode cX10_mark_ 124 = .ok (.ireturn, 1) := by decide +kernel
theorem dX10_mark__125 : decode cX10_mark_ 125 = .ok (.iload 8, 2) := by decide +kernel
theorem dX10_mark__127 : decode cX10_mark_ 127 = .ok (.iload 10, 2) := by decide +kernel
theorem dX10_mark__129 : decode cX10_mark_ 129 = .ok (.iadd, 1) := by decide +kernel
theorem dX10_mark__130 : decode cX10_mark_ 130 = .ok (.istore 8, 2) := by decide +kernel
theorem dX10_mark__132 : decode cX10_mark_ 132 = .ok (.iinc 9 1, 3) := by decide +kernel
theorem dX10_mark__135 : decode cX10_mark_ 135 = .ok (.goto (-43), 3) := by decide +kernel
theorem dX10_mark__138 : decode cX10_mark_ 138 = .ok (.iload 5, 2) := by decide +kernel
theorem dX10_mark__140 : decode cX10_mark_ 140 = .ok (.iload 8, 2) := by decide +kernel
theorem dX10_mark__142 : decode cX10_mark_ 142 = .ok (.iadd, 1) := by decide +kernel
theorem dX10_mark__143 : decode cX10_mark_ 143 = .ok (.istore 5, 2) := by decide +kernel
theorem dX10_mark__145 : decode cX10_mark_ 145 = .ok (.iload 8, 2) := by decide +kernel
theorem dX10_mark__147 : decode cX10_mark_ 147 = .ok (.bipush 15, 2) := by decide +kernel
theorem dX10_mark__149 : decode cX10_mark_ 149 = .ok (.if_icmp .ge 13, 3) := by decide +kernel
theorem dX10_mark__152 : decode cX10_mark_ 152 = .ok (.iload 6, 2) := by decide +kernel
theorem dX10_mark__154 : decode cX10_mark_ 154 = .ok (.iconst (-1), 1) := by decide +kernel
theorem dX10_mark__155 : decode cX10_mark_ 155 = .ok (.if_icmp .ne 7, 3) := by decide +kernel
theorem dX10_mark__158 : decode cX10_mark_ 158 = .ok (.iload 7, 2) := by decide +kernel
theorem dX10_mark__160 : decode cX10_mark_ 160 = .ok (.istore 6, 2) := by decide +kernel
theorem dX10_mark__162 : decode cX10_mark_ 162 = .ok (.iinc 7 1, 3) := by decide +kernel
theorem dX10_mark__165 : decode cX10_mark_ 165 = .ok (.goto (-85), 3) := by decide +kernel
theorem dX10_mark__168 : decode cX10_mark_ 168 = .ok (.aload_n 0, 1) := by decide +kernel
theorem dX10_mark__169 : decode cX10_mark_ 169 = .ok (.getfield 77, 3) := by decide +kernel
theorem dX10_mark__172 : decode cX10_mark_ 172 = .ok (.iload_n 1, 1) := by decide +kernel
theorem dX10_mark__173 : decode cX10_mark_ 173 = .ok (.aload_n 0, 1) := by decide +kernel
theorem dX10_mark__174 : decode cX10_mark_ 174 = .ok (.getfield 134, 3) := by decide +kernel
theorem dX10_mark__177 : decode cX10_mark_ 177 = .ok (.iastore, 1) := by decide +kernel
theorem dX10_mark__178 : decode cX10_mark_ 178 = .ok (.aload_n 0, 1) := by decide +kernel
theorem dX10_mark__179 : decode cX10_mark_ 179 = .ok (.getfield 80, 3) := by decide +kernel
theorem dX10_mark__182 : decode cX10_mark_ 182 = .ok (.iload_n 1, 1) := by decide +kernel
theorem dX10_mark__183 : decode cX10_mark_ 183 = .ok (.iload 5, 2) := by decide +kernel
theorem dX10_mark__185 : decode cX10_mark_ 185 = .ok (.bipush 12, 2) := by decide +kernel
theorem dX10_mark__187 : decode cX10_mark_ 187 = .ok (.idiv, 1) := by decide +kernel
theorem dX10_mark__188 : decode cX10_mark_ 188 = .ok (.iastore, 1) := by decide +kernel
theorem dX10_mark__189 : decode cX10_mark_ 189 = .ok (.aload_n 0, 1) := by decide +kernel
theorem dX10_mark__190 : decode cX10_mark_ 190 = .ok (.getfield 83, 3) := by decide +kernel
theorem dX10_mark__193 : decode cX10_mark_ 193 = .ok (.iload_n 1, 1) := by decide +kernel
theorem dX10_mark__194 : decode cX10_mark_ 194 = .ok (.iload 6, 2) := by decide +kernel
theorem dX10_mark__196 : decode cX10_mark_ 196 = .ok (.iastore, 1) := by decide +kernel
theorem dX10_mark__197 : decode cX10_mark_ 197 = .ok (.aload_n 0, 1) := by decide +kernel
theorem dX10_mark__198 : decode cX10_mark_ 198 = .ok (.getfield 74, 3) := by decide +kernel
theorem dX10_mark__201 : decode cX10_mark_ 201 = .ok (.iload_n 1, 1) := by decide +kernel
theorem dX10_mark__202 : decode cX10_mark_ 202 = .ok (.iaload, 1) := by decide +kernel
theorem dX10_mark__203 : decode cX10_mark_ 203 = .ok (.istore 7, 2) := by decide +kernel
theorem dX10_mark__205 : decode cX10_mark_ 205 = .ok (.iload 6, 2) := by decide +kernel
theorem dX10_mark__207 : decode cX10_mark_ 207 = .ok (.iconst (-1), 1) := by decide +kernel
theorem dX10_mark__208 : decode cX10_mark_ 208 = .ok (.if_icmp .ne 32, 3) := by decide +kernel
theorem dX10_mark__211 : decode cX10_mark_ 211 = .ok (.aload_n 0, 1) := by decide +kernel
theorem dX10_mark__212 : decode cX10_mark_ 212 = .ok (.iload 7, 2) := by decide +kernel
theorem dX10_mark__214 : decode cX10_mark_ 214 = .ok (.invokevirtual 128, 3) := by decide +kernel
theorem dX10_mark__217 : decode cX10_mark_ 217 = .ok (.ifCond .eq 23, 3) := by decide +kernel
theorem dX10_mark__220 : decode cX10_mark_ 220 = .ok (.aload_n 0, 1) := by decide +kernel
theorem dX10_mark__221 : decode cX10_mark_ 221 = .ok (.iload 7, 2) := by decide +kernel
theorem dX10_mark__223 : decode cX10_mark_ 223 = .ok (.invokevirtual 131, 3) := by decide +kernel
theorem dX10_mark__226 : decode cX10_mark_ 226 = .ok (.ifCond .ne 14, 3) := by decide +kernel
theorem dX10_mark__229 : decode cX10_mark_ 229 = .ok (.aload_n 0, 1) := by decide +kernel
theorem dX10_mark__230 : decode cX10_mark_ 230 = .ok (.getfield 16, 3) := by decide +kernel
theorem dX10_mark__233 : decode cX10_mark_ 233 = .ok (.iload 7, 2) := by decide +kernel
theorem dX10_mark__235 : decode cX10_mark_ 235 = .ok (.aload_n 0, 1) := by decide +kernel
theorem dX10_mark__236 : decode cX10_mark_ 236 = .ok (.getfield 134, 3) := by decide +kernel
theorem dX10_mark__239 : decode cX10_mark_ 239 = .ok (.iastore, 1) := by decide +kernel
theorem dX10_mark__240 : decode cX10_mark_ 240 = .ok (.iconst 1, 1) := by decide +kernel
theorem dX10_mark__241 : decode cX10_mark_ 241 = .ok (.ireturn, 1) := by decide +kernel
theorem dX10_told_0 : decode cX10_told 0 = .ok (.aload_n 0, 1) := by decide +kernel
theorem dX10_told_1 : decode cX10_told 1 = .ok (.iconst 0, 1) := by decide +kernel
theorem dX10_told_2 : decode cX10_told 2 = .ok (.putfield 117, 3) := by decide +kernel
theorem dX10_told_5 : decode cX10_told 5 = .ok (.aload_n 0, 1) := by decide +kernel
theorem dX10_told_6 : decode cX10_told 6 = .ok (.iload_n 1, 1) := by decide +kernel
theorem dX10_told_7 : decode cX10_told 7 = .ok (.invokevirtual 233, 3) := by decide +kernel
theorem dX10_told_10 : decode cX10_told 10 = .ok (.ifCond .ne 5, 3) := by decide +kernel
theorem dX10_told_13 : decode cX10_told 13 = .ok (.iconst (-1), 1) := by decide +kernel
theorem dX10_told_14 : decode cX10_told 14 = .ok (.ireturn, 1) := by decide +kernel
theorem dX10_told_15 : decode cX10_told 15 = .ok (.aload_n 0, 1) := by decide +kernel
theorem dX10_told_16 : decode cX10_told 16 = .ok (.getfield 77, 3) := by decide +kernel
theorem dX10_told_19 : decode cX10_told 19 = .ok (.iload_n 1, 1) := by decide +kernel
theorem dX10_told_20 : decode cX10_told 20 = .ok (.iaload, 1) := by decide +kernel
theorem dX10_told_21 : decode cX10_told 21 = .ok (.iconst (-1), 1) := by decide +kernel
theorem dX10_told_22 : decode cX10_told 22 = .ok (.if_icmp .eq 7, 3) := by decide +kernel
theorem dX10_told_25 : decode cX10_told 25 = .ok (.iconst 1, 1) := by decide +kernel
theorem dX10_told_26 : decode cX10_told 26 = .ok (.goto 4, 3) := by decide +kernel
theorem dX10_told_29 : decode cX10_told 29 = .ok (.iconst 0, 1) := by decide +kernel
theorem dX10_told_30 : decode cX10_told 30 = .ok (.istore_n 3, 1) := by decide +kernel
theorem dX10_told_31 : decode cX10_told 31 = .ok (.iload_n 2, 1) := by decide +kernel
theorem dX10_told_32 : decode cX10_told 32 = .ok (.tableswitch 98 0 5 #[40, 47, 57, 64, 84, 91], 40) := by decide +kernel
theorem dX10_told_72 : decode cX10_told 72 = .ok (.aload_n 0, 1) := by decide +kernel
theorem dX10_told_73 : decode cX10_told 73 = .ok (.getfield 74, 3) := by decide +kernel
theorem dX10_told_76 : decode cX10_told 76 = .ok (.iload_n 1, 1) := by decide +kernel
theorem dX10_told_77 : decode cX10_told 77 = .ok (.iaload, 1) := by decide +kernel
theorem dX10_told_78 : decode cX10_told 78 = .ok (.ireturn, 1) := by decide +kernel
theorem dX10_told_79 : decode cX10_told 79 = .ok (.iload_n 3, 1) := by decide +kernel
theorem dX10_told_80 : decode cX10_told 80 = .ok (.ifCond .eq 7, 3) := by decide +kernel
theorem dX10_told_83 : decode cX10_told 83 = .ok (.iconst 1, 1) := by decide +kernel
theorem dX10_told_84 : decode cX10_told 84 = .ok (.goto 4, 3) := by decide +kernel
theorem dX10_told_87 : decode cX10_told 87 = .ok (.iconst 0, 1) := by decide +kernel
theorem dX10_told_88 : decode cX10_told 88 = .ok (.ireturn, 1) := by decide +kernel
theorem dX10_told_89 : decode cX10_told 89 = .ok (.aload_n 0, 1) := by decide +kernel
theorem dX10_told_90 : decode cX10_told 90 = .ok (.getfield 80, 3) := by decide +kernel
theorem dX10_told_93 : decode cX10_told 93 = .ok (.iload_n 1, 1) := by decide +kernel
theorem dX10_told_94 : decode cX10_told 94 = .ok (.iaload, 1) := by decide +kernel
theorem dX10_told_95 : decode cX10_told 95 = .ok (.ireturn, 1) := by decide +kernel
theorem dX10_told_96 : decode cX10_told 96 = .ok (.iload_n 3, 1) := by decide +kernel
theorem dX10_told_97 : decode cX10_told 97 = .ok (.ifCond .eq 17, 3) := by decide +kernel
theorem dX10_told_100 : decode cX10_told 100 = .ok (.aload_n 0, 1) := by decide +kernel
theorem dX10_told_101 : decode cX10_told 101 = .ok (.getfield 83, 3) := by decide +kernel
theorem dX10_told_104 : decode cX10_told 104 = .ok (.iload_n 1, 1) := by decide +kernel
theorem dX10_told_105 : decode cX10_told 105 = .ok (.iaload, 1) := by decide +kernel
theorem dX10_told_106 : decode cX10_told 106 = .ok (.iconst (-1), 1) := by decide +kernel
theorem dX10_told_107 : decode cX10_told 107 = .ok (.if_icmp .ne 7, 3) := by decide +kernel
theorem dX10_told_110 : decode cX10_told 110 = .ok (.iconst 1, 1) := by decide +kernel
theorem dX10_told_111 : decode cX10_told 111 = .ok (.goto 4, 3) := by decide +kernel
theorem dX10_told_114 : decode cX10_told 114 = .ok (.iconst 0, 1) := by decide +kernel
theorem dX10_told_115 : decode cX10_told 115 = .ok (.ireturn, 1) := by decide +kernel
theorem dX10_told_116 : decode cX10_told 116 = .ok (.aload_n 0, 1) := by decide +kernel
theorem dX10_told_117 : decode cX10_told 117 = .ok (.getfield 83, 3) := by decide +kernel
theorem dX10_told_120 : decode cX10_told 120 = .ok (.iload_n 1, 1) := by decide +kernel
theorem dX10_told_121 : decode cX10_told 121 = .ok (.iaload, 1) := by decide +kernel
theorem dX10_told_122 : decode cX10_told 122 = .ok (.ireturn, 1) := by decide +kernel
theorem dX10_told_123 : decode cX10_told 123 = .ok (.aload_n 0, 1) := by decide +kernel
theorem dX10_told_124 : decode cX10_told 124 = .ok (.getfield 77, 3) := by decide +kernel
theorem dX10_told_127 : decode cX10_told 127 = .ok (.iload_n 1, 1) := by decide +kernel
theorem dX10_told_128 : decode cX10_told 128 = .ok (.iaload, 1) := by decide +kernel
theorem dX10_told_129 : decode cX10_told 129 = .ok (.ireturn, 1) := by decide +kernel
theorem dX10_told_130 : decode cX10_told 130 = .ok (.iconst (-1), 1) := by decide +kernel
theorem dX10_told_131 : decode cX10_told 131 = .ok (.ireturn, 1) := by decide +kernel
theorem dX10_hire_0 : decode cX10_hire 0 = .ok (.aload_n 0, 1) := by decide +kernel
theorem dX10_hire_1 : decode cX10_hire 1 = .ok (.iconst 0, 1) := by decide +kernel
theorem dX10_hire_2 : decode cX10_hire 2 = .ok (.putfield 117, 3) := by decide +kernel
theorem dX10_hire_5 : decode cX10_hire 5 = .ok (.aload_n 0, 1) := by decide +kernel
theorem dX10_hire_6 : decode cX10_hire 6 = .ok (.iload_n 1, 1) := by decide +kernel
theorem dX10_hire_7 : decode cX10_hire 7 = .ok (.invokevirtual 131, 3) := by decide +kernel
theorem dX10_hire_10 : decode cX10_hire 10 = .ok (.ifCond .eq 26, 3) := by decide +kernel
theorem dX10_hire_13 : decode cX10_hire 13 = .ok (.aload_n 0, 1) := by decide +kernel
theorem dX10_hire_14 : decode cX10_hire 14 = .ok (.iload_n 2, 1) := by decide +kernel
theorem dX10_hire_15 : decode cX10_hire 15 = .ok (.invokevirtual 128, 3) := by decide +kernel
theorem dX10_hire_18 : decode cX10_hire 18 = .ok (.ifCond .eq 18, 3) := by decide +kernel
theorem dX10_hire_21 : decode cX10_hire 21 = .ok (.iload_n 1, 1) := by decide +kernel
theorem dX10_hire_22 : decode cX10_hire 22 = .ok (.iload_n 2, 1) := by decide +kernel
theorem dX10_hire_23 : decode cX10_hire 23 = .ok (.if_icmp .eq 13, 3) := by decide +kernel
theorem dX10_hire_26 : decode cX10_hire 26 = .ok (.aload_n 0, 1) := by decide +kernel
theorem dX10_hire_27 : decode cX10_hire 27 = .ok (.getfield 22, 3) := by decide +kernel
theorem dX10_hire_30 : decode cX10_hire 30 = .ok (.iload_n 2, 1) := by decide +kernel
theorem dX10_hire_31 : decode cX10_hire 31 = .ok (.iaload, 1) := by decide +kernel
theorem dX10_hire_32 : decode cX10_hire 32 = .ok (.iload_n 1, 1) := by decide +kernel
theorem dX10_hire_33 : decode cX10_hire 33 = .ok (.if_icmp .ne 5, 3) := by decide +kernel
theorem dX10_hire_36 : decode cX10_hire 36 = .ok (.iconst 0, 1) := by decide +kernel
theorem dX10_hire_37 : decode cX10_hire 37 = .ok (.ireturn, 1) := by decide +kernel
theorem dX10_hire_38 : decode cX10_hire 38 = .ok (.aload_n 0, 1) := by decide +kernel
theorem dX10_hire_39 : decode cX10_hire 39 = .ok (.getfield 22, 3) := by decide +kernel
theorem dX10_hire_42 : decode cX10_hire 42 = .ok (.iload_n 2, 1) := by decide +kernel
theorem dX10_hire_43 : decode cX10_hire 43 = .ok (.iload_n 1, 1) := by decide +kernel
theorem dX10_hire_44 : decode cX10_hire 44 = .ok (.iastore, 1) := by decide +kernel
theorem dX10_hire_45 : decode cX10_hire 45 = .ok (.iconst 1, 1) := by decide +kernel
theorem dX10_hire_46 : decode cX10_hire 46 = .ok (.ireturn, 1) := by decide +kernel
theorem dX10_leave_0 : decode cX10_leave 0 = .ok (.aload_n 0, 1) := by decide +kernel
theorem dX10_leave_1 : decode cX10_leave 1 = .ok (.iconst 0, 1) := by decide +kernel
theorem dX10_leave_2 : decode cX10_leave 2 = .ok (.putfield 117, 3) := by decide +kernel
theorem dX10_leave_5 : decode cX10_leave 5 = .ok (.aload_n 0, 1) := by decide +kernel
theorem dX10_leave_6 : decode cX10_leave 6 = .ok (.iload_n 1, 1) := by decide +kernel
theorem dX10_leave_7 : decode cX10_leave 7 = .ok (.invokevirtual 124, 3) := by decide +kernel
theorem dX10_leave_10 : decode cX10_leave 10 = .ok (.ifCond .eq 13, 3) := by decide +kernel
theorem dX10_leave_13 : decode cX10_leave 13 = .ok (.aload_n 0, 1) := by decide +kernel
theorem dX10_leave_14 : decode cX10_leave 14 = .ok (.getfield 22, 3) := by decide +kernel
theorem dX10_leave_17 : decode cX10_leave 17 = .ok (.iload_n 1, 1) := by decide +kernel
theorem dX10_leave_18 : decode cX10_leave 18 = .ok (.iaload, 1) := by decide +kernel
theorem dX10_leave_19 : decode cX10_leave 19 = .ok (.iconst (-1), 1) := by decide +kernel
theorem dX10_leave_20 : decode cX10_leave 20 = .ok (.if_icmp .ne 5, 3) := by decide +kernel
theorem dX10_leave_23 : decode cX10_leave 23 = .ok (.iconst 0, 1) := by decide +kernel
theorem dX10_leave_24 : decode cX10_leave 24 = .ok (.ireturn, 1) := by decide +kernel
theorem dX10_leave_25 : decode cX10_leave 25 = .ok (.aload_n 0, 1) := by decide +kernel
theorem dX10_leave_26 : decode cX10_leave 26 = .ok (.getfield 22, 3) := by decide +kernel
theorem dX10_leave_29 : decode cX10_leave 29 = .ok (.iload_n 1, 1) := by decide +kernel
theorem dX10_leave_30 : decode cX10_leave 30 = .ok (.iconst (-1), 1) := by decide +kernel
theorem dX10_leave_31 : decode cX10_leave 31 = .ok (.iastore, 1) := by decide +kernel
theorem dX10_leave_32 : decode cX10_leave 32 = .ok (.iconst 1, 1) := by decide +kernel
theorem dX10_leave_33 : decode cX10_leave 33 = .ok (.ireturn, 1) := by decide +kernel
theorem dX10_number_0 : decode cX10_number 0 = .ok (.aload_n 0, 1) := by decide +kernel
theorem dX10_number_1 : decode cX10_number 1 = .ok (.iconst 0, 1) := by decide +kernel
theorem dX10_number_2 : decode cX10_number 2 = .ok (.putfield 117, 3) := by decide +kernel
theorem dX10_number_5 : decode cX10_number 5 = .ok (.aload_n 0, 1) := by decide +kernel
theorem dX10_number_6 : decode cX10_number 6 = .ok (.getfield 236, 3) := by decide +kernel
theorem dX10_number_9 : decode cX10_number 9 = .ok (.bipush 30, 2) := by decide +kernel
theorem dX10_number_11 : decode cX10_number 11 = .ok (.if_icmp .eq 24, 3) := by decide +kernel
theorem dX10_number_14 : decode cX10_number 14 = .ok (.iload_n 1, 1) := by decide +kernel
theorem dX10_number_15 : decode cX10_number 15 = .ok (.iconst 0, 1) := by decide +kernel
theorem dX10_number_16 : decode cX10_number 16 = .ok (.bipush 30, 2) := by decide +kernel
theorem dX10_number_18 : decode cX10_number 18 = .ok (.invokestatic 137, 3) := by decide +kernel
theorem dX10_number_21 : decode cX10_number 21 = .ok (.ifCond .eq 14, 3) := by decide +kernel
theorem dX10_number_24 : decode cX10_number 24 = .ok (.iload_n 2, 1) := by decide +kernel
theorem dX10_number_25 : decode cX10_number 25 = .ok (.iconst 0, 1) := by decide +kernel
theorem dX10_number_26 : decode cX10_number 26 = .ok (.sipush 20000, 3) := by decide +kernel
theorem dX10_number_29 : decode cX10_number 29 = .ok (.invokestatic 137, 3) := by decide +kernel
theorem dX10_number_32 : decode cX10_number 32 = .ok (.ifCond .ne 5, 3) := by decide +kernel
theorem dX10_number_35 : decode cX10_number 35 = .ok (.iconst 0, 1) := by decide +kernel
theorem dX10_number_36 : decode cX10_number 36 = .ok (.ireturn, 1) := by decide +kernel
theorem dX10_number_37 : decode cX10_number 37 = .ok (.aload_n 0, 1) := by decide +kernel
theorem dX10_number_38 : decode cX10_number 38 = .ok (.getfield 92, 3) := by decide +kernel
theorem dX10_number_41 : decode cX10_number 41 = .ok (.aload_n 0, 1) := by decide +kernel
theorem dX10_number_42 : decode cX10_number 42 = .ok (.getfield 236, 3) := by decide +kernel
theorem dX10_number_45 : decode cX10_number 45 = .ok (.iload_n 1, 1) := by decide +kernel
theorem dX10_number_46 : decode cX10_number 46 = .ok (.iastore, 1) := by decide +kernel
theorem dX10_number_47 : decode cX10_number 47 = .ok (.aload_n 0, 1) := by decide +kernel
theorem dX10_number_48 : decode cX10_number 48 = .ok (.getfield 95, 3) := by decide +kernel
theorem dX10_number_51 : decode cX10_number 51 = .ok (.aload_n 0, 1) := by decide +kernel
theorem dX10_number_52 : decode cX10_number 52 = .ok (.getfield 236, 3) := by decide +kernel
theorem dX10_number_55 : decode cX10_number 55 = .ok (.iload_n 2, 1) := by decide +kernel
theorem dX10_number_56 : decode cX10_number 56 = .ok (.iastore, 1) := by decide +kernel
theorem dX10_number_57 : decode cX10_number 57 = .ok (.aload_n 0, 1) := by decide +kernel
theorem dX10_number_58 : decode cX10_number 58 = .ok (.getfield 98, 3) := by decide +kernel
theorem dX10_number_61 : decode cX10_number 61 = .ok (.aload_n 0, 1) := by decide +kernel
theorem dX10_number_62 : decode cX10_number 62 = .ok (.getfield 236, 3) := by decide +kernel
theorem dX10_number_65 : decode cX10_number 65 = .ok (.aload_n 0, 1) := by decide +kernel
theorem dX10_number_66 : decode cX10_number 66 = .ok (.getfield 134, 3) := by decide +kernel
theorem dX10_number_69 : decode cX10_number 69 = .ok (.iastore, 1) := by decide +kernel
theorem dX10_number_70 : decode cX10_number 70 = .ok (.aload_n 0, 1) := by decide +kernel
theorem dX10_number_71 : decode cX10_number 71 = .ok (.dup, 1) := by decide +kernel
theorem dX10_number_72 : decode cX10_number 72 = .ok (.getfield 236, 3) := by decide +kernel
theorem dX10_number_75 : decode cX10_number 75 = .ok (.iconst 1, 1) := by decide +kernel
theorem dX10_number_76 : decode cX10_number 76 = .ok (.iadd, 1) := by decide +kernel
theorem dX10_number_77 : decode cX10_number 77 = .ok (.putfield 236, 3) := by decide +kernel
theorem dX10_number_80 : decode cX10_number 80 = .ok (.iconst 1, 1) := by decide +kernel
theorem dX10_number_81 : decode cX10_number 81 = .ok (.ireturn, 1) := by decide +kernel
theorem dX10_handsOf_0 : decode cX10_handsOf 0 = .ok (.iconst 0, 1) := by decide +kernel
theorem dX10_handsOf_1 : decode cX10_handsOf 1 = .ok (.istore_n 2, 1) := by decide +kernel
theorem dX10_handsOf_2 : decode cX10_handsOf 2 = .ok (.iconst 0, 1) := by decide +kernel
theorem dX10_handsOf_3 : decode cX10_handsOf 3 = .ok (.istore_n 3, 1) := by decide +kernel
theorem dX10_handsOf_4 : decode cX10_handsOf 4 = .ok (.iload_n 3, 1) := by decide +kernel
theorem dX10_handsOf_5 : decode cX10_handsOf 5 = .ok (.aload_n 0, 1) := by decide +kernel
theorem dX10_handsOf_6 : decode cX10_handsOf 6 = .ok (.getfield 121, 3) := by decide +kernel
theorem dX10_handsOf_9 : decode cX10_handsOf 9 = .ok (.if_icmp .ge 27, 3) := by decide +kernel
theorem dX10_handsOf_12 : decode cX10_handsOf 12 = .ok (.iload_n 2, 1) := by decide +kernel
theorem dX10_handsOf_13 : decode cX10_handsOf 13 = .ok (.aload_n 0, 1) := by decide +kernel
theorem dX10_handsOf_14 : decode cX10_handsOf 14 = .ok (.getfield 22, 3) := by decide +kernel
theorem dX10_handsOf_17 : decode cX10_handsOf 17 = .ok (.iload_n 3, 1) := by decide +kernel
theorem dX10_handsOf_18 : decode cX10_handsOf 18 = .ok (.iaload, 1) := by decide +kernel
theorem dX10_handsOf_19 : decode cX10_handsOf 19 = .ok (.iload_n 1, 1) := by decide +kernel
theorem dX10_handsOf_20 : decode cX10_handsOf 20 = .ok (.if_icmp .ne 7, 3) := by decide +kernel
theorem dX10_handsOf_23 : decode cX10_handsOf 23 = .ok (.iconst 1, 1) := by decide +kernel
theorem dX10_handsOf_24 : decode cX10_handsOf 24 = .ok (.goto 4, 3) := by decide +kernel
theorem dX10_handsOf_27 : decode cX10_handsOf 27 = .ok (.iconst 0, 1) := by decide +kernel
theorem dX10_handsOf_28 : decode cX10_handsOf 28 = .ok (.iadd, 1) := by decide +kernel
theorem dX10_handsOf_29 : decode cX10_handsOf 29 = .ok (.istore_n 2, 1) := by decide +kernel
theorem dX10_handsOf_30 : decode cX10_handsOf 30 = .ok (.iinc 3 1, 3) := by decide +kernel
theorem dX10_handsOf_33 : decode cX10_handsOf 33 = .ok (.goto (-29), 3) := by decide +kernel
theorem dX10_handsOf_36 : decode cX10_handsOf 36 = .ok (.iload_n 2, 1) := by decide +kernel
theorem dX10_handsOf_37 : decode cX10_handsOf 37 = .ok (.ireturn, 1) := by decide +kernel
theorem dX10_hands_0 : decode cX10_hands 0 = .ok (.aload_n 0, 1) := by decide +kernel
theorem dX10_hands_1 : decode cX10_hands 1 = .ok (.iconst 0, 1) := by decide +kernel
theorem dX10_hands_2 : decode cX10_hands 2 = .ok (.putfield 117, 3) := by decide +kernel
theorem dX10_hands_5 : decode cX10_hands 5 = .ok (.aload_n 0, 1) := by decide +kernel
theorem dX10_hands_6 : decode cX10_hands 6 = .ok (.iload_n 1, 1) := by decide +kernel
theorem dX10_hands_7 : decode cX10_hands 7 = .ok (.invokevirtual 131, 3) := by decide +kernel
theorem dX10_hands_10 : decode cX10_hands 10 = .ok (.ifCond .eq 11, 3) := by decide +kernel
theorem dX10_hands_13 : decode cX10_hands 13 = .ok (.aload_n 0, 1) := by decide +kernel
theorem dX10_hands_14 : decode cX10_hands 14 = .ok (.iload_n 1, 1) := by decide +kernel
theorem dX10_hands_15 : decode cX10_hands 15 = .ok (.invokevirtual 239, 3) := by decide +kernel
theorem dX10_hands_18 : decode cX10_hands 18 = .ok (.goto 4, 3) := by decide +kernel
theorem dX10_hands_21 : decode cX10_hands 21 = .ok (.iconst (-1), 1) := by decide +kernel
theorem dX10_hands_22 : decode cX10_hands 22 = .ok (.ireturn, 1) := by decide +kernel
theorem dX10_lawful_0 : decode cX10_lawful 0 = .ok (.aload_n 0, 1) := by decide +kernel
theorem dX10_lawful_1 : decode cX10_lawful 1 = .ok (.iconst 0, 1) := by decide +kernel
theorem dX10_lawful_2 : decode cX10_lawful 2 = .ok (.putfield 117, 3) := by decide +kernel
theorem dX10_lawful_5 : decode cX10_lawful 5 = .ok (.aload_n 0, 1) := by decide +kernel
theorem dX10_lawful_6 : decode cX10_lawful 6 = .ok (.iload_n 1, 1) := by decide +kernel
theorem dX10_lawful_7 : decode cX10_lawful 7 = .ok (.invokevirtual 131, 3) := by decide +kernel
theorem dX10_lawful_10 : decode cX10_lawful 10 = .ok (.ifCond .ne 5, 3) := by decide +kernel
theorem dX10_lawful_13 : decode cX10_lawful 13 = .ok (.iconst (-1), 1) := by decide +kernel
theorem dX10_lawful_14 : decode cX10_lawful 14 = .ok (.ireturn, 1) := by decide +kernel
theorem dX10_lawful_15 : decode cX10_lawful 15 = .ok (.iconst 3, 1) := by decide +kernel
theorem dX10_lawful_16 : decode cX10_lawful 16 = .ok (.istore_n 2, 1) := by decide +kernel
theorem dX10_lawful_17 : decode cX10_lawful 17 = .ok (.iconst (-1), 1) := by decide +kernel
theorem dX10_lawful_18 : decode cX10_lawful 18 = .ok (.istore_n 3, 1) := by decide +kernel
theorem dX10_lawful_19 : decode cX10_lawful 19 = .ok (.iconst 0, 1) := by decide +kernel
theorem dX10_lawful_20 : decode cX10_lawful 20 = .ok (.istore 4, 2) := by decide +kernel
theorem dX10_lawful_22 : decode cX10_lawful 22 = .ok (.iload 4, 2) := by decide +kernel
theorem dX10_lawful_24 : decode cX10_lawful 24 = .ok (.aload_n 0, 1) := by decide +kernel
theorem dX10_lawful_25 : decode cX10_lawful 25 = .ok (.getfield 236, 3) := by decide +kernel
theorem dX10_lawful_28 : decode cX10_lawful 28 = .ok (.if_icmp .ge 53, 3) := by decide +kernel
theorem dX10_lawful_31 : decode cX10_lawful 31 = .ok (.aload_n 0, 1) := by decide +kernel
theorem dX10_lawful_32 : decode cX10_lawful 32 = .ok (.getfield 95, 3) := by decide +kernel
theorem dX10_lawful_35 : decode cX10_lawful 35 = .ok (.iload 4, 2) := by decide +kernel
theorem dX10_lawful_37 : decode cX10_lawful 37 = .ok (.iaload, 1) := by decide +kernel
theorem dX10_lawful_38 : decode cX10_lawful 38 = .ok (.aload_n 0, 1) := by decide +kernel
theorem dX10_lawful_39 : decode cX10_lawful 39 = .ok (.getfield 134, 3) := by decide +kernel
theorem dX10_lawful_42 : decode cX10_lawful 42 = .ok (.if_icmp .gt 33, 3) := by decide +kernel
theorem dX10_lawful_45 : decode cX10_lawful 45 = .ok (.aload_n 0, 1) := by decide +kernel
theorem dX10_lawful_46 : decode cX10_lawful 46 = .ok (.getfield 95, 3) := by decide +kernel
theorem dX10_lawful_49 : decode cX10_lawful 49 = .ok (.iload 4, 2) := by decide +kernel
theorem dX10_lawful_51 : decode cX10_lawful 51 = .ok (.iaload, 1) := by decide +kernel
theorem dX10_lawful_52 : decode cX10_lawful 52 = .ok (.iload_n 3, 1) := by decide +kernel
theorem dX10_lawful_53 : decode cX10_lawful 53 = .ok (.if_icmp .ge 6, 3) := by decide +kernel
theorem dX10_lawful_56 : decode cX10_lawful 56 = .ok (.goto 19, 3) := by decide +kernel
theorem dX10_lawful_59 : decode cX10_lawful 59 = .ok (.aload_n 0, 1) := by decide +kernel
theorem dX10_lawful_60 : decode cX10_lawful 60 = .ok (.getfield 95, 3) := by decide +kernel
theorem dX10_lawful_63 : decode cX10_lawful 63 = .ok (.iload 4, 2) := by decide +kernel
theorem dX10_lawful_65 : decode cX10_lawful 65 = .ok (.iaload, 1) := by decide +kernel
theorem dX10_lawful_66 : decode cX10_lawful 66 = .ok (.istore_n 3, 1) := by decide +kernel
theorem dX10_lawful_67 : decode cX10_lawful 67 = .ok (.aload_n 0, 1) := by decide +kernel
theorem dX10_lawful_68 : decode cX10_lawful 68 = .ok (.getfield 92, 3) := by decide +kernel
theorem dX10_lawful_71 : decode cX10_lawful 71 = .ok (.iload 4, 2) := by decide +kernel
theorem dX10_lawful_73 : decode cX10_lawful 73 = .ok (.iaload, 1) := by decide +kernel
theorem dX10_lawful_74 : decode cX10_lawful 74 = .ok (.istore_n 2, 1) := by decide +kernel
theorem dX10_lawful_75 : decode cX10_lawful 75 = .ok (.iinc 4 1, 3) := by decide +kernel
theorem dX10_lawful_78 : decode cX10_lawful 78 = .ok (.goto (-56), 3) := by decide +kernel
theorem dX10_lawful_81 : decode cX10_lawful 81 = .ok (.aload_n 0, 1) := by decide +kernel
theorem dX10_lawful_82 : decode cX10_lawful 82 = .ok (.iload_n 1, 1) := by decide +kernel
theorem dX10_lawful_83 : decode cX10_lawful 83 = .ok (.invokevirtual 239, 3) := by decide +kernel
theorem dX10_lawful_86 : decode cX10_lawful 86 = .ok (.iload_n 2, 1) := by decide +kernel
theorem dX10_lawful_87 : decode cX10_lawful 87 = .ok (.if_icmp .le 26, 3) := by decide +kernel
theorem dX10_lawful_90 : decode cX10_lawful 90 = .ok (.aload_n 0, 1) := by decide +kernel
theorem dX10_lawful_91 : decode cX10_lawful 91 = .ok (.getfield 25, 3) := by decide +kernel
theorem dX10_lawful_94 : decode cX10_lawful 94 = .ok (.iload_n 1, 1) := by decide +kernel
theorem dX10_lawful_95 : decode cX10_lawful 95 = .ok (.iaload, 1) := by decide +kernel
theorem dX10_lawful_96 : decode cX10_lawful 96 = .ok (.iconst (-1), 1) := by decide +kernel
theorem dX10_lawful_97 : decode cX10_lawful 97 = .ok (.if_icmp .eq 20, 3) := by decide +kernel
theorem dX10_lawful_100 : decode cX10_lawful 100 = .ok (.aload_n 0, 1) := by decide +kernel
theorem dX10_lawful_101 : decode cX10_lawful 101 = .ok (.getfield 134, 3) := by decide +kernel
theorem dX10_lawful_104 : decode cX10_lawful 104 = .ok (.aload_n 0, 1) := by decide +kernel
theorem dX10_lawful_105 : decode cX10_lawful 105 = .ok (.getfield 25, 3) := by decide +kernel
theorem dX10_lawful_108 : decode cX10_lawful 108 = .ok (.iload_n 1, 1) := by decide +kernel
theorem dX10_lawful_109 : decode cX10_lawful 109 = .ok (.iaload, 1) := by decide +kernel
theorem dX10_lawful_110 : decode cX10_lawful 110 = .ok (.if_icmp .gt 7, 3) := by decide +kernel
theorem dX10_lawful_113 : decode cX10_lawful 113 = .ok (.iconst 1, 1) := by decide +kernel
theorem dX10_lawful_114 : decode cX10_lawful 114 = .ok (.goto 4, 3) := by decide +kernel
theorem dX10_lawful_117 : decode cX10_lawful 117 = .ok (.iconst 0, 1) := by decide +kernel
theorem dX10_lawful_118 : decode cX10_lawful 118 = .ok (.ireturn, 1) := by decide +kernel
theorem dX10_look__0 : decode cX10_look_ 0 = .ok (.aload_n 0, 1) := by decide +kernel
theorem dX10_look__1 : decode cX10_look_ 1 = .ok (.iload_n 1, 1) := by decide +kernel
theorem dX10_look__2 : decode cX10_look_ 2 = .ok (.ifCond .lt 20, 3) := by decide +kernel
theorem dX10_look__5 : decode cX10_look_ 5 = .ok (.iload_n 1, 1) := by decide +kernel
theorem dX10_look__6 : decode cX10_look_ 6 = .ok (.aload_n 0, 1) := by decide +kernel
theorem dX10_look__7 : decode cX10_look_ 7 = .ok (.getfield 148, 3) := by decide +kernel
theorem dX10_look__10 : decode cX10_look_ 10 = .ok (.if_icmp .ge 12, 3) := by decide +kernel
theorem dX10_look__13 : decode cX10_look_ 13 = .ok (.iload_n 2, 1) := by decide +kernel
theorem dX10_look__14 : decode cX10_look_ 14 = .ok (.iconst 0, 1) := by decide +kernel
theorem dX10_look__15 : decode cX10_look_ 15 = .ok (.iconst 5, 1) := by decide +kernel
theorem dX10_look__16 : decode cX10_look_ 16 = .ok (.invokestatic 137, 3) := by decide +kernel
theorem dX10_look__19 : decode cX10_look_ 19 = .ok (.ifCond .ne 7, 3) := by decide +kernel
theorem dX10_look__22 : decode cX10_look_ 22 = .ok (.iconst 1, 1) := by decide +kernel
theorem dX10_look__23 : decode cX10_look_ 23 = .ok (.goto 4, 3) := by decide +kernel
theorem dX10_look__26 : decode cX10_look_ 26 = .ok (.iconst 0, 1) := by decide +kernel
theorem dX10_look__27 : decode cX10_look_ 27 = .ok (.putfield 117, 3) := by decide +kernel
theorem dX10_look__30 : decode cX10_look_ 30 = .ok (.aload_n 0, 1) := by decide +kernel
theorem dX10_look__31 : decode cX10_look_ 31 = .ok (.getfield 117, 3) := by decide +kernel
theorem dX10_look__34 : decode cX10_look_ 34 = .ok (.ifCond .le 5, 3) := by decide +kernel
theorem dX10_look__37 : decode cX10_look_ 37 = .ok (.iconst 0, 1) := by decide +kernel
theorem dX10_look__38 : decode cX10_look_ 38 = .ok (.ireturn, 1) := by decide +kernel
theorem dX10_look__39 : decode cX10_look_ 39 = .ok (.iload_n 2, 1) := by decide +kernel
theorem dX10_look__40 : decode cX10_look_ 40 = .ok (.tableswitch 71 0 4 #[36, 43, 50, 57, 64], 36) := by decide +kernel
theorem dX10_look__76 : decode cX10_look_ 76 = .ok (.aload_n 0, 1) := by decide +kernel
theorem dX10_look__77 : decode cX10_look_ 77 = .ok (.getfield 28, 3) := by decide +kernel
theorem dX10_look__80 : decode cX10_look_ 80 = .ok (.iload_n 1, 1) := by decide +kernel
theorem dX10_look__81 : decode cX10_look_ 81 = .ok (.iaload, 1) := by decide +kernel
theorem dX10_look__82 : decode cX10_look_ 82 = .ok (.ireturn, 1) := by decide +kernel
theorem dX10_look__83 : decode cX10_look_ 83 = .ok (.aload_n 0, 1) := by decide +kernel
theorem dX10_look__84 : decode cX10_look_ 84 = .ok (.getfield 31, 3) := by decide +kernel
theorem dX10_look__87 : decode cX10_look_ 87 = .ok (.iload_n 1, 1) := by decide +kernel
theorem dX10_look__88 : decode cX10_look_ 88 = .ok (.iaload, 1) := by decide +kernel
theorem dX10_look__89 : decode cX10_look_ 89 = .ok (.ireturn, 1) := by decide +kernel
theorem dX10_look__90 : decode cX10_look_ 90 = .ok (.aload_n 0, 1) := by decide +kernel
theorem dX10_look__91 : decode cX10_look_ 91 = .ok (.getfield 34, 3) := by decide +kernel
theorem dX10_look__94 : decode cX10_look_ 94 = .ok (.iload_n 1, 1) := by decide +kernel
theorem dX10_look__95 : decode cX10_look_ 95 = .ok (.iaload, 1) := by decide +kernel
theorem dX10_look__96 : decode cX10_look_ 96 = .ok (.ireturn, 1) := by decide +kernel
theorem dX10_look__97 : decode cX10_look_ 97 = .ok (.aload_n 0, 1) := by decide +kernel
theorem dX10_look__98 : decode cX10_look_ 98 = .ok (.getfield 37, 3) := by decide +kernel
theorem dX10_look__101 : decode cX10_look_ 101 = .ok (.iload_n 1, 1) := by decide +kernel
theorem dX10_look__102 : decode cX10_look_ 102 = .ok (.iaload, 1) := by decide +kernel
theorem dX10_look__103 : decode cX10_look_ 103 = .ok (.ireturn, 1) := by decide +kernel
theorem dX10_look__104 : decode cX10_look_ 104 = .ok (.aload_n 0, 1) := by decide +kernel
theorem dX10_look__105 : decode cX10_look_ 105 = .ok (.getfield 40, 3) := by decide +kernel
theorem dX10_look__108 : decode cX10_look_ 108 = .ok (.iload_n 1, 1) := by decide +kernel
theorem dX10_look__109 : decode cX10_look_ 109 = .ok (.iaload, 1) := by decide +kernel
theorem dX10_look__110 : decode cX10_look_ 110 = .ok (.ireturn, 1) := by decide +kernel
theorem dX10_look__111 : decode cX10_look_ 111 = .ok (.aload_n 0, 1) := by decide +kernel
theorem dX10_look__112 : decode cX10_look_ 112 = .ok (.getfield 43, 3) := by decide +kernel
theorem dX10_look__115 : decode cX10_look_ 115 = .ok (.iload_n 1, 1) := by decide +kernel
theorem dX10_look__116 : decode cX10_look_ 116 = .ok (.iaload, 1) := by decide +kernel
theorem dX10_look__117 : decode cX10_look_ 117 = .ok (.ireturn, 1) := by decide +kernel
theorem dX10_count_0 : decode cX10_count 0 = .ok (.aload_n 0, 1) := by decide +kernel
theorem dX10_count_1 : decode cX10_count 1 = .ok (.iconst 0, 1) := by decide +kernel
theorem dX10_count_2 : decode cX10_count 2 = .ok (.putfield 117, 3) := by decide +kernel
theorem dX10_count_5 : decode cX10_count 5 = .ok (.iconst 0, 1) := by decide +kernel
theorem dX10_count_6 : decode cX10_count 6 = .ok (.istore_n 2, 1) := by decide +kernel
theorem dX10_count_7 : decode cX10_count 7 = .ok (.iload_n 1, 1) := by decide +kernel
theorem dX10_count_8 : decode cX10_count 8 = .ok (.tableswitch 148 0 7 #[48, 53, 58, 92, 97, 102, 107, 112], 48) := by decide +kernel
theorem dX10_count_56 : decode cX10_count 56 = .ok (.aload_n 0, 1) := by decide +kernel
theorem dX10_count_57 : decode cX10_count 57 = .ok (.getfield 134, 3) := by decide +kernel
theorem dX10_count_60 : decode cX10_count 60 = .ok (.ireturn, 1) := by decide +kernel
theorem dX10_count_61 : decode cX10_count 61 = .ok (.aload_n 0, 1) := by decide +kernel
theorem dX10_count_62 : decode cX10_count 62 = .ok (.getfield 121, 3) := by decide +kernel
theorem dX10_count_65 : decode cX10_count 65 = .ok (.ireturn, 1) := by decide +kernel
theorem dX10_count_66 : decode cX10_count 66 = .ok (.iconst 0, 1) := by decide +kernel
theorem dX10_count_67 : decode cX10_count 67 = .ok (.istore_n 3, 1) := by decide +kernel
theorem dX10_count_68 : decode cX10_count 68 = .ok (.iload_n 3, 1) := by decide +kernel
theorem dX10_count_69 : decode cX10_count 69 = .ok (.aload_n 0, 1) := by decide +kernel
theorem dX10_count_70 : decode cX10_count 70 = .ok (.getfield 121, 3) := by decide +kernel
theorem dX10_count_73 : decode cX10_count 73 = .ok (.if_icmp .ge 25, 3) := by decide +kernel
theorem dX10_count_76 : decode cX10_count 76 = .ok (.iload_n 2, 1) := by decide +kernel
theorem dX10_count_77 : decode cX10_count 77 = .ok (.aload_n 0, 1) := by decide +kernel
theorem dX10_count_78 : decode cX10_count 78 = .ok (.iload_n 3, 1) := by decide +kernel
theorem dX10_count_79 : decode cX10_count 79 = .ok (.invokevirtual 131, 3) := by decide +kernel
theorem dX10_count_82 : decode cX10_count 82 = .ok (.ifCond .eq 7, 3) := by decide +kernel
theorem dX10_count_85 : decode cX10_count 85 = .ok (.iconst 1, 1) := by decide +kernel
theorem dX10_count_86 : decode cX10_count 86 = .ok (.goto 4, 3) := by decide +kernel
theorem dX10_count_89 : decode cX10_count 89 = .ok (.iconst 0, 1) := by decide +kernel
theorem dX10_count_90 : decode cX10_count 90 = .ok (.iadd, 1) := by decide +kernel
theorem dX10_count_91 : decode cX10_count 91 = .ok (.istore_n 2, 1) := by decide +kernel
theorem dX10_count_92 : decode cX10_count 92 = .ok (.iinc 3 1, 3) := by decide +kernel
theorem dX10_count_95 : decode cX10_count 95 = .ok (.goto (-27), 3) := by decide +kernel
theorem dX10_count_98 : decode cX10_count 98 = .ok (.iload_n 2, 1) := by decide +kernel
theorem dX10_count_99 : decode cX10_count 99 = .ok (.ireturn, 1) := by decide +kernel
theorem dX10_count_100 : decode cX10_count 100 = .ok (.aload_n 0, 1) := by decide +kernel
theorem dX10_count_101 : decode cX10_count 101 = .ok (.getfield 148, 3) := by decide +kernel
theorem dX10_count_104 : decode cX10_count 104 = .ok (.ireturn, 1) := by decide +kernel
theorem dX10_count_105 : decode cX10_count 105 = .ok (.aload_n 0, 1) := by decide +kernel
theorem dX10_count_106 : decode cX10_count 106 = .ok (.getfield 212, 3) := by decide +kernel
theorem dX10_count_109 : decode cX10_count 109 = .ok (.ireturn, 1) := by decide +kernel
theorem dX10_count_110 : decode cX10_count 110 = .ok (.aload_n 0, 1) := by decide +kernel
theorem dX10_count_111 : decode cX10_count 111 = .ok (.getfield 161, 3) := by decide +kernel
theorem dX10_count_114 : decode cX10_count 114 = .ok (.ireturn, 1) := by decide +kernel
theorem dX10_count_115 : decode cX10_count 115 = .ok (.aload_n 0, 1) := by decide +kernel
theorem dX10_count_116 : decode cX10_count 116 = .ok (.getfield 205, 3) := by decide +kernel
theorem dX10_count_119 : decode cX10_count 119 = .ok (.ireturn, 1) := by decide +kernel
theorem dX10_count_120 : decode cX10_count 120 = .ok (.iconst 0, 1) := by decide +kernel
theorem dX10_count_121 : decode cX10_count 121 = .ok (.istore_n 3, 1) := by decide +kernel
theorem dX10_count_122 : decode cX10_count 122 = .ok (.iload_n 3, 1) := by decide +kernel
theorem dX10_count_123 : decode cX10_count 123 = .ok (.aload_n 0, 1) := by decide +kernel
theorem dX10_count_124 : decode cX10_count 124 = .ok (.getfield 121, 3) := by decide +kernel
theorem dX10_count_127 : decode cX10_count 127 = .ok (.if_icmp .ge 27, 3) := by decide +kernel
theorem dX10_count_130 : decode cX10_count 130 = .ok (.iload_n 2, 1) := by decide +kernel
theorem dX10_count_131 : decode cX10_count 131 = .ok (.aload_n 0, 1) := by decide +kernel
theorem dX10_count_132 : decode cX10_count 132 = .ok (.getfield 22, 3) := by decide +kernel
theorem dX10_count_135 : decode cX10_count 135 = .ok (.iload_n 3, 1) := by decide +kernel
theorem dX10_count_136 : decode cX10_count 136 = .ok (.iaload, 1) := by decide +kernel
theorem dX10_count_137 : decode cX10_count 137 = .ok (.iconst (-1), 1) := by decide +kernel
theorem dX10_count_138 : decode cX10_count 138 = .ok (.if_icmp .eq 7, 3) := by decide +kernel
theorem dX10_count_141 : decode cX10_count 141 = .ok (.iconst 1, 1) := by decide +kernel
theorem dX10_count_142 : decode cX10_count 142 = .ok (.goto 4, 3) := by decide +kernel
theorem dX10_count_145 : decode cX10_count 145 = .ok (.iconst 0, 1) := by decide +kernel
theorem dX10_count_146 : decode cX10_count 146 = .ok (.iadd, 1) := by decide +kernel
theorem dX10_count_147 : decode cX10_count 147 = .ok (.istore_n 2, 1) := by decide +kernel
theorem dX10_count_148 : decode cX10_count 148 = .ok (.iinc 3 1, 3) := by decide +kernel
theorem dX10_count_151 : decode cX10_count 151 = .ok (.goto (-29), 3) := by decide +kernel
theorem dX10_count_154 : decode cX10_count 154 = .ok (.iload_n 2, 1) := by decide +kernel
theorem dX10_count_155 : decode cX10_count 155 = .ok (.ireturn, 1) := by decide +kernel
theorem dX10_count_156 : decode cX10_count 156 = .ok (.iconst (-1), 1) := by decide +kernel
theorem dX10_count_157 : decode cX10_count 157 = .ok (.ireturn, 1) := by decide +kernel
theorem dJ9_min_7cf53_0 : decode cJ9_min_7cf53 0 = .ok (.iload_n 0, 1) := by decide +kernel
theorem dJ9_min_7cf53_1 : decode cJ9_min_7cf53 1 = .ok (.iload_n 1, 1) := by decide +kernel
theorem dJ9_min_7cf53_2 : decode cJ9_min_7cf53 2 = .ok (.if_icmp .gt 7, 3) := by decide +kernel
theorem dJ9_min_7cf53_5 : decode cJ9_min_7cf53 5 = .ok (.iload_n 0, 1) := by decide +kernel
theorem dJ9_min_7cf53_6 : decode cJ9_min_7cf53 6 = .ok (.goto 4, 3) := by decide +kernel
theorem dJ9_min_7cf53_9 : decode cJ9_min_7cf53 9 = .ok (.iload_n 1, 1) := by decide +kernel
theorem dJ9_min_7cf53_10 : decode cJ9_min_7cf53 10 = .ok (.ireturn, 1) := by decide +kernel
theorem dL_look_0 : decode cL_look 0 = .ok (.aload_n 3, 1) := by decide +kernel
theorem dL_look_1 : decode cL_look 1 = .ok (.iconst 0, 1) := by decide +kernel
theorem dL_look_2 : decode cL_look 2 = .ok (.aload_n 0, 1) := by decide +kernel
theorem dL_look_3 : decode cL_look 3 = .ok (.iload_n 1, 1) := by decide +kernel
theorem dL_look_4 : decode cL_look 4 = .ok (.iload_n 2, 1) := by decide +kernel
theorem dL_look_5 : decode cL_look 5 = .ok (.invokevirtual 7, 3) := by decide +kernel
theorem dL_look_8 : decode cL_look 8 = .ok (.i2l, 1) := by decide +kernel
theorem dL_look_9 : decode cL_look 9 = .ok (.lastore, 1) := by decide +kernel
theorem dL_look_10 : decode cL_look 10 = .ok (.goto 7, 3) := by decide +kernel
theorem dL_look_13 : decode cL_look 13 = .ok (.astore 4, 2) := by decide +kernel
theorem dL_look_15 : decode cL_look 15 = .ok (.iconst 1, 1) := by decide +kernel
theorem dL_look_16 : decode cL_look 16 = .ok (.ireturn, 1) := by decide +kernel
theorem dL_look_17 : decode cL_look 17 = .ok (.iconst 0, 1) := by decide +kernel
theorem dL_look_18 : decode cL_look 18 = .ok (.ireturn, 1) := by decide +kernel
theorem dL_law_0 : decode cL_law 0 = .ok (.new 8, 3) := by decide +kernel
theorem dL_law_3 : decode cL_law 3 = .ok (.dup, 1) := by decide +kernel
theorem dL_law_4 : decode cL_law 4 = .ok (.invokespecial 15, 3) := by decide +kernel
theorem dL_law_7 : decode cL_law 7 = .ok (.astore_n 1, 1) := by decide +kernel
theorem dL_law_8 : decode cL_law 8 = .ok (.new 16, 3) := by decide +kernel
theorem dL_law_11 : decode cL_law 11 = .ok (.dup, 1) := by decide +kernel
theorem dL_law_12 : decode cL_law 12 = .ok (.invokespecial 18, 3) := by decide +kernel
theorem dL_law_15 : decode cL_law 15 = .ok (.astore_n 2, 1) := by decide +kernel
theorem dL_law_16 : decode cL_law 16 = .ok (.iconst 1, 1) := by decide +kernel
theorem dL_law_17 : decode cL_law 17 = .ok (.newarray .long, 2) := by decide +kernel
theorem dL_law_19 : decode cL_law 19 = .ok (.astore_n 3, 1) := by decide +kernel
theorem dL_law_20 : decode cL_law 20 = .ok (.iconst 0, 1) := by decide +kernel
theorem dL_law_21 : decode cL_law 21 = .ok (.istore 4, 2) := by decide +kernel
theorem dL_law_23 : decode cL_law 23 = .ok (.iload 4, 2) := by decide +kernel
theorem dL_law_25 : decode cL_law 25 = .ok (.aload_n 0, 1) := by decide +kernel
theorem dL_law_26 : decode cL_law 26 = .ok (.arraylength, 1) := by decide +kernel
theorem dL_law_27 : decode cL_law 27 = .ok (.iconst 5, 1) := by decide +kernel
theorem dL_law_28 : decode cL_law 28 = .ok (.isub, 1) := by decide +kernel
theorem dL_law_29 : decode cL_law 29 = .ok (.if_icmp .gt 1110, 3) := by decide +kernel
theorem dL_law_32 : decode cL_law 32 = .ok (.aload_n 0, 1) := by decide +kernel
theorem dL_law_33 : decode cL_law 33 = .ok (.iload 4, 2) := by decide +kernel
theorem dL_law_35 : decode cL_law 35 = .ok (.iaload, 1) := by decide +kernel
theorem dL_law_36 : decode cL_law 36 = .ok (.bipush 31, 2) := by decide +kernel
theorem dL_law_38 : decode cL_law 38 = .ok (.iand, 1) := by decide +kernel
theorem dL_law_39 : decode cL_law 39 = .ok (.tableswitch 1094 0 25 #[117, 154, 179, 216, 241, 302, 327, 376, 401, 426, 439, 464, 501, 562, 611, 680, 717, 778, 815, 852, 877, 914, 939, 964, 1001, 1069], 117) := by decide +kernel
theorem dL_law_156 : decode cL_law 156 = .ok (.aload_n 1, 1) := by decide +kernel
theorem dL_law_157 : decode cL_law 157 = .ok (.aload_n 0, 1) := by decide +kernel
theorem dL_law_158 : decode cL_law 158 = .ok (.iload 4, 2) := by decide +kernel
theorem dL_law_160 : decode cL_law 160 = .ok (.iconst 1, 1) := by decide +kernel
theorem dL_law_161 : decode cL_law 161 = .ok (.iadd, 1) := by decide +kernel
theorem dL_law_162 : decode cL_law 162 = .ok (.iaload, 1) := by decide +kernel
theorem dL_law_163 : decode cL_law 163 = .ok (.aload_n 0, 1) := by decide +kernel
theorem dL_law_164 : decode cL_law 164 = .ok (.iload 4, 2) := by decide +kernel
theorem dL_law_166 : decode cL_law 166 = .ok (.iconst 2, 1) := by decide +kernel
theorem dL_law_167 : decode cL_law 167 = .ok (.iadd, 1) := by decide +kernel
theorem dL_law_168 : decode cL_law 168 = .ok (.iaload, 1) := by decide +kernel
theorem dL_law_169 : decode cL_law 169 = .ok (.invokevirtual 19, 3) := by decide +kernel
theorem dL_law_172 : decode cL_law 172 = .ok (.aload_n 2, 1) := by decide +kernel
theorem dL_law_173 : decode cL_law 173 = .ok (.aload_n 0, 1) := by decide +kernel
theorem dL_law_174 : decode cL_law 174 = .ok (.iload 4, 2) := by decide +kernel
theorem dL_law_176 : decode cL_law 176 = .ok (.iconst 1, 1) := by decide +kernel
theorem dL_law_177 : decode cL_law 177 = .ok (.iadd, 1) := by decide +kernel
theorem dL_law_178 : decode cL_law 178 = .ok (.iaload, 1) := by decide +kernel
theorem dL_law_179 : decode cL_law 179 = .ok (.aload_n 0, 1) := by decide +kernel
theorem dL_law_180 : decode cL_law 180 = .ok (.iload 4, 2) := by decide +kernel
theorem dL_law_182 : decode cL_law 182 = .ok (.iconst 2, 1) := by decide +kernel
theorem dL_law_183 : decode cL_law 183 = .ok (.iadd, 1) := by decide +kernel
theorem dL_law_184 : decode cL_law 184 = .ok (.iaload, 1) := by decide +kernel
theorem dL_law_185 : decode cL_law 185 = .ok (.invokevirtual 22, 3) := by decide +kernel
theorem dL_law_188 : decode cL_law 188 = .ok (.if_icmp .eq 945, 3) := by decide +kernel
theorem dL_law_191 : decode cL_law 191 = .ok (.iconst 0, 1) := by decide +kernel
theorem dL_law_192 : decode cL_law 192 = .ok (.ireturn, 1) := by decide +kernel
theorem dL_law_193 : decode cL_law 193 = .ok (.aload_n 1, 1) := by decide +kernel
theorem dL_law_194 : decode cL_law 194 = .ok (.aload_n 0, 1) := by decide +kernel
theorem dL_law_195 : decode cL_law 195 = .ok (.iload 4, 2) := by decide +kernel
