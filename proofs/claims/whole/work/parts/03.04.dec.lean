theorem dX10_isParent_25 : decode cX10_isParent 25 = .ok (.ireturn, 1) := by decide +kernel
theorem dX10_areKin_0 : decode cX10_areKin 0 = .ok (.iload_n 1, 1) := by decide +kernel
theorem dX10_areKin_1 : decode cX10_areKin 1 = .ok (.iload_n 2, 1) := by decide +kernel
theorem dX10_areKin_2 : decode cX10_areKin 2 = .ok (.if_icmp .eq 21, 3) := by decide +kernel
theorem dX10_areKin_5 : decode cX10_areKin 5 = .ok (.aload_n 0, 1) := by decide +kernel
theorem dX10_areKin_6 : decode cX10_areKin 6 = .ok (.iload_n 1, 1) := by decide +kernel
theorem dX10_areKin_7 : decode cX10_areKin 7 = .ok (.iload_n 2, 1) := by decide +kernel
theorem dX10_areKin_8 : decode cX10_areKin 8 = .ok (.invokevirtual 141, 3) := by decide +kernel
theorem dX10_areKin_11 : decode cX10_areKin 11 = .ok (.ifCond .ne 12, 3) := by decide +kernel
theorem dX10_areKin_14 : decode cX10_areKin 14 = .ok (.aload_n 0, 1) := by decide +kernel
theorem dX10_areKin_15 : decode cX10_areKin 15 = .ok (.iload_n 2, 1) := by decide +kernel
theorem dX10_areKin_16 : decode cX10_areKin 16 = .ok (.iload_n 1, 1) := by decide +kernel
theorem dX10_areKin_17 : decode cX10_areKin 17 = .ok (.invokevirtual 141, 3) := by decide +kernel
theorem dX10_areKin_20 : decode cX10_areKin 20 = .ok (.ifCond .eq 5, 3) := by decide +kernel
theorem dX10_areKin_23 : decode cX10_areKin 23 = .ok (.iconst 1, 1) := by decide +kernel
theorem dX10_areKin_24 : decode cX10_areKin 24 = .ok (.ireturn, 1) := by decide +kernel
theorem dX10_areKin_25 : decode cX10_areKin 25 = .ok (.iconst 0, 1) := by decide +kernel
theorem dX10_areKin_26 : decode cX10_areKin 26 = .ok (.istore_n 3, 1) := by decide +kernel
theorem dX10_areKin_27 : decode cX10_areKin 27 = .ok (.iconst 0, 1) := by decide +kernel
theorem dX10_areKin_28 : decode cX10_areKin 28 = .ok (.istore 4, 2) := by decide +kernel
theorem dX10_areKin_30 : decode cX10_areKin 30 = .ok (.iload 4, 2) := by decide +kernel
theorem dX10_areKin_32 : decode cX10_areKin 32 = .ok (.aload_n 0, 1) := by decide +kernel
theorem dX10_areKin_33 : decode cX10_areKin 33 = .ok (.getfield 121, 3) := by decide +kernel
theorem dX10_areKin_36 : decode cX10_areKin 36 = .ok (.if_icmp .ge 39, 3) := by decide +kernel
theorem dX10_areKin_39 : decode cX10_areKin 39 = .ok (.iload_n 3, 1) := by decide +kernel
theorem dX10_areKin_40 : decode cX10_areKin 40 = .ok (.ifCond .ne 23, 3) := by decide +kernel
theorem dX10_areKin_43 : decode cX10_areKin 43 = .ok (.aload_n 0, 1) := by decide +kernel
theorem dX10_areKin_44 : decode cX10_areKin 44 = .ok (.iload 4, 2) := by decide +kernel
theorem dX10_areKin_46 : decode cX10_areKin 46 = .ok (.iload_n 1, 1) := by decide +kernel
theorem dX10_areKin_47 : decode cX10_areKin 47 = .ok (.invokevirtual 141, 3) := by decide +kernel
theorem dX10_areKin_50 : decode cX10_areKin 50 = .ok (.ifCond .eq 17, 3) := by decide +kernel
theorem dX10_areKin_53 : decode cX10_areKin 53 = .ok (.aload_n 0, 1) := by decide +kernel
theorem dX10_areKin_54 : decode cX10_areKin 54 = .ok (.iload 4, 2) := by decide +kernel
theorem dX10_areKin_56 : decode cX10_areKin 56 = .ok (.iload_n 2, 1) := by decide +kernel
theorem dX10_areKin_57 : decode cX10_areKin 57 = .ok (.invokevirtual 141, 3) := by decide +kernel
theorem dX10_areKin_60 : decode cX10_areKin 60 = .ok (.ifCond .eq 7, 3) := by decide +kernel
theorem dX10_areKin_63 : decode cX10_areKin 63 = .ok (.iconst 1, 1) := by decide +kernel
theorem dX10_areKin_64 : decode cX10_areKin 64 = .ok (.goto 4, 3) := by decide +kernel
theorem dX10_areKin_67 : decode cX10_areKin 67 = .ok (.iconst 0, 1) := by decide +kernel
theorem dX10_areKin_68 : decode cX10_areKin 68 = .ok (.istore_n 3, 1) := by decide +kernel
theorem dX10_areKin_69 : decode cX10_areKin 69 = .ok (.iinc 4 1, 3) := by decide +kernel
theorem dX10_areKin_72 : decode cX10_areKin 72 = .ok (.goto (-42), 3) := by decide +kernel
theorem dX10_areKin_75 : decode cX10_areKin 75 = .ok (.iload_n 3, 1) := by decide +kernel
theorem dX10_areKin_76 : decode cX10_areKin 76 = .ok (.ireturn, 1) := by decide +kernel
theorem dX10_kin_0 : decode cX10_kin 0 = .ok (.aload_n 0, 1) := by decide +kernel
theorem dX10_kin_1 : decode cX10_kin 1 = .ok (.iconst 0, 1) := by decide +kernel
theorem dX10_kin_2 : decode cX10_kin 2 = .ok (.putfield 117, 3) := by decide +kernel
theorem dX10_kin_5 : decode cX10_kin 5 = .ok (.aload_n 0, 1) := by decide +kernel
theorem dX10_kin_6 : decode cX10_kin 6 = .ok (.iload_n 1, 1) := by decide +kernel
theorem dX10_kin_7 : decode cX10_kin 7 = .ok (.invokevirtual 124, 3) := by decide +kernel
theorem dX10_kin_10 : decode cX10_kin 10 = .ok (.ifCond .eq 24, 3) := by decide +kernel
theorem dX10_kin_13 : decode cX10_kin 13 = .ok (.aload_n 0, 1) := by decide +kernel
theorem dX10_kin_14 : decode cX10_kin 14 = .ok (.iload_n 2, 1) := by decide +kernel
theorem dX10_kin_15 : decode cX10_kin 15 = .ok (.invokevirtual 124, 3) := by decide +kernel
theorem dX10_kin_18 : decode cX10_kin 18 = .ok (.ifCond .eq 16, 3) := by decide +kernel
theorem dX10_kin_21 : decode cX10_kin 21 = .ok (.aload_n 0, 1) := by decide +kernel
theorem dX10_kin_22 : decode cX10_kin 22 = .ok (.iload_n 1, 1) := by decide +kernel
theorem dX10_kin_23 : decode cX10_kin 23 = .ok (.iload_n 2, 1) := by decide +kernel
theorem dX10_kin_24 : decode cX10_kin 24 = .ok (.invokevirtual 145, 3) := by decide +kernel
theorem dX10_kin_27 : decode cX10_kin 27 = .ok (.ifCond .eq 7, 3) := by decide +kernel
theorem dX10_kin_30 : decode cX10_kin 30 = .ok (.iconst 1, 1) := by decide +kernel
theorem dX10_kin_31 : decode cX10_kin 31 = .ok (.goto 4, 3) := by decide +kernel
theorem dX10_kin_34 : decode cX10_kin 34 = .ok (.iconst 0, 1) := by decide +kernel
theorem dX10_kin_35 : decode cX10_kin 35 = .ok (.ireturn, 1) := by decide +kernel
theorem dX10_term_0 : decode cX10_term 0 = .ok (.aload_n 0, 1) := by decide +kernel
theorem dX10_term_1 : decode cX10_term 1 = .ok (.iconst 0, 1) := by decide +kernel
theorem dX10_term_2 : decode cX10_term 2 = .ok (.putfield 117, 3) := by decide +kernel
theorem dX10_term_5 : decode cX10_term 5 = .ok (.aload_n 0, 1) := by decide +kernel
theorem dX10_term_6 : decode cX10_term 6 = .ok (.getfield 148, 3) := by decide +kernel
theorem dX10_term_9 : decode cX10_term 9 = .ok (.bipush 100, 2) := by decide +kernel
theorem dX10_term_11 : decode cX10_term 11 = .ok (.if_icmp .eq 48, 3) := by decide +kernel
theorem dX10_term_14 : decode cX10_term 14 = .ok (.aload_n 0, 1) := by decide +kernel
theorem dX10_term_15 : decode cX10_term 15 = .ok (.iload_n 1, 1) := by decide +kernel
theorem dX10_term_16 : decode cX10_term 16 = .ok (.invokevirtual 124, 3) := by decide +kernel
theorem dX10_term_19 : decode cX10_term 19 = .ok (.ifCond .eq 40, 3) := by decide +kernel
theorem dX10_term_22 : decode cX10_term 22 = .ok (.iload_n 2, 1) := by decide +kernel
theorem dX10_term_23 : decode cX10_term 23 = .ok (.iconst (-1), 1) := by decide +kernel
theorem dX10_term_24 : decode cX10_term 24 = .ok (.if_icmp .eq 16, 3) := by decide +kernel
theorem dX10_term_27 : decode cX10_term 27 = .ok (.aload_n 0, 1) := by decide +kernel
theorem dX10_term_28 : decode cX10_term 28 = .ok (.iload_n 2, 1) := by decide +kernel
theorem dX10_term_29 : decode cX10_term 29 = .ok (.invokevirtual 124, 3) := by decide +kernel
theorem dX10_term_32 : decode cX10_term 32 = .ok (.ifCond .eq 27, 3) := by decide +kernel
theorem dX10_term_35 : decode cX10_term 35 = .ok (.iload_n 2, 1) := by decide +kernel
theorem dX10_term_36 : decode cX10_term 36 = .ok (.iload_n 1, 1) := by decide +kernel
theorem dX10_term_37 : decode cX10_term 37 = .ok (.if_icmp .eq 22, 3) := by decide +kernel
theorem dX10_term_40 : decode cX10_term 40 = .ok (.iload_n 3, 1) := by decide +kernel
theorem dX10_term_41 : decode cX10_term 41 = .ok (.ifCond .lt 18, 3) := by decide +kernel
theorem dX10_term_44 : decode cX10_term 44 = .ok (.iload_n 3, 1) := by decide +kernel
theorem dX10_term_45 : decode cX10_term 45 = .ok (.iload 4, 2) := by decide +kernel
theorem dX10_term_47 : decode cX10_term 47 = .ok (.if_icmp .gt 12, 3) := by decide +kernel
theorem dX10_term_50 : decode cX10_term 50 = .ok (.iload 4, 2) := by decide +kernel
theorem dX10_term_52 : decode cX10_term 52 = .ok (.aload_n 0, 1) := by decide +kernel
theorem dX10_term_53 : decode cX10_term 53 = .ok (.getfield 134, 3) := by decide +kernel
theorem dX10_term_56 : decode cX10_term 56 = .ok (.if_icmp .le 5, 3) := by decide +kernel
theorem dX10_term_59 : decode cX10_term 59 = .ok (.iconst (-1), 1) := by decide +kernel
theorem dX10_term_60 : decode cX10_term 60 = .ok (.ireturn, 1) := by decide +kernel
theorem dX10_term_61 : decode cX10_term 61 = .ok (.aload_n 0, 1) := by decide +kernel
theorem dX10_term_62 : decode cX10_term 62 = .ok (.getfield 28, 3) := by decide +kernel
theorem dX10_term_65 : decode cX10_term 65 = .ok (.aload_n 0, 1) := by decide +kernel
theorem dX10_term_66 : decode cX10_term 66 = .ok (.getfield 148, 3) := by decide +kernel
theorem dX10_term_69 : decode cX10_term 69 = .ok (.iload_n 1, 1) := by decide +kernel
theorem dX10_term_70 : decode cX10_term 70 = .ok (.iastore, 1) := by decide +kernel
theorem dX10_term_71 : decode cX10_term 71 = .ok (.aload_n 0, 1) := by decide +kernel
theorem dX10_term_72 : decode cX10_term 72 = .ok (.getfield 31, 3) := by decide +kernel
theorem dX10_term_75 : decode cX10_term 75 = .ok (.aload_n 0, 1) := by decide +kernel
theorem dX10_term_76 : decode cX10_term 76 = .ok (.getfield 148, 3) := by decide +kernel
theorem dX10_term_79 : decode cX10_term 79 = .ok (.iload_n 2, 1) := by decide +kernel
theorem dX10_term_80 : decode cX10_term 80 = .ok (.iastore, 1) := by decide +kernel
theorem dX10_term_81 : decode cX10_term 81 = .ok (.aload_n 0, 1) := by decide +kernel
theorem dX10_term_82 : decode cX10_term 82 = .ok (.getfield 34, 3) := by decide +kernel
theorem dX10_term_85 : decode cX10_term 85 = .ok (.aload_n 0, 1) := by decide +kernel
theorem dX10_term_86 : decode cX10_term 86 = .ok (.getfield 148, 3) := by decide +kernel
theorem dX10_term_89 : decode cX10_term 89 = .ok (.iload_n 3, 1) := by decide +kernel
theorem dX10_term_90 : decode cX10_term 90 = .ok (.iastore, 1) := by decide +kernel
theorem dX10_term_91 : decode cX10_term 91 = .ok (.aload_n 0, 1) := by decide +kernel
theorem dX10_term_92 : decode cX10_term 92 = .ok (.getfield 37, 3) := by decide +kernel
theorem dX10_term_95 : decode cX10_term 95 = .ok (.aload_n 0, 1) := by decide +kernel
theorem dX10_term_96 : decode cX10_term 96 = .ok (.getfield 148, 3) := by decide +kernel
theorem dX10_term_99 : decode cX10_term 99 = .ok (.iload 4, 2) := by decide +kernel
theorem dX10_term_101 : decode cX10_term 101 = .ok (.iastore, 1) := by decide +kernel
theorem dX10_term_102 : decode cX10_term 102 = .ok (.aload_n 0, 1) := by decide +kernel
theorem dX10_term_103 : decode cX10_term 103 = .ok (.getfield 40, 3) := by decide +kernel
theorem dX10_term_106 : decode cX10_term 106 = .ok (.aload_n 0, 1) := by decide +kernel
theorem dX10_term_107 : decode cX10_term 107 = .ok (.getfield 148, 3) := by decide +kernel
theorem dX10_term_110 : decode cX10_term 110 = .ok (.aload_n 0, 1) := by decide +kernel
theorem dX10_term_111 : decode cX10_term 111 = .ok (.getfield 134, 3) := by decide +kernel
theorem dX10_term_114 : decode cX10_term 114 = .ok (.iastore, 1) := by decide +kernel
theorem dX10_term_115 : decode cX10_term 115 = .ok (.aload_n 0, 1) := by decide +kernel
theorem dX10_term_116 : decode cX10_term 116 = .ok (.getfield 43, 3) := by decide +kernel
theorem dX10_term_119 : decode cX10_term 119 = .ok (.aload_n 0, 1) := by decide +kernel
theorem dX10_term_120 : decode cX10_term 120 = .ok (.getfield 148, 3) := by decide +kernel
theorem dX10_term_123 : decode cX10_term 123 = .ok (.iconst (-1), 1) := by decide +kernel
theorem dX10_term_124 : decode cX10_term 124 = .ok (.iastore, 1) := by decide +kernel
theorem dX10_term_125 : decode cX10_term 125 = .ok (.aload_n 0, 1) := by decide +kernel
theorem dX10_term_126 : decode cX10_term 126 = .ok (.dup, 1) := by decide +kernel
theorem dX10_term_127 : decode cX10_term 127 = .ok (.getfield 148, 3) := by decide +kernel
theorem dX10_term_130 : decode cX10_term 130 = .ok (.iconst 1, 1) := by decide +kernel
theorem dX10_term_131 : decode cX10_term 131 = .ok (.iadd, 1) := by decide +kernel
theorem dX10_term_132 : decode cX10_term 132 = .ok (.putfield 148, 3) := by decide +kernel
theorem dX10_term_135 : decode cX10_term 135 = .ok (.aload_n 0, 1) := by decide +kernel
theorem dX10_term_136 : decode cX10_term 136 = .ok (.getfield 148, 3) := by decide +kernel
theorem dX10_term_139 : decode cX10_term 139 = .ok (.iconst 1, 1) := by decide +kernel
theorem dX10_term_140 : decode cX10_term 140 = .ok (.isub, 1) := by decide +kernel
theorem dX10_term_141 : decode cX10_term 141 = .ok (.ireturn, 1) := by decide +kernel
theorem dX10_back_0 : decode cX10_back 0 = .ok (.aload_n 0, 1) := by decide +kernel
theorem dX10_back_1 : decode cX10_back 1 = .ok (.iconst 0, 1) := by decide +kernel
theorem dX10_back_2 : decode cX10_back 2 = .ok (.putfield 117, 3) := by decide +kernel
theorem dX10_back_5 : decode cX10_back 5 = .ok (.iload_n 1, 1) := by decide +kernel
theorem dX10_back_6 : decode cX10_back 6 = .ok (.ifCond .lt 21, 3) := by decide +kernel
theorem dX10_back_9 : decode cX10_back 9 = .ok (.iload_n 1, 1) := by decide +kernel
theorem dX10_back_10 : decode cX10_back 10 = .ok (.aload_n 0, 1) := by decide +kernel
theorem dX10_back_11 : decode cX10_back 11 = .ok (.getfield 148, 3) := by decide +kernel
theorem dX10_back_14 : decode cX10_back 14 = .ok (.if_icmp .ge 13, 3) := by decide +kernel
theorem dX10_back_17 : decode cX10_back 17 = .ok (.aload_n 0, 1) := by decide +kernel
theorem dX10_back_18 : decode cX10_back 18 = .ok (.getfield 43, 3) := by decide +kernel
theorem dX10_back_21 : decode cX10_back 21 = .ok (.iload_n 1, 1) := by decide +kernel
theorem dX10_back_22 : decode cX10_back 22 = .ok (.iaload, 1) := by decide +kernel
theorem dX10_back_23 : decode cX10_back 23 = .ok (.iconst (-1), 1) := by decide +kernel
theorem dX10_back_24 : decode cX10_back 24 = .ok (.if_icmp .eq 5, 3) := by decide +kernel
theorem dX10_back_27 : decode cX10_back 27 = .ok (.iconst 0, 1) := by decide +kernel
theorem dX10_back_28 : decode cX10_back 28 = .ok (.ireturn, 1) := by decide +kernel
theorem dX10_back_29 : decode cX10_back 29 = .ok (.aload_n 0, 1) := by decide +kernel
theorem dX10_back_30 : decode cX10_back 30 = .ok (.getfield 43, 3) := by decide +kernel
theorem dX10_back_33 : decode cX10_back 33 = .ok (.iload_n 1, 1) := by decide +kernel
theorem dX10_back_34 : decode cX10_back 34 = .ok (.aload_n 0, 1) := by decide +kernel
theorem dX10_back_35 : decode cX10_back 35 = .ok (.getfield 134, 3) := by decide +kernel
theorem dX10_back_38 : decode cX10_back 38 = .ok (.iastore, 1) := by decide +kernel
theorem dX10_back_39 : decode cX10_back 39 = .ok (.iconst 1, 1) := by decide +kernel
theorem dX10_back_40 : decode cX10_back 40 = .ok (.ireturn, 1) := by decide +kernel
theorem dX10_isKnown_0 : decode cX10_isKnown 0 = .ok (.aload_n 0, 1) := by decide +kernel
theorem dX10_isKnown_1 : decode cX10_isKnown 1 = .ok (.getfield 40, 3) := by decide +kernel
theorem dX10_isKnown_4 : decode cX10_isKnown 4 = .ok (.iload_n 1, 1) := by decide +kernel
theorem dX10_isKnown_5 : decode cX10_isKnown 5 = .ok (.iaload, 1) := by decide +kernel
theorem dX10_isKnown_6 : decode cX10_isKnown 6 = .ok (.iload_n 2, 1) := by decide +kernel
theorem dX10_isKnown_7 : decode cX10_isKnown 7 = .ok (.if_icmp .gt 27, 3) := by decide +kernel
theorem dX10_isKnown_10 : decode cX10_isKnown 10 = .ok (.aload_n 0, 1) := by decide +kernel
theorem dX10_isKnown_11 : decode cX10_isKnown 11 = .ok (.getfield 43, 3) := by decide +kernel
theorem dX10_isKnown_14 : decode cX10_isKnown 14 = .ok (.iload_n 1, 1) := by decide +kernel
theorem dX10_isKnown_15 : decode cX10_isKnown 15 = .ok (.iaload, 1) := by decide +kernel
theorem dX10_isKnown_16 : decode cX10_isKnown 16 = .ok (.iconst (-1), 1) := by decide +kernel
theorem dX10_isKnown_17 : decode cX10_isKnown 17 = .ok (.if_icmp .eq 13, 3) := by decide +kernel
theorem dX10_isKnown_20 : decode cX10_isKnown 20 = .ok (.aload_n 0, 1) := by decide +kernel
theorem dX10_isKnown_21 : decode cX10_isKnown 21 = .ok (.getfield 43, 3) := by decide +kernel
theorem dX10_isKnown_24 : decode cX10_isKnown 24 = .ok (.iload_n 1, 1) := by decide +kernel
theorem dX10_isKnown_25 : decode cX10_isKnown 25 = .ok (.iaload, 1) := by decide +kernel
theorem dX10_isKnown_26 : decode cX10_isKnown 26 = .ok (.iload_n 2, 1) := by decide +kernel
theorem dX10_isKnown_27 : decode cX10_isKnown 27 = .ok (.if_icmp .le 7, 3) := by decide +kernel
theorem dX10_isKnown_30 : decode cX10_isKnown 30 = .ok (.iconst 1, 1) := by decide +kernel
theorem dX10_isKnown_31 : decode cX10_isKnown 31 = .ok (.goto 4, 3) := by decide +kernel
theorem dX10_isKnown_34 : decode cX10_isKnown 34 = .ok (.iconst 0, 1) := by decide +kernel
theorem dX10_isKnown_35 : decode cX10_isKnown 35 = .ok (.ireturn, 1) := by decide +kernel
theorem dX10_give_0 : decode cX10_give 0 = .ok (.aload_n 0, 1) := by decide +kernel
theorem dX10_give_1 : decode cX10_give 1 = .ok (.iconst 0, 1) := by decide +kernel
theorem dX10_give_2 : decode cX10_give 2 = .ok (.putfield 117, 3) := by decide +kernel
theorem dX10_give_5 : decode cX10_give 5 = .ok (.aload_n 0, 1) := by decide +kernel
theorem dX10_give_6 : decode cX10_give 6 = .ok (.getfield 151, 3) := by decide +kernel
theorem dX10_give_9 : decode cX10_give 9 = .ok (.bipush 100, 2) := by decide +kernel
theorem dX10_give_11 : decode cX10_give 11 = .ok (.if_icmp .eq 32, 3) := by decide +kernel
theorem dX10_give_14 : decode cX10_give 14 = .ok (.aload_n 0, 1) := by decide +kernel
theorem dX10_give_15 : decode cX10_give 15 = .ok (.iload_n 1, 1) := by decide +kernel
theorem dX10_give_16 : decode cX10_give 16 = .ok (.invokevirtual 128, 3) := by decide +kernel
theorem dX10_give_19 : decode cX10_give 19 = .ok (.ifCond .eq 24, 3) := by decide +kernel
theorem dX10_give_22 : decode cX10_give 22 = .ok (.iload_n 2, 1) := by decide +kernel
theorem dX10_give_23 : decode cX10_give 23 = .ok (.iconst 0, 1) := by decide +kernel
theorem dX10_give_24 : decode cX10_give 24 = .ok (.bipush 9, 2) := by decide +kernel
theorem dX10_give_26 : decode cX10_give 26 = .ok (.invokestatic 137, 3) := by decide +kernel
theorem dX10_give_29 : decode cX10_give 29 = .ok (.ifCond .eq 14, 3) := by decide +kernel
theorem dX10_give_32 : decode cX10_give 32 = .ok (.iload_n 3, 1) := by decide +kernel
theorem dX10_give_33 : decode cX10_give 33 = .ok (.iconst 0, 1) := by decide +kernel
theorem dX10_give_34 : decode cX10_give 34 = .ok (.sipush 9999, 3) := by decide +kernel
theorem dX10_give_37 : decode cX10_give 37 = .ok (.invokestatic 137, 3) := by decide +kernel
theorem dX10_give_40 : decode cX10_give 40 = .ok (.ifCond .ne 5, 3) := by decide +kernel
theorem dX10_give_43 : decode cX10_give 43 = .ok (.iconst 0, 1) := by decide +kernel
theorem dX10_give_44 : decode cX10_give 44 = .ok (.ireturn, 1) := by decide +kernel
theorem dX10_give_45 : decode cX10_give 45 = .ok (.aload_n 0, 1) := by decide +kernel
theorem dX10_give_46 : decode cX10_give 46 = .ok (.getfield 46, 3) := by decide +kernel
theorem dX10_give_49 : decode cX10_give 49 = .ok (.aload_n 0, 1) := by decide +kernel
theorem dX10_give_50 : decode cX10_give 50 = .ok (.getfield 151, 3) := by decide +kernel
theorem dX10_give_53 : decode cX10_give 53 = .ok (.iload_n 1, 1) := by decide +kernel
theorem dX10_give_54 : decode cX10_give 54 = .ok (.iastore, 1) := by decide +kernel
theorem dX10_give_55 : decode cX10_give 55 = .ok (.aload_n 0, 1) := by decide +kernel
theorem dX10_give_56 : decode cX10_give 56 = .ok (.getfield 49, 3) := by decide +kernel
theorem dX10_give_59 : decode cX10_give 59 = .ok (.aload_n 0, 1) := by decide +kernel
theorem dX10_give_60 : decode cX10_give 60 = .ok (.getfield 151, 3) := by decide +kernel
theorem dX10_give_63 : decode cX10_give 63 = .ok (.iload_n 2, 1) := by decide +kernel
theorem dX10_give_64 : decode cX10_give 64 = .ok (.iastore, 1) := by decide +kernel
theorem dX10_give_65 : decode cX10_give 65 = .ok (.aload_n 0, 1) := by decide +kernel
theorem dX10_give_66 : decode cX10_give 66 = .ok (.getfield 52, 3) := by decide +kernel
theorem dX10_give_69 : decode cX10_give 69 = .ok (.aload_n 0, 1) := by decide +kernel
theorem dX10_give_70 : decode cX10_give 70 = .ok (.getfield 151, 3) := by decide +kernel
theorem dX10_give_73 : decode cX10_give 73 = .ok (.iload_n 3, 1) := by decide +kernel
theorem dX10_give_74 : decode cX10_give 74 = .ok (.iastore, 1) := by decide +kernel
theorem dX10_give_75 : decode cX10_give 75 = .ok (.aload_n 0, 1) := by decide +kernel
theorem dX10_give_76 : decode cX10_give 76 = .ok (.getfield 55, 3) := by decide +kernel
theorem dX10_give_79 : decode cX10_give 79 = .ok (.aload_n 0, 1) := by decide +kernel
theorem dX10_give_80 : decode cX10_give 80 = .ok (.getfield 151, 3) := by decide +kernel
theorem dX10_give_83 : decode cX10_give 83 = .ok (.aload_n 0, 1) := by decide +kernel
theorem dX10_give_84 : decode cX10_give 84 = .ok (.getfield 134, 3) := by decide +kernel
theorem dX10_give_87 : decode cX10_give 87 = .ok (.iastore, 1) := by decide +kernel
theorem dX10_give_88 : decode cX10_give 88 = .ok (.aload_n 0, 1) := by decide +kernel
theorem dX10_give_89 : decode cX10_give 89 = .ok (.dup, 1) := by decide +kernel
theorem dX10_give_90 : decode cX10_give 90 = .ok (.getfield 151, 3) := by decide +kernel
theorem dX10_give_93 : decode cX10_give 93 = .ok (.iconst 1, 1) := by decide +kernel
theorem dX10_give_94 : decode cX10_give 94 = .ok (.iadd, 1) := by decide +kernel
theorem dX10_give_95 : decode cX10_give 95 = .ok (.putfield 151, 3) := by decide +kernel
theorem dX10_give_98 : decode cX10_give 98 = .ok (.iconst 1, 1) := by decide +kernel
theorem dX10_give_99 : decode cX10_give 99 = .ok (.ireturn, 1) := by decide +kernel
theorem dX10_mark_0 : decode cX10_mark 0 = .ok (.iconst 0, 1) := by decide +kernel
theorem dX10_mark_1 : decode cX10_mark 1 = .ok (.istore 4, 2) := by decide +kernel
theorem dX10_mark_3 : decode cX10_mark 3 = .ok (.iload 4, 2) := by decide +kernel
theorem dX10_mark_5 : decode cX10_mark 5 = .ok (.iload_n 2, 1) := by decide +kernel
theorem dX10_mark_6 : decode cX10_mark 6 = .ok (.if_icmp .gt 25, 3) := by decide +kernel
theorem dX10_mark_9 : decode cX10_mark 9 = .ok (.aload_n 0, 1) := by decide +kernel
theorem dX10_mark_10 : decode cX10_mark 10 = .ok (.getfield 101, 3) := by decide +kernel
theorem dX10_mark_13 : decode cX10_mark 13 = .ok (.iload 4, 2) := by decide +kernel
theorem dX10_mark_15 : decode cX10_mark 15 = .ok (.iconst 0, 1) := by decide +kernel
theorem dX10_mark_16 : decode cX10_mark 16 = .ok (.bastore, 1) := by decide +kernel
theorem dX10_mark_17 : decode cX10_mark 17 = .ok (.aload_n 0, 1) := by decide +kernel
theorem dX10_mark_18 : decode cX10_mark 18 = .ok (.getfield 107, 3) := by decide +kernel
theorem dX10_mark_21 : decode cX10_mark 21 = .ok (.iload 4, 2) := by decide +kernel
theorem dX10_mark_23 : decode cX10_mark 23 = .ok (.iconst 0, 1) := by decide +kernel
theorem dX10_mark_24 : decode cX10_mark 24 = .ok (.bastore, 1) := by decide +kernel
theorem dX10_mark_25 : decode cX10_mark 25 = .ok (.iinc 4 1, 3) := by decide +kernel
theorem dX10_mark_28 : decode cX10_mark 28 = .ok (.goto (-25), 3) := by decide +kernel
theorem dX10_mark_31 : decode cX10_mark 31 = .ok (.iconst 0, 1) := by decide +kernel
theorem dX10_mark_32 : decode cX10_mark 32 = .ok (.istore 4, 2) := by decide +kernel
theorem dX10_mark_34 : decode cX10_mark 34 = .ok (.iload 4, 2) := by decide +kernel
theorem dX10_mark_36 : decode cX10_mark 36 = .ok (.aload_n 0, 1) := by decide +kernel
theorem dX10_mark_37 : decode cX10_mark 37 = .ok (.getfield 148, 3) := by decide +kernel
theorem dX10_mark_40 : decode cX10_mark 40 = .ok (.if_icmp .ge 148, 3) := by decide +kernel
theorem dX10_mark_43 : decode cX10_mark 43 = .ok (.aload_n 0, 1) := by decide +kernel
theorem dX10_mark_44 : decode cX10_mark 44 = .ok (.getfield 28, 3) := by decide +kernel
theorem dX10_mark_47 : decode cX10_mark 47 = .ok (.iload 4, 2) := by decide +kernel
theorem dX10_mark_49 : decode cX10_mark 49 = .ok (.iaload, 1) := by decide +kernel
theorem dX10_mark_50 : decode cX10_mark 50 = .ok (.iload_n 1, 1) := by decide +kernel
theorem dX10_mark_51 : decode cX10_mark 51 = .ok (.if_icmp .ne 131, 3) := by decide +kernel
theorem dX10_mark_54 : decode cX10_mark 54 = .ok (.aload_n 0, 1) := by decide +kernel
theorem dX10_mark_55 : decode cX10_mark 55 = .ok (.iload 4, 2) := by decide +kernel
theorem dX10_mark_57 : decode cX10_mark 57 = .ok (.iload_n 3, 1) := by decide +kernel
theorem dX10_mark_58 : decode cX10_mark 58 = .ok (.invokevirtual 154, 3) := by decide +kernel
theorem dX10_mark_61 : decode cX10_mark 61 = .ok (.ifCond .ne 6, 3) := by decide +kernel
theorem dX10_mark_64 : decode cX10_mark 64 = .ok (.goto 118, 3) := by decide +kernel
theorem dX10_mark_67 : decode cX10_mark 67 = .ok (.aload_n 0, 1) := by decide +kernel
theorem dX10_mark_68 : decode cX10_mark 68 = .ok (.getfield 34, 3) := by decide +kernel
theorem dX10_mark_71 : decode cX10_mark 71 = .ok (.iload 4, 2) := by decide +kernel
theorem dX10_mark_73 : decode cX10_mark 73 = .ok (.iaload, 1) := by decide +kernel
theorem dX10_mark_74 : decode cX10_mark 74 = .ok (.istore 5, 2) := by decide +kernel
theorem dX10_mark_76 : decode cX10_mark 76 = .ok (.iload 5, 2) := by decide +kernel
theorem dX10_mark_78 : decode cX10_mark 78 = .ok (.aload_n 0, 1) := by decide +kernel
theorem dX10_mark_79 : decode cX10_mark 79 = .ok (.getfield 37, 3) := by decide +kernel
theorem dX10_mark_82 : decode cX10_mark 82 = .ok (.iload 4, 2) := by decide +kernel
theorem dX10_mark_84 : decode cX10_mark 84 = .ok (.iaload, 1) := by decide +kernel
theorem dX10_mark_85 : decode cX10_mark 85 = .ok (.if_icmp .gt 97, 3) := by decide +kernel
theorem dX10_mark_88 : decode cX10_mark 88 = .ok (.iload 5, 2) := by decide +kernel
theorem dX10_mark_90 : decode cX10_mark 90 = .ok (.iload_n 2, 1) := by decide +kernel
theorem dX10_mark_91 : decode cX10_mark 91 = .ok (.if_icmp .gt 91, 3) := by decide +kernel
theorem dX10_mark_94 : decode cX10_mark 94 = .ok (.aload_n 0, 1) := by decide +kernel
theorem dX10_mark_95 : decode cX10_mark 95 = .ok (.getfield 31, 3) := by decide +kernel
theorem dX10_mark_98 : decode cX10_mark 98 = .ok (.iload 4, 2) := by decide +kernel
theorem dX10_mark_100 : decode cX10_mark 100 = .ok (.iaload, 1) := by decide +kernel
theorem dX10_mark_101 : decode cX10_mark 101 = .ok (.iconst (-1), 1) := by decide +kernel
theorem dX10_mark_102 : decode cX10_mark 102 = .ok (.if_icmp .ne 14, 3) := by decide +kernel
theorem dX10_mark_105 : decode cX10_mark 105 = .ok (.aload_n 0, 1) := by decide +kernel
theorem dX10_mark_106 : decode cX10_mark 106 = .ok (.getfield 107, 3) := by decide +kernel
theorem dX10_mark_109 : decode cX10_mark 109 = .ok (.iload 5, 2) := by decide +kernel
theorem dX10_mark_111 : decode cX10_mark 111 = .ok (.iconst 1, 1) := by decide +kernel
theorem dX10_mark_112 : decode cX10_mark 112 = .ok (.bastore, 1) := by decide +kernel
theorem dX10_mark_113 : decode cX10_mark 113 = .ok (.goto 63, 3) := by decide +kernel
theorem dX10_mark_116 : decode cX10_mark 116 = .ok (.aload_n 0, 1) := by decide +kernel
theorem dX10_mark_117 : decode cX10_mark 117 = .ok (.getfield 101, 3) := by decide +kernel
theorem dX10_mark_120 : decode cX10_mark 120 = .ok (.iload 5, 2) := by decide +kernel
theorem dX10_mark_122 : decode cX10_mark 122 = .ok (.baload, 1) := by decide +kernel
theorem dX10_mark_123 : decode cX10_mark 123 = .ok (.ifCond .ne 28, 3) := by decide +kernel
theorem dX10_mark_126 : decode cX10_mark 126 = .ok (.aload_n 0, 1) := by decide +kernel
theorem dX10_mark_127 : decode cX10_mark 127 = .ok (.getfield 101, 3) := by decide +kernel
theorem dX10_mark_130 : decode cX10_mark 130 = .ok (.iload 5, 2) := by decide +kernel
theorem dX10_mark_132 : decode cX10_mark 132 = .ok (.iconst 1, 1) := by decide +kernel
theorem dX10_mark_133 : decode cX10_mark 133 = .ok (.bastore, 1) := by decide +kernel
theorem dX10_mark_134 : decode cX10_mark 134 = .ok (.aload_n 0, 1) := by decide +kernel
theorem dX10_mark_135 : decode cX10_mark 135 = .ok (.getfield 104, 3) := by decide +kernel
theorem dX10_mark_138 : decode cX10_mark 138 = .ok (.iload 5, 2) := by decide +kernel
theorem dX10_mark_140 : decode cX10_mark 140 = .ok (.aload_n 0, 1) := by decide +kernel
theorem dX10_mark_141 : decode cX10_mark 141 = .ok (.getfield 31, 3) := by decide +kernel
theorem dX10_mark_144 : decode cX10_mark 144 = .ok (.iload 4, 2) := by decide +kernel
theorem dX10_mark_146 : decode cX10_mark 146 = .ok (.iaload, 1) := by decide +kernel
theorem dX10_mark_147 : decode cX10_mark 147 = .ok (.iastore, 1) := by decide +kernel
theorem dX10_mark_148 : decode cX10_mark 148 = .ok (.goto 28, 3) := by decide +kernel
theorem dX10_mark_151 : decode cX10_mark 151 = .ok (.aload_n 0, 1) := by decide +kernel
theorem dX10_mark_152 : decode cX10_mark 152 = .ok (.getfield 104, 3) := by decide +kernel
theorem dX10_mark_155 : decode cX10_mark 155 = .ok (.iload 5, 2) := by decide +kernel
theorem dX10_mark_157 : decode cX10_mark 157 = .ok (.iaload, 1) := by decide +kernel
theorem dX10_mark_158 : decode cX10_mark 158 = .ok (.aload_n 0, 1) := by decide +kernel
theorem dX10_mark_159 : decode cX10_mark 159 = .ok (.getfield 31, 3) := by decide +kernel
theorem dX10_mark_162 : decode cX10_mark 162 = .ok (.iload 4, 2) := by decide +kernel
theorem dX10_mark_164 : decode cX10_mark 164 = .ok (.iaload, 1) := by decide +kernel
theorem dX10_mark_165 : decode cX10_mark 165 = .ok (.if_icmp .eq 11, 3) := by decide +kernel
theorem dX10_mark_168 : decode cX10_mark 168 = .ok (.aload_n 0, 1) := by decide +kernel
theorem dX10_mark_169 : decode cX10_mark 169 = .ok (.getfield 101, 3) := by decide +kernel
theorem dX10_mark_172 : decode cX10_mark 172 = .ok (.iload 5, 2) := by decide +kernel
theorem dX10_mark_174 : decode cX10_mark 174 = .ok (.iconst 2, 1) := by decide +kernel
theorem dX10_mark_175 : decode cX10_mark 175 = .ok (.bastore, 1) := by decide +kernel
theorem dX10_mark_176 : decode cX10_mark 176 = .ok (.iinc 5 1, 3) := by decide +kernel
theorem dX10_mark_179 : decode cX10_mark 179 = .ok (.goto (-103), 3) := by decide +kernel
theorem dX10_mark_182 : decode cX10_mark 182 = .ok (.iinc 4 1, 3) := by decide +kernel
theorem dX10_mark_185 : decode cX10_mark 185 = .ok (.goto (-151), 3) := by decide +kernel
theorem dX10_mark_188 : decode cX10_mark 188 = .ok (.return_, 1) := by decide +kernel
theorem dX10_values_0 : decode cX10_values 0 = .ok (.iconst 0, 1) := by decide +kernel
theorem dX10_values_1 : decode cX10_values 1 = .ok (.istore 4, 2) := by decide +kernel
theorem dX10_values_3 : decode cX10_values 3 = .ok (.iload 4, 2) := by decide +kernel
theorem dX10_values_5 : decode cX10_values 5 = .ok (.bipush 7, 2) := by decide +kernel
theorem dX10_values_7 : decode cX10_values 7 = .ok (.if_icmp .ge 17, 3) := by decide +kernel
theorem dX10_values_10 : decode cX10_values 10 = .ok (.aload_n 0, 1) := by decide +kernel
theorem dX10_values_11 : decode cX10_values 11 = .ok (.getfield 111, 3) := by decide +kernel
theorem dX10_values_14 : decode cX10_values 14 = .ok (.iload 4, 2) := by decide +kernel
theorem dX10_values_16 : decode cX10_values 16 = .ok (.iconst 0, 1) := by decide +kernel
theorem dX10_values_17 : decode cX10_values 17 = .ok (.iastore, 1) := by decide +kernel
theorem dX10_values_18 : decode cX10_values 18 = .ok (.iinc 4 1, 3) := by decide +kernel
theorem dX10_values_21 : decode cX10_values 21 = .ok (.goto (-18), 3) := by decide +kernel
theorem dX10_values_24 : decode cX10_values 24 = .ok (.aload_n 0, 1) := by decide +kernel
theorem dX10_values_25 : decode cX10_values 25 = .ok (.getfield 111, 3) := by decide +kernel
theorem dX10_values_28 : decode cX10_values 28 = .ok (.bipush 7, 2) := by decide +kernel
theorem dX10_values_30 : decode cX10_values 30 = .ok (.iconst (-1), 1) := by decide +kernel
theorem dX10_values_31 : decode cX10_values 31 = .ok (.iastore, 1) := by decide +kernel
theorem dX10_values_32 : decode cX10_values 32 = .ok (.aload_n 0, 1) := by decide +kernel
theorem dX10_values_33 : decode cX10_values 33 = .ok (.iload_n 1, 1) := by decide +kernel
theorem dX10_values_34 : decode cX10_values 34 = .ok (.iload_n 2, 1) := by decide +kernel
theorem dX10_values_35 : decode cX10_values 35 = .ok (.iload_n 3, 1) := by decide +kernel
theorem dX10_values_36 : decode cX10_values 36 = .ok (.invokevirtual 157, 3) := by decide +kernel
theorem dX10_values_39 : decode cX10_values 39 = .ok (.iconst 0, 1) := by decide +kernel
theorem dX10_values_40 : decode cX10_values 40 = .ok (.istore 4, 2) := by decide +kernel
theorem dX10_values_42 : decode cX10_values 42 = .ok (.iload 4, 2) := by decide +kernel
theorem dX10_values_44 : decode cX10_values 44 = .ok (.iload_n 2, 1) := by decide +kernel
theorem dX10_values_45 : decode cX10_values 45 = .ok (.if_icmp .gt 94, 3) := by decide +kernel
theorem dX10_values_48 : decode cX10_values 48 = .ok (.aload_n 0, 1) := by decide +kernel
theorem dX10_values_49 : decode cX10_values 49 = .ok (.getfield 101, 3) := by decide +kernel
theorem dX10_values_52 : decode cX10_values 52 = .ok (.iload 4, 2) := by decide +kernel
theorem dX10_values_54 : decode cX10_values 54 = .ok (.baload, 1) := by decide +kernel
theorem dX10_values_55 : decode cX10_values 55 = .ok (.ifCond .le 36, 3) := by decide +kernel
theorem dX10_values_58 : decode cX10_values 58 = .ok (.aload_n 0, 1) := by decide +kernel
theorem dX10_values_59 : decode cX10_values 59 = .ok (.getfield 111, 3) := by decide +kernel
theorem dX10_values_62 : decode cX10_values 62 = .ok (.iconst 0, 1) := by decide +kernel
theorem dX10_values_63 : decode cX10_values 63 = .ok (.dup2, 1) := by decide +kernel
theorem dX10_values_64 : decode cX10_values 64 = .ok (.iaload, 1) := by decide +kernel
theorem dX10_values_65 : decode cX10_values 65 = .ok (.iconst 1, 1) := by decide +kernel
theorem dX10_values_66 : decode cX10_values 66 = .ok (.iadd, 1) := by decide +kernel
theorem dX10_values_67 : decode cX10_values 67 = .ok (.iastore, 1) := by decide +kernel
theorem dX10_values_68 : decode cX10_values 68 = .ok (.aload_n 0, 1) := by decide +kernel
theorem dX10_values_69 : decode cX10_values 69 = .ok (.getfield 111, 3) := by decide +kernel
theorem dX10_values_72 : decode cX10_values 72 = .ok (.bipush 7, 2) := by decide +kernel
theorem dX10_values_74 : decode cX10_values 74 = .ok (.iaload, 1) := by decide +kernel
theorem dX10_values_75 : decode cX10_values 75 = .ok (.iconst (-1), 1) := by decide +kernel
theorem dX10_values_76 : decode cX10_values 76 = .ok (.if_icmp .ne 35, 3) := by decide +kernel
theorem dX10_values_79 : decode cX10_values 79 = .ok (.aload_n 0, 1) := by decide +kernel
theorem dX10_values_80 : decode cX10_values 80 = .ok (.getfield 111, 3) := by decide +kernel
theorem dX10_values_83 : decode cX10_values 83 = .ok (.bipush 7, 2) := by decide +kernel
theorem dX10_values_85 : decode cX10_values 85 = .ok (.iload 4, 2) := by decide +kernel
theorem dX10_values_87 : decode cX10_values 87 = .ok (.iastore, 1) := by decide +kernel
theorem dX10_values_88 : decode cX10_values 88 = .ok (.goto 23, 3) := by decide +kernel
theorem dX10_values_91 : decode cX10_values 91 = .ok (.aload_n 0, 1) := by decide +kernel
theorem dX10_values_92 : decode cX10_values 92 = .ok (.getfield 107, 3) := by decide +kernel
theorem dX10_values_95 : decode cX10_values 95 = .ok (.iload 4, 2) := by decide +kernel
theorem dX10_values_97 : decode cX10_values 97 = .ok (.baload, 1) := by decide +kernel
theorem dX10_values_98 : decode cX10_values 98 = .ok (.ifCond .eq 13, 3) := by decide +kernel
theorem dX10_values_101 : decode cX10_values 101 = .ok (.aload_n 0, 1) := by decide +kernel
theorem dX10_values_102 : decode cX10_values 102 = .ok (.getfield 111, 3) := by decide +kernel
theorem dX10_values_105 : decode cX10_values 105 = .ok (.iconst 1, 1) := by decide +kernel
theorem dX10_values_106 : decode cX10_values 106 = .ok (.dup2, 1) := by decide +kernel
theorem dX10_values_107 : decode cX10_values 107 = .ok (.iaload, 1) := by decide +kernel
theorem dX10_values_108 : decode cX10_values 108 = .ok (.iconst 1, 1) := by decide +kernel
theorem dX10_values_109 : decode cX10_values 109 = .ok (.iadd, 1) := by decide +kernel
theorem dX10_values_110 : decode cX10_values 110 = .ok (.iastore, 1) := by decide +kernel
theorem dX10_values_111 : decode cX10_values 111 = .ok (.aload_n 0, 1) := by decide +kernel
theorem dX10_values_112 : decode cX10_values 112 = .ok (.getfield 101, 3) := by decide +kernel
theorem dX10_values_115 : decode cX10_values 115 = .ok (.iload 4, 2) := by decide +kernel
theorem dX10_values_117 : decode cX10_values 117 = .ok (.baload, 1) := by decide +kernel
theorem dX10_values_118 : decode cX10_values 118 = .ok (.iconst 1, 1) := by decide +kernel
theorem dX10_values_119 : decode cX10_values 119 = .ok (.if_icmp .le 14, 3) := by decide +kernel
theorem dX10_values_122 : decode cX10_values 122 = .ok (.aload_n 0, 1) := by decide +kernel
theorem dX10_values_123 : decode cX10_values 123 = .ok (.getfield 111, 3) := by decide +kernel
theorem dX10_values_126 : decode cX10_values 126 = .ok (.bipush 6, 2) := by decide +kernel
theorem dX10_values_128 : decode cX10_values 128 = .ok (.dup2, 1) := by decide +kernel
theorem dX10_values_129 : decode cX10_values 129 = .ok (.iaload, 1) := by decide +kernel
theorem dX10_values_130 : decode cX10_values 130 = .ok (.iconst 1, 1) := by decide +kernel
theorem dX10_values_131 : decode cX10_values 131 = .ok (.iadd, 1) := by decide +kernel
theorem dX10_values_132 : decode cX10_values 132 = .ok (.iastore, 1) := by decide +kernel
theorem dX10_values_133 : decode cX10_values 133 = .ok (.iinc 4 1, 3) := by decide +kernel
theorem dX10_values_136 : decode cX10_values 136 = .ok (.goto (-94), 3) := by decide +kernel
theorem dX10_values_139 : decode cX10_values 139 = .ok (.iconst 0, 1) := by decide +kernel
theorem dX10_values_140 : decode cX10_values 140 = .ok (.istore 4, 2) := by decide +kernel
theorem dX10_values_142 : decode cX10_values 142 = .ok (.iload 4, 2) := by decide +kernel
theorem dX10_values_144 : decode cX10_values 144 = .ok (.aload_n 0, 1) := by decide +kernel
theorem dX10_values_145 : decode cX10_values 145 = .ok (.getfield 151, 3) := by decide +kernel
theorem dX10_values_148 : decode cX10_values 148 = .ok (.if_icmp .ge 77, 3) := by decide +kernel
theorem dX10_values_151 : decode cX10_values 151 = .ok (.aload_n 0, 1) := by decide +kernel
theorem dX10_values_152 : decode cX10_values 152 = .ok (.getfield 46, 3) := by decide +kernel
theorem dX10_values_155 : decode cX10_values 155 = .ok (.iload 4, 2) := by decide +kernel
theorem dX10_values_157 : decode cX10_values 157 = .ok (.iaload, 1) := by decide +kernel
theorem dX10_values_158 : decode cX10_values 158 = .ok (.iload_n 1, 1) := by decide +kernel
theorem dX10_values_159 : decode cX10_values 159 = .ok (.if_icmp .ne 60, 3) := by decide +kernel
theorem dX10_values_162 : decode cX10_values 162 = .ok (.aload_n 0, 1) := by decide +kernel
theorem dX10_values_163 : decode cX10_values 163 = .ok (.getfield 55, 3) := by decide +kernel
theorem dX10_values_166 : decode cX10_values 166 = .ok (.iload 4, 2) := by decide +kernel
theorem dX10_values_168 : decode cX10_values 168 = .ok (.iaload, 1) := by decide +kernel
theorem dX10_values_169 : decode cX10_values 169 = .ok (.iload_n 2, 1) := by decide +kernel
theorem dX10_values_170 : decode cX10_values 170 = .ok (.if_icmp .gt 49, 3) := by decide +kernel
theorem dX10_values_173 : decode cX10_values 173 = .ok (.aload_n 0, 1) := by decide +kernel
theorem dX10_values_174 : decode cX10_values 174 = .ok (.getfield 55, 3) := by decide +kernel
theorem dX10_values_177 : decode cX10_values 177 = .ok (.iload 4, 2) := by decide +kernel
theorem dX10_values_179 : decode cX10_values 179 = .ok (.iaload, 1) := by decide +kernel
theorem dX10_values_180 : decode cX10_values 180 = .ok (.iload_n 3, 1) := by decide +kernel
theorem dX10_values_181 : decode cX10_values 181 = .ok (.if_icmp .le 6, 3) := by decide +kernel
theorem dX10_values_184 : decode cX10_values 184 = .ok (.goto 35, 3) := by decide +kernel
theorem dX10_values_187 : decode cX10_values 187 = .ok (.aload_n 0, 1) := by decide +kernel
theorem dX10_values_188 : decode cX10_values 188 = .ok (.getfield 111, 3) := by decide +kernel
theorem dX10_values_191 : decode cX10_values 191 = .ok (.iconst 2, 1) := by decide +kernel
theorem dX10_values_192 : decode cX10_values 192 = .ok (.dup2, 1) := by decide +kernel
theorem dX10_values_193 : decode cX10_values 193 = .ok (.iaload, 1) := by decide +kernel
theorem dX10_values_194 : decode cX10_values 194 = .ok (.aload_n 0, 1) := by decide +kernel
theorem dX10_values_195 : decode cX10_values 195 = .ok (.getfield 49, 3) := by decide +kernel
theorem dX10_values_198 : decode cX10_values 198 = .ok (.iload 4, 2) := by decide +kernel
theorem dX10_values_200 : decode cX10_values 200 = .ok (.iaload, 1) := by decide +kernel
theorem dX10_values_201 : decode cX10_values 201 = .ok (.iadd, 1) := by decide +kernel
theorem dX10_values_202 : decode cX10_values 202 = .ok (.iastore, 1) := by decide +kernel
theorem dX10_values_203 : decode cX10_values 203 = .ok (.aload_n 0, 1) := by decide +kernel
theorem dX10_values_204 : decode cX10_values 204 = .ok (.getfield 111, 3) := by decide +kernel
theorem dX10_values_207 : decode cX10_values 207 = .ok (.iconst 3, 1) := by decide +kernel
theorem dX10_values_208 : decode cX10_values 208 = .ok (.dup2, 1) := by decide +kernel
theorem dX10_values_209 : decode cX10_values 209 = .ok (.iaload, 1) := by decide +kernel
theorem dX10_values_210 : decode cX10_values 210 = .ok (.aload_n 0, 1) := by decide +kernel
theorem dX10_values_211 : decode cX10_values 211 = .ok (.getfield 52, 3) := by decide +kernel
theorem dX10_values_214 : decode cX10_values 214 = .ok (.iload 4, 2) := by decide +kernel
theorem dX10_values_216 : decode cX10_values 216 = .ok (.iaload, 1) := by decide +kernel
theorem dX10_values_217 : decode cX10_values 217 = .ok (.iadd, 1) := by decide +kernel
theorem dX10_values_218 : decode cX10_values 218 = .ok (.iastore, 1) := by decide +kernel
theorem dX10_values_219 : decode cX10_values 219 = .ok (.iinc 4 1, 3) := by decide +kernel
theorem dX10_values_222 : decode cX10_values 222 = .ok (.goto (-80), 3) := by decide +kernel
theorem dX10_values_225 : decode cX10_values 225 = .ok (.iconst (-1), 1) := by decide +kernel
theorem dX10_values_226 : decode cX10_values 226 = .ok (.istore 4, 2) := by decide +kernel
theorem dX10_values_228 : decode cX10_values 228 = .ok (.iconst 0, 1) := by decide +kernel
theorem dX10_values_229 : decode cX10_values 229 = .ok (.istore 5, 2) := by decide +kernel
theorem dX10_values_231 : decode cX10_values 231 = .ok (.iload 5, 2) := by decide +kernel
theorem dX10_values_233 : decode cX10_values 233 = .ok (.aload_n 0, 1) := by decide +kernel
theorem dX10_values_234 : decode cX10_values 234 = .ok (.getfield 161, 3) := by decide +kernel
theorem dX10_values_237 : decode cX10_values 237 = .ok (.if_icmp .ge 71, 3) := by decide +kernel
theorem dX10_values_240 : decode cX10_values 240 = .ok (.aload_n 0, 1) := by decide +kernel
theorem dX10_values_241 : decode cX10_values 241 = .ok (.getfield 74, 3) := by decide +kernel
theorem dX10_values_244 : decode cX10_values 244 = .ok (.iload 5, 2) := by decide +kernel
theorem dX10_values_246 : decode cX10_values 246 = .ok (.iaload, 1) := by decide +kernel
theorem dX10_values_247 : decode cX10_values 247 = .ok (.iload_n 1, 1) := by decide +kernel
theorem dX10_values_248 : decode cX10_values 248 = .ok (.if_icmp .ne 54, 3) := by decide +kernel
theorem dX10_values_251 : decode cX10_values 251 = .ok (.aload_n 0, 1) := by decide +kernel
theorem dX10_values_252 : decode cX10_values 252 = .ok (.getfield 77, 3) := by decide +kernel
theorem dX10_values_255 : decode cX10_values 255 = .ok (.iload 5, 2) := by decide +kernel
theorem dX10_values_257 : decode cX10_values 257 = .ok (.iaload, 1) := by decide +kernel
theorem dX10_values_258 : decode cX10_values 258 = .ok (.iconst (-1), 1) := by decide +kernel
theorem dX10_values_259 : decode cX10_values 259 = .ok (.if_icmp .eq 43, 3) := by decide +kernel
theorem dX10_values_262 : decode cX10_values 262 = .ok (.aload_n 0, 1) := by decide +kernel
theorem dX10_values_263 : decode cX10_values 263 = .ok (.getfield 83, 3) := by decide +kernel
theorem dX10_values_266 : decode cX10_values 266 = .ok (.iload 5, 2) := by decide +kernel
theorem dX10_values_268 : decode cX10_values 268 = .ok (.iaload, 1) := by decide +kernel
theorem dX10_values_269 : decode cX10_values 269 = .ok (.iconst (-1), 1) := by decide +kernel
theorem dX10_values_270 : decode cX10_values 270 = .ok (.if_icmp .ne 32, 3) := by decide +kernel
theorem dX10_values_273 : decode cX10_values 273 = .ok (.aload_n 0, 1) := by decide +kernel
theorem dX10_values_274 : decode cX10_values 274 = .ok (.getfield 77, 3) := by decide +kernel
theorem dX10_values_277 : decode cX10_values 277 = .ok (.iload 5, 2) := by decide +kernel
theorem dX10_values_279 : decode cX10_values 279 = .ok (.iaload, 1) := by decide +kernel
theorem dX10_values_280 : decode cX10_values 280 = .ok (.iload_n 2, 1) := by decide +kernel
theorem dX10_values_281 : decode cX10_values 281 = .ok (.if_icmp .gt 21, 3) := by decide +kernel
theorem dX10_values_284 : decode cX10_values 284 = .ok (.aload_n 0, 1) := by decide +kernel
theorem dX10_values_285 : decode cX10_values 285 = .ok (.getfield 77, 3) := by decide +kernel
theorem dX10_values_288 : decode cX10_values 288 = .ok (.iload 5, 2) := by decide +kernel
theorem dX10_values_290 : decode cX10_values 290 = .ok (.iaload, 1) := by decide +kernel
theorem dX10_values_291 : decode cX10_values 291 = .ok (.iload_n 3, 1) := by decide +kernel
theorem dX10_values_292 : decode cX10_values 292 = .ok (.if_icmp .le 6, 3) := by decide +kernel
theorem dX10_values_295 : decode cX10_values 295 = .ok (.goto 7, 3) := by decide +kernel
theorem dX10_values_298 : decode cX10_values 298 = .ok (.iload 5, 2) := by decide +kernel
theorem dX10_values_300 : decode cX10_values 300 = .ok (.istore 4, 2) := by decide +kernel
theorem dX10_values_302 : decode cX10_values 302 = .ok (.iinc 5 1, 3) := by decide +kernel
theorem dX10_values_305 : decode cX10_values 305 = .ok (.goto (-74), 3) := by decide +kernel
theorem dX10_values_308 : decode cX10_values 308 = .ok (.aload_n 0, 1) := by decide +kernel
theorem dX10_values_309 : decode cX10_values 309 = .ok (.getfield 111, 3) := by decide +kernel
theorem dX10_values_312 : decode cX10_values 312 = .ok (.iconst 4, 1) := by decide +kernel
theorem dX10_values_313 : decode cX10_values 313 = .ok (.iload 4, 2) := by decide +kernel
theorem dX10_values_315 : decode cX10_values 315 = .ok (.iconst (-1), 1) := by decide +kernel
theorem dX10_values_316 : decode cX10_values 316 = .ok (.if_icmp .ne 7, 3) := by decide +kernel
theorem dX10_values_319 : decode cX10_values 319 = .ok (.iconst 0, 1) := by decide +kernel
theorem dX10_values_320 : decode cX10_values 320 = .ok (.goto 10, 3) := by decide +kernel
theorem dX10_values_323 : decode cX10_values 323 = .ok (.aload_n 0, 1) := by decide +kernel
theorem dX10_values_324 : decode cX10_values 324 = .ok (.getfield 80, 3) := by decide +kernel
theorem dX10_values_327 : decode cX10_values 327 = .ok (.iload 4, 2) := by decide +kernel
theorem dX10_values_329 : decode cX10_values 329 = .ok (.iaload, 1) := by decide +kernel
theorem dX10_values_330 : decode cX10_values 330 = .ok (.iastore, 1) := by decide +kernel
theorem dX10_values_331 : decode cX10_values 331 = .ok (.aload_n 0, 1) := by decide +kernel
theorem dX10_values_332 : decode cX10_values 332 = .ok (.getfield 111, 3) := by decide +kernel
theorem dX10_values_335 : decode cX10_values 335 = .ok (.iconst 5, 1) := by decide +kernel
theorem dX10_values_336 : decode cX10_values 336 = .ok (.aload_n 0, 1) := by decide +kernel
theorem dX10_values_337 : decode cX10_values 337 = .ok (.aload_n 0, 1) := by decide +kernel
theorem dX10_values_338 : decode cX10_values 338 = .ok (.getfield 9, 3) := by decide +kernel
theorem dX10_values_341 : decode cX10_values 341 = .ok (.iload_n 1, 1) := by decide +kernel
theorem dX10_values_342 : decode cX10_values 342 = .ok (.iaload, 1) := by decide +kernel
theorem dX10_values_343 : decode cX10_values 343 = .ok (.iload_n 2, 1) := by decide +kernel
theorem dX10_values_344 : decode cX10_values 344 = .ok (.iload_n 3, 1) := by decide +kernel
theorem dX10_values_345 : decode cX10_values 345 = .ok (.invokevirtual 164, 3) := by decide +kernel
theorem dX10_values_348 : decode cX10_values 348 = .ok (.ifCond .ne 18, 3) := by decide +kernel
theorem dX10_values_351 : decode cX10_values 351 = .ok (.aload_n 0, 1) := by decide +kernel
theorem dX10_values_352 : decode cX10_values 352 = .ok (.aload_n 0, 1) := by decide +kernel
theorem dX10_values_353 : decode cX10_values 353 = .ok (.getfield 13, 3) := by decide +kernel
theorem dX10_values_356 : decode cX10_values 356 = .ok (.iload_n 1, 1) := by decide +kernel
theorem dX10_values_357 : decode cX10_values 357 = .ok (.iaload, 1) := by decide +kernel
theorem dX10_values_358 : decode cX10_values 358 = .ok (.iload_n 2, 1) := by decide +kernel
theorem dX10_values_359 : decode cX10_values 359 = .ok (.iload_n 3, 1) := by decide +kernel
theorem dX10_values_360 : decode cX10_values 360 = .ok (.invokevirtual 164, 3) := by decide +kernel
theorem dX10_values_363 : decode cX10_values 363 = .ok (.ifCond .eq 7, 3) := by decide +kernel
theorem dX10_values_366 : decode cX10_values 366 = .ok (.iconst 1, 1) := by decide +kernel
theorem dX10_values_367 : decode cX10_values 367 = .ok (.goto 4, 3) := by decide +kernel
theorem dX10_values_370 : decode cX10_values 370 = .ok (.iconst 0, 1) := by decide +kernel
theorem dX10_values_371 : decode cX10_values 371 = .ok (.iastore, 1) := by decide +kernel
theorem dX10_values_372 : decode cX10_values 372 = .ok (.return_, 1) := by decide +kernel
theorem dX10_wasMaster_0 : decode cX10_wasMaster 0 = .ok (.iload_n 1, 1) := by decide +kernel
theorem dX10_wasMaster_1 : decode cX10_wasMaster 1 = .ok (.iconst (-1), 1) := by decide +kernel
theorem dX10_wasMaster_2 : decode cX10_wasMaster 2 = .ok (.if_icmp .eq 37, 3) := by decide +kernel
theorem dX10_wasMaster_5 : decode cX10_wasMaster 5 = .ok (.aload_n 0, 1) := by decide +kernel
theorem dX10_wasMaster_6 : decode cX10_wasMaster 6 = .ok (.getfield 16, 3) := by decide +kernel
theorem dX10_wasMaster_9 : decode cX10_wasMaster 9 = .ok (.iload_n 1, 1) := by decide +kernel
theorem dX10_wasMaster_10 : decode cX10_wasMaster 10 = .ok (.iaload, 1) := by decide +kernel
theorem dX10_wasMaster_11 : decode cX10_wasMaster 11 = .ok (.iconst (-1), 1) := by decide +kernel
theorem dX10_wasMaster_12 : decode cX10_wasMaster 12 = .ok (.if_icmp .eq 27, 3) := by decide +kernel
theorem dX10_wasMaster_15 : decode cX10_wasMaster 15 = .ok (.aload_n 0, 1) := by decide +kernel
theorem dX10_wasMaster_16 : decode cX10_wasMaster 16 = .ok (.getfield 16, 3) := by decide +kernel
theorem dX10_wasMaster_19 : decode cX10_wasMaster 19 = .ok (.iload_n 1, 1) := by decide +kernel
theorem dX10_wasMaster_20 : decode cX10_wasMaster 20 = .ok (.iaload, 1) := by decide +kernel
theorem dX10_wasMaster_21 : decode cX10_wasMaster 21 = .ok (.iload_n 2, 1) := by decide +kernel
theorem dX10_wasMaster_22 : decode cX10_wasMaster 22 = .ok (.if_icmp .gt 17, 3) := by decide +kernel
theorem dX10_wasMaster_25 : decode cX10_wasMaster 25 = .ok (.aload_n 0, 1) := by decide +kernel
theorem dX10_wasMaster_26 : decode cX10_wasMaster 26 = .ok (.getfield 16, 3) := by decide +kernel
theorem dX10_wasMaster_29 : decode cX10_wasMaster 29 = .ok (.iload_n 1, 1) := by decide +kernel
theorem dX10_wasMaster_30 : decode cX10_wasMaster 30 = .ok (.iaload, 1) := by decide +kernel
theorem dX10_wasMaster_31 : decode cX10_wasMaster 31 = .ok (.iload_n 3, 1) := by decide +kernel
theorem dX10_wasMaster_32 : decode cX10_wasMaster 32 = .ok (.if_icmp .gt 7, 3) := by decide +kernel
theorem dX10_wasMaster_35 : decode cX10_wasMaster 35 = .ok (.iconst 1, 1) := by decide +kernel
theorem dX10_wasMaster_36 : decode cX10_wasMaster 36 = .ok (.goto 4, 3) := by decide +kernel
theorem dX10_wasMaster_39 : decode cX10_wasMaster 39 = .ok (.iconst 0, 1) := by decide +kernel
theorem dX10_wasMaster_40 : decode cX10_wasMaster 40 = .ok (.ireturn, 1) := by decide +kernel
theorem dX10_isAsked_0 : decode cX10_isAsked 0 = .ok (.aload_n 0, 1) := by decide +kernel
theorem dX10_isAsked_1 : decode cX10_isAsked 1 = .ok (.iconst 0, 1) := by decide +kernel
theorem dX10_isAsked_2 : decode cX10_isAsked 2 = .ok (.putfield 117, 3) := by decide +kernel
theorem dX10_isAsked_5 : decode cX10_isAsked 5 = .ok (.aload_n 0, 1) := by decide +kernel
theorem dX10_isAsked_6 : decode cX10_isAsked 6 = .ok (.iload_n 1, 1) := by decide +kernel
theorem dX10_isAsked_7 : decode cX10_isAsked 7 = .ok (.invokevirtual 124, 3) := by decide +kernel
theorem dX10_isAsked_10 : decode cX10_isAsked 10 = .ok (.ifCond .eq 30, 3) := by decide +kernel
theorem dX10_isAsked_13 : decode cX10_isAsked 13 = .ok (.iload_n 2, 1) := by decide +kernel
theorem dX10_isAsked_14 : decode cX10_isAsked 14 = .ok (.iconst 0, 1) := by decide +kernel
theorem dX10_isAsked_15 : decode cX10_isAsked 15 = .ok (.sipush 20000, 3) := by decide +kernel
theorem dX10_isAsked_18 : decode cX10_isAsked 18 = .ok (.invokestatic 137, 3) := by decide +kernel
theorem dX10_isAsked_21 : decode cX10_isAsked 21 = .ok (.ifCond .eq 19, 3) := by decide +kernel
theorem dX10_isAsked_24 : decode cX10_isAsked 24 = .ok (.iload_n 3, 1) := by decide +kernel
theorem dX10_isAsked_25 : decode cX10_isAsked 25 = .ok (.iconst 0, 1) := by decide +kernel
theorem dX10_isAsked_26 : decode cX10_isAsked 26 = .ok (.aload_n 0, 1) := by decide +kernel
theorem dX10_isAsked_27 : decode cX10_isAsked 27 = .ok (.getfield 134, 3) := by decide +kernel
theorem dX10_isAsked_30 : decode cX10_isAsked 30 = .ok (.invokestatic 137, 3) := by decide +kernel
theorem dX10_isAsked_33 : decode cX10_isAsked 33 = .ok (.ifCond .eq 7, 3) := by decide +kernel
theorem dX10_isAsked_36 : decode cX10_isAsked 36 = .ok (.iconst 1, 1) := by decide +kernel
theorem dX10_isAsked_37 : decode cX10_isAsked 37 = .ok (.goto 4, 3) := by decide +kernel
theorem dX10_isAsked_40 : decode cX10_isAsked 40 = .ok (.iconst 0, 1) := by decide +kernel
theorem dX10_isAsked_41 : decode cX10_isAsked 41 = .ok (.ireturn, 1) := by decide +kernel
theorem dX10_value_0 : decode cX10_value 0 = .ok (.aload_n 0, 1) := by decide +kernel
theorem dX10_value_1 : decode cX10_value 1 = .ok (.iload_n 1, 1) := by decide +kernel
theorem dX10_value_2 : decode cX10_value 2 = .ok (.iload_n 3, 1) := by decide +kernel
theorem dX10_value_3 : decode cX10_value 3 = .ok (.iload 4, 2) := by decide +kernel
theorem dX10_value_5 : decode cX10_value 5 = .ok (.invokevirtual 167, 3) := by decide +kernel
theorem dX10_value_8 : decode cX10_value 8 = .ok (.ifCond .eq 13, 3) := by decide +kernel
theorem dX10_value_11 : decode cX10_value 11 = .ok (.iload_n 2, 1) := by decide +kernel
theorem dX10_value_12 : decode cX10_value 12 = .ok (.iconst 0, 1) := by decide +kernel
theorem dX10_value_13 : decode cX10_value 13 = .ok (.bipush 6, 2) := by decide +kernel
theorem dX10_value_15 : decode cX10_value 15 = .ok (.invokestatic 137, 3) := by decide +kernel
theorem dX10_value_18 : decode cX10_value 18 = .ok (.ifCond .ne 5, 3) := by decide +kernel
theorem dX10_value_21 : decode cX10_value 21 = .ok (.iconst (-1), 1) := by decide +kernel
theorem dX10_value_22 : decode cX10_value 22 = .ok (.ireturn, 1) := by decide +kernel
theorem dX10_value_23 : decode cX10_value 23 = .ok (.aload_n 0, 1) := by decide +kernel
theorem dX10_value_24 : decode cX10_value 24 = .ok (.iload_n 1, 1) := by decide +kernel
theorem dX10_value_25 : decode cX10_value 25 = .ok (.iload_n 3, 1) := by decide +kernel
theorem dX10_value_26 : decode cX10_value 26 = .ok (.iload 4, 2) := by decide +kernel
theorem dX10_value_28 : decode cX10_value 28 = .ok (.invokevirtual 170, 3) := by decide +kernel
theorem dX10_value_31 : decode cX10_value 31 = .ok (.aload_n 0, 1) := by decide +kernel
theorem dX10_value_32 : decode cX10_value 32 = .ok (.getfield 111, 3) := by decide +kernel
theorem dX10_value_35 : decode cX10_value 35 = .ok (.iload_n 2, 1) := by decide +kernel
theorem dX10_value_36 : decode cX10_value 36 = .ok (.iaload, 1) := by decide +kernel
theorem dX10_value_37 : decode cX10_value 37 = .ok (.ireturn, 1) := by decide +kernel
theorem dX10_look_0 : decode cX10_look 0 = .ok (.aload_n 0, 1) := by decide +kernel
theorem dX10_look_1 : decode cX10_look 1 = .ok (.getfield 173, 3) := by decide +kernel
theorem dX10_look_4 : decode cX10_look 4 = .ok (.aload_n 0, 1) := by decide +kernel
theorem dX10_look_5 : decode cX10_look 5 = .ok (.getfield 176, 3) := by decide +kernel
theorem dX10_look_8 : decode cX10_look 8 = .ok (.if_icmp .ge 35, 3) := by decide +kernel
theorem dX10_look_11 : decode cX10_look 11 = .ok (.aload_n 0, 1) := by decide +kernel
theorem dX10_look_12 : decode cX10_look 12 = .ok (.getfield 114, 3) := by decide +kernel
theorem dX10_look_15 : decode cX10_look 15 = .ok (.aload_n 0, 1) := by decide +kernel
theorem dX10_look_16 : decode cX10_look 16 = .ok (.getfield 179, 3) := by decide +kernel
theorem dX10_look_19 : decode cX10_look 19 = .ok (.aload_n 0, 1) := by decide +kernel
theorem dX10_look_20 : decode cX10_look 20 = .ok (.getfield 173, 3) := by decide +kernel
theorem dX10_look_23 : decode cX10_look 23 = .ok (.iadd, 1) := by decide +kernel
theorem dX10_look_24 : decode cX10_look 24 = .ok (.baload, 1) := by decide +kernel
theorem dX10_look_25 : decode cX10_look 25 = .ok (.bipush 32, 2) := by decide +kernel
theorem dX10_look_27 : decode cX10_look 27 = .ok (.if_icmp .ne 16, 3) := by decide +kernel
theorem dX10_look_30 : decode cX10_look 30 = .ok (.aload_n 0, 1) := by decide +kernel
theorem dX10_look_31 : decode cX10_look 31 = .ok (.dup, 1) := by decide +kernel
theorem dX10_look_32 : decode cX10_look 32 = .ok (.getfield 173, 3) := by decide +kernel
theorem dX10_look_35 : decode cX10_look 35 = .ok (.iconst 1, 1) := by decide +kernel
theorem dX10_look_36 : decode cX10_look 36 = .ok (.iadd, 1) := by decide +kernel
theorem dX10_look_37 : decode cX10_look 37 = .ok (.putfield 173, 3) := by decide +kernel
theorem dX10_look_40 : decode cX10_look 40 = .ok (.goto (-40), 3) := by decide +kernel
theorem dX10_look_43 : decode cX10_look 43 = .ok (.aload_n 0, 1) := by decide +kernel
theorem dX10_look_44 : decode cX10_look 44 = .ok (.getfield 173, 3) := by decide +kernel
theorem dX10_look_47 : decode cX10_look 47 = .ok (.aload_n 0, 1) := by decide +kernel
theorem dX10_look_48 : decode cX10_look 48 = .ok (.getfield 176, 3) := by decide +kernel
theorem dX10_look_51 : decode cX10_look 51 = .ok (.if_icmp .ge 24, 3) := by decide +kernel
theorem dX10_look_54 : decode cX10_look 54 = .ok (.aload_n 0, 1) := by decide +kernel
theorem dX10_look_55 : decode cX10_look 55 = .ok (.getfield 114, 3) := by decide +kernel
theorem dX10_look_58 : decode cX10_look 58 = .ok (.aload_n 0, 1) := by decide +kernel
theorem dX10_look_59 : decode cX10_look 59 = .ok (.getfield 179, 3) := by decide +kernel
theorem dX10_look_62 : decode cX10_look 62 = .ok (.aload_n 0, 1) := by decide +kernel
theorem dX10_look_63 : decode cX10_look 63 = .ok (.getfield 173, 3) := by decide +kernel
theorem dX10_look_66 : decode cX10_look 66 = .ok (.iadd, 1) := by decide +kernel
theorem dX10_look_67 : decode cX10_look 67 = .ok (.baload, 1) := by decide +kernel
theorem dX10_look_68 : decode cX10_look 68 = .ok (.sipush 255, 3) := by decide +kernel
theorem dX10_look_71 : decode cX10_look 71 = .ok (.iand, 1) := by decide +kernel
theorem dX10_look_72 : decode cX10_look 72 = .ok (.goto 4, 3) := by decide +kernel
theorem dX10_look_75 : decode cX10_look 75 = .ok (.iconst (-1), 1) := by decide +kernel
theorem dX10_look_76 : decode cX10_look 76 = .ok (.ireturn, 1) := by decide +kernel
theorem dX10_wrong_0 : decode cX10_wrong 0 = .ok (.aload_n 0, 1) := by decide +kernel
theorem dX10_wrong_1 : decode cX10_wrong 1 = .ok (.getfield 182, 3) := by decide +kernel
theorem dX10_wrong_4 : decode cX10_wrong 4 = .ok (.iconst (-1), 1) := by decide +kernel
theorem dX10_wrong_5 : decode cX10_wrong 5 = .ok (.if_icmp .ne 11, 3) := by decide +kernel
theorem dX10_wrong_8 : decode cX10_wrong 8 = .ok (.aload_n 0, 1) := by decide +kernel
theorem dX10_wrong_9 : decode cX10_wrong 9 = .ok (.aload_n 0, 1) := by decide +kernel
theorem dX10_wrong_10 : decode cX10_wrong 10 = .ok (.getfield 173, 3) := by decide +kernel
theorem dX10_wrong_13 : decode cX10_wrong 13 = .ok (.putfield 182, 3) := by decide +kernel
theorem dX10_wrong_16 : decode cX10_wrong 16 = .ok (.return_, 1) := by decide +kernel
theorem dX10_unit_0 : decode cX10_unit 0 = .ok (.aload_n 0, 1) := by decide +kernel
theorem dX10_unit_1 : decode cX10_unit 1 = .ok (.invokevirtual 185, 3) := by decide +kernel
theorem dX10_unit_4 : decode cX10_unit 4 = .ok (.istore_n 1, 1) := by decide +kernel
theorem dX10_unit_5 : decode cX10_unit 5 = .ok (.iload_n 1, 1) := by decide +kernel
theorem dX10_unit_6 : decode cX10_unit 6 = .ok (.bipush 40, 2) := by decide +kernel
theorem dX10_unit_8 : decode cX10_unit 8 = .ok (.if_icmp .ne 90, 3) := by decide +kernel
theorem dX10_unit_11 : decode cX10_unit 11 = .ok (.aload_n 0, 1) := by decide +kernel
theorem dX10_unit_12 : decode cX10_unit 12 = .ok (.getfield 189, 3) := by decide +kernel
theorem dX10_unit_15 : decode cX10_unit 15 = .ok (.bipush 8, 2) := by decide +kernel
theorem dX10_unit_17 : decode cX10_unit 17 = .ok (.if_icmp .ne 9, 3) := by decide +kernel
theorem dX10_unit_20 : decode cX10_unit 20 = .ok (.aload_n 0, 1) := by decide +kernel
theorem dX10_unit_21 : decode cX10_unit 21 = .ok (.invokevirtual 192, 3) := by decide +kernel
theorem dX10_unit_24 : decode cX10_unit 24 = .ok (.iconst 0, 1) := by decide +kernel
theorem dX10_unit_25 : decode cX10_unit 25 = .ok (.ireturn, 1) := by decide +kernel
theorem dX10_unit_26 : decode cX10_unit 26 = .ok (.aload_n 0, 1) := by decide +kernel
theorem dX10_unit_27 : decode cX10_unit 27 = .ok (.dup, 1) := by decide +kernel
theorem dX10_unit_28 : decode cX10_unit 28 = .ok (.getfield 189, 3) := by decide +kernel
theorem dX10_unit_31 : decode cX10_unit 31 = .ok (.iconst 1, 1) := by decide +kernel
theorem dX10_unit_32 : decode cX10_unit 32 = .ok (.iadd, 1) := by decide +kernel
theorem dX10_unit_33 : decode cX10_unit 33 = .ok (.putfield 189, 3) := by decide +kernel
theorem dX10_unit_36 : decode cX10_unit 36 = .ok (.aload_n 0, 1) := by decide +kernel
theorem dX10_unit_37 : decode cX10_unit 37 = .ok (.dup, 1) := by decide +kernel
theorem dX10_unit_38 : decode cX10_unit 38 = .ok (.getfield 173, 3) := by decide +kernel
theorem dX10_unit_41 : decode cX10_unit 41 = .ok (.iconst 1, 1) := by decide +kernel
theorem dX10_unit_42 : decode cX10_unit 42 = .ok (.iadd, 1) := by decide +kernel
theorem dX10_unit_43 : decode cX10_unit 43 = .ok (.putfield 173, 3) := by decide +kernel
theorem dX10_unit_46 : decode cX10_unit 46 = .ok (.aload_n 0, 1) := by decide +kernel
theorem dX10_unit_47 : decode cX10_unit 47 = .ok (.invokevirtual 195, 3) := by decide +kernel
theorem dX10_unit_50 : decode cX10_unit 50 = .ok (.istore_n 2, 1) := by decide +kernel
theorem dX10_unit_51 : decode cX10_unit 51 = .ok (.aload_n 0, 1) := by decide +kernel
theorem dX10_unit_52 : decode cX10_unit 52 = .ok (.getfield 182, 3) := by decide +kernel
theorem dX10_unit_55 : decode cX10_unit 55 = .ok (.iconst (-1), 1) := by decide +kernel
theorem dX10_unit_56 : decode cX10_unit 56 = .ok (.if_icmp .eq 5, 3) := by decide +kernel
theorem dX10_unit_59 : decode cX10_unit 59 = .ok (.iconst 0, 1) := by decide +kernel
theorem dX10_unit_60 : decode cX10_unit 60 = .ok (.ireturn, 1) := by decide +kernel
theorem dX10_unit_61 : decode cX10_unit 61 = .ok (.aload_n 0, 1) := by decide +kernel
theorem dX10_unit_62 : decode cX10_unit 62 = .ok (.invokevirtual 185, 3) := by decide +kernel
theorem dX10_unit_65 : decode cX10_unit 65 = .ok (.bipush 41, 2) := by decide +kernel
theorem dX10_unit_67 : decode cX10_unit 67 = .ok (.if_icmp .eq 9, 3) := by decide +kernel
theorem dX10_unit_70 : decode cX10_unit 70 = .ok (.aload_n 0, 1) := by decide +kernel
theorem dX10_unit_71 : decode cX10_unit 71 = .ok (.invokevirtual 192, 3) := by decide +kernel
theorem dX10_unit_74 : decode cX10_unit 74 = .ok (.iconst 0, 1) := by decide +kernel
theorem dX10_unit_75 : decode cX10_unit 75 = .ok (.ireturn, 1) := by decide +kernel
theorem dX10_unit_76 : decode cX10_unit 76 = .ok (.aload_n 0, 1) := by decide +kernel
theorem dX10_unit_77 : decode cX10_unit 77 = .ok (.dup, 1) := by decide +kernel
theorem dX10_unit_78 : decode cX10_unit 78 = .ok (.getfield 173, 3) := by decide +kernel
theorem dX10_unit_81 : decode cX10_unit 81 = .ok (.iconst 1, 1) := by decide +kernel
theorem dX10_unit_82 : decode cX10_unit 82 = .ok (.iadd, 1) := by decide +kernel
theorem dX10_unit_83 : decode cX10_unit 83 = .ok (.putfield 173, 3) := by decide +kernel
theorem dX10_unit_86 : decode cX10_unit 86 = .ok (.aload_n 0, 1) := by decide +kernel
theorem dX10_unit_87 : decode cX10_unit 87 = .ok (.dup, 1) := by decide +kernel
theorem dX10_unit_88 : decode cX10_unit 88 = .ok (.getfield 189, 3) := by decide +kernel
theorem dX10_unit_91 : decode cX10_unit 91 = .ok (.iconst 1, 1) := by decide +kernel
theorem dX10_unit_92 : decode cX10_unit 92 = .ok (.isub, 1) := by decide +kernel
theorem dX10_unit_93 : decode cX10_unit 93 = .ok (.putfield 189, 3) := by decide +kernel
theorem dX10_unit_96 : decode cX10_unit 96 = .ok (.iload_n 2, 1) := by decide +kernel
theorem dX10_unit_97 : decode cX10_unit 97 = .ok (.ireturn, 1) := by decide +kernel
theorem dX10_unit_98 : decode cX10_unit 98 = .ok (.iload_n 1, 1) := by decide +kernel
theorem dX10_unit_99 : decode cX10_unit 99 = .ok (.bipush 100, 2) := by decide +kernel
theorem dX10_unit_101 : decode cX10_unit 101 = .ok (.if_icmp .ne 12, 3) := by decide +kernel
theorem dX10_unit_104 : decode cX10_unit 104 = .ok (.aload_n 0, 1) := by decide +kernel
theorem dX10_unit_105 : decode cX10_unit 105 = .ok (.getfield 111, 3) := by decide +kernel
theorem dX10_unit_108 : decode cX10_unit 108 = .ok (.iconst 0, 1) := by decide +kernel
theorem dX10_unit_109 : decode cX10_unit 109 = .ok (.iaload, 1) := by decide +kernel
theorem dX10_unit_110 : decode cX10_unit 110 = .ok (.goto 98, 3) := by decide +kernel
theorem dX10_unit_113 : decode cX10_unit 113 = .ok (.iload_n 1, 1) := by decide +kernel
theorem dX10_unit_114 : decode cX10_unit 114 = .ok (.bipush 121, 2) := by decide +kernel
theorem dX10_unit_116 : decode cX10_unit 116 = .ok (.if_icmp .ne 16, 3) := by decide +kernel
theorem dX10_unit_119 : decode cX10_unit 119 = .ok (.aload_n 0, 1) := by decide +kernel
theorem dX10_unit_120 : decode cX10_unit 120 = .ok (.getfield 111, 3) := by decide +kernel
theorem dX10_unit_123 : decode cX10_unit 123 = .ok (.iconst 0, 1) := by decide +kernel
theorem dX10_unit_124 : decode cX10_unit 124 = .ok (.iaload, 1) := by decide +kernel
theorem dX10_unit_125 : decode cX10_unit 125 = .ok (.sipush 360, 3) := by decide +kernel
theorem dX10_unit_128 : decode cX10_unit 128 = .ok (.idiv, 1) := by decide +kernel
theorem dX10_unit_129 : decode cX10_unit 129 = .ok (.goto 79, 3) := by decide +kernel
theorem dX10_unit_132 : decode cX10_unit 132 = .ok (.iload_n 1, 1) := by decide +kernel
theorem dX10_unit_133 : decode cX10_unit 133 = .ok (.bipush 119, 2) := by decide +kernel
theorem dX10_unit_135 : decode cX10_unit 135 = .ok (.if_icmp .ne 12, 3) := by decide +kernel
theorem dX10_unit_138 : decode cX10_unit 138 = .ok (.aload_n 0, 1) := by decide +kernel
theorem dX10_unit_139 : decode cX10_unit 139 = .ok (.getfield 111, 3) := by decide +kernel
theorem dX10_unit_142 : decode cX10_unit 142 = .ok (.iconst 1, 1) := by decide +kernel
theorem dX10_unit_143 : decode cX10_unit 143 = .ok (.iaload, 1) := by decide +kernel
theorem dX10_unit_144 : decode cX10_unit 144 = .ok (.goto 64, 3) := by decide +kernel
theorem dX10_unit_147 : decode cX10_unit 147 = .ok (.iload_n 1, 1) := by decide +kernel
theorem dX10_unit_148 : decode cX10_unit 148 = .ok (.bipush 108, 2) := by decide +kernel
theorem dX10_unit_150 : decode cX10_unit 150 = .ok (.if_icmp .ne 12, 3) := by decide +kernel
theorem dX10_unit_153 : decode cX10_unit 153 = .ok (.aload_n 0, 1) := by decide +kernel
theorem dX10_unit_154 : decode cX10_unit 154 = .ok (.getfield 111, 3) := by decide +kernel
theorem dX10_unit_157 : decode cX10_unit 157 = .ok (.iconst 2, 1) := by decide +kernel
theorem dX10_unit_158 : decode cX10_unit 158 = .ok (.iaload, 1) := by decide +kernel
theorem dX10_unit_159 : decode cX10_unit 159 = .ok (.goto 49, 3) := by decide +kernel
theorem dX10_unit_162 : decode cX10_unit 162 = .ok (.iload_n 1, 1) := by decide +kernel
theorem dX10_unit_163 : decode cX10_unit 163 = .ok (.bipush 102, 2) := by decide +kernel
theorem dX10_unit_165 : decode cX10_unit 165 = .ok (.if_icmp .ne 12, 3) := by decide +kernel
theorem dX10_unit_168 : decode cX10_unit 168 = .ok (.aload_n 0, 1) := by decide +kernel
theorem dX10_unit_169 : decode cX10_unit 169 = .ok (.getfield 111, 3) := by decide +kernel
theorem dX10_unit_172 : decode cX10_unit 172 = .ok (.iconst 3, 1) := by decide +kernel
theorem dX10_unit_173 : decode cX10_unit 173 = .ok (.iaload, 1) := by decide +kernel
theorem dX10_unit_174 : decode cX10_unit 174 = .ok (.goto 34, 3) := by decide +kernel
theorem dX10_unit_177 : decode cX10_unit 177 = .ok (.iload_n 1, 1) := by decide +kernel
theorem dX10_unit_178 : decode cX10_unit 178 = .ok (.bipush 109, 2) := by decide +kernel
theorem dX10_unit_180 : decode cX10_unit 180 = .ok (.if_icmp .ne 12, 3) := by decide +kernel
theorem dX10_unit_183 : decode cX10_unit 183 = .ok (.aload_n 0, 1) := by decide +kernel
theorem dX10_unit_184 : decode cX10_unit 184 = .ok (.getfield 111, 3) := by decide +kernel
theorem dX10_unit_187 : decode cX10_unit 187 = .ok (.iconst 4, 1) := by decide +kernel
theorem dX10_unit_188 : decode cX10_unit 188 = .ok (.iaload, 1) := by decide +kernel
theorem dX10_unit_189 : decode cX10_unit 189 = .ok (.goto 19, 3) := by decide +kernel
theorem dX10_unit_192 : decode cX10_unit 192 = .ok (.iload_n 1, 1) := by decide +kernel
theorem dX10_unit_193 : decode cX10_unit 193 = .ok (.bipush 107, 2) := by decide +kernel
theorem dX10_unit_195 : decode cX10_unit 195 = .ok (.if_icmp .ne 12, 3) := by decide +kernel
theorem dX10_unit_198 : decode cX10_unit 198 = .ok (.aload_n 0, 1) := by decide +kernel
theorem dX10_unit_199 : decode cX10_unit 199 = .ok (.getfield 111, 3) := by decide +kernel
theorem dX10_unit_202 : decode cX10_unit 202 = .ok (.iconst 5, 1) := by decide +kernel
theorem dX10_unit_203 : decode cX10_unit 203 = .ok (.iaload, 1) := by decide +kernel
theorem dX10_unit_204 : decode cX10_unit 204 = .ok (.goto 4, 3) := by decide +kernel
theorem dX10_unit_207 : decode cX10_unit 207 = .ok (.iconst (-1), 1) := by decide +kernel
theorem dX10_unit_208 : decode cX10_unit 208 = .ok (.istore_n 2, 1) := by decide +kernel
theorem dX10_unit_209 : decode cX10_unit 209 = .ok (.iload_n 2, 1) := by decide +kernel
theorem dX10_unit_210 : decode cX10_unit 210 = .ok (.iconst (-1), 1) := by decide +kernel
theorem dX10_unit_211 : decode cX10_unit 211 = .ok (.if_icmp .ne 9, 3) := by decide +kernel
theorem dX10_unit_214 : decode cX10_unit 214 = .ok (.aload_n 0, 1) := by decide +kernel
theorem dX10_unit_215 : decode cX10_unit 215 = .ok (.invokevirtual 192, 3) := by decide +kernel
theorem dX10_unit_218 : decode cX10_unit 218 = .ok (.iconst 0, 1) := by decide +kernel
theorem dX10_unit_219 : decode cX10_unit 219 = .ok (.ireturn, 1) := by decide +kernel
theorem dX10_unit_220 : decode cX10_unit 220 = .ok (.aload_n 0, 1) := by decide +kernel
theorem dX10_unit_221 : decode cX10_unit 221 = .ok (.dup, 1) := by decide +kernel
theorem dX10_unit_222 : decode cX10_unit 222 = .ok (.getfield 173, 3) := by decide +kernel
theorem dX10_unit_225 : decode cX10_unit 225 = .ok (.iconst 1, 1) := by decide +kernel
theorem dX10_unit_226 : decode cX10_unit 226 = .ok (.iadd, 1) := by decide +kernel
theorem dX10_unit_227 : decode cX10_unit 227 = .ok (.putfield 173, 3) := by decide +kernel
theorem dX10_unit_230 : decode cX10_unit 230 = .ok (.aload_n 0, 1) := by decide +kernel
theorem dX10_unit_231 : decode cX10_unit 231 = .ok (.invokevirtual 185, 3) := by decide +kernel
theorem dX10_unit_234 : decode cX10_unit 234 = .ok (.istore_n 3, 1) := by decide +kernel
theorem dX10_unit_235 : decode cX10_unit 235 = .ok (.iload_n 3, 1) := by decide +kernel
theorem dX10_unit_236 : decode cX10_unit 236 = .ok (.bipush 60, 2) := by decide +kernel
theorem dX10_unit_238 : decode cX10_unit 238 = .ok (.if_icmp .eq 21, 3) := by decide +kernel
theorem dX10_unit_241 : decode cX10_unit 241 = .ok (.iload_n 3, 1) := by decide +kernel
theorem dX10_unit_242 : decode cX10_unit 242 = .ok (.bipush 62, 2) := by decide +kernel
theorem dX10_unit_244 : decode cX10_unit 244 = .ok (.if_icmp .eq 15, 3) := by decide +kernel
theorem dX10_unit_247 : decode cX10_unit 247 = .ok (.iload_n 3, 1) := by decide +kernel
theorem dX10_unit_248 : decode cX10_unit 248 = .ok (.bipush 61, 2) := by decide +kernel
theorem dX10_unit_250 : decode cX10_unit 250 = .ok (.if_icmp .eq 9, 3) := by decide +kernel
theorem dX10_unit_253 : decode cX10_unit 253 = .ok (.aload_n 0, 1) := by decide +kernel
theorem dX10_unit_254 : decode cX10_unit 254 = .ok (.invokevirtual 192, 3) := by decide +kernel
theorem dX10_unit_257 : decode cX10_unit 257 = .ok (.iconst 0, 1) := by decide +kernel
theorem dX10_unit_258 : decode cX10_unit 258 = .ok (.ireturn, 1) := by decide +kernel
theorem dX10_unit_259 : decode cX10_unit 259 = .ok (.aload_n 0, 1) := by decide +kernel
theorem dX10_unit_260 : decode cX10_unit 260 = .ok (.dup, 1) := by decide +kernel
theorem dX10_unit_261 : decode cX10_unit 261 = .ok (.getfield 173, 3) := by decide +kernel
theorem dX10_unit_264 : decode cX10_unit 264 = .ok (.iconst 1, 1) := by decide +kernel
theorem dX10_unit_265 : decode cX10_unit 265 = .ok (.iadd, 1) := by decide +kernel
theorem dX10_unit_266 : decode cX10_unit 266 = .ok (.putfield 173, 3) := by decide +kernel
theorem dX10_unit_269 : decode cX10_unit 269 = .ok (.aload_n 0, 1) := by decide +kernel
theorem dX10_unit_270 : decode cX10_unit 270 = .ok (.invokevirtual 185, 3) := by decide +kernel
theorem dX10_unit_273 : decode cX10_unit 273 = .ok (.istore 4, 2) := by decide +kernel
theorem dX10_unit_275 : decode cX10_unit 275 = .ok (.iload 4, 2) := by decide +kernel
theorem dX10_unit_277 : decode cX10_unit 277 = .ok (.bipush 48, 2) := by decide +kernel
theorem dX10_unit_279 : decode cX10_unit 279 = .ok (.if_icmp .lt 10, 3) := by decide +kernel
theorem dX10_unit_282 : decode cX10_unit 282 = .ok (.iload 4, 2) := by decide +kernel
theorem dX10_unit_284 : decode cX10_unit 284 = .ok (.bipush 57, 2) := by decide +kernel
theorem dX10_unit_286 : decode cX10_unit 286 = .ok (.if_icmp .le 9, 3) := by decide +kernel
theorem dX10_unit_289 : decode cX10_unit 289 = .ok (.aload_n 0, 1) := by decide +kernel
theorem dX10_unit_290 : decode cX10_unit 290 = .ok (.invokevirtual 192, 3) := by decide +kernel
theorem dX10_unit_293 : decode cX10_unit 293 = .ok (.iconst 0, 1) := by decide +kernel
theorem dX10_unit_294 : decode cX10_unit 294 = .ok (.ireturn, 1) := by decide +kernel
theorem dX10_unit_295 : decode cX10_unit 295 = .ok (.iconst 0, 1) := by decide +kernel
theorem dX10_unit_296 : decode cX10_unit 296 = .ok (.istore 5, 2) := by decide +kernel
theorem dX10_unit_298 : decode cX10_unit 298 = .ok (.iconst 0, 1) := by decide +kernel
theorem dX10_unit_299 : decode cX10_unit 299 = .ok (.istore 6, 2) := by decide +kernel
theorem dX10_unit_301 : decode cX10_unit 301 = .ok (.aload_n 0, 1) := by decide +kernel
theorem dX10_unit_302 : decode cX10_unit 302 = .ok (.getfield 173, 3) := by decide +kernel
theorem dX10_unit_305 : decode cX10_unit 305 = .ok (.aload_n 0, 1) := by decide +kernel
theorem dX10_unit_306 : decode cX10_unit 306 = .ok (.getfield 176, 3) := by decide +kernel
theorem dX10_unit_309 : decode cX10_unit 309 = .ok (.if_icmp .ge 94, 3) := by decide +kernel
theorem dX10_unit_312 : decode cX10_unit 312 = .ok (.aload_n 0, 1) := by decide +kernel
theorem dX10_unit_313 : decode cX10_unit 313 = .ok (.getfield 114, 3) := by decide +kernel
theorem dX10_unit_316 : decode cX10_unit 316 = .ok (.aload_n 0, 1) := by decide +kernel
theorem dX10_unit_317 : decode cX10_unit 317 = .ok (.getfield 179, 3) := by decide +kernel
theorem dX10_unit_320 : decode cX10_unit 320 = .ok (.aload_n 0, 1) := by decide +kernel
theorem dX10_unit_321 : decode cX10_unit 321 = .ok (.getfield 173, 3) := by decide +kernel
theorem dX10_unit_324 : decode cX10_unit 324 = .ok (.iadd, 1) := by decide +kernel
theorem dX10_unit_325 : decode cX10_unit 325 = .ok (.baload, 1) := by decide +kernel
theorem dX10_unit_326 : decode cX10_unit 326 = .ok (.bipush 48, 2) := by decide +kernel
theorem dX10_unit_328 : decode cX10_unit 328 = .ok (.if_icmp .lt 75, 3) := by decide +kernel
theorem dX10_unit_331 : decode cX10_unit 331 = .ok (.aload_n 0, 1) := by decide +kernel
theorem dX10_unit_332 : decode cX10_unit 332 = .ok (.getfield 114, 3) := by decide +kernel
theorem dX10_unit_335 : decode cX10_unit 335 = .ok (.aload_n 0, 1) := by decide +kernel
theorem dX10_unit_336 : decode cX10_unit 336 = .ok (.getfield 179, 3) := by decide +kernel
theorem dX10_unit_339 : decode cX10_unit 339 = .ok (.aload_n 0, 1) := by decide +kernel
theorem dX10_unit_340 : decode cX10_unit 340 = .ok (.getfield 173, 3) := by decide +kernel
theorem dX10_unit_343 : decode cX10_unit 343 = .ok (.iadd, 1) := by decide +kernel
theorem dX10_unit_344 : decode cX10_unit 344 = .ok (.baload, 1) := by decide +kernel
theorem dX10_unit_345 : decode cX10_unit 345 = .ok (.bipush 57, 2) := by decide +kernel
theorem dX10_unit_347 : decode cX10_unit 347 = .ok (.if_icmp .gt 56, 3) := by decide +kernel
theorem dX10_unit_350 : decode cX10_unit 350 = .ok (.iload 6, 2) := by decide +kernel
theorem dX10_unit_352 : decode cX10_unit 352 = .ok (.iconst 5, 1) := by decide +kernel
theorem dX10_unit_353 : decode cX10_unit 353 = .ok (.if_icmp .ne 9, 3) := by decide +kernel
theorem dX10_unit_356 : decode cX10_unit 356 = .ok (.aload_n 0, 1) := by decide +kernel
theorem dX10_unit_357 : decode cX10_unit 357 = .ok (.invokevirtual 192, 3) := by decide +kernel
theorem dX10_unit_360 : decode cX10_unit 360 = .ok (.iconst 0, 1) := by decide +kernel
theorem dX10_unit_361 : decode cX10_unit 361 = .ok (.ireturn, 1) := by decide +kernel
theorem dX10_unit_362 : decode cX10_unit 362 = .ok (.bipush 10, 2) := by decide +kernel
theorem dX10_unit_364 : decode cX10_unit 364 = .ok (.iload 5, 2) := by decide +kernel
theorem dX10_unit_366 : decode cX10_unit 366 = .ok (.imul, 1) := by decide +kernel
theorem dX10_unit_367 : decode cX10_unit 367 = .ok (.aload_n 0, 1) := by decide +kernel
theorem dX10_unit_368 : decode cX10_unit 368 = .ok (.getfield 114, 3) := by decide +kernel
theorem dX10_unit_371 : decode cX10_unit 371 = .ok (.aload_n 0, 1) := by decide +kernel
theorem dX10_unit_372 : decode cX10_unit 372 = .ok (.getfield 179, 3) := by decide +kernel
theorem dX10_unit_375 : decode cX10_unit 375 = .ok (.aload_n 0, 1) := by decide +kernel
theorem dX10_unit_376 : decode cX10_unit 376 = .ok (.getfield 173, 3) := by decide +kernel
theorem dX10_unit_379 : decode cX10_unit 379 = .ok (.iadd, 1) := by decide +kernel
theorem dX10_unit_380 : decode cX10_unit 380 = .ok (.baload, 1) := by decide +kernel
theorem dX10_unit_381 : decode cX10_unit 381 = .ok (.iadd, 1) := by decide +kernel
theorem dX10_unit_382 : decode cX10_unit 382 = .ok (.bipush 48, 2) := by decide +kernel
theorem dX10_unit_384 : decode cX10_unit 384 = .ok (.isub, 1) := by decide +kernel
theorem dX10_unit_385 : decode cX10_unit 385 = .ok (.istore 5, 2) := by decide +kernel
theorem dX10_unit_387 : decode cX10_unit 387 = .ok (.iinc 6 1, 3) := by decide +kernel
theorem dX10_unit_390 : decode cX10_unit 390 = .ok (.aload_n 0, 1) := by decide +kernel
theorem dX10_unit_391 : decode cX10_unit 391 = .ok (.dup, 1) := by decide +kernel
theorem dX10_unit_392 : decode cX10_unit 392 = .ok (.getfield 173, 3) := by decide +kernel
theorem dX10_unit_395 : decode cX10_unit 395 = .ok (.iconst 1, 1) := by decide +kernel
theorem dX10_unit_396 : decode cX10_unit 396 = .ok (.iadd, 1) := by decide +kernel
theorem dX10_unit_397 : decode cX10_unit 397 = .ok (.putfield 173, 3) := by decide +kernel
theorem dX10_unit_400 : decode cX10_unit 400 = .ok (.goto (-99), 3) := by decide +kernel
theorem dX10_unit_403 : decode cX10_unit 403 = .ok (.iload_n 3, 1) := by decide +kernel
theorem dX10_unit_404 : decode cX10_unit 404 = .ok (.bipush 60, 2) := by decide +kernel
theorem dX10_unit_406 : decode cX10_unit 406 = .ok (.if_icmp .ne 17, 3) := by decide +kernel
theorem dX10_unit_409 : decode cX10_unit 409 = .ok (.iload_n 2, 1) := by decide +kernel
theorem dX10_unit_410 : decode cX10_unit 410 = .ok (.iload 5, 2) := by decide +kernel
theorem dX10_unit_412 : decode cX10_unit 412 = .ok (.if_icmp .ge 7, 3) := by decide +kernel
theorem dX10_unit_415 : decode cX10_unit 415 = .ok (.iconst 1, 1) := by decide +kernel
theorem dX10_unit_416 : decode cX10_unit 416 = .ok (.goto 38, 3) := by decide +kernel
theorem dX10_unit_419 : decode cX10_unit 419 = .ok (.iconst 0, 1) := by decide +kernel
theorem dX10_unit_420 : decode cX10_unit 420 = .ok (.goto 34, 3) := by decide +kernel
theorem dX10_unit_423 : decode cX10_unit 423 = .ok (.iload_n 3, 1) := by decide +kernel
theorem dX10_unit_424 : decode cX10_unit 424 = .ok (.bipush 62, 2) := by decide +kernel
theorem dX10_unit_426 : decode cX10_unit 426 = .ok (.if_icmp .ne 17, 3) := by decide +kernel
theorem dX10_unit_429 : decode cX10_unit 429 = .ok (.iload_n 2, 1) := by decide +kernel
theorem dX10_unit_430 : decode cX10_unit 430 = .ok (.iload 5, 2) := by decide +kernel
theorem dX10_unit_432 : decode cX10_unit 432 = .ok (.if_icmp .le 7, 3) := by decide +kernel
theorem dX10_unit_435 : decode cX10_unit 435 = .ok (.iconst 1, 1) := by decide +kernel
theorem dX10_unit_436 : decode cX10_unit 436 = .ok (.goto 18, 3) := by decide +kernel
theorem dX10_unit_439 : decode cX10_unit 439 = .ok (.iconst 0, 1) := by decide +kernel
theorem dX10_unit_440 : decode cX10_unit 440 = .ok (.goto 14, 3) := by decide +kernel
theorem dX10_unit_443 : decode cX10_unit 443 = .ok (.iload_n 2, 1) := by decide +kernel
theorem dX10_unit_444 : decode cX10_unit 444 = .ok (.iload 5, 2) := by decide +kernel
theorem dX10_unit_446 : decode cX10_unit 446 = .ok (.if_icmp .ne 7, 3) := by decide +kernel
theorem dX10_unit_449 : decode cX10_unit 449 = .ok (.iconst 1, 1) := by decide +kernel
theorem dX10_unit_450 : decode cX10_unit 450 = .ok (.goto 4, 3) := by decide +kernel
theorem dX10_unit_453 : decode cX10_unit 453 = .ok (.iconst 0, 1) := by decide +kernel
theorem dX10_unit_454 : decode cX10_unit 454 = .ok (.ireturn, 1) := by decide +kernel
theorem dX10_part_0 : decode cX10_part 0 = .ok (.aload_n 0, 1) := by decide +kernel
theorem dX10_part_1 : decode cX10_part 1 = .ok (.invokevirtual 199, 3) := by decide +kernel
theorem dX10_part_4 : decode cX10_part 4 = .ok (.istore_n 1, 1) := by decide +kernel
theorem dX10_part_5 : decode cX10_part 5 = .ok (.aload_n 0, 1) := by decide +kernel
theorem dX10_part_6 : decode cX10_part 6 = .ok (.getfield 182, 3) := by decide +kernel
theorem dX10_part_9 : decode cX10_part 9 = .ok (.iconst (-1), 1) := by decide +kernel
theorem dX10_part_10 : decode cX10_part 10 = .ok (.if_icmp .ne 44, 3) := by decide +kernel
theorem dX10_part_13 : decode cX10_part 13 = .ok (.aload_n 0, 1) := by decide +kernel
theorem dX10_part_14 : decode cX10_part 14 = .ok (.invokevirtual 185, 3) := by decide +kernel
theorem dX10_part_17 : decode cX10_part 17 = .ok (.bipush 38, 2) := by decide +kernel
theorem dX10_part_19 : decode cX10_part 19 = .ok (.if_icmp .ne 35, 3) := by decide +kernel
theorem dX10_part_22 : decode cX10_part 22 = .ok (.aload_n 0, 1) := by decide +kernel
theorem dX10_part_23 : decode cX10_part 23 = .ok (.dup, 1) := by decide +kernel
theorem dX10_part_24 : decode cX10_part 24 = .ok (.getfield 173, 3) := by decide +kernel
theorem dX10_part_27 : decode cX10_part 27 = .ok (.iconst 1, 1) := by decide +kernel
theorem dX10_part_28 : decode cX10_part 28 = .ok (.iadd, 1) := by decide +kernel
theorem dX10_part_29 : decode cX10_part 29 = .ok (.putfield 173, 3) := by decide +kernel
theorem dX10_part_32 : decode cX10_part 32 = .ok (.aload_n 0, 1) := by decide +kernel
theorem dX10_part_33 : decode cX10_part 33 = .ok (.invokevirtual 199, 3) := by decide +kernel
theorem dX10_part_36 : decode cX10_part 36 = .ok (.istore_n 2, 1) := by decide +kernel
theorem dX10_part_37 : decode cX10_part 37 = .ok (.iload_n 1, 1) := by decide +kernel
theorem dX10_part_38 : decode cX10_part 38 = .ok (.ifCond .eq 11, 3) := by decide +kernel
theorem dX10_part_41 : decode cX10_part 41 = .ok (.iload_n 2, 1) := by decide +kernel
theorem dX10_part_42 : decode cX10_part 42 = .ok (.ifCond .eq 7, 3) := by decide +kernel
theorem dX10_part_45 : decode cX10_part 45 = .ok (.iconst 1, 1) := by decide +kernel
theorem dX10_part_46 : decode cX10_part 46 = .ok (.goto 4, 3) := by decide +kernel
theorem dX10_part_49 : decode cX10_part 49 = .ok (.iconst 0, 1) := by decide +kernel
theorem dX10_part_50 : decode cX10_part 50 = .ok (.istore_n 1, 1) := by decide +kernel
theorem dX10_part_51 : decode cX10_part 51 = .ok (.goto (-46), 3) := by decide +kernel
theorem dX10_part_54 : decode cX10_part 54 = .ok (.iload_n 1, 1) := by decide +kernel
theorem dX10_part_55 : decode cX10_part 55 = .ok (.ireturn, 1) := by decide +kernel
theorem dX10_tests_0 : decode cX10_tests 0 = .ok (.aload_n 0, 1) := by decide +kernel
theorem dX10_tests_1 : decode cX10_tests 1 = .ok (.invokevirtual 202, 3) := by decide +kernel
theorem dX10_tests_4 : decode cX10_tests 4 = .ok (.istore_n 1, 1) := by decide +kernel
theorem dX10_tests_5 : decode cX10_tests 5 = .ok (.aload_n 0, 1) := by decide +kernel
theorem dX10_tests_6 : decode cX10_tests 6 = .ok (.getfield 182, 3) := by decide +kernel
theorem dX10_tests_9 : decode cX10_tests 9 = .ok (.iconst (-1), 1) := by decide +kernel
theorem dX10_tests_10 : decode cX10_tests 10 = .ok (.if_icmp .ne 44, 3) := by decide +kernel
theorem dX10_tests_13 : decode cX10_tests 13 = .ok (.aload_n 0, 1) := by decide +kernel
theorem dX10_tests_14 : decode cX10_tests 14 = .ok (.invokevirtual 185, 3) := by decide +kernel
theorem dX10_tests_17 : decode cX10_tests 17 = .ok (.bipush 124, 2) := by decide +kernel
theorem dX10_tests_19 : decode cX10_tests 19 = .ok (.if_icmp .ne 35, 3) := by decide +kernel
theorem dX10_tests_22 : decode cX10_tests 22 = .ok (.aload_n 0, 1) := by decide +kernel
theorem dX10_tests_23 : decode cX10_tests 23 = .ok (.dup, 1) := by decide +kernel
theorem dX10_tests_24 : decode cX10_tests 24 = .ok (.getfield 173, 3) := by decide +kernel
theorem dX10_tests_27 : decode cX10_tests 27 = .ok (.iconst 1, 1) := by decide +kernel
theorem dX10_tests_28 : decode cX10_tests 28 = .ok (.iadd, 1) := by decide +kernel
theorem dX10_tests_29 : decode cX10_tests 29 = .ok (.putfield 173, 3) := by decide +kernel
theorem dX10_tests_32 : decode cX10_tests 32 = .ok (.aload_n 0, 1) := by decide +kernel
theorem dX10_tests_33 : decode cX10_tests 33 = .ok (.invokevirtual 202, 3) := by decide +kernel
theorem dX10_tests_36 : decode cX10_tests 36 = .ok (.istore_n 2, 1) := by decide +kernel
theorem dX10_tests_37 : decode cX10_tests 37 = .ok (.iload_n 1, 1) := by decide +kernel
theorem dX10_tests_38 : decode cX10_tests 38 = .ok (.ifCond .ne 7, 3) := by decide +kernel
theorem dX10_tests_41 : decode cX10_tests 41 = .ok (.iload_n 2, 1) := by decide +kernel
theorem dX10_tests_42 : decode cX10_tests 42 = .ok (.ifCond .eq 7, 3) := by decide +kernel
theorem dX10_tests_45 : decode cX10_tests 45 = .ok (.iconst 1, 1) := by decide +kernel
theorem dX10_tests_46 : decode cX10_tests 46 = .ok (.goto 4, 3) := by decide +kernel
theorem dX10_tests_49 : decode cX10_tests 49 = .ok (.iconst 0, 1) := by decide +kernel
theorem dX10_tests_50 : decode cX10_tests 50 = .ok (.istore_n 1, 1) := by decide +kernel
theorem dX10_tests_51 : decode cX10_tests 51 = .ok (.goto (-46), 3) := by decide +kernel
theorem dX10_tests_54 : decode cX10_tests 54 = .ok (.iload_n 1, 1) := by decide +kernel
theorem dX10_tests_55 : decode cX10_tests 55 = .ok (.ireturn, 1) := by decide +kernel
theorem dX10_holds_0 : decode cX10_holds 0 = .ok (.aload_n 0, 1) := by decide +kernel
theorem dX10_holds_1 : decode cX10_holds 1 = .ok (.aload_n 1, 1) := by decide +kernel
theorem dX10_holds_2 : decode cX10_holds 2 = .ok (.putfield 114, 3) := by decide +kernel
theorem dX10_holds_5 : decode cX10_holds 5 = .ok (.aload_n 0, 1) := by decide +kernel
theorem dX10_holds_6 : decode cX10_holds 6 = .ok (.iload_n 2, 1) := by decide +kernel
theorem dX10_holds_7 : decode cX10_holds 7 = .ok (.putfield 179, 3) := by decide +kernel
theorem dX10_holds_10 : decode cX10_holds 10 = .ok (.aload_n 0, 1) := by decide +kernel
theorem dX10_holds_11 : decode cX10_holds 11 = .ok (.iload_n 3, 1) := by decide +kernel
theorem dX10_holds_12 : decode cX10_holds 12 = .ok (.putfield 176, 3) := by decide +kernel
theorem dX10_holds_15 : decode cX10_holds 15 = .ok (.aload_n 0, 1) := by decide +kernel
theorem dX10_holds_16 : decode cX10_holds 16 = .ok (.iconst 0, 1) := by decide +kernel
theorem dX10_holds_17 : decode cX10_holds 17 = .ok (.putfield 173, 3) := by decide +kernel
theorem dX10_holds_20 : decode cX10_holds 20 = .ok (.aload_n 0, 1) := by decide +kernel
theorem dX10_holds_21 : decode cX10_holds 21 = .ok (.iconst 0, 1) := by decide +kernel
theorem dX10_holds_22 : decode cX10_holds 22 = .ok (.putfield 189, 3) := by decide +kernel
theorem dX10_holds_25 : decode cX10_holds 25 = .ok (.aload_n 0, 1) := by decide +kernel
theorem dX10_holds_26 : decode cX10_holds 26 = .ok (.iconst (-1), 1) := by decide +kernel
theorem dX10_holds_27 : decode cX10_holds 27 = .ok (.putfield 182, 3) := by decide +kernel
theorem dX10_holds_30 : decode cX10_holds 30 = .ok (.aload_n 0, 1) := by decide +kernel
theorem dX10_holds_31 : decode cX10_holds 31 = .ok (.invokevirtual 195, 3) := by decide +kernel
theorem dX10_holds_34 : decode cX10_holds 34 = .ok (.istore 4, 2) := by decide +kernel
theorem dX10_holds_36 : decode cX10_holds 36 = .ok (.aload_n 0, 1) := by decide +kernel
theorem dX10_holds_37 : decode cX10_holds 37 = .ok (.getfield 182, 3) := by decide +kernel
theorem dX10_holds_40 : decode cX10_holds 40 = .ok (.iconst (-1), 1) := by decide +kernel
theorem dX10_holds_41 : decode cX10_holds 41 = .ok (.if_icmp .ne 15, 3) := by decide +kernel
theorem dX10_holds_44 : decode cX10_holds 44 = .ok (.aload_n 0, 1) := by decide +kernel
theorem dX10_holds_45 : decode cX10_holds 45 = .ok (.invokevirtual 185, 3) := by decide +kernel
theorem dX10_holds_48 : decode cX10_holds 48 = .ok (.iconst (-1), 1) := by decide +kernel
theorem dX10_holds_49 : decode cX10_holds 49 = .ok (.if_icmp .eq 7, 3) := by decide +kernel
theorem dX10_holds_52 : decode cX10_holds 52 = .ok (.aload_n 0, 1) := by decide +kernel
theorem dX10_holds_53 : decode cX10_holds 53 = .ok (.invokevirtual 192, 3) := by decide +kernel
theorem dX10_holds_56 : decode cX10_holds 56 = .ok (.iload 4, 2) := by decide +kernel
theorem dX10_holds_58 : decode cX10_holds 58 = .ok (.ifCond .eq 15, 3) := by decide +kernel
theorem dX10_holds_61 : decode cX10_holds 61 = .ok (.aload_n 0, 1) := by decide +kernel
theorem dX10_holds_62 : decode cX10_holds 62 = .ok (.getfield 182, 3) := by decide +kernel
theorem dX10_holds_65 : decode cX10_holds 65 = .ok (.iconst (-1), 1) := by decide +kernel
theorem dX10_holds_66 : decode cX10_holds 66 = .ok (.if_icmp .ne 7, 3) := by decide +kernel
theorem dX10_holds_69 : decode cX10_holds 69 = .ok (.iconst 1, 1) := by decide +kernel
theorem dX10_holds_70 : decode cX10_holds 70 = .ok (.goto 4, 3) := by decide +kernel
theorem dX10_holds_73 : decode cX10_holds 73 = .ok (.iconst 0, 1) := by decide +kernel
theorem dX10_holds_74 : decode cX10_holds 74 = .ok (.ireturn, 1) := by decide +kernel
theorem dX10_feed_0 : decode cX10_feed 0 = .ok (.aload_n 0, 1) := by decide +kernel
theorem dX10_feed_1 : decode cX10_feed 1 = .ok (.iconst 0, 1) := by decide +kernel
theorem dX10_feed_2 : decode cX10_feed 2 = .ok (.putfield 117, 3) := by decide +kernel
theorem dX10_feed_5 : decode cX10_feed 5 = .ok (.iconst 0, 1) := by decide +kernel
theorem dX10_feed_6 : decode cX10_feed 6 = .ok (.istore_n 2, 1) := by decide +kernel
theorem dX10_feed_7 : decode cX10_feed 7 = .ok (.bipush 24, 2) := by decide +kernel
theorem dX10_feed_9 : decode cX10_feed 9 = .ok (.istore_n 3, 1) := by decide +kernel
theorem dX10_feed_10 : decode cX10_feed 10 = .ok (.iload_n 3, 1) := by decide +kernel
theorem dX10_feed_11 : decode cX10_feed 11 = .ok (.ifCond .lt 27, 3) := by decide +kernel
theorem dX10_feed_14 : decode cX10_feed 14 = .ok (.iload_n 2, 1) := by decide +kernel
theorem dX10_feed_15 : decode cX10_feed 15 = .ok (.iload_n 1, 1) := by decide +kernel
theorem dX10_feed_16 : decode cX10_feed 16 = .ok (.iload_n 3, 1) := by decide +kernel
theorem dX10_feed_17 : decode cX10_feed 17 = .ok (.ishr, 1) := by decide +kernel
theorem dX10_feed_18 : decode cX10_feed 18 = .ok (.sipush 255, 3) := by decide +kernel
theorem dX10_feed_21 : decode cX10_feed 21 = .ok (.iand, 1) := by decide +kernel
theorem dX10_feed_22 : decode cX10_feed 22 = .ok (.ifCond .eq 7, 3) := by decide +kernel
theorem dX10_feed_25 : decode cX10_feed 25 = .ok (.iconst 1, 1) := by decide +kernel
theorem dX10_feed_26 : decode cX10_feed 26 = .ok (.goto 4, 3) := by decide +kernel
theorem dX10_feed_29 : decode cX10_feed 29 = .ok (.iconst 0, 1) := by decide +kernel
theorem dX10_feed_30 : decode cX10_feed 30 = .ok (.iadd, 1) := by decide +kernel
theorem dX10_feed_31 : decode cX10_feed 31 = .ok (.istore_n 2, 1) := by decide +kernel
theorem dX10_feed_32 : decode cX10_feed 32 = .ok (.iinc 3 (-8), 3) := by decide +kernel
theorem dX10_feed_35 : decode cX10_feed 35 = .ok (.goto (-25), 3) := by decide +kernel
theorem dX10_feed_38 : decode cX10_feed 38 = .ok (.aload_n 0, 1) := by decide +kernel
theorem dX10_feed_39 : decode cX10_feed 39 = .ok (.getfield 205, 3) := by decide +kernel
theorem dX10_feed_42 : decode cX10_feed 42 = .ok (.iload_n 2, 1) := by decide +kernel
theorem dX10_feed_43 : decode cX10_feed 43 = .ok (.iadd, 1) := by decide +kernel
theorem dX10_feed_44 : decode cX10_feed 44 = .ok (.bipush 120, 2) := by decide +kernel
theorem dX10_feed_46 : decode cX10_feed 46 = .ok (.if_icmp .le 5, 3) := by decide +kernel
theorem dX10_feed_49 : decode cX10_feed 49 = .ok (.iconst (-1), 1) := by decide +kernel
theorem dX10_feed_50 : decode cX10_feed 50 = .ok (.ireturn, 1) := by decide +kernel
theorem dX10_feed_51 : decode cX10_feed 51 = .ok (.bipush 24, 2) := by decide +kernel
theorem dX10_feed_53 : decode cX10_feed 53 = .ok (.istore_n 3, 1) := by decide +kernel
theorem dX10_feed_54 : decode cX10_feed 54 = .ok (.iload_n 3, 1) := by decide +kernel
theorem dX10_feed_55 : decode cX10_feed 55 = .ok (.ifCond .lt 45, 3) := by decide +kernel
theorem dX10_feed_58 : decode cX10_feed 58 = .ok (.iload_n 1, 1) := by decide +kernel
theorem dX10_feed_59 : decode cX10_feed 59 = .ok (.iload_n 3, 1) := by decide +kernel
theorem dX10_feed_60 : decode cX10_feed 60 = .ok (.ishr, 1) := by decide +kernel
theorem dX10_feed_61 : decode cX10_feed 61 = .ok (.sipush 255, 3) := by decide +kernel
theorem dX10_feed_64 : decode cX10_feed 64 = .ok (.iand, 1) := by decide +kernel
theorem dX10_feed_65 : decode cX10_feed 65 = .ok (.ifCond .ne 6, 3) := by decide +kernel
theorem dX10_feed_68 : decode cX10_feed 68 = .ok (.goto 26, 3) := by decide +kernel
theorem dX10_feed_71 : decode cX10_feed 71 = .ok (.aload_n 0, 1) := by decide +kernel
theorem dX10_feed_72 : decode cX10_feed 72 = .ok (.getfield 58, 3) := by decide +kernel
theorem dX10_feed_75 : decode cX10_feed 75 = .ok (.aload_n 0, 1) := by decide +kernel
theorem dX10_feed_76 : decode cX10_feed 76 = .ok (.getfield 205, 3) := by decide +kernel
theorem dX10_feed_79 : decode cX10_feed 79 = .ok (.iload_n 1, 1) := by decide +kernel
theorem dX10_feed_80 : decode cX10_feed 80 = .ok (.iload_n 3, 1) := by decide +kernel
theorem dX10_feed_81 : decode cX10_feed 81 = .ok (.ishr, 1) := by decide +kernel
theorem dX10_feed_82 : decode cX10_feed 82 = .ok (.i2b, 1) := by decide +kernel
theorem dX10_feed_83 : decode cX10_feed 83 = .ok (.bastore, 1) := by decide +kernel
theorem dX10_feed_84 : decode cX10_feed 84 = .ok (.aload_n 0, 1) := by decide +kernel
theorem dX10_feed_85 : decode cX10_feed 85 = .ok (.dup, 1) := by decide +kernel
theorem dX10_feed_86 : decode cX10_feed 86 = .ok (.getfield 205, 3) := by decide +kernel
theorem dX10_feed_89 : decode cX10_feed 89 = .ok (.iconst 1, 1) := by decide +kernel
theorem dX10_feed_90 : decode cX10_feed 90 = .ok (.iadd, 1) := by decide +kernel
theorem dX10_feed_91 : decode cX10_feed 91 = .ok (.putfield 205, 3) := by decide +kernel
theorem dX10_feed_94 : decode cX10_feed 94 = .ok (.iinc 3 (-8), 3) := by decide +kernel
theorem dX10_feed_97 : decode cX10_feed 97 = .ok (.goto (-43), 3) := by decide +kernel
theorem dX10_feed_100 : decode cX10_feed 100 = .ok (.aload_n 0, 1) := by decide +kernel
theorem dX10_feed_101 : decode cX10_feed 101 = .ok (.getfield 205, 3) := by decide +kernel
theorem dX10_feed_104 : decode cX10_feed 104 = .ok (.ireturn, 1) := by decide +kernel
theorem dX10_end_0 : decode cX10_end 0 = .ok (.aload_n 0, 1) := by decide +kernel
theorem dX10_end_1 : decode cX10_end 1 = .ok (.iconst 0, 1) := by decide +kernel
theorem dX10_end_2 : decode cX10_end 2 = .ok (.putfield 117, 3) := by decide +kernel
theorem dX10_end_5 : decode cX10_end 5 = .ok (.iload_n 1, 1) := by decide +kernel
theorem dX10_end_6 : decode cX10_end 6 = .ok (.ifCond .lt 11, 3) := by decide +kernel
theorem dX10_end_9 : decode cX10_end 9 = .ok (.iload_n 1, 1) := by decide +kernel
theorem dX10_end_10 : decode cX10_end 10 = .ok (.aload_n 0, 1) := by decide +kernel
