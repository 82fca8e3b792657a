theorem dX9_statute_4 : decode cX9_statute 4 = .ok (.ifCond .eq 24, 3) := by decide +kernel
theorem dX9_statute_7 : decode cX9_statute 7 = .ok (.aload_n 0, 1) := by decide +kernel
theorem dX9_statute_8 : decode cX9_statute 8 = .ok (.getfield 47, 3) := by decide +kernel
theorem dX9_statute_11 : decode cX9_statute 11 = .ok (.getfield 147, 3) := by decide +kernel
theorem dX9_statute_14 : decode cX9_statute 14 = .ok (.invokevirtual 150, 3) := by decide +kernel
theorem dX9_statute_17 : decode cX9_statute 17 = .ok (.ifCond .ne 11, 3) := by decide +kernel
theorem dX9_statute_20 : decode cX9_statute 20 = .ok (.aload_n 0, 1) := by decide +kernel
theorem dX9_statute_21 : decode cX9_statute 21 = .ok (.invokevirtual 151, 3) := by decide +kernel
theorem dX9_statute_24 : decode cX9_statute 24 = .ok (.iconst (-1), 1) := by decide +kernel
theorem dX9_statute_25 : decode cX9_statute 25 = .ok (.if_icmp .eq 5, 3) := by decide +kernel
theorem dX9_statute_28 : decode cX9_statute 28 = .ok (.iconst (-1), 1) := by decide +kernel
theorem dX9_statute_29 : decode cX9_statute 29 = .ok (.ireturn, 1) := by decide +kernel
theorem dX9_statute_30 : decode cX9_statute 30 = .ok (.aload_n 0, 1) := by decide +kernel
theorem dX9_statute_31 : decode cX9_statute 31 = .ok (.getfield 47, 3) := by decide +kernel
theorem dX9_statute_34 : decode cX9_statute 34 = .ok (.aload_n 0, 1) := by decide +kernel
theorem dX9_statute_35 : decode cX9_statute 35 = .ok (.getfield 33, 3) := by decide +kernel
theorem dX9_statute_38 : decode cX9_statute 38 = .ok (.iload_n 1, 1) := by decide +kernel
theorem dX9_statute_39 : decode cX9_statute 39 = .ok (.aload_n 0, 1) := by decide +kernel
theorem dX9_statute_40 : decode cX9_statute 40 = .ok (.getfield 79, 3) := by decide +kernel
theorem dX9_statute_43 : decode cX9_statute 43 = .ok (.invokevirtual 155, 3) := by decide +kernel
theorem dX9_statute_46 : decode cX9_statute 46 = .ok (.istore_n 2, 1) := by decide +kernel
theorem dX9_statute_47 : decode cX9_statute 47 = .ok (.aload_n 0, 1) := by decide +kernel
theorem dX9_statute_48 : decode cX9_statute 48 = .ok (.getfield 33, 3) := by decide +kernel
theorem dX9_statute_51 : decode cX9_statute 51 = .ok (.iconst 0, 1) := by decide +kernel
theorem dX9_statute_52 : decode cX9_statute 52 = .ok (.putfield 136, 3) := by decide +kernel
theorem dX9_statute_55 : decode cX9_statute 55 = .ok (.iload_n 2, 1) := by decide +kernel
theorem dX9_statute_56 : decode cX9_statute 56 = .ok (.ireturn, 1) := by decide +kernel
theorem dX9_force_0 : decode cX9_force 0 = .ok (.aload_n 0, 1) := by decide +kernel
theorem dX9_force_1 : decode cX9_force 1 = .ok (.iload_n 1, 1) := by decide +kernel
theorem dX9_force_2 : decode cX9_force 2 = .ok (.iload_n 2, 1) := by decide +kernel
theorem dX9_force_3 : decode cX9_force 3 = .ok (.invokevirtual 158, 3) := by decide +kernel
theorem dX9_force_6 : decode cX9_force 6 = .ok (.ifCond .eq 18, 3) := by decide +kernel
theorem dX9_force_9 : decode cX9_force 9 = .ok (.aload_n 0, 1) := by decide +kernel
theorem dX9_force_10 : decode cX9_force 10 = .ok (.getfield 47, 3) := by decide +kernel
theorem dX9_force_13 : decode cX9_force 13 = .ok (.getfield 147, 3) := by decide +kernel
theorem dX9_force_16 : decode cX9_force 16 = .ok (.iload_n 1, 1) := by decide +kernel
theorem dX9_force_17 : decode cX9_force 17 = .ok (.iload_n 2, 1) := by decide +kernel
theorem dX9_force_18 : decode cX9_force 18 = .ok (.invokevirtual 162, 3) := by decide +kernel
theorem dX9_force_21 : decode cX9_force 21 = .ok (.goto 4, 3) := by decide +kernel
theorem dX9_force_24 : decode cX9_force 24 = .ok (.iconst (-1), 1) := by decide +kernel
theorem dX9_force_25 : decode cX9_force 25 = .ok (.ireturn, 1) := by decide +kernel
theorem dX9_value_0 : decode cX9_value 0 = .ok (.aload_n 0, 1) := by decide +kernel
theorem dX9_value_1 : decode cX9_value 1 = .ok (.getfield 10, 3) := by decide +kernel
theorem dX9_value_4 : decode cX9_value 4 = .ok (.iload_n 1, 1) := by decide +kernel
theorem dX9_value_5 : decode cX9_value 5 = .ok (.invokevirtual 112, 3) := by decide +kernel
theorem dX9_value_8 : decode cX9_value 8 = .ok (.ifCond .eq 13, 3) := by decide +kernel
theorem dX9_value_11 : decode cX9_value 11 = .ok (.aload_n 0, 1) := by decide +kernel
theorem dX9_value_12 : decode cX9_value 12 = .ok (.iload_n 3, 1) := by decide +kernel
theorem dX9_value_13 : decode cX9_value 13 = .ok (.iload 4, 2) := by decide +kernel
theorem dX9_value_15 : decode cX9_value 15 = .ok (.invokevirtual 158, 3) := by decide +kernel
theorem dX9_value_18 : decode cX9_value 18 = .ok (.ifCond .ne 5, 3) := by decide +kernel
theorem dX9_value_21 : decode cX9_value 21 = .ok (.iconst (-1), 1) := by decide +kernel
theorem dX9_value_22 : decode cX9_value 22 = .ok (.ireturn, 1) := by decide +kernel
theorem dX9_value_23 : decode cX9_value 23 = .ok (.aload_n 0, 1) := by decide +kernel
theorem dX9_value_24 : decode cX9_value 24 = .ok (.iload_n 1, 1) := by decide +kernel
theorem dX9_value_25 : decode cX9_value 25 = .ok (.iload_n 2, 1) := by decide +kernel
theorem dX9_value_26 : decode cX9_value 26 = .ok (.iload_n 3, 1) := by decide +kernel
theorem dX9_value_27 : decode cX9_value 27 = .ok (.iload 4, 2) := by decide +kernel
theorem dX9_value_29 : decode cX9_value 29 = .ok (.invokevirtual 165, 3) := by decide +kernel
theorem dX9_value_32 : decode cX9_value 32 = .ok (.ireturn, 1) := by decide +kernel
theorem dX9_may_0 : decode cX9_may 0 = .ok (.aload_n 0, 1) := by decide +kernel
theorem dX9_may_1 : decode cX9_may 1 = .ok (.getfield 10, 3) := by decide +kernel
theorem dX9_may_4 : decode cX9_may 4 = .ok (.iload_n 1, 1) := by decide +kernel
theorem dX9_may_5 : decode cX9_may 5 = .ok (.invokevirtual 112, 3) := by decide +kernel
theorem dX9_may_8 : decode cX9_may 8 = .ok (.ifCond .eq 12, 3) := by decide +kernel
theorem dX9_may_11 : decode cX9_may 11 = .ok (.aload_n 0, 1) := by decide +kernel
theorem dX9_may_12 : decode cX9_may 12 = .ok (.iload_n 2, 1) := by decide +kernel
theorem dX9_may_13 : decode cX9_may 13 = .ok (.iload_n 3, 1) := by decide +kernel
theorem dX9_may_14 : decode cX9_may 14 = .ok (.invokevirtual 158, 3) := by decide +kernel
theorem dX9_may_17 : decode cX9_may 17 = .ok (.ifCond .ne 5, 3) := by decide +kernel
theorem dX9_may_20 : decode cX9_may 20 = .ok (.iconst (-1), 1) := by decide +kernel
theorem dX9_may_21 : decode cX9_may 21 = .ok (.ireturn, 1) := by decide +kernel
theorem dX9_may_22 : decode cX9_may 22 = .ok (.aload_n 0, 1) := by decide +kernel
theorem dX9_may_23 : decode cX9_may 23 = .ok (.iload_n 1, 1) := by decide +kernel
theorem dX9_may_24 : decode cX9_may 24 = .ok (.iload_n 2, 1) := by decide +kernel
theorem dX9_may_25 : decode cX9_may 25 = .ok (.iload_n 3, 1) := by decide +kernel
theorem dX9_may_26 : decode cX9_may 26 = .ok (.invokevirtual 169, 3) := by decide +kernel
theorem dX9_may_29 : decode cX9_may 29 = .ok (.ireturn, 1) := by decide +kernel
theorem dX9_piece_0 : decode cX9_piece 0 = .ok (.aload_n 0, 1) := by decide +kernel
theorem dX9_piece_1 : decode cX9_piece 1 = .ok (.getfield 10, 3) := by decide +kernel
theorem dX9_piece_4 : decode cX9_piece 4 = .ok (.iload_n 1, 1) := by decide +kernel
theorem dX9_piece_5 : decode cX9_piece 5 = .ok (.invokevirtual 95, 3) := by decide +kernel
theorem dX9_piece_8 : decode cX9_piece 8 = .ok (.ifCond .eq 14, 3) := by decide +kernel
theorem dX9_piece_11 : decode cX9_piece 11 = .ok (.aload_n 0, 1) := by decide +kernel
theorem dX9_piece_12 : decode cX9_piece 12 = .ok (.getfield 10, 3) := by decide +kernel
theorem dX9_piece_15 : decode cX9_piece 15 = .ok (.iload_n 1, 1) := by decide +kernel
theorem dX9_piece_16 : decode cX9_piece 16 = .ok (.invokevirtual 98, 3) := by decide +kernel
theorem dX9_piece_19 : decode cX9_piece 19 = .ok (.ifCond .eq 5, 3) := by decide +kernel
theorem dX9_piece_22 : decode cX9_piece 22 = .ok (.iconst (-1), 1) := by decide +kernel
theorem dX9_piece_23 : decode cX9_piece 23 = .ok (.ireturn, 1) := by decide +kernel
theorem dX9_piece_24 : decode cX9_piece 24 = .ok (.aload_n 0, 1) := by decide +kernel
theorem dX9_piece_25 : decode cX9_piece 25 = .ok (.getfield 72, 3) := by decide +kernel
theorem dX9_piece_28 : decode cX9_piece 28 = .ok (.invokevirtual 173, 3) := by decide +kernel
theorem dX9_piece_31 : decode cX9_piece 31 = .ok (.ifCond .ne 30, 3) := by decide +kernel
theorem dX9_piece_34 : decode cX9_piece 34 = .ok (.aload_n 0, 1) := by decide +kernel
theorem dX9_piece_35 : decode cX9_piece 35 = .ok (.getfield 72, 3) := by decide +kernel
theorem dX9_piece_38 : decode cX9_piece 38 = .ok (.iload_n 1, 1) := by decide +kernel
theorem dX9_piece_39 : decode cX9_piece 39 = .ok (.invokevirtual 174, 3) := by decide +kernel
theorem dX9_piece_42 : decode cX9_piece 42 = .ok (.ifCond .ne 19, 3) := by decide +kernel
theorem dX9_piece_45 : decode cX9_piece 45 = .ok (.aload_n 0, 1) := by decide +kernel
theorem dX9_piece_46 : decode cX9_piece 46 = .ok (.iload_n 1, 1) := by decide +kernel
theorem dX9_piece_47 : decode cX9_piece 47 = .ok (.aload_n 0, 1) := by decide +kernel
theorem dX9_piece_48 : decode cX9_piece 48 = .ok (.getfield 79, 3) := by decide +kernel
theorem dX9_piece_51 : decode cX9_piece 51 = .ok (.aload_n 0, 1) := by decide +kernel
theorem dX9_piece_52 : decode cX9_piece 52 = .ok (.getfield 79, 3) := by decide +kernel
theorem dX9_piece_55 : decode cX9_piece 55 = .ok (.invokevirtual 169, 3) := by decide +kernel
theorem dX9_piece_58 : decode cX9_piece 58 = .ok (.ifCond .ne 5, 3) := by decide +kernel
theorem dX9_piece_61 : decode cX9_piece 61 = .ok (.iconst (-1), 1) := by decide +kernel
theorem dX9_piece_62 : decode cX9_piece 62 = .ok (.ireturn, 1) := by decide +kernel
theorem dX9_piece_63 : decode cX9_piece 63 = .ok (.aload_n 0, 1) := by decide +kernel
theorem dX9_piece_64 : decode cX9_piece 64 = .ok (.iload_n 1, 1) := by decide +kernel
theorem dX9_piece_65 : decode cX9_piece 65 = .ok (.invokevirtual 177, 3) := by decide +kernel
theorem dX9_piece_68 : decode cX9_piece 68 = .ok (.istore 4, 2) := by decide +kernel
theorem dX9_piece_70 : decode cX9_piece 70 = .ok (.iload 4, 2) := by decide +kernel
theorem dX9_piece_72 : decode cX9_piece 72 = .ok (.iconst 3, 1) := by decide +kernel
theorem dX9_piece_73 : decode cX9_piece 73 = .ok (.if_icmp .ge 5, 3) := by decide +kernel
theorem dX9_piece_76 : decode cX9_piece 76 = .ok (.iconst (-1), 1) := by decide +kernel
theorem dX9_piece_77 : decode cX9_piece 77 = .ok (.ireturn, 1) := by decide +kernel
theorem dX9_piece_78 : decode cX9_piece 78 = .ok (.aload_n 0, 1) := by decide +kernel
theorem dX9_piece_79 : decode cX9_piece 79 = .ok (.getfield 72, 3) := by decide +kernel
theorem dX9_piece_82 : decode cX9_piece 82 = .ok (.iload_n 1, 1) := by decide +kernel
theorem dX9_piece_83 : decode cX9_piece 83 = .ok (.aload_n 0, 1) := by decide +kernel
theorem dX9_piece_84 : decode cX9_piece 84 = .ok (.getfield 76, 3) := by decide +kernel
theorem dX9_piece_87 : decode cX9_piece 87 = .ok (.iload 4, 2) := by decide +kernel
theorem dX9_piece_89 : decode cX9_piece 89 = .ok (.lload_n 2, 1) := by decide +kernel
theorem dX9_piece_90 : decode cX9_piece 90 = .ok (.invokevirtual 181, 3) := by decide +kernel
theorem dX9_piece_93 : decode cX9_piece 93 = .ok (.ireturn, 1) := by decide +kernel
theorem dX9_judge_0 : decode cX9_judge 0 = .ok (.aload_n 0, 1) := by decide +kernel
theorem dX9_judge_1 : decode cX9_judge 1 = .ok (.getfield 72, 3) := by decide +kernel
theorem dX9_judge_4 : decode cX9_judge 4 = .ok (.iload_n 1, 1) := by decide +kernel
theorem dX9_judge_5 : decode cX9_judge 5 = .ok (.invokevirtual 184, 3) := by decide +kernel
theorem dX9_judge_8 : decode cX9_judge 8 = .ok (.ifCond .eq 22, 3) := by decide +kernel
theorem dX9_judge_11 : decode cX9_judge 11 = .ok (.iload_n 2, 1) := by decide +kernel
theorem dX9_judge_12 : decode cX9_judge 12 = .ok (.invokestatic 185, 3) := by decide +kernel
theorem dX9_judge_15 : decode cX9_judge 15 = .ok (.ifCond .eq 15, 3) := by decide +kernel
theorem dX9_judge_18 : decode cX9_judge 18 = .ok (.aload_n 0, 1) := by decide +kernel
theorem dX9_judge_19 : decode cX9_judge 19 = .ok (.getfield 72, 3) := by decide +kernel
theorem dX9_judge_22 : decode cX9_judge 22 = .ok (.iload_n 1, 1) := by decide +kernel
theorem dX9_judge_23 : decode cX9_judge 23 = .ok (.iload_n 2, 1) := by decide +kernel
theorem dX9_judge_24 : decode cX9_judge 24 = .ok (.invokevirtual 188, 3) := by decide +kernel
theorem dX9_judge_27 : decode cX9_judge 27 = .ok (.goto 4, 3) := by decide +kernel
theorem dX9_judge_30 : decode cX9_judge 30 = .ok (.iconst (-1), 1) := by decide +kernel
theorem dX9_judge_31 : decode cX9_judge 31 = .ok (.ireturn, 1) := by decide +kernel
theorem dX9_mark_0 : decode cX9_mark 0 = .ok (.aload_n 0, 1) := by decide +kernel
theorem dX9_mark_1 : decode cX9_mark 1 = .ok (.getfield 72, 3) := by decide +kernel
theorem dX9_mark_4 : decode cX9_mark 4 = .ok (.iload_n 1, 1) := by decide +kernel
theorem dX9_mark_5 : decode cX9_mark 5 = .ok (.invokevirtual 184, 3) := by decide +kernel
theorem dX9_mark_8 : decode cX9_mark 8 = .ok (.ifCond .eq 17, 3) := by decide +kernel
theorem dX9_mark_11 : decode cX9_mark 11 = .ok (.iload_n 2, 1) := by decide +kernel
theorem dX9_mark_12 : decode cX9_mark 12 = .ok (.invokestatic 185, 3) := by decide +kernel
theorem dX9_mark_15 : decode cX9_mark 15 = .ok (.ifCond .eq 10, 3) := by decide +kernel
theorem dX9_mark_18 : decode cX9_mark 18 = .ok (.iload_n 3, 1) := by decide +kernel
theorem dX9_mark_19 : decode cX9_mark 19 = .ok (.invokestatic 191, 3) := by decide +kernel
theorem dX9_mark_22 : decode cX9_mark 22 = .ok (.ifCond .ne 5, 3) := by decide +kernel
theorem dX9_mark_25 : decode cX9_mark 25 = .ok (.iconst 0, 1) := by decide +kernel
theorem dX9_mark_26 : decode cX9_mark 26 = .ok (.ireturn, 1) := by decide +kernel
theorem dX9_mark_27 : decode cX9_mark 27 = .ok (.iload 4, 2) := by decide +kernel
theorem dX9_mark_29 : decode cX9_mark 29 = .ok (.ifCond .lt 21, 3) := by decide +kernel
theorem dX9_mark_32 : decode cX9_mark 32 = .ok (.iload 4, 2) := by decide +kernel
theorem dX9_mark_34 : decode cX9_mark 34 = .ok (.bipush 10, 2) := by decide +kernel
theorem dX9_mark_36 : decode cX9_mark 36 = .ok (.if_icmp .gt 14, 3) := by decide +kernel
theorem dX9_mark_39 : decode cX9_mark 39 = .ok (.aload_n 0, 1) := by decide +kernel
theorem dX9_mark_40 : decode cX9_mark 40 = .ok (.getfield 72, 3) := by decide +kernel
theorem dX9_mark_43 : decode cX9_mark 43 = .ok (.iload_n 1, 1) := by decide +kernel
theorem dX9_mark_44 : decode cX9_mark 44 = .ok (.invokevirtual 194, 3) := by decide +kernel
theorem dX9_mark_47 : decode cX9_mark 47 = .ok (.ifCond .eq 5, 3) := by decide +kernel
theorem dX9_mark_50 : decode cX9_mark 50 = .ok (.iconst 0, 1) := by decide +kernel
theorem dX9_mark_51 : decode cX9_mark 51 = .ok (.ireturn, 1) := by decide +kernel
theorem dX9_mark_52 : decode cX9_mark 52 = .ok (.aload_n 0, 1) := by decide +kernel
theorem dX9_mark_53 : decode cX9_mark 53 = .ok (.getfield 72, 3) := by decide +kernel
theorem dX9_mark_56 : decode cX9_mark 56 = .ok (.iload_n 1, 1) := by decide +kernel
theorem dX9_mark_57 : decode cX9_mark 57 = .ok (.iload_n 2, 1) := by decide +kernel
theorem dX9_mark_58 : decode cX9_mark 58 = .ok (.iload_n 3, 1) := by decide +kernel
theorem dX9_mark_59 : decode cX9_mark 59 = .ok (.iload 4, 2) := by decide +kernel
theorem dX9_mark_61 : decode cX9_mark 61 = .ok (.aload_n 0, 1) := by decide +kernel
theorem dX9_mark_62 : decode cX9_mark 62 = .ok (.getfield 79, 3) := by decide +kernel
theorem dX9_mark_65 : decode cX9_mark 65 = .ok (.invokevirtual 197, 3) := by decide +kernel
theorem dX9_mark_68 : decode cX9_mark 68 = .ok (.aload_n 0, 1) := by decide +kernel
theorem dX9_mark_69 : decode cX9_mark 69 = .ok (.getfield 72, 3) := by decide +kernel
theorem dX9_mark_72 : decode cX9_mark 72 = .ok (.iload_n 1, 1) := by decide +kernel
theorem dX9_mark_73 : decode cX9_mark 73 = .ok (.invokevirtual 201, 3) := by decide +kernel
theorem dX9_mark_76 : decode cX9_mark 76 = .ok (.ifCond .eq 23, 3) := by decide +kernel
theorem dX9_mark_79 : decode cX9_mark 79 = .ok (.aload_n 0, 1) := by decide +kernel
theorem dX9_mark_80 : decode cX9_mark 80 = .ok (.getfield 10, 3) := by decide +kernel
theorem dX9_mark_83 : decode cX9_mark 83 = .ok (.aload_n 0, 1) := by decide +kernel
theorem dX9_mark_84 : decode cX9_mark 84 = .ok (.getfield 72, 3) := by decide +kernel
theorem dX9_mark_87 : decode cX9_mark 87 = .ok (.getfield 204, 3) := by decide +kernel
theorem dX9_mark_90 : decode cX9_mark 90 = .ok (.iload_n 1, 1) := by decide +kernel
theorem dX9_mark_91 : decode cX9_mark 91 = .ok (.iaload, 1) := by decide +kernel
theorem dX9_mark_92 : decode cX9_mark 92 = .ok (.aload_n 0, 1) := by decide +kernel
theorem dX9_mark_93 : decode cX9_mark 93 = .ok (.getfield 79, 3) := by decide +kernel
theorem dX9_mark_96 : decode cX9_mark 96 = .ok (.invokevirtual 101, 3) := by decide +kernel
theorem dX9_mark_99 : decode cX9_mark 99 = .ok (.iconst 1, 1) := by decide +kernel
theorem dX9_mark_100 : decode cX9_mark 100 = .ok (.ireturn, 1) := by decide +kernel
theorem dX9_told_0 : decode cX9_told 0 = .ok (.aload_n 0, 1) := by decide +kernel
theorem dX9_told_1 : decode cX9_told 1 = .ok (.getfield 72, 3) := by decide +kernel
theorem dX9_told_4 : decode cX9_told 4 = .ok (.iload_n 1, 1) := by decide +kernel
theorem dX9_told_5 : decode cX9_told 5 = .ok (.invokevirtual 184, 3) := by decide +kernel
theorem dX9_told_8 : decode cX9_told 8 = .ok (.ifCond .ne 5, 3) := by decide +kernel
theorem dX9_told_11 : decode cX9_told 11 = .ok (.iconst (-1), 1) := by decide +kernel
theorem dX9_told_12 : decode cX9_told 12 = .ok (.ireturn, 1) := by decide +kernel
theorem dX9_told_13 : decode cX9_told 13 = .ok (.iload_n 2, 1) := by decide +kernel
theorem dX9_told_14 : decode cX9_told 14 = .ok (.tableswitch 140 0 5 #[38, 48, 65, 89, 106, 130], 38) := by decide +kernel
theorem dX9_told_52 : decode cX9_told 52 = .ok (.aload_n 0, 1) := by decide +kernel
theorem dX9_told_53 : decode cX9_told 53 = .ok (.getfield 72, 3) := by decide +kernel
theorem dX9_told_56 : decode cX9_told 56 = .ok (.getfield 204, 3) := by decide +kernel
theorem dX9_told_59 : decode cX9_told 59 = .ok (.iload_n 1, 1) := by decide +kernel
theorem dX9_told_60 : decode cX9_told 60 = .ok (.iaload, 1) := by decide +kernel
theorem dX9_told_61 : decode cX9_told 61 = .ok (.ireturn, 1) := by decide +kernel
theorem dX9_told_62 : decode cX9_told 62 = .ok (.aload_n 0, 1) := by decide +kernel
theorem dX9_told_63 : decode cX9_told 63 = .ok (.getfield 72, 3) := by decide +kernel
theorem dX9_told_66 : decode cX9_told 66 = .ok (.iload_n 1, 1) := by decide +kernel
theorem dX9_told_67 : decode cX9_told 67 = .ok (.invokevirtual 194, 3) := by decide +kernel
theorem dX9_told_70 : decode cX9_told 70 = .ok (.ifCond .eq 7, 3) := by decide +kernel
theorem dX9_told_73 : decode cX9_told 73 = .ok (.iconst 1, 1) := by decide +kernel
theorem dX9_told_74 : decode cX9_told 74 = .ok (.goto 4, 3) := by decide +kernel
theorem dX9_told_77 : decode cX9_told 77 = .ok (.iconst 0, 1) := by decide +kernel
theorem dX9_told_78 : decode cX9_told 78 = .ok (.ireturn, 1) := by decide +kernel
theorem dX9_told_79 : decode cX9_told 79 = .ok (.aload_n 0, 1) := by decide +kernel
theorem dX9_told_80 : decode cX9_told 80 = .ok (.getfield 72, 3) := by decide +kernel
theorem dX9_told_83 : decode cX9_told 83 = .ok (.iload_n 1, 1) := by decide +kernel
theorem dX9_told_84 : decode cX9_told 84 = .ok (.invokevirtual 194, 3) := by decide +kernel
theorem dX9_told_87 : decode cX9_told 87 = .ok (.ifCond .eq 14, 3) := by decide +kernel
theorem dX9_told_90 : decode cX9_told 90 = .ok (.aload_n 0, 1) := by decide +kernel
theorem dX9_told_91 : decode cX9_told 91 = .ok (.getfield 72, 3) := by decide +kernel
theorem dX9_told_94 : decode cX9_told 94 = .ok (.iload_n 1, 1) := by decide +kernel
theorem dX9_told_95 : decode cX9_told 95 = .ok (.invokevirtual 207, 3) := by decide +kernel
theorem dX9_told_98 : decode cX9_told 98 = .ok (.goto 4, 3) := by decide +kernel
theorem dX9_told_101 : decode cX9_told 101 = .ok (.iconst (-1), 1) := by decide +kernel
theorem dX9_told_102 : decode cX9_told 102 = .ok (.ireturn, 1) := by decide +kernel
theorem dX9_told_103 : decode cX9_told 103 = .ok (.aload_n 0, 1) := by decide +kernel
theorem dX9_told_104 : decode cX9_told 104 = .ok (.getfield 72, 3) := by decide +kernel
theorem dX9_told_107 : decode cX9_told 107 = .ok (.iload_n 1, 1) := by decide +kernel
theorem dX9_told_108 : decode cX9_told 108 = .ok (.invokevirtual 201, 3) := by decide +kernel
theorem dX9_told_111 : decode cX9_told 111 = .ok (.ifCond .eq 7, 3) := by decide +kernel
theorem dX9_told_114 : decode cX9_told 114 = .ok (.iconst 1, 1) := by decide +kernel
theorem dX9_told_115 : decode cX9_told 115 = .ok (.goto 4, 3) := by decide +kernel
theorem dX9_told_118 : decode cX9_told 118 = .ok (.iconst 0, 1) := by decide +kernel
theorem dX9_told_119 : decode cX9_told 119 = .ok (.ireturn, 1) := by decide +kernel
theorem dX9_told_120 : decode cX9_told 120 = .ok (.aload_n 0, 1) := by decide +kernel
theorem dX9_told_121 : decode cX9_told 121 = .ok (.getfield 72, 3) := by decide +kernel
theorem dX9_told_124 : decode cX9_told 124 = .ok (.iload_n 1, 1) := by decide +kernel
theorem dX9_told_125 : decode cX9_told 125 = .ok (.invokevirtual 194, 3) := by decide +kernel
theorem dX9_told_128 : decode cX9_told 128 = .ok (.ifCond .eq 14, 3) := by decide +kernel
theorem dX9_told_131 : decode cX9_told 131 = .ok (.aload_n 0, 1) := by decide +kernel
theorem dX9_told_132 : decode cX9_told 132 = .ok (.getfield 72, 3) := by decide +kernel
theorem dX9_told_135 : decode cX9_told 135 = .ok (.iload_n 1, 1) := by decide +kernel
theorem dX9_told_136 : decode cX9_told 136 = .ok (.invokevirtual 210, 3) := by decide +kernel
theorem dX9_told_139 : decode cX9_told 139 = .ok (.goto 4, 3) := by decide +kernel
theorem dX9_told_142 : decode cX9_told 142 = .ok (.iconst (-1), 1) := by decide +kernel
theorem dX9_told_143 : decode cX9_told 143 = .ok (.ireturn, 1) := by decide +kernel
theorem dX9_told_144 : decode cX9_told 144 = .ok (.aload_n 0, 1) := by decide +kernel
theorem dX9_told_145 : decode cX9_told 145 = .ok (.getfield 72, 3) := by decide +kernel
theorem dX9_told_148 : decode cX9_told 148 = .ok (.getfield 213, 3) := by decide +kernel
theorem dX9_told_151 : decode cX9_told 151 = .ok (.iload_n 1, 1) := by decide +kernel
theorem dX9_told_152 : decode cX9_told 152 = .ok (.iaload, 1) := by decide +kernel
theorem dX9_told_153 : decode cX9_told 153 = .ok (.ireturn, 1) := by decide +kernel
theorem dX9_told_154 : decode cX9_told 154 = .ok (.iconst (-1), 1) := by decide +kernel
theorem dX9_told_155 : decode cX9_told 155 = .ok (.ireturn, 1) := by decide +kernel
theorem dX9_hire_0 : decode cX9_hire 0 = .ok (.aload_n 0, 1) := by decide +kernel
theorem dX9_hire_1 : decode cX9_hire 1 = .ok (.getfield 10, 3) := by decide +kernel
theorem dX9_hire_4 : decode cX9_hire 4 = .ok (.iload_n 1, 1) := by decide +kernel
theorem dX9_hire_5 : decode cX9_hire 5 = .ok (.invokevirtual 98, 3) := by decide +kernel
theorem dX9_hire_8 : decode cX9_hire 8 = .ok (.ifCond .eq 19, 3) := by decide +kernel
theorem dX9_hire_11 : decode cX9_hire 11 = .ok (.aload_n 0, 1) := by decide +kernel
theorem dX9_hire_12 : decode cX9_hire 12 = .ok (.getfield 10, 3) := by decide +kernel
theorem dX9_hire_15 : decode cX9_hire 15 = .ok (.iload_n 2, 1) := by decide +kernel
theorem dX9_hire_16 : decode cX9_hire 16 = .ok (.invokevirtual 95, 3) := by decide +kernel
theorem dX9_hire_19 : decode cX9_hire 19 = .ok (.ifCond .eq 8, 3) := by decide +kernel
theorem dX9_hire_22 : decode cX9_hire 22 = .ok (.iload_n 1, 1) := by decide +kernel
theorem dX9_hire_23 : decode cX9_hire 23 = .ok (.iload_n 2, 1) := by decide +kernel
theorem dX9_hire_24 : decode cX9_hire 24 = .ok (.if_icmp .ne 5, 3) := by decide +kernel
theorem dX9_hire_27 : decode cX9_hire 27 = .ok (.iconst 0, 1) := by decide +kernel
theorem dX9_hire_28 : decode cX9_hire 28 = .ok (.ireturn, 1) := by decide +kernel
theorem dX9_hire_29 : decode cX9_hire 29 = .ok (.aload_n 0, 1) := by decide +kernel
theorem dX9_hire_30 : decode cX9_hire 30 = .ok (.getfield 10, 3) := by decide +kernel
theorem dX9_hire_33 : decode cX9_hire 33 = .ok (.getfield 216, 3) := by decide +kernel
theorem dX9_hire_36 : decode cX9_hire 36 = .ok (.iload_n 2, 1) := by decide +kernel
theorem dX9_hire_37 : decode cX9_hire 37 = .ok (.iaload, 1) := by decide +kernel
theorem dX9_hire_38 : decode cX9_hire 38 = .ok (.iload_n 1, 1) := by decide +kernel
theorem dX9_hire_39 : decode cX9_hire 39 = .ok (.if_icmp .ne 5, 3) := by decide +kernel
theorem dX9_hire_42 : decode cX9_hire 42 = .ok (.iconst 0, 1) := by decide +kernel
theorem dX9_hire_43 : decode cX9_hire 43 = .ok (.ireturn, 1) := by decide +kernel
theorem dX9_hire_44 : decode cX9_hire 44 = .ok (.aload_n 0, 1) := by decide +kernel
theorem dX9_hire_45 : decode cX9_hire 45 = .ok (.getfield 10, 3) := by decide +kernel
theorem dX9_hire_48 : decode cX9_hire 48 = .ok (.getfield 216, 3) := by decide +kernel
theorem dX9_hire_51 : decode cX9_hire 51 = .ok (.iload_n 2, 1) := by decide +kernel
theorem dX9_hire_52 : decode cX9_hire 52 = .ok (.iload_n 1, 1) := by decide +kernel
theorem dX9_hire_53 : decode cX9_hire 53 = .ok (.iastore, 1) := by decide +kernel
theorem dX9_hire_54 : decode cX9_hire 54 = .ok (.iconst 1, 1) := by decide +kernel
theorem dX9_hire_55 : decode cX9_hire 55 = .ok (.ireturn, 1) := by decide +kernel
theorem dX9_leave_0 : decode cX9_leave 0 = .ok (.aload_n 0, 1) := by decide +kernel
theorem dX9_leave_1 : decode cX9_leave 1 = .ok (.getfield 10, 3) := by decide +kernel
theorem dX9_leave_4 : decode cX9_leave 4 = .ok (.iload_n 1, 1) := by decide +kernel
theorem dX9_leave_5 : decode cX9_leave 5 = .ok (.invokevirtual 112, 3) := by decide +kernel
theorem dX9_leave_8 : decode cX9_leave 8 = .ok (.ifCond .eq 16, 3) := by decide +kernel
theorem dX9_leave_11 : decode cX9_leave 11 = .ok (.aload_n 0, 1) := by decide +kernel
theorem dX9_leave_12 : decode cX9_leave 12 = .ok (.getfield 10, 3) := by decide +kernel
theorem dX9_leave_15 : decode cX9_leave 15 = .ok (.getfield 216, 3) := by decide +kernel
theorem dX9_leave_18 : decode cX9_leave 18 = .ok (.iload_n 1, 1) := by decide +kernel
theorem dX9_leave_19 : decode cX9_leave 19 = .ok (.iaload, 1) := by decide +kernel
theorem dX9_leave_20 : decode cX9_leave 20 = .ok (.iconst (-1), 1) := by decide +kernel
theorem dX9_leave_21 : decode cX9_leave 21 = .ok (.if_icmp .ne 5, 3) := by decide +kernel
theorem dX9_leave_24 : decode cX9_leave 24 = .ok (.iconst 0, 1) := by decide +kernel
theorem dX9_leave_25 : decode cX9_leave 25 = .ok (.ireturn, 1) := by decide +kernel
theorem dX9_leave_26 : decode cX9_leave 26 = .ok (.aload_n 0, 1) := by decide +kernel
theorem dX9_leave_27 : decode cX9_leave 27 = .ok (.getfield 10, 3) := by decide +kernel
theorem dX9_leave_30 : decode cX9_leave 30 = .ok (.getfield 216, 3) := by decide +kernel
theorem dX9_leave_33 : decode cX9_leave 33 = .ok (.iload_n 1, 1) := by decide +kernel
theorem dX9_leave_34 : decode cX9_leave 34 = .ok (.iconst (-1), 1) := by decide +kernel
theorem dX9_leave_35 : decode cX9_leave 35 = .ok (.iastore, 1) := by decide +kernel
theorem dX9_leave_36 : decode cX9_leave 36 = .ok (.iconst 1, 1) := by decide +kernel
theorem dX9_leave_37 : decode cX9_leave 37 = .ok (.ireturn, 1) := by decide +kernel
theorem dX9_number_0 : decode cX9_number 0 = .ok (.iload_n 1, 1) := by decide +kernel
theorem dX9_number_1 : decode cX9_number 1 = .ok (.ifCond .lt 26, 3) := by decide +kernel
theorem dX9_number_4 : decode cX9_number 4 = .ok (.iload_n 1, 1) := by decide +kernel
theorem dX9_number_5 : decode cX9_number 5 = .ok (.bipush 30, 2) := by decide +kernel
theorem dX9_number_7 : decode cX9_number 7 = .ok (.if_icmp .gt 20, 3) := by decide +kernel
theorem dX9_number_10 : decode cX9_number 10 = .ok (.iload_n 2, 1) := by decide +kernel
theorem dX9_number_11 : decode cX9_number 11 = .ok (.invokestatic 109, 3) := by decide +kernel
theorem dX9_number_14 : decode cX9_number 14 = .ok (.ifCond .eq 13, 3) := by decide +kernel
theorem dX9_number_17 : decode cX9_number 17 = .ok (.aload_n 0, 1) := by decide +kernel
theorem dX9_number_18 : decode cX9_number 18 = .ok (.getfield 61, 3) := by decide +kernel
theorem dX9_number_21 : decode cX9_number 21 = .ok (.invokevirtual 150, 3) := by decide +kernel
theorem dX9_number_24 : decode cX9_number 24 = .ok (.ifCond .eq 5, 3) := by decide +kernel
theorem dX9_number_27 : decode cX9_number 27 = .ok (.iconst 0, 1) := by decide +kernel
theorem dX9_number_28 : decode cX9_number 28 = .ok (.ireturn, 1) := by decide +kernel
theorem dX9_number_29 : decode cX9_number 29 = .ok (.aload_n 0, 1) := by decide +kernel
theorem dX9_number_30 : decode cX9_number 30 = .ok (.getfield 65, 3) := by decide +kernel
theorem dX9_number_33 : decode cX9_number 33 = .ok (.aload_n 0, 1) := by decide +kernel
theorem dX9_number_34 : decode cX9_number 34 = .ok (.getfield 61, 3) := by decide +kernel
theorem dX9_number_37 : decode cX9_number 37 = .ok (.iload_n 2, 1) := by decide +kernel
theorem dX9_number_38 : decode cX9_number 38 = .ok (.aload_n 0, 1) := by decide +kernel
theorem dX9_number_39 : decode cX9_number 39 = .ok (.getfield 79, 3) := by decide +kernel
theorem dX9_number_42 : decode cX9_number 42 = .ok (.invokevirtual 219, 3) := by decide +kernel
theorem dX9_number_45 : decode cX9_number 45 = .ok (.iload_n 1, 1) := by decide +kernel
theorem dX9_number_46 : decode cX9_number 46 = .ok (.iastore, 1) := by decide +kernel
theorem dX9_number_47 : decode cX9_number 47 = .ok (.iconst 1, 1) := by decide +kernel
theorem dX9_number_48 : decode cX9_number 48 = .ok (.ireturn, 1) := by decide +kernel
theorem dX9_hands_0 : decode cX9_hands 0 = .ok (.aload_n 0, 1) := by decide +kernel
theorem dX9_hands_1 : decode cX9_hands 1 = .ok (.getfield 10, 3) := by decide +kernel
theorem dX9_hands_4 : decode cX9_hands 4 = .ok (.iload_n 1, 1) := by decide +kernel
theorem dX9_hands_5 : decode cX9_hands 5 = .ok (.invokevirtual 98, 3) := by decide +kernel
theorem dX9_hands_8 : decode cX9_hands 8 = .ok (.ifCond .eq 14, 3) := by decide +kernel
theorem dX9_hands_11 : decode cX9_hands 11 = .ok (.aload_n 0, 1) := by decide +kernel
theorem dX9_hands_12 : decode cX9_hands 12 = .ok (.getfield 10, 3) := by decide +kernel
theorem dX9_hands_15 : decode cX9_hands 15 = .ok (.iload_n 1, 1) := by decide +kernel
theorem dX9_hands_16 : decode cX9_hands 16 = .ok (.invokevirtual 220, 3) := by decide +kernel
theorem dX9_hands_19 : decode cX9_hands 19 = .ok (.goto 4, 3) := by decide +kernel
theorem dX9_hands_22 : decode cX9_hands 22 = .ok (.iconst (-1), 1) := by decide +kernel
theorem dX9_hands_23 : decode cX9_hands 23 = .ok (.ireturn, 1) := by decide +kernel
theorem dX9_lawful_0 : decode cX9_lawful 0 = .ok (.aload_n 0, 1) := by decide +kernel
theorem dX9_lawful_1 : decode cX9_lawful 1 = .ok (.getfield 10, 3) := by decide +kernel
theorem dX9_lawful_4 : decode cX9_lawful 4 = .ok (.iload_n 1, 1) := by decide +kernel
theorem dX9_lawful_5 : decode cX9_lawful 5 = .ok (.invokevirtual 98, 3) := by decide +kernel
theorem dX9_lawful_8 : decode cX9_lawful 8 = .ok (.ifCond .ne 5, 3) := by decide +kernel
theorem dX9_lawful_11 : decode cX9_lawful 11 = .ok (.iconst (-1), 1) := by decide +kernel
theorem dX9_lawful_12 : decode cX9_lawful 12 = .ok (.ireturn, 1) := by decide +kernel
theorem dX9_lawful_13 : decode cX9_lawful 13 = .ok (.aload_n 0, 1) := by decide +kernel
theorem dX9_lawful_14 : decode cX9_lawful 14 = .ok (.getfield 10, 3) := by decide +kernel
theorem dX9_lawful_17 : decode cX9_lawful 17 = .ok (.iload_n 1, 1) := by decide +kernel
theorem dX9_lawful_18 : decode cX9_lawful 18 = .ok (.invokevirtual 220, 3) := by decide +kernel
theorem dX9_lawful_21 : decode cX9_lawful 21 = .ok (.aload_n 0, 1) := by decide +kernel
theorem dX9_lawful_22 : decode cX9_lawful 22 = .ok (.invokevirtual 223, 3) := by decide +kernel
theorem dX9_lawful_25 : decode cX9_lawful 25 = .ok (.if_icmp .gt 7, 3) := by decide +kernel
theorem dX9_lawful_28 : decode cX9_lawful 28 = .ok (.iconst 1, 1) := by decide +kernel
theorem dX9_lawful_29 : decode cX9_lawful 29 = .ok (.goto 4, 3) := by decide +kernel
theorem dX9_lawful_32 : decode cX9_lawful 32 = .ok (.iconst 0, 1) := by decide +kernel
theorem dX9_lawful_33 : decode cX9_lawful 33 = .ok (.istore_n 2, 1) := by decide +kernel
theorem dX9_lawful_34 : decode cX9_lawful 34 = .ok (.iload_n 2, 1) := by decide +kernel
theorem dX9_lawful_35 : decode cX9_lawful 35 = .ok (.ifCond .ne 19, 3) := by decide +kernel
theorem dX9_lawful_38 : decode cX9_lawful 38 = .ok (.aload_n 0, 1) := by decide +kernel
theorem dX9_lawful_39 : decode cX9_lawful 39 = .ok (.getfield 79, 3) := by decide +kernel
theorem dX9_lawful_42 : decode cX9_lawful 42 = .ok (.aload_n 0, 1) := by decide +kernel
theorem dX9_lawful_43 : decode cX9_lawful 43 = .ok (.getfield 10, 3) := by decide +kernel
theorem dX9_lawful_46 : decode cX9_lawful 46 = .ok (.getfield 226, 3) := by decide +kernel
theorem dX9_lawful_49 : decode cX9_lawful 49 = .ok (.iload_n 1, 1) := by decide +kernel
theorem dX9_lawful_50 : decode cX9_lawful 50 = .ok (.iaload, 1) := by decide +kernel
theorem dX9_lawful_51 : decode cX9_lawful 51 = .ok (.if_icmp .gt 7, 3) := by decide +kernel
theorem dX9_lawful_54 : decode cX9_lawful 54 = .ok (.iconst 1, 1) := by decide +kernel
theorem dX9_lawful_55 : decode cX9_lawful 55 = .ok (.goto 4, 3) := by decide +kernel
theorem dX9_lawful_58 : decode cX9_lawful 58 = .ok (.iconst 0, 1) := by decide +kernel
theorem dX9_lawful_59 : decode cX9_lawful 59 = .ok (.ireturn, 1) := by decide +kernel
theorem dX9_kin_0 : decode cX9_kin 0 = .ok (.aload_n 0, 1) := by decide +kernel
theorem dX9_kin_1 : decode cX9_kin 1 = .ok (.getfield 10, 3) := by decide +kernel
theorem dX9_kin_4 : decode cX9_kin 4 = .ok (.iload_n 1, 1) := by decide +kernel
theorem dX9_kin_5 : decode cX9_kin 5 = .ok (.invokevirtual 112, 3) := by decide +kernel
theorem dX9_kin_8 : decode cX9_kin 8 = .ok (.ifCond .eq 30, 3) := by decide +kernel
theorem dX9_kin_11 : decode cX9_kin 11 = .ok (.aload_n 0, 1) := by decide +kernel
theorem dX9_kin_12 : decode cX9_kin 12 = .ok (.getfield 10, 3) := by decide +kernel
theorem dX9_kin_15 : decode cX9_kin 15 = .ok (.iload_n 2, 1) := by decide +kernel
theorem dX9_kin_16 : decode cX9_kin 16 = .ok (.invokevirtual 112, 3) := by decide +kernel
theorem dX9_kin_19 : decode cX9_kin 19 = .ok (.ifCond .eq 19, 3) := by decide +kernel
theorem dX9_kin_22 : decode cX9_kin 22 = .ok (.aload_n 0, 1) := by decide +kernel
theorem dX9_kin_23 : decode cX9_kin 23 = .ok (.getfield 10, 3) := by decide +kernel
theorem dX9_kin_26 : decode cX9_kin 26 = .ok (.iload_n 1, 1) := by decide +kernel
theorem dX9_kin_27 : decode cX9_kin 27 = .ok (.iload_n 2, 1) := by decide +kernel
theorem dX9_kin_28 : decode cX9_kin 28 = .ok (.invokevirtual 229, 3) := by decide +kernel
theorem dX9_kin_31 : decode cX9_kin 31 = .ok (.ifCond .eq 7, 3) := by decide +kernel
theorem dX9_kin_34 : decode cX9_kin 34 = .ok (.iconst 1, 1) := by decide +kernel
theorem dX9_kin_35 : decode cX9_kin 35 = .ok (.goto 4, 3) := by decide +kernel
theorem dX9_kin_38 : decode cX9_kin 38 = .ok (.iconst 0, 1) := by decide +kernel
theorem dX9_kin_39 : decode cX9_kin 39 = .ok (.ireturn, 1) := by decide +kernel
theorem dX9_look_0 : decode cX9_look 0 = .ok (.aload_n 0, 1) := by decide +kernel
theorem dX9_look_1 : decode cX9_look 1 = .ok (.getfield 19, 3) := by decide +kernel
theorem dX9_look_4 : decode cX9_look 4 = .ok (.iload_n 1, 1) := by decide +kernel
theorem dX9_look_5 : decode cX9_look 5 = .ok (.invokevirtual 119, 3) := by decide +kernel
theorem dX9_look_8 : decode cX9_look 8 = .ok (.ifCond .ne 13, 3) := by decide +kernel
theorem dX9_look_11 : decode cX9_look 11 = .ok (.new 232, 3) := by decide +kernel
theorem dX9_look_14 : decode cX9_look 14 = .ok (.dup, 1) := by decide +kernel
theorem dX9_look_15 : decode cX9_look 15 = .ok (.ldc 234, 2) := by decide +kernel
theorem dX9_look_17 : decode cX9_look 17 = .ok (.invokespecial 236, 3) := by decide +kernel
theorem dX9_look_20 : decode cX9_look 20 = .ok (.athrow, 1) := by decide +kernel
theorem dX9_look_21 : decode cX9_look 21 = .ok (.iload_n 2, 1) := by decide +kernel
theorem dX9_look_22 : decode cX9_look 22 = .ok (.tableswitch 98 0 5 #[38, 48, 58, 68, 78, 88], 38) := by decide +kernel
theorem dX9_look_60 : decode cX9_look 60 = .ok (.aload_n 0, 1) := by decide +kernel
theorem dX9_look_61 : decode cX9_look 61 = .ok (.getfield 19, 3) := by decide +kernel
theorem dX9_look_64 : decode cX9_look 64 = .ok (.getfield 239, 3) := by decide +kernel
theorem dX9_look_67 : decode cX9_look 67 = .ok (.iload_n 1, 1) := by decide +kernel
theorem dX9_look_68 : decode cX9_look 68 = .ok (.iaload, 1) := by decide +kernel
theorem dX9_look_69 : decode cX9_look 69 = .ok (.ireturn, 1) := by decide +kernel
theorem dX9_look_70 : decode cX9_look 70 = .ok (.aload_n 0, 1) := by decide +kernel
theorem dX9_look_71 : decode cX9_look 71 = .ok (.getfield 19, 3) := by decide +kernel
theorem dX9_look_74 : decode cX9_look 74 = .ok (.getfield 242, 3) := by decide +kernel
theorem dX9_look_77 : decode cX9_look 77 = .ok (.iload_n 1, 1) := by decide +kernel
theorem dX9_look_78 : decode cX9_look 78 = .ok (.iaload, 1) := by decide +kernel
theorem dX9_look_79 : decode cX9_look 79 = .ok (.ireturn, 1) := by decide +kernel
theorem dX9_look_80 : decode cX9_look 80 = .ok (.aload_n 0, 1) := by decide +kernel
theorem dX9_look_81 : decode cX9_look 81 = .ok (.getfield 19, 3) := by decide +kernel
theorem dX9_look_84 : decode cX9_look 84 = .ok (.getfield 245, 3) := by decide +kernel
theorem dX9_look_87 : decode cX9_look 87 = .ok (.iload_n 1, 1) := by decide +kernel
theorem dX9_look_88 : decode cX9_look 88 = .ok (.iaload, 1) := by decide +kernel
theorem dX9_look_89 : decode cX9_look 89 = .ok (.ireturn, 1) := by decide +kernel
theorem dX9_look_90 : decode cX9_look 90 = .ok (.aload_n 0, 1) := by decide +kernel
theorem dX9_look_91 : decode cX9_look 91 = .ok (.getfield 19, 3) := by decide +kernel
theorem dX9_look_94 : decode cX9_look 94 = .ok (.getfield 248, 3) := by decide +kernel
theorem dX9_look_97 : decode cX9_look 97 = .ok (.iload_n 1, 1) := by decide +kernel
theorem dX9_look_98 : decode cX9_look 98 = .ok (.iaload, 1) := by decide +kernel
theorem dX9_look_99 : decode cX9_look 99 = .ok (.ireturn, 1) := by decide +kernel
theorem dX9_look_100 : decode cX9_look 100 = .ok (.aload_n 0, 1) := by decide +kernel
theorem dX9_look_101 : decode cX9_look 101 = .ok (.getfield 19, 3) := by decide +kernel
theorem dX9_look_104 : decode cX9_look 104 = .ok (.getfield 251, 3) := by decide +kernel
theorem dX9_look_107 : decode cX9_look 107 = .ok (.iload_n 1, 1) := by decide +kernel
theorem dX9_look_108 : decode cX9_look 108 = .ok (.iaload, 1) := by decide +kernel
theorem dX9_look_109 : decode cX9_look 109 = .ok (.ireturn, 1) := by decide +kernel
theorem dX9_look_110 : decode cX9_look 110 = .ok (.aload_n 0, 1) := by decide +kernel
theorem dX9_look_111 : decode cX9_look 111 = .ok (.getfield 19, 3) := by decide +kernel
theorem dX9_look_114 : decode cX9_look 114 = .ok (.getfield 254, 3) := by decide +kernel
theorem dX9_look_117 : decode cX9_look 117 = .ok (.iload_n 1, 1) := by decide +kernel
theorem dX9_look_118 : decode cX9_look 118 = .ok (.iaload, 1) := by decide +kernel
theorem dX9_look_119 : decode cX9_look 119 = .ok (.ireturn, 1) := by decide +kernel
theorem dX9_look_120 : decode cX9_look 120 = .ok (.new 232, 3) := by decide +kernel
theorem dX9_look_123 : decode cX9_look 123 = .ok (.dup, 1) := by decide +kernel
theorem dX9_look_124 : decode cX9_look 124 = .ok (.ldc_w 257, 3) := by decide +kernel
theorem dX9_look_127 : decode cX9_look 127 = .ok (.invokespecial 236, 3) := by decide +kernel
theorem dX9_look_130 : decode cX9_look 130 = .ok (.athrow, 1) := by decide +kernel
theorem dX9_count_0 : decode cX9_count 0 = .ok (.iload_n 1, 1) := by decide +kernel
theorem dX9_count_1 : decode cX9_count 1 = .ok (.tableswitch 111 0 7 #[47, 52, 60, 68, 76, 87, 95, 103], 47) := by decide +kernel
theorem dX9_count_48 : decode cX9_count 48 = .ok (.aload_n 0, 1) := by decide +kernel
theorem dX9_count_49 : decode cX9_count 49 = .ok (.getfield 79, 3) := by decide +kernel
theorem dX9_count_52 : decode cX9_count 52 = .ok (.ireturn, 1) := by decide +kernel
theorem dX9_count_53 : decode cX9_count 53 = .ok (.aload_n 0, 1) := by decide +kernel
theorem dX9_count_54 : decode cX9_count 54 = .ok (.getfield 10, 3) := by decide +kernel
theorem dX9_count_57 : decode cX9_count 57 = .ok (.getfield 259, 3) := by decide +kernel
theorem dX9_count_60 : decode cX9_count 60 = .ok (.ireturn, 1) := by decide +kernel
theorem dX9_count_61 : decode cX9_count 61 = .ok (.aload_n 0, 1) := by decide +kernel
theorem dX9_count_62 : decode cX9_count 62 = .ok (.getfield 10, 3) := by decide +kernel
theorem dX9_count_65 : decode cX9_count 65 = .ok (.invokevirtual 262, 3) := by decide +kernel
theorem dX9_count_68 : decode cX9_count 68 = .ok (.ireturn, 1) := by decide +kernel
theorem dX9_count_69 : decode cX9_count 69 = .ok (.aload_n 0, 1) := by decide +kernel
theorem dX9_count_70 : decode cX9_count 70 = .ok (.getfield 19, 3) := by decide +kernel
theorem dX9_count_73 : decode cX9_count 73 = .ok (.getfield 265, 3) := by decide +kernel
theorem dX9_count_76 : decode cX9_count 76 = .ok (.ireturn, 1) := by decide +kernel
theorem dX9_count_77 : decode cX9_count 77 = .ok (.aload_n 0, 1) := by decide +kernel
theorem dX9_count_78 : decode cX9_count 78 = .ok (.getfield 47, 3) := by decide +kernel
theorem dX9_count_81 : decode cX9_count 81 = .ok (.getfield 147, 3) := by decide +kernel
theorem dX9_count_84 : decode cX9_count 84 = .ok (.getfield 266, 3) := by decide +kernel
theorem dX9_count_87 : decode cX9_count 87 = .ok (.ireturn, 1) := by decide +kernel
theorem dX9_count_88 : decode cX9_count 88 = .ok (.aload_n 0, 1) := by decide +kernel
theorem dX9_count_89 : decode cX9_count 89 = .ok (.getfield 72, 3) := by decide +kernel
theorem dX9_count_92 : decode cX9_count 92 = .ok (.getfield 267, 3) := by decide +kernel
theorem dX9_count_95 : decode cX9_count 95 = .ok (.ireturn, 1) := by decide +kernel
theorem dX9_count_96 : decode cX9_count 96 = .ok (.aload_n 0, 1) := by decide +kernel
theorem dX9_count_97 : decode cX9_count 97 = .ok (.getfield 33, 3) := by decide +kernel
theorem dX9_count_100 : decode cX9_count 100 = .ok (.getfield 136, 3) := by decide +kernel
theorem dX9_count_103 : decode cX9_count 103 = .ok (.ireturn, 1) := by decide +kernel
theorem dX9_count_104 : decode cX9_count 104 = .ok (.aload_n 0, 1) := by decide +kernel
theorem dX9_count_105 : decode cX9_count 105 = .ok (.getfield 10, 3) := by decide +kernel
theorem dX9_count_108 : decode cX9_count 108 = .ok (.invokevirtual 268, 3) := by decide +kernel
theorem dX9_count_111 : decode cX9_count 111 = .ok (.ireturn, 1) := by decide +kernel
theorem dX9_count_112 : decode cX9_count 112 = .ok (.iconst (-1), 1) := by decide +kernel
theorem dX9_count_113 : decode cX9_count 113 = .ok (.ireturn, 1) := by decide +kernel
theorem dX9_isDay_0 : decode cX9_isDay 0 = .ok (.iload_n 0, 1) := by decide +kernel
theorem dX9_isDay_1 : decode cX9_isDay 1 = .ok (.ifCond .lt 14, 3) := by decide +kernel
theorem dX9_isDay_4 : decode cX9_isDay 4 = .ok (.iload_n 0, 1) := by decide +kernel
theorem dX9_isDay_5 : decode cX9_isDay 5 = .ok (.sipush 20000, 3) := by decide +kernel
theorem dX9_isDay_8 : decode cX9_isDay 8 = .ok (.if_icmp .gt 7, 3) := by decide +kernel
theorem dX9_isDay_11 : decode cX9_isDay 11 = .ok (.iconst 1, 1) := by decide +kernel
theorem dX9_isDay_12 : decode cX9_isDay 12 = .ok (.goto 4, 3) := by decide +kernel
theorem dX9_isDay_15 : decode cX9_isDay 15 = .ok (.iconst 0, 1) := by decide +kernel
theorem dX9_isDay_16 : decode cX9_isDay 16 = .ok (.ireturn, 1) := by decide +kernel
theorem dX9_isAskable_0 : decode cX9_isAskable 0 = .ok (.iload_n 1, 1) := by decide +kernel
theorem dX9_isAskable_1 : decode cX9_isAskable 1 = .ok (.invokestatic 109, 3) := by decide +kernel
theorem dX9_isAskable_4 : decode cX9_isAskable 4 = .ok (.ifCond .eq 19, 3) := by decide +kernel
theorem dX9_isAskable_7 : decode cX9_isAskable 7 = .ok (.iload_n 2, 1) := by decide +kernel
theorem dX9_isAskable_8 : decode cX9_isAskable 8 = .ok (.ifCond .lt 15, 3) := by decide +kernel
theorem dX9_isAskable_11 : decode cX9_isAskable 11 = .ok (.iload_n 2, 1) := by decide +kernel
theorem dX9_isAskable_12 : decode cX9_isAskable 12 = .ok (.aload_n 0, 1) := by decide +kernel
theorem dX9_isAskable_13 : decode cX9_isAskable 13 = .ok (.getfield 79, 3) := by decide +kernel
theorem dX9_isAskable_16 : decode cX9_isAskable 16 = .ok (.if_icmp .gt 7, 3) := by decide +kernel
theorem dX9_isAskable_19 : decode cX9_isAskable 19 = .ok (.iconst 1, 1) := by decide +kernel
theorem dX9_isAskable_20 : decode cX9_isAskable 20 = .ok (.goto 4, 3) := by decide +kernel
theorem dX9_isAskable_23 : decode cX9_isAskable 23 = .ok (.iconst 0, 1) := by decide +kernel
theorem dX9_isAskable_24 : decode cX9_isAskable 24 = .ok (.ireturn, 1) := by decide +kernel
theorem dX9_valueOf_0 : decode cX9_valueOf 0 = .ok (.iload_n 3, 1) := by decide +kernel
theorem dX9_valueOf_1 : decode cX9_valueOf 1 = .ok (.iload 4, 2) := by decide +kernel
theorem dX9_valueOf_3 : decode cX9_valueOf 3 = .ok (.invokestatic 271, 3) := by decide +kernel
theorem dX9_valueOf_6 : decode cX9_valueOf 6 = .ok (.istore 5, 2) := by decide +kernel
theorem dX9_valueOf_8 : decode cX9_valueOf 8 = .ok (.iload_n 2, 1) := by decide +kernel
theorem dX9_valueOf_9 : decode cX9_valueOf 9 = .ok (.tableswitch 148 0 6 #[43, 56, 69, 87, 105, 116, 135], 43) := by decide +kernel
theorem dX9_valueOf_52 : decode cX9_valueOf 52 = .ok (.aload_n 0, 1) := by decide +kernel
theorem dX9_valueOf_53 : decode cX9_valueOf 53 = .ok (.getfield 19, 3) := by decide +kernel
theorem dX9_valueOf_56 : decode cX9_valueOf 56 = .ok (.iconst 0, 1) := by decide +kernel
theorem dX9_valueOf_57 : decode cX9_valueOf 57 = .ok (.iload_n 1, 1) := by decide +kernel
theorem dX9_valueOf_58 : decode cX9_valueOf 58 = .ok (.iload_n 3, 1) := by decide +kernel
theorem dX9_valueOf_59 : decode cX9_valueOf 59 = .ok (.iload 4, 2) := by decide +kernel
theorem dX9_valueOf_61 : decode cX9_valueOf 61 = .ok (.invokevirtual 276, 3) := by decide +kernel
theorem dX9_valueOf_64 : decode cX9_valueOf 64 = .ok (.ireturn, 1) := by decide +kernel
theorem dX9_valueOf_65 : decode cX9_valueOf 65 = .ok (.aload_n 0, 1) := by decide +kernel
theorem dX9_valueOf_66 : decode cX9_valueOf 66 = .ok (.getfield 19, 3) := by decide +kernel
theorem dX9_valueOf_69 : decode cX9_valueOf 69 = .ok (.iconst 1, 1) := by decide +kernel
theorem dX9_valueOf_70 : decode cX9_valueOf 70 = .ok (.iload_n 1, 1) := by decide +kernel
theorem dX9_valueOf_71 : decode cX9_valueOf 71 = .ok (.iload_n 3, 1) := by decide +kernel
theorem dX9_valueOf_72 : decode cX9_valueOf 72 = .ok (.iload 4, 2) := by decide +kernel
theorem dX9_valueOf_74 : decode cX9_valueOf 74 = .ok (.invokevirtual 276, 3) := by decide +kernel
theorem dX9_valueOf_77 : decode cX9_valueOf 77 = .ok (.ireturn, 1) := by decide +kernel
theorem dX9_valueOf_78 : decode cX9_valueOf 78 = .ok (.aload_n 0, 1) := by decide +kernel
theorem dX9_valueOf_79 : decode cX9_valueOf 79 = .ok (.getfield 26, 3) := by decide +kernel
theorem dX9_valueOf_82 : decode cX9_valueOf 82 = .ok (.aload_n 0, 1) := by decide +kernel
theorem dX9_valueOf_83 : decode cX9_valueOf 83 = .ok (.getfield 26, 3) := by decide +kernel
theorem dX9_valueOf_86 : decode cX9_valueOf 86 = .ok (.getfield 279, 3) := by decide +kernel
theorem dX9_valueOf_89 : decode cX9_valueOf 89 = .ok (.iload_n 1, 1) := by decide +kernel
theorem dX9_valueOf_90 : decode cX9_valueOf 90 = .ok (.iload 5, 2) := by decide +kernel
theorem dX9_valueOf_92 : decode cX9_valueOf 92 = .ok (.invokevirtual 282, 3) := by decide +kernel
theorem dX9_valueOf_95 : decode cX9_valueOf 95 = .ok (.ireturn, 1) := by decide +kernel
theorem dX9_valueOf_96 : decode cX9_valueOf 96 = .ok (.aload_n 0, 1) := by decide +kernel
theorem dX9_valueOf_97 : decode cX9_valueOf 97 = .ok (.getfield 26, 3) := by decide +kernel
theorem dX9_valueOf_100 : decode cX9_valueOf 100 = .ok (.aload_n 0, 1) := by decide +kernel
theorem dX9_valueOf_101 : decode cX9_valueOf 101 = .ok (.getfield 26, 3) := by decide +kernel
theorem dX9_valueOf_104 : decode cX9_valueOf 104 = .ok (.getfield 286, 3) := by decide +kernel
theorem dX9_valueOf_107 : decode cX9_valueOf 107 = .ok (.iload_n 1, 1) := by decide +kernel
theorem dX9_valueOf_108 : decode cX9_valueOf 108 = .ok (.iload 5, 2) := by decide +kernel
theorem dX9_valueOf_110 : decode cX9_valueOf 110 = .ok (.invokevirtual 282, 3) := by decide +kernel
theorem dX9_valueOf_113 : decode cX9_valueOf 113 = .ok (.ireturn, 1) := by decide +kernel
theorem dX9_valueOf_114 : decode cX9_valueOf 114 = .ok (.aload_n 0, 1) := by decide +kernel
theorem dX9_valueOf_115 : decode cX9_valueOf 115 = .ok (.getfield 72, 3) := by decide +kernel
theorem dX9_valueOf_118 : decode cX9_valueOf 118 = .ok (.iload_n 1, 1) := by decide +kernel
theorem dX9_valueOf_119 : decode cX9_valueOf 119 = .ok (.iload 5, 2) := by decide +kernel
theorem dX9_valueOf_121 : decode cX9_valueOf 121 = .ok (.invokevirtual 289, 3) := by decide +kernel
theorem dX9_valueOf_124 : decode cX9_valueOf 124 = .ok (.ireturn, 1) := by decide +kernel
theorem dX9_valueOf_125 : decode cX9_valueOf 125 = .ok (.aload_n 0, 1) := by decide +kernel
theorem dX9_valueOf_126 : decode cX9_valueOf 126 = .ok (.getfield 10, 3) := by decide +kernel
theorem dX9_valueOf_129 : decode cX9_valueOf 129 = .ok (.iload_n 1, 1) := by decide +kernel
theorem dX9_valueOf_130 : decode cX9_valueOf 130 = .ok (.iload 5, 2) := by decide +kernel
theorem dX9_valueOf_132 : decode cX9_valueOf 132 = .ok (.invokevirtual 292, 3) := by decide +kernel
theorem dX9_valueOf_135 : decode cX9_valueOf 135 = .ok (.ifCond .eq 7, 3) := by decide +kernel
theorem dX9_valueOf_138 : decode cX9_valueOf 138 = .ok (.iconst 1, 1) := by decide +kernel
theorem dX9_valueOf_139 : decode cX9_valueOf 139 = .ok (.goto 4, 3) := by decide +kernel
theorem dX9_valueOf_142 : decode cX9_valueOf 142 = .ok (.iconst 0, 1) := by decide +kernel
theorem dX9_valueOf_143 : decode cX9_valueOf 143 = .ok (.ireturn, 1) := by decide +kernel
theorem dX9_valueOf_144 : decode cX9_valueOf 144 = .ok (.aload_n 0, 1) := by decide +kernel
theorem dX9_valueOf_145 : decode cX9_valueOf 145 = .ok (.getfield 19, 3) := by decide +kernel
theorem dX9_valueOf_148 : decode cX9_valueOf 148 = .ok (.iconst 2, 1) := by decide +kernel
theorem dX9_valueOf_149 : decode cX9_valueOf 149 = .ok (.iload_n 1, 1) := by decide +kernel
theorem dX9_valueOf_150 : decode cX9_valueOf 150 = .ok (.iload_n 3, 1) := by decide +kernel
theorem dX9_valueOf_151 : decode cX9_valueOf 151 = .ok (.iload 4, 2) := by decide +kernel
theorem dX9_valueOf_153 : decode cX9_valueOf 153 = .ok (.invokevirtual 276, 3) := by decide +kernel
theorem dX9_valueOf_156 : decode cX9_valueOf 156 = .ok (.ireturn, 1) := by decide +kernel
theorem dX9_valueOf_157 : decode cX9_valueOf 157 = .ok (.iconst (-1), 1) := by decide +kernel
theorem dX9_valueOf_158 : decode cX9_valueOf 158 = .ok (.ireturn, 1) := by decide +kernel
theorem dX9_mayCome_0 : decode cX9_mayCome 0 = .ok (.aload_n 0, 1) := by decide +kernel
theorem dX9_mayCome_1 : decode cX9_mayCome 1 = .ok (.getfield 47, 3) := by decide +kernel
theorem dX9_mayCome_4 : decode cX9_mayCome 4 = .ok (.getfield 147, 3) := by decide +kernel
theorem dX9_mayCome_7 : decode cX9_mayCome 7 = .ok (.iload_n 2, 1) := by decide +kernel
theorem dX9_mayCome_8 : decode cX9_mayCome 8 = .ok (.iload_n 3, 1) := by decide +kernel
theorem dX9_mayCome_9 : decode cX9_mayCome 9 = .ok (.invokevirtual 162, 3) := by decide +kernel
theorem dX9_mayCome_12 : decode cX9_mayCome 12 = .ok (.istore 4, 2) := by decide +kernel
theorem dX9_mayCome_14 : decode cX9_mayCome 14 = .ok (.iload 4, 2) := by decide +kernel
theorem dX9_mayCome_16 : decode cX9_mayCome 16 = .ok (.iconst (-1), 1) := by decide +kernel
theorem dX9_mayCome_17 : decode cX9_mayCome 17 = .ok (.if_icmp .ne 5, 3) := by decide +kernel
theorem dX9_mayCome_20 : decode cX9_mayCome 20 = .ok (.iconst 1, 1) := by decide +kernel
theorem dX9_mayCome_21 : decode cX9_mayCome 21 = .ok (.ireturn, 1) := by decide +kernel
theorem dX9_mayCome_22 : decode cX9_mayCome 22 = .ok (.iconst 0, 1) := by decide +kernel
theorem dX9_mayCome_23 : decode cX9_mayCome 23 = .ok (.istore 5, 2) := by decide +kernel
theorem dX9_mayCome_25 : decode cX9_mayCome 25 = .ok (.iload 5, 2) := by decide +kernel
theorem dX9_mayCome_27 : decode cX9_mayCome 27 = .ok (.bipush 6, 2) := by decide +kernel
theorem dX9_mayCome_29 : decode cX9_mayCome 29 = .ok (.if_icmp .ge 28, 3) := by decide +kernel
theorem dX9_mayCome_32 : decode cX9_mayCome 32 = .ok (.aload_n 0, 1) := by decide +kernel
theorem dX9_mayCome_33 : decode cX9_mayCome 33 = .ok (.getfield 54, 3) := by decide +kernel
theorem dX9_mayCome_36 : decode cX9_mayCome 36 = .ok (.getfield 295, 3) := by decide +kernel
theorem dX9_mayCome_39 : decode cX9_mayCome 39 = .ok (.iload 5, 2) := by decide +kernel
theorem dX9_mayCome_41 : decode cX9_mayCome 41 = .ok (.aload_n 0, 1) := by decide +kernel
theorem dX9_mayCome_42 : decode cX9_mayCome 42 = .ok (.iload_n 1, 1) := by decide +kernel
theorem dX9_mayCome_43 : decode cX9_mayCome 43 = .ok (.iload 5, 2) := by decide +kernel
theorem dX9_mayCome_45 : decode cX9_mayCome 45 = .ok (.iload_n 2, 1) := by decide +kernel
theorem dX9_mayCome_46 : decode cX9_mayCome 46 = .ok (.iload_n 3, 1) := by decide +kernel
theorem dX9_mayCome_47 : decode cX9_mayCome 47 = .ok (.invokevirtual 165, 3) := by decide +kernel
theorem dX9_mayCome_50 : decode cX9_mayCome 50 = .ok (.iastore, 1) := by decide +kernel
theorem dX9_mayCome_51 : decode cX9_mayCome 51 = .ok (.iinc 5 1, 3) := by decide +kernel
theorem dX9_mayCome_54 : decode cX9_mayCome 54 = .ok (.goto (-29), 3) := by decide +kernel
theorem dX9_mayCome_57 : decode cX9_mayCome 57 = .ok (.aload_n 0, 1) := by decide +kernel
theorem dX9_mayCome_58 : decode cX9_mayCome 58 = .ok (.getfield 47, 3) := by decide +kernel
theorem dX9_mayCome_61 : decode cX9_mayCome 61 = .ok (.iload 4, 2) := by decide +kernel
theorem dX9_mayCome_63 : decode cX9_mayCome 63 = .ok (.aload_n 0, 1) := by decide +kernel
theorem dX9_mayCome_64 : decode cX9_mayCome 64 = .ok (.getfield 54, 3) := by decide +kernel
theorem dX9_mayCome_67 : decode cX9_mayCome 67 = .ok (.invokevirtual 298, 3) := by decide +kernel
theorem dX9_mayCome_70 : decode cX9_mayCome 70 = .ok (.ifCond .eq 5, 3) := by decide +kernel
theorem dX9_mayCome_73 : decode cX9_mayCome 73 = .ok (.iconst 1, 1) := by decide +kernel
theorem dX9_mayCome_74 : decode cX9_mayCome 74 = .ok (.ireturn, 1) := by decide +kernel
theorem dX9_mayCome_75 : decode cX9_mayCome 75 = .ok (.aload_n 0, 1) := by decide +kernel
theorem dX9_mayCome_76 : decode cX9_mayCome 76 = .ok (.getfield 19, 3) := by decide +kernel
theorem dX9_mayCome_79 : decode cX9_mayCome 79 = .ok (.iload_n 1, 1) := by decide +kernel
theorem dX9_mayCome_80 : decode cX9_mayCome 80 = .ok (.iload_n 2, 1) := by decide +kernel
theorem dX9_mayCome_81 : decode cX9_mayCome 81 = .ok (.iload_n 3, 1) := by decide +kernel
theorem dX9_mayCome_82 : decode cX9_mayCome 82 = .ok (.invokevirtual 302, 3) := by decide +kernel
theorem dX9_mayCome_85 : decode cX9_mayCome 85 = .ok (.istore 5, 2) := by decide +kernel
theorem dX9_mayCome_87 : decode cX9_mayCome 87 = .ok (.iload 5, 2) := by decide +kernel
theorem dX9_mayCome_89 : decode cX9_mayCome 89 = .ok (.iconst (-1), 1) := by decide +kernel
theorem dX9_mayCome_90 : decode cX9_mayCome 90 = .ok (.if_icmp .ne 5, 3) := by decide +kernel
theorem dX9_mayCome_93 : decode cX9_mayCome 93 = .ok (.iconst 0, 1) := by decide +kernel
theorem dX9_mayCome_94 : decode cX9_mayCome 94 = .ok (.ireturn, 1) := by decide +kernel
theorem dX9_mayCome_95 : decode cX9_mayCome 95 = .ok (.aload_n 0, 1) := by decide +kernel
theorem dX9_mayCome_96 : decode cX9_mayCome 96 = .ok (.getfield 47, 3) := by decide +kernel
theorem dX9_mayCome_99 : decode cX9_mayCome 99 = .ok (.getfield 147, 3) := by decide +kernel
theorem dX9_mayCome_102 : decode cX9_mayCome 102 = .ok (.iload 5, 2) := by decide +kernel
theorem dX9_mayCome_104 : decode cX9_mayCome 104 = .ok (.iload_n 3, 1) := by decide +kernel
theorem dX9_mayCome_105 : decode cX9_mayCome 105 = .ok (.invokevirtual 162, 3) := by decide +kernel
theorem dX9_mayCome_108 : decode cX9_mayCome 108 = .ok (.istore 6, 2) := by decide +kernel
theorem dX9_mayCome_110 : decode cX9_mayCome 110 = .ok (.iload 6, 2) := by decide +kernel
theorem dX9_mayCome_112 : decode cX9_mayCome 112 = .ok (.iconst (-1), 1) := by decide +kernel
theorem dX9_mayCome_113 : decode cX9_mayCome 113 = .ok (.if_icmp .eq 19, 3) := by decide +kernel
theorem dX9_mayCome_116 : decode cX9_mayCome 116 = .ok (.aload_n 0, 1) := by decide +kernel
theorem dX9_mayCome_117 : decode cX9_mayCome 117 = .ok (.getfield 47, 3) := by decide +kernel
theorem dX9_mayCome_120 : decode cX9_mayCome 120 = .ok (.iload 6, 2) := by decide +kernel
theorem dX9_mayCome_122 : decode cX9_mayCome 122 = .ok (.aload_n 0, 1) := by decide +kernel
theorem dX9_mayCome_123 : decode cX9_mayCome 123 = .ok (.getfield 54, 3) := by decide +kernel
theorem dX9_mayCome_126 : decode cX9_mayCome 126 = .ok (.invokevirtual 298, 3) := by decide +kernel
theorem dX9_mayCome_129 : decode cX9_mayCome 129 = .ok (.ifCond .eq 7, 3) := by decide +kernel
theorem dX9_mayCome_132 : decode cX9_mayCome 132 = .ok (.iconst 2, 1) := by decide +kernel
theorem dX9_mayCome_133 : decode cX9_mayCome 133 = .ok (.goto 4, 3) := by decide +kernel
theorem dX9_mayCome_136 : decode cX9_mayCome 136 = .ok (.iconst 0, 1) := by decide +kernel
theorem dX9_mayCome_137 : decode cX9_mayCome 137 = .ok (.ireturn, 1) := by decide +kernel
theorem dX9_seatFitJudges_0 : decode cX9_seatFitJudges 0 = .ok (.iconst 0, 1) := by decide +kernel
theorem dX9_seatFitJudges_1 : decode cX9_seatFitJudges 1 = .ok (.istore_n 2, 1) := by decide +kernel
theorem dX9_seatFitJudges_2 : decode cX9_seatFitJudges 2 = .ok (.iconst 0, 1) := by decide +kernel
theorem dX9_seatFitJudges_3 : decode cX9_seatFitJudges 3 = .ok (.istore_n 3, 1) := by decide +kernel
theorem dX9_seatFitJudges_4 : decode cX9_seatFitJudges 4 = .ok (.iload_n 3, 1) := by decide +kernel
theorem dX9_seatFitJudges_5 : decode cX9_seatFitJudges 5 = .ok (.aload_n 0, 1) := by decide +kernel
theorem dX9_seatFitJudges_6 : decode cX9_seatFitJudges 6 = .ok (.getfield 10, 3) := by decide +kernel
theorem dX9_seatFitJudges_9 : decode cX9_seatFitJudges 9 = .ok (.getfield 259, 3) := by decide +kernel
theorem dX9_seatFitJudges_12 : decode cX9_seatFitJudges 12 = .ok (.if_icmp .ge 58, 3) := by decide +kernel
theorem dX9_seatFitJudges_15 : decode cX9_seatFitJudges 15 = .ok (.aload_n 0, 1) := by decide +kernel
theorem dX9_seatFitJudges_16 : decode cX9_seatFitJudges 16 = .ok (.getfield 10, 3) := by decide +kernel
theorem dX9_seatFitJudges_19 : decode cX9_seatFitJudges 19 = .ok (.iload_n 3, 1) := by decide +kernel
theorem dX9_seatFitJudges_20 : decode cX9_seatFitJudges 20 = .ok (.invokevirtual 98, 3) := by decide +kernel
theorem dX9_seatFitJudges_23 : decode cX9_seatFitJudges 23 = .ok (.ifCond .eq 41, 3) := by decide +kernel
theorem dX9_seatFitJudges_26 : decode cX9_seatFitJudges 26 = .ok (.aload_n 0, 1) := by decide +kernel
theorem dX9_seatFitJudges_27 : decode cX9_seatFitJudges 27 = .ok (.getfield 10, 3) := by decide +kernel
theorem dX9_seatFitJudges_30 : decode cX9_seatFitJudges 30 = .ok (.iload_n 3, 1) := by decide +kernel
theorem dX9_seatFitJudges_31 : decode cX9_seatFitJudges 31 = .ok (.iload_n 1, 1) := by decide +kernel
theorem dX9_seatFitJudges_32 : decode cX9_seatFitJudges 32 = .ok (.invokevirtual 229, 3) := by decide +kernel
theorem dX9_seatFitJudges_35 : decode cX9_seatFitJudges 35 = .ok (.ifCond .ne 29, 3) := by decide +kernel
theorem dX9_seatFitJudges_38 : decode cX9_seatFitJudges 38 = .ok (.aload_n 0, 1) := by decide +kernel
theorem dX9_seatFitJudges_39 : decode cX9_seatFitJudges 39 = .ok (.getfield 19, 3) := by decide +kernel
theorem dX9_seatFitJudges_42 : decode cX9_seatFitJudges 42 = .ok (.iload_n 1, 1) := by decide +kernel
theorem dX9_seatFitJudges_43 : decode cX9_seatFitJudges 43 = .ok (.iload_n 3, 1) := by decide +kernel
theorem dX9_seatFitJudges_44 : decode cX9_seatFitJudges 44 = .ok (.aload_n 0, 1) := by decide +kernel
theorem dX9_seatFitJudges_45 : decode cX9_seatFitJudges 45 = .ok (.getfield 79, 3) := by decide +kernel
theorem dX9_seatFitJudges_48 : decode cX9_seatFitJudges 48 = .ok (.invokevirtual 305, 3) := by decide +kernel
theorem dX9_seatFitJudges_51 : decode cX9_seatFitJudges 51 = .ok (.ifCond .ne 13, 3) := by decide +kernel
theorem dX9_seatFitJudges_54 : decode cX9_seatFitJudges 54 = .ok (.aload_n 0, 1) := by decide +kernel
theorem dX9_seatFitJudges_55 : decode cX9_seatFitJudges 55 = .ok (.getfield 76, 3) := by decide +kernel
theorem dX9_seatFitJudges_58 : decode cX9_seatFitJudges 58 = .ok (.iload_n 2, 1) := by decide +kernel
theorem dX9_seatFitJudges_59 : decode cX9_seatFitJudges 59 = .ok (.iload_n 3, 1) := by decide +kernel
theorem dX9_seatFitJudges_60 : decode cX9_seatFitJudges 60 = .ok (.iastore, 1) := by decide +kernel
theorem dX9_seatFitJudges_61 : decode cX9_seatFitJudges 61 = .ok (.iinc 2 1, 3) := by decide +kernel
theorem dX9_seatFitJudges_64 : decode cX9_seatFitJudges 64 = .ok (.iinc 3 1, 3) := by decide +kernel
theorem dX9_seatFitJudges_67 : decode cX9_seatFitJudges 67 = .ok (.goto (-63), 3) := by decide +kernel
theorem dX9_seatFitJudges_70 : decode cX9_seatFitJudges 70 = .ok (.iload_n 2, 1) := by decide +kernel
theorem dX9_seatFitJudges_71 : decode cX9_seatFitJudges 71 = .ok (.ireturn, 1) := by decide +kernel
theorem dX9_numberNow_0 : decode cX9_numberNow 0 = .ok (.aload_n 0, 1) := by decide +kernel
theorem dX9_numberNow_1 : decode cX9_numberNow 1 = .ok (.getfield 61, 3) := by decide +kernel
theorem dX9_numberNow_4 : decode cX9_numberNow 4 = .ok (.aload_n 0, 1) := by decide +kernel
theorem dX9_numberNow_5 : decode cX9_numberNow 5 = .ok (.getfield 79, 3) := by decide +kernel
theorem dX9_numberNow_8 : decode cX9_numberNow 8 = .ok (.aload_n 0, 1) := by decide +kernel
theorem dX9_numberNow_9 : decode cX9_numberNow 9 = .ok (.getfield 79, 3) := by decide +kernel
theorem dX9_numberNow_12 : decode cX9_numberNow 12 = .ok (.invokevirtual 162, 3) := by decide +kernel
theorem dX9_numberNow_15 : decode cX9_numberNow 15 = .ok (.istore_n 1, 1) := by decide +kernel
theorem dX9_numberNow_16 : decode cX9_numberNow 16 = .ok (.iload_n 1, 1) := by decide +kernel
theorem dX9_numberNow_17 : decode cX9_numberNow 17 = .ok (.iconst (-1), 1) := by decide +kernel
theorem dX9_numberNow_18 : decode cX9_numberNow 18 = .ok (.if_icmp .ne 7, 3) := by decide +kernel
theorem dX9_numberNow_21 : decode cX9_numberNow 21 = .ok (.iconst 3, 1) := by decide +kernel
theorem dX9_numberNow_22 : decode cX9_numberNow 22 = .ok (.goto 9, 3) := by decide +kernel
theorem dX9_numberNow_25 : decode cX9_numberNow 25 = .ok (.aload_n 0, 1) := by decide +kernel
theorem dX9_numberNow_26 : decode cX9_numberNow 26 = .ok (.getfield 65, 3) := by decide +kernel
theorem dX9_numberNow_29 : decode cX9_numberNow 29 = .ok (.iload_n 1, 1) := by decide +kernel
theorem dX9_numberNow_30 : decode cX9_numberNow 30 = .ok (.iaload, 1) := by decide +kernel
theorem dX9_numberNow_31 : decode cX9_numberNow 31 = .ok (.ireturn, 1) := by decide +kernel
theorem dX10_init_0 : decode cX10_init 0 = .ok (.aload_n 0, 1) := by decide +kernel
theorem dX10_init_1 : decode cX10_init 1 = .ok (.invokespecial 1, 3) := by decide +kernel
theorem dX10_init_4 : decode cX10_init 4 = .ok (.aload_n 0, 1) := by decide +kernel
theorem dX10_init_5 : decode cX10_init 5 = .ok (.bipush 30, 2) := by decide +kernel
theorem dX10_init_7 : decode cX10_init 7 = .ok (.newarray .int, 2) := by decide +kernel
theorem dX10_init_9 : decode cX10_init 9 = .ok (.putfield 9, 3) := by decide +kernel
theorem dX10_init_12 : decode cX10_init 12 = .ok (.aload_n 0, 1) := by decide +kernel
theorem dX10_init_13 : decode cX10_init 13 = .ok (.bipush 30, 2) := by decide +kernel
theorem dX10_init_15 : decode cX10_init 15 = .ok (.newarray .int, 2) := by decide +kernel
theorem dX10_init_17 : decode cX10_init 17 = .ok (.putfield 13, 3) := by decide +kernel
theorem dX10_init_20 : decode cX10_init 20 = .ok (.aload_n 0, 1) := by decide +kernel
theorem dX10_init_21 : decode cX10_init 21 = .ok (.bipush 30, 2) := by decide +kernel
theorem dX10_init_23 : decode cX10_init 23 = .ok (.newarray .int, 2) := by decide +kernel
theorem dX10_init_25 : decode cX10_init 25 = .ok (.putfield 16, 3) := by decide +kernel
theorem dX10_init_28 : decode cX10_init 28 = .ok (.aload_n 0, 1) := by decide +kernel
theorem dX10_init_29 : decode cX10_init 29 = .ok (.bipush 30, 2) := by decide +kernel
theorem dX10_init_31 : decode cX10_init 31 = .ok (.newarray .int, 2) := by decide +kernel
theorem dX10_init_33 : decode cX10_init 33 = .ok (.putfield 19, 3) := by decide +kernel
theorem dX10_init_36 : decode cX10_init 36 = .ok (.aload_n 0, 1) := by decide +kernel
theorem dX10_init_37 : decode cX10_init 37 = .ok (.bipush 30, 2) := by decide +kernel
theorem dX10_init_39 : decode cX10_init 39 = .ok (.newarray .int, 2) := by decide +kernel
theorem dX10_init_41 : decode cX10_init 41 = .ok (.putfield 22, 3) := by decide +kernel
theorem dX10_init_44 : decode cX10_init 44 = .ok (.aload_n 0, 1) := by decide +kernel
theorem dX10_init_45 : decode cX10_init 45 = .ok (.bipush 30, 2) := by decide +kernel
theorem dX10_init_47 : decode cX10_init 47 = .ok (.newarray .int, 2) := by decide +kernel
theorem dX10_init_49 : decode cX10_init 49 = .ok (.putfield 25, 3) := by decide +kernel
theorem dX10_init_52 : decode cX10_init 52 = .ok (.aload_n 0, 1) := by decide +kernel
theorem dX10_init_53 : decode cX10_init 53 = .ok (.bipush 100, 2) := by decide +kernel
theorem dX10_init_55 : decode cX10_init 55 = .ok (.newarray .int, 2) := by decide +kernel
theorem dX10_init_57 : decode cX10_init 57 = .ok (.putfield 28, 3) := by decide +kernel
theorem dX10_init_60 : decode cX10_init 60 = .ok (.aload_n 0, 1) := by decide +kernel
theorem dX10_init_61 : decode cX10_init 61 = .ok (.bipush 100, 2) := by decide +kernel
theorem dX10_init_63 : decode cX10_init 63 = .ok (.newarray .int, 2) := by decide +kernel
theorem dX10_init_65 : decode cX10_init 65 = .ok (.putfield 31, 3) := by decide +kernel
theorem dX10_init_68 : decode cX10_init 68 = .ok (.aload_n 0, 1) := by decide +kernel
theorem dX10_init_69 : decode cX10_init 69 = .ok (.bipush 100, 2) := by decide +kernel
theorem dX10_init_71 : decode cX10_init 71 = .ok (.newarray .int, 2) := by decide +kernel
theorem dX10_init_73 : decode cX10_init 73 = .ok (.putfield 34, 3) := by decide +kernel
theorem dX10_init_76 : decode cX10_init 76 = .ok (.aload_n 0, 1) := by decide +kernel
theorem dX10_init_77 : decode cX10_init 77 = .ok (.bipush 100, 2) := by decide +kernel
theorem dX10_init_79 : decode cX10_init 79 = .ok (.newarray .int, 2) := by decide +kernel
theorem dX10_init_81 : decode cX10_init 81 = .ok (.putfield 37, 3) := by decide +kernel
theorem dX10_init_84 : decode cX10_init 84 = .ok (.aload_n 0, 1) := by decide +kernel
theorem dX10_init_85 : decode cX10_init 85 = .ok (.bipush 100, 2) := by decide +kernel
theorem dX10_init_87 : decode cX10_init 87 = .ok (.newarray .int, 2) := by decide +kernel
theorem dX10_init_89 : decode cX10_init 89 = .ok (.putfield 40, 3) := by decide +kernel
theorem dX10_init_92 : decode cX10_init 92 = .ok (.aload_n 0, 1) := by decide +kernel
theorem dX10_init_93 : decode cX10_init 93 = .ok (.bipush 100, 2) := by decide +kernel
theorem dX10_init_95 : decode cX10_init 95 = .ok (.newarray .int, 2) := by decide +kernel
theorem dX10_init_97 : decode cX10_init 97 = .ok (.putfield 43, 3) := by decide +kernel
theorem dX10_init_100 : decode cX10_init 100 = .ok (.aload_n 0, 1) := by decide +kernel
theorem dX10_init_101 : decode cX10_init 101 = .ok (.bipush 100, 2) := by decide +kernel
theorem dX10_init_103 : decode cX10_init 103 = .ok (.newarray .int, 2) := by decide +kernel
theorem dX10_init_105 : decode cX10_init 105 = .ok (.putfield 46, 3) := by decide +kernel
theorem dX10_init_108 : decode cX10_init 108 = .ok (.aload_n 0, 1) := by decide +kernel
theorem dX10_init_109 : decode cX10_init 109 = .ok (.bipush 100, 2) := by decide +kernel
theorem dX10_init_111 : decode cX10_init 111 = .ok (.newarray .int, 2) := by decide +kernel
theorem dX10_init_113 : decode cX10_init 113 = .ok (.putfield 49, 3) := by decide +kernel
theorem dX10_init_116 : decode cX10_init 116 = .ok (.aload_n 0, 1) := by decide +kernel
theorem dX10_init_117 : decode cX10_init 117 = .ok (.bipush 100, 2) := by decide +kernel
theorem dX10_init_119 : decode cX10_init 119 = .ok (.newarray .int, 2) := by decide +kernel
theorem dX10_init_121 : decode cX10_init 121 = .ok (.putfield 52, 3) := by decide +kernel
theorem dX10_init_124 : decode cX10_init 124 = .ok (.aload_n 0, 1) := by decide +kernel
theorem dX10_init_125 : decode cX10_init 125 = .ok (.bipush 100, 2) := by decide +kernel
theorem dX10_init_127 : decode cX10_init 127 = .ok (.newarray .int, 2) := by decide +kernel
theorem dX10_init_129 : decode cX10_init 129 = .ok (.putfield 55, 3) := by decide +kernel
theorem dX10_init_132 : decode cX10_init 132 = .ok (.aload_n 0, 1) := by decide +kernel
theorem dX10_init_133 : decode cX10_init 133 = .ok (.bipush 120, 2) := by decide +kernel
theorem dX10_init_135 : decode cX10_init 135 = .ok (.newarray .byte, 2) := by decide +kernel
theorem dX10_init_137 : decode cX10_init 137 = .ok (.putfield 58, 3) := by decide +kernel
theorem dX10_init_140 : decode cX10_init 140 = .ok (.aload_n 0, 1) := by decide +kernel
theorem dX10_init_141 : decode cX10_init 141 = .ok (.sipush 3600, 3) := by decide +kernel
theorem dX10_init_144 : decode cX10_init 144 = .ok (.newarray .byte, 2) := by decide +kernel
theorem dX10_init_146 : decode cX10_init 146 = .ok (.putfield 62, 3) := by decide +kernel
theorem dX10_init_149 : decode cX10_init 149 = .ok (.aload_n 0, 1) := by decide +kernel
theorem dX10_init_150 : decode cX10_init 150 = .ok (.bipush 30, 2) := by decide +kernel
theorem dX10_init_152 : decode cX10_init 152 = .ok (.newarray .int, 2) := by decide +kernel
theorem dX10_init_154 : decode cX10_init 154 = .ok (.putfield 65, 3) := by decide +kernel
theorem dX10_init_157 : decode cX10_init 157 = .ok (.aload_n 0, 1) := by decide +kernel
theorem dX10_init_158 : decode cX10_init 158 = .ok (.bipush 30, 2) := by decide +kernel
theorem dX10_init_160 : decode cX10_init 160 = .ok (.newarray .int, 2) := by decide +kernel
theorem dX10_init_162 : decode cX10_init 162 = .ok (.putfield 68, 3) := by decide +kernel
theorem dX10_init_165 : decode cX10_init 165 = .ok (.aload_n 0, 1) := by decide +kernel
theorem dX10_init_166 : decode cX10_init 166 = .ok (.bipush 30, 2) := by decide +kernel
theorem dX10_init_168 : decode cX10_init 168 = .ok (.newarray .int, 2) := by decide +kernel
theorem dX10_init_170 : decode cX10_init 170 = .ok (.putfield 71, 3) := by decide +kernel
theorem dX10_init_173 : decode cX10_init 173 = .ok (.aload_n 0, 1) := by decide +kernel
theorem dX10_init_174 : decode cX10_init 174 = .ok (.bipush 40, 2) := by decide +kernel
theorem dX10_init_176 : decode cX10_init 176 = .ok (.newarray .int, 2) := by decide +kernel
theorem dX10_init_178 : decode cX10_init 178 = .ok (.putfield 74, 3) := by decide +kernel
theorem dX10_init_181 : decode cX10_init 181 = .ok (.aload_n 0, 1) := by decide +kernel
theorem dX10_init_182 : decode cX10_init 182 = .ok (.bipush 40, 2) := by decide +kernel
theorem dX10_init_184 : decode cX10_init 184 = .ok (.newarray .int, 2) := by decide +kernel
theorem dX10_init_186 : decode cX10_init 186 = .ok (.putfield 77, 3) := by decide +kernel
theorem dX10_init_189 : decode cX10_init 189 = .ok (.aload_n 0, 1) := by decide +kernel
theorem dX10_init_190 : decode cX10_init 190 = .ok (.bipush 40, 2) := by decide +kernel
theorem dX10_init_192 : decode cX10_init 192 = .ok (.newarray .int, 2) := by decide +kernel
theorem dX10_init_194 : decode cX10_init 194 = .ok (.putfield 80, 3) := by decide +kernel
theorem dX10_init_197 : decode cX10_init 197 = .ok (.aload_n 0, 1) := by decide +kernel
theorem dX10_init_198 : decode cX10_init 198 = .ok (.bipush 40, 2) := by decide +kernel
theorem dX10_init_200 : decode cX10_init 200 = .ok (.newarray .int, 2) := by decide +kernel
theorem dX10_init_202 : decode cX10_init 202 = .ok (.putfield 83, 3) := by decide +kernel
theorem dX10_init_205 : decode cX10_init 205 = .ok (.aload_n 0, 1) := by decide +kernel
theorem dX10_init_206 : decode cX10_init 206 = .ok (.bipush 120, 2) := by decide +kernel
theorem dX10_init_208 : decode cX10_init 208 = .ok (.newarray .int, 2) := by decide +kernel
theorem dX10_init_210 : decode cX10_init 210 = .ok (.putfield 86, 3) := by decide +kernel
theorem dX10_init_213 : decode cX10_init 213 = .ok (.aload_n 0, 1) := by decide +kernel
theorem dX10_init_214 : decode cX10_init 214 = .ok (.sipush 480, 3) := by decide +kernel
theorem dX10_init_217 : decode cX10_init 217 = .ok (.newarray .int, 2) := by decide +kernel
theorem dX10_init_219 : decode cX10_init 219 = .ok (.putfield 89, 3) := by decide +kernel
theorem dX10_init_222 : decode cX10_init 222 = .ok (.aload_n 0, 1) := by decide +kernel
theorem dX10_init_223 : decode cX10_init 223 = .ok (.bipush 30, 2) := by decide +kernel
theorem dX10_init_225 : decode cX10_init 225 = .ok (.newarray .int, 2) := by decide +kernel
theorem dX10_init_227 : decode cX10_init 227 = .ok (.putfield 92, 3) := by decide +kernel
theorem dX10_init_230 : decode cX10_init 230 = .ok (.aload_n 0, 1) := by decide +kernel
theorem dX10_init_231 : decode cX10_init 231 = .ok (.bipush 30, 2) := by decide +kernel
theorem dX10_init_233 : decode cX10_init 233 = .ok (.newarray .int, 2) := by decide +kernel
theorem dX10_init_235 : decode cX10_init 235 = .ok (.putfield 95, 3) := by decide +kernel
theorem dX10_init_238 : decode cX10_init 238 = .ok (.aload_n 0, 1) := by decide +kernel
theorem dX10_init_239 : decode cX10_init 239 = .ok (.bipush 30, 2) := by decide +kernel
theorem dX10_init_241 : decode cX10_init 241 = .ok (.newarray .int, 2) := by decide +kernel
theorem dX10_init_243 : decode cX10_init 243 = .ok (.putfield 98, 3) := by decide +kernel
theorem dX10_init_246 : decode cX10_init 246 = .ok (.aload_n 0, 1) := by decide +kernel
theorem dX10_init_247 : decode cX10_init 247 = .ok (.sipush 20001, 3) := by decide +kernel
theorem dX10_init_250 : decode cX10_init 250 = .ok (.newarray .byte, 2) := by decide +kernel
theorem dX10_init_252 : decode cX10_init 252 = .ok (.putfield 101, 3) := by decide +kernel
theorem dX10_init_255 : decode cX10_init 255 = .ok (.aload_n 0, 1) := by decide +kernel
theorem dX10_init_256 : decode cX10_init 256 = .ok (.sipush 20001, 3) := by decide +kernel
theorem dX10_init_259 : decode cX10_init 259 = .ok (.newarray .int, 2) := by decide +kernel
theorem dX10_init_261 : decode cX10_init 261 = .ok (.putfield 104, 3) := by decide +kernel
theorem dX10_init_264 : decode cX10_init 264 = .ok (.aload_n 0, 1) := by decide +kernel
theorem dX10_init_265 : decode cX10_init 265 = .ok (.sipush 20001, 3) := by decide +kernel
theorem dX10_init_268 : decode cX10_init 268 = .ok (.newarray .boolean, 2) := by decide +kernel
theorem dX10_init_270 : decode cX10_init 270 = .ok (.putfield 107, 3) := by decide +kernel
theorem dX10_init_273 : decode cX10_init 273 = .ok (.aload_n 0, 1) := by decide +kernel
theorem dX10_init_274 : decode cX10_init 274 = .ok (.bipush 8, 2) := by decide +kernel
theorem dX10_init_276 : decode cX10_init 276 = .ok (.newarray .int, 2) := by decide +kernel
theorem dX10_init_278 : decode cX10_init 278 = .ok (.putfield 111, 3) := by decide +kernel
theorem dX10_init_281 : decode cX10_init 281 = .ok (.aload_n 0, 1) := by decide +kernel
theorem dX10_init_282 : decode cX10_init 282 = .ok (.aload_n 0, 1) := by decide +kernel
theorem dX10_init_283 : decode cX10_init 283 = .ok (.getfield 58, 3) := by decide +kernel
theorem dX10_init_286 : decode cX10_init 286 = .ok (.putfield 114, 3) := by decide +kernel
theorem dX10_init_289 : decode cX10_init 289 = .ok (.return_, 1) := by decide +kernel
theorem dX10_thrown_0 : decode cX10_thrown 0 = .ok (.aload_n 0, 1) := by decide +kernel
theorem dX10_thrown_1 : decode cX10_thrown 1 = .ok (.getfield 117, 3) := by decide +kernel
theorem dX10_thrown_4 : decode cX10_thrown 4 = .ok (.ireturn, 1) := by decide +kernel
theorem dX10_isIn_0 : decode cX10_isIn 0 = .ok (.iload_n 0, 1) := by decide +kernel
theorem dX10_isIn_1 : decode cX10_isIn 1 = .ok (.iload_n 1, 1) := by decide +kernel
theorem dX10_isIn_2 : decode cX10_isIn 2 = .ok (.if_icmp .lt 12, 3) := by decide +kernel
theorem dX10_isIn_5 : decode cX10_isIn 5 = .ok (.iload_n 0, 1) := by decide +kernel
theorem dX10_isIn_6 : decode cX10_isIn 6 = .ok (.iload_n 2, 1) := by decide +kernel
theorem dX10_isIn_7 : decode cX10_isIn 7 = .ok (.if_icmp .gt 7, 3) := by decide +kernel
theorem dX10_isIn_10 : decode cX10_isIn 10 = .ok (.iconst 1, 1) := by decide +kernel
theorem dX10_isIn_11 : decode cX10_isIn 11 = .ok (.goto 4, 3) := by decide +kernel
theorem dX10_isIn_14 : decode cX10_isIn 14 = .ok (.iconst 0, 1) := by decide +kernel
theorem dX10_isIn_15 : decode cX10_isIn 15 = .ok (.ireturn, 1) := by decide +kernel
theorem dX10_isPerson_0 : decode cX10_isPerson 0 = .ok (.iload_n 1, 1) := by decide +kernel
theorem dX10_isPerson_1 : decode cX10_isPerson 1 = .ok (.ifCond .lt 15, 3) := by decide +kernel
theorem dX10_isPerson_4 : decode cX10_isPerson 4 = .ok (.iload_n 1, 1) := by decide +kernel
theorem dX10_isPerson_5 : decode cX10_isPerson 5 = .ok (.aload_n 0, 1) := by decide +kernel
theorem dX10_isPerson_6 : decode cX10_isPerson 6 = .ok (.getfield 121, 3) := by decide +kernel
theorem dX10_isPerson_9 : decode cX10_isPerson 9 = .ok (.if_icmp .ge 7, 3) := by decide +kernel
theorem dX10_isPerson_12 : decode cX10_isPerson 12 = .ok (.iconst 1, 1) := by decide +kernel
theorem dX10_isPerson_13 : decode cX10_isPerson 13 = .ok (.goto 4, 3) := by decide +kernel
theorem dX10_isPerson_16 : decode cX10_isPerson 16 = .ok (.iconst 0, 1) := by decide +kernel
theorem dX10_isPerson_17 : decode cX10_isPerson 17 = .ok (.ireturn, 1) := by decide +kernel
theorem dX10_isAlive_0 : decode cX10_isAlive 0 = .ok (.aload_n 0, 1) := by decide +kernel
theorem dX10_isAlive_1 : decode cX10_isAlive 1 = .ok (.iload_n 1, 1) := by decide +kernel
theorem dX10_isAlive_2 : decode cX10_isAlive 2 = .ok (.invokevirtual 124, 3) := by decide +kernel
theorem dX10_isAlive_5 : decode cX10_isAlive 5 = .ok (.ifCond .eq 17, 3) := by decide +kernel
theorem dX10_isAlive_8 : decode cX10_isAlive 8 = .ok (.aload_n 0, 1) := by decide +kernel
theorem dX10_isAlive_9 : decode cX10_isAlive 9 = .ok (.getfield 19, 3) := by decide +kernel
theorem dX10_isAlive_12 : decode cX10_isAlive 12 = .ok (.iload_n 1, 1) := by decide +kernel
theorem dX10_isAlive_13 : decode cX10_isAlive 13 = .ok (.iaload, 1) := by decide +kernel
theorem dX10_isAlive_14 : decode cX10_isAlive 14 = .ok (.iconst (-1), 1) := by decide +kernel
theorem dX10_isAlive_15 : decode cX10_isAlive 15 = .ok (.if_icmp .ne 7, 3) := by decide +kernel
theorem dX10_isAlive_18 : decode cX10_isAlive 18 = .ok (.iconst 1, 1) := by decide +kernel
theorem dX10_isAlive_19 : decode cX10_isAlive 19 = .ok (.goto 4, 3) := by decide +kernel
theorem dX10_isAlive_22 : decode cX10_isAlive 22 = .ok (.iconst 0, 1) := by decide +kernel
theorem dX10_isAlive_23 : decode cX10_isAlive 23 = .ok (.ireturn, 1) := by decide +kernel
theorem dX10_isMaster_0 : decode cX10_isMaster 0 = .ok (.aload_n 0, 1) := by decide +kernel
theorem dX10_isMaster_1 : decode cX10_isMaster 1 = .ok (.iload_n 1, 1) := by decide +kernel
theorem dX10_isMaster_2 : decode cX10_isMaster 2 = .ok (.invokevirtual 128, 3) := by decide +kernel
theorem dX10_isMaster_5 : decode cX10_isMaster 5 = .ok (.ifCond .eq 17, 3) := by decide +kernel
theorem dX10_isMaster_8 : decode cX10_isMaster 8 = .ok (.aload_n 0, 1) := by decide +kernel
theorem dX10_isMaster_9 : decode cX10_isMaster 9 = .ok (.getfield 16, 3) := by decide +kernel
theorem dX10_isMaster_12 : decode cX10_isMaster 12 = .ok (.iload_n 1, 1) := by decide +kernel
theorem dX10_isMaster_13 : decode cX10_isMaster 13 = .ok (.iaload, 1) := by decide +kernel
theorem dX10_isMaster_14 : decode cX10_isMaster 14 = .ok (.iconst (-1), 1) := by decide +kernel
theorem dX10_isMaster_15 : decode cX10_isMaster 15 = .ok (.if_icmp .eq 7, 3) := by decide +kernel
theorem dX10_isMaster_18 : decode cX10_isMaster 18 = .ok (.iconst 1, 1) := by decide +kernel
theorem dX10_isMaster_19 : decode cX10_isMaster 19 = .ok (.goto 4, 3) := by decide +kernel
theorem dX10_isMaster_22 : decode cX10_isMaster 22 = .ok (.iconst 0, 1) := by decide +kernel
theorem dX10_isMaster_23 : decode cX10_isMaster 23 = .ok (.ireturn, 1) := by decide +kernel
theorem dX10_person_0 : decode cX10_person 0 = .ok (.aload_n 0, 1) := by decide +kernel
theorem dX10_person_1 : decode cX10_person 1 = .ok (.iconst 0, 1) := by decide +kernel
theorem dX10_person_2 : decode cX10_person 2 = .ok (.putfield 117, 3) := by decide +kernel
theorem dX10_person_5 : decode cX10_person 5 = .ok (.aload_n 0, 1) := by decide +kernel
theorem dX10_person_6 : decode cX10_person 6 = .ok (.getfield 121, 3) := by decide +kernel
theorem dX10_person_9 : decode cX10_person 9 = .ok (.bipush 30, 2) := by decide +kernel
theorem dX10_person_11 : decode cX10_person 11 = .ok (.if_icmp .eq 29, 3) := by decide +kernel
theorem dX10_person_14 : decode cX10_person 14 = .ok (.iload_n 1, 1) := by decide +kernel
theorem dX10_person_15 : decode cX10_person 15 = .ok (.iconst (-1), 1) := by decide +kernel
theorem dX10_person_16 : decode cX10_person 16 = .ok (.if_icmp .eq 11, 3) := by decide +kernel
theorem dX10_person_19 : decode cX10_person 19 = .ok (.aload_n 0, 1) := by decide +kernel
theorem dX10_person_20 : decode cX10_person 20 = .ok (.iload_n 1, 1) := by decide +kernel
theorem dX10_person_21 : decode cX10_person 21 = .ok (.invokevirtual 124, 3) := by decide +kernel
theorem dX10_person_24 : decode cX10_person 24 = .ok (.ifCond .eq 16, 3) := by decide +kernel
theorem dX10_person_27 : decode cX10_person 27 = .ok (.iload_n 2, 1) := by decide +kernel
theorem dX10_person_28 : decode cX10_person 28 = .ok (.iconst (-1), 1) := by decide +kernel
theorem dX10_person_29 : decode cX10_person 29 = .ok (.if_icmp .eq 13, 3) := by decide +kernel
theorem dX10_person_32 : decode cX10_person 32 = .ok (.aload_n 0, 1) := by decide +kernel
theorem dX10_person_33 : decode cX10_person 33 = .ok (.iload_n 2, 1) := by decide +kernel
theorem dX10_person_34 : decode cX10_person 34 = .ok (.invokevirtual 124, 3) := by decide +kernel
theorem dX10_person_37 : decode cX10_person 37 = .ok (.ifCond .ne 5, 3) := by decide +kernel
theorem dX10_person_40 : decode cX10_person 40 = .ok (.iconst (-1), 1) := by decide +kernel
theorem dX10_person_41 : decode cX10_person 41 = .ok (.ireturn, 1) := by decide +kernel
theorem dX10_person_42 : decode cX10_person 42 = .ok (.aload_n 0, 1) := by decide +kernel
theorem dX10_person_43 : decode cX10_person 43 = .ok (.getfield 9, 3) := by decide +kernel
theorem dX10_person_46 : decode cX10_person 46 = .ok (.aload_n 0, 1) := by decide +kernel
theorem dX10_person_47 : decode cX10_person 47 = .ok (.getfield 121, 3) := by decide +kernel
theorem dX10_person_50 : decode cX10_person 50 = .ok (.iload_n 1, 1) := by decide +kernel
theorem dX10_person_51 : decode cX10_person 51 = .ok (.iastore, 1) := by decide +kernel
theorem dX10_person_52 : decode cX10_person 52 = .ok (.aload_n 0, 1) := by decide +kernel
theorem dX10_person_53 : decode cX10_person 53 = .ok (.getfield 13, 3) := by decide +kernel
theorem dX10_person_56 : decode cX10_person 56 = .ok (.aload_n 0, 1) := by decide +kernel
theorem dX10_person_57 : decode cX10_person 57 = .ok (.getfield 121, 3) := by decide +kernel
theorem dX10_person_60 : decode cX10_person 60 = .ok (.iload_n 2, 1) := by decide +kernel
theorem dX10_person_61 : decode cX10_person 61 = .ok (.iastore, 1) := by decide +kernel
theorem dX10_person_62 : decode cX10_person 62 = .ok (.aload_n 0, 1) := by decide +kernel
theorem dX10_person_63 : decode cX10_person 63 = .ok (.getfield 16, 3) := by decide +kernel
theorem dX10_person_66 : decode cX10_person 66 = .ok (.aload_n 0, 1) := by decide +kernel
theorem dX10_person_67 : decode cX10_person 67 = .ok (.getfield 121, 3) := by decide +kernel
theorem dX10_person_70 : decode cX10_person 70 = .ok (.iconst (-1), 1) := by decide +kernel
theorem dX10_person_71 : decode cX10_person 71 = .ok (.iastore, 1) := by decide +kernel
theorem dX10_person_72 : decode cX10_person 72 = .ok (.aload_n 0, 1) := by decide +kernel
theorem dX10_person_73 : decode cX10_person 73 = .ok (.getfield 19, 3) := by decide +kernel
theorem dX10_person_76 : decode cX10_person 76 = .ok (.aload_n 0, 1) := by decide +kernel
theorem dX10_person_77 : decode cX10_person 77 = .ok (.getfield 121, 3) := by decide +kernel
theorem dX10_person_80 : decode cX10_person 80 = .ok (.iconst (-1), 1) := by decide +kernel
theorem dX10_person_81 : decode cX10_person 81 = .ok (.iastore, 1) := by decide +kernel
theorem dX10_person_82 : decode cX10_person 82 = .ok (.aload_n 0, 1) := by decide +kernel
theorem dX10_person_83 : decode cX10_person 83 = .ok (.getfield 22, 3) := by decide +kernel
theorem dX10_person_86 : decode cX10_person 86 = .ok (.aload_n 0, 1) := by decide +kernel
theorem dX10_person_87 : decode cX10_person 87 = .ok (.getfield 121, 3) := by decide +kernel
theorem dX10_person_90 : decode cX10_person 90 = .ok (.iconst (-1), 1) := by decide +kernel
theorem dX10_person_91 : decode cX10_person 91 = .ok (.iastore, 1) := by decide +kernel
theorem dX10_person_92 : decode cX10_person 92 = .ok (.aload_n 0, 1) := by decide +kernel
theorem dX10_person_93 : decode cX10_person 93 = .ok (.getfield 25, 3) := by decide +kernel
theorem dX10_person_96 : decode cX10_person 96 = .ok (.aload_n 0, 1) := by decide +kernel
theorem dX10_person_97 : decode cX10_person 97 = .ok (.getfield 121, 3) := by decide +kernel
theorem dX10_person_100 : decode cX10_person 100 = .ok (.iconst (-1), 1) := by decide +kernel
theorem dX10_person_101 : decode cX10_person 101 = .ok (.iastore, 1) := by decide +kernel
theorem dX10_person_102 : decode cX10_person 102 = .ok (.aload_n 0, 1) := by decide +kernel
theorem dX10_person_103 : decode cX10_person 103 = .ok (.dup, 1) := by decide +kernel
theorem dX10_person_104 : decode cX10_person 104 = .ok (.getfield 121, 3) := by decide +kernel
theorem dX10_person_107 : decode cX10_person 107 = .ok (.iconst 1, 1) := by decide +kernel
theorem dX10_person_108 : decode cX10_person 108 = .ok (.iadd, 1) := by decide +kernel
theorem dX10_person_109 : decode cX10_person 109 = .ok (.putfield 121, 3) := by decide +kernel
theorem dX10_person_112 : decode cX10_person 112 = .ok (.aload_n 0, 1) := by decide +kernel
theorem dX10_person_113 : decode cX10_person 113 = .ok (.getfield 121, 3) := by decide +kernel
theorem dX10_person_116 : decode cX10_person 116 = .ok (.iconst 1, 1) := by decide +kernel
theorem dX10_person_117 : decode cX10_person 117 = .ok (.isub, 1) := by decide +kernel
theorem dX10_person_118 : decode cX10_person 118 = .ok (.ireturn, 1) := by decide +kernel
theorem dX10_master_0 : decode cX10_master 0 = .ok (.aload_n 0, 1) := by decide +kernel
theorem dX10_master_1 : decode cX10_master 1 = .ok (.iconst 0, 1) := by decide +kernel
theorem dX10_master_2 : decode cX10_master 2 = .ok (.putfield 117, 3) := by decide +kernel
theorem dX10_master_5 : decode cX10_master 5 = .ok (.aload_n 0, 1) := by decide +kernel
theorem dX10_master_6 : decode cX10_master 6 = .ok (.iload_n 1, 1) := by decide +kernel
theorem dX10_master_7 : decode cX10_master 7 = .ok (.invokevirtual 128, 3) := by decide +kernel
theorem dX10_master_10 : decode cX10_master 10 = .ok (.ifCond .eq 11, 3) := by decide +kernel
theorem dX10_master_13 : decode cX10_master 13 = .ok (.aload_n 0, 1) := by decide +kernel
theorem dX10_master_14 : decode cX10_master 14 = .ok (.iload_n 1, 1) := by decide +kernel
theorem dX10_master_15 : decode cX10_master 15 = .ok (.invokevirtual 131, 3) := by decide +kernel
theorem dX10_master_18 : decode cX10_master 18 = .ok (.ifCond .eq 5, 3) := by decide +kernel
theorem dX10_master_21 : decode cX10_master 21 = .ok (.iconst 0, 1) := by decide +kernel
theorem dX10_master_22 : decode cX10_master 22 = .ok (.ireturn, 1) := by decide +kernel
theorem dX10_master_23 : decode cX10_master 23 = .ok (.aload_n 0, 1) := by decide +kernel
theorem dX10_master_24 : decode cX10_master 24 = .ok (.getfield 16, 3) := by decide +kernel
theorem dX10_master_27 : decode cX10_master 27 = .ok (.iload_n 1, 1) := by decide +kernel
theorem dX10_master_28 : decode cX10_master 28 = .ok (.aload_n 0, 1) := by decide +kernel
theorem dX10_master_29 : decode cX10_master 29 = .ok (.getfield 134, 3) := by decide +kernel
theorem dX10_master_32 : decode cX10_master 32 = .ok (.iastore, 1) := by decide +kernel
theorem dX10_master_33 : decode cX10_master 33 = .ok (.iconst 1, 1) := by decide +kernel
theorem dX10_master_34 : decode cX10_master 34 = .ok (.ireturn, 1) := by decide +kernel
theorem dX10_death_0 : decode cX10_death 0 = .ok (.aload_n 0, 1) := by decide +kernel
theorem dX10_death_1 : decode cX10_death 1 = .ok (.iconst 0, 1) := by decide +kernel
theorem dX10_death_2 : decode cX10_death 2 = .ok (.putfield 117, 3) := by decide +kernel
theorem dX10_death_5 : decode cX10_death 5 = .ok (.aload_n 0, 1) := by decide +kernel
theorem dX10_death_6 : decode cX10_death 6 = .ok (.iload_n 1, 1) := by decide +kernel
theorem dX10_death_7 : decode cX10_death 7 = .ok (.invokevirtual 131, 3) := by decide +kernel
theorem dX10_death_10 : decode cX10_death 10 = .ok (.ifCond .eq 21, 3) := by decide +kernel
theorem dX10_death_13 : decode cX10_death 13 = .ok (.iload_n 2, 1) := by decide +kernel
theorem dX10_death_14 : decode cX10_death 14 = .ok (.iconst (-1), 1) := by decide +kernel
theorem dX10_death_15 : decode cX10_death 15 = .ok (.if_icmp .eq 18, 3) := by decide +kernel
theorem dX10_death_18 : decode cX10_death 18 = .ok (.aload_n 0, 1) := by decide +kernel
theorem dX10_death_19 : decode cX10_death 19 = .ok (.iload_n 2, 1) := by decide +kernel
theorem dX10_death_20 : decode cX10_death 20 = .ok (.invokevirtual 131, 3) := by decide +kernel
theorem dX10_death_23 : decode cX10_death 23 = .ok (.ifCond .eq 8, 3) := by decide +kernel
theorem dX10_death_26 : decode cX10_death 26 = .ok (.iload_n 2, 1) := by decide +kernel
theorem dX10_death_27 : decode cX10_death 27 = .ok (.iload_n 1, 1) := by decide +kernel
theorem dX10_death_28 : decode cX10_death 28 = .ok (.if_icmp .ne 5, 3) := by decide +kernel
theorem dX10_death_31 : decode cX10_death 31 = .ok (.iconst 0, 1) := by decide +kernel
theorem dX10_death_32 : decode cX10_death 32 = .ok (.ireturn, 1) := by decide +kernel
theorem dX10_death_33 : decode cX10_death 33 = .ok (.aload_n 0, 1) := by decide +kernel
theorem dX10_death_34 : decode cX10_death 34 = .ok (.getfield 19, 3) := by decide +kernel
theorem dX10_death_37 : decode cX10_death 37 = .ok (.iload_n 1, 1) := by decide +kernel
theorem dX10_death_38 : decode cX10_death 38 = .ok (.aload_n 0, 1) := by decide +kernel
theorem dX10_death_39 : decode cX10_death 39 = .ok (.getfield 134, 3) := by decide +kernel
theorem dX10_death_42 : decode cX10_death 42 = .ok (.iastore, 1) := by decide +kernel
theorem dX10_death_43 : decode cX10_death 43 = .ok (.aload_n 0, 1) := by decide +kernel
theorem dX10_death_44 : decode cX10_death 44 = .ok (.getfield 22, 3) := by decide +kernel
theorem dX10_death_47 : decode cX10_death 47 = .ok (.iload_n 1, 1) := by decide +kernel
theorem dX10_death_48 : decode cX10_death 48 = .ok (.iconst (-1), 1) := by decide +kernel
theorem dX10_death_49 : decode cX10_death 49 = .ok (.iastore, 1) := by decide +kernel
theorem dX10_death_50 : decode cX10_death 50 = .ok (.iconst 0, 1) := by decide +kernel
theorem dX10_death_51 : decode cX10_death 51 = .ok (.istore_n 3, 1) := by decide +kernel
theorem dX10_death_52 : decode cX10_death 52 = .ok (.iload_n 3, 1) := by decide +kernel
theorem dX10_death_53 : decode cX10_death 53 = .ok (.aload_n 0, 1) := by decide +kernel
theorem dX10_death_54 : decode cX10_death 54 = .ok (.getfield 121, 3) := by decide +kernel
theorem dX10_death_57 : decode cX10_death 57 = .ok (.if_icmp .ge 35, 3) := by decide +kernel
theorem dX10_death_60 : decode cX10_death 60 = .ok (.aload_n 0, 1) := by decide +kernel
theorem dX10_death_61 : decode cX10_death 61 = .ok (.getfield 22, 3) := by decide +kernel
theorem dX10_death_64 : decode cX10_death 64 = .ok (.iload_n 3, 1) := by decide +kernel
theorem dX10_death_65 : decode cX10_death 65 = .ok (.iaload, 1) := by decide +kernel
theorem dX10_death_66 : decode cX10_death 66 = .ok (.iload_n 1, 1) := by decide +kernel
theorem dX10_death_67 : decode cX10_death 67 = .ok (.if_icmp .ne 19, 3) := by decide +kernel
theorem dX10_death_70 : decode cX10_death 70 = .ok (.aload_n 0, 1) := by decide +kernel
theorem dX10_death_71 : decode cX10_death 71 = .ok (.getfield 22, 3) := by decide +kernel
theorem dX10_death_74 : decode cX10_death 74 = .ok (.iload_n 3, 1) := by decide +kernel
theorem dX10_death_75 : decode cX10_death 75 = .ok (.iload_n 3, 1) := by decide +kernel
theorem dX10_death_76 : decode cX10_death 76 = .ok (.iload_n 2, 1) := by decide +kernel
theorem dX10_death_77 : decode cX10_death 77 = .ok (.if_icmp .ne 7, 3) := by decide +kernel
theorem dX10_death_80 : decode cX10_death 80 = .ok (.iconst (-1), 1) := by decide +kernel
theorem dX10_death_81 : decode cX10_death 81 = .ok (.goto 4, 3) := by decide +kernel
theorem dX10_death_84 : decode cX10_death 84 = .ok (.iload_n 2, 1) := by decide +kernel
theorem dX10_death_85 : decode cX10_death 85 = .ok (.iastore, 1) := by decide +kernel
theorem dX10_death_86 : decode cX10_death 86 = .ok (.iinc 3 1, 3) := by decide +kernel
theorem dX10_death_89 : decode cX10_death 89 = .ok (.goto (-37), 3) := by decide +kernel
theorem dX10_death_92 : decode cX10_death 92 = .ok (.iload_n 2, 1) := by decide +kernel
theorem dX10_death_93 : decode cX10_death 93 = .ok (.iconst (-1), 1) := by decide +kernel
theorem dX10_death_94 : decode cX10_death 94 = .ok (.if_icmp .eq 16, 3) := by decide +kernel
theorem dX10_death_97 : decode cX10_death 97 = .ok (.aload_n 0, 1) := by decide +kernel
theorem dX10_death_98 : decode cX10_death 98 = .ok (.getfield 25, 3) := by decide +kernel
theorem dX10_death_101 : decode cX10_death 101 = .ok (.iload_n 2, 1) := by decide +kernel
theorem dX10_death_102 : decode cX10_death 102 = .ok (.aload_n 0, 1) := by decide +kernel
theorem dX10_death_103 : decode cX10_death 103 = .ok (.getfield 134, 3) := by decide +kernel
theorem dX10_death_106 : decode cX10_death 106 = .ok (.bipush 100, 2) := by decide +kernel
theorem dX10_death_108 : decode cX10_death 108 = .ok (.iadd, 1) := by decide +kernel
theorem dX10_death_109 : decode cX10_death 109 = .ok (.iastore, 1) := by decide +kernel
theorem dX10_death_110 : decode cX10_death 110 = .ok (.iconst 1, 1) := by decide +kernel
theorem dX10_death_111 : decode cX10_death 111 = .ok (.ireturn, 1) := by decide +kernel
theorem dX10_days_0 : decode cX10_days 0 = .ok (.aload_n 0, 1) := by decide +kernel
theorem dX10_days_1 : decode cX10_days 1 = .ok (.iconst 0, 1) := by decide +kernel
theorem dX10_days_2 : decode cX10_days 2 = .ok (.putfield 117, 3) := by decide +kernel
theorem dX10_days_5 : decode cX10_days 5 = .ok (.iload_n 1, 1) := by decide +kernel
theorem dX10_days_6 : decode cX10_days 6 = .ok (.iconst 0, 1) := by decide +kernel
theorem dX10_days_7 : decode cX10_days 7 = .ok (.sipush 20000, 3) := by decide +kernel
theorem dX10_days_10 : decode cX10_days 10 = .ok (.invokestatic 137, 3) := by decide +kernel
theorem dX10_days_13 : decode cX10_days 13 = .ok (.ifCond .eq 15, 3) := by decide +kernel
theorem dX10_days_16 : decode cX10_days 16 = .ok (.aload_n 0, 1) := by decide +kernel
theorem dX10_days_17 : decode cX10_days 17 = .ok (.getfield 134, 3) := by decide +kernel
theorem dX10_days_20 : decode cX10_days 20 = .ok (.iload_n 1, 1) := by decide +kernel
theorem dX10_days_21 : decode cX10_days 21 = .ok (.iadd, 1) := by decide +kernel
theorem dX10_days_22 : decode cX10_days 22 = .ok (.sipush 20000, 3) := by decide +kernel
theorem dX10_days_25 : decode cX10_days 25 = .ok (.if_icmp .le 5, 3) := by decide +kernel
theorem dX10_days_28 : decode cX10_days 28 = .ok (.iconst (-1), 1) := by decide +kernel
theorem dX10_days_29 : decode cX10_days 29 = .ok (.ireturn, 1) := by decide +kernel
theorem dX10_days_30 : decode cX10_days 30 = .ok (.aload_n 0, 1) := by decide +kernel
theorem dX10_days_31 : decode cX10_days 31 = .ok (.dup, 1) := by decide +kernel
theorem dX10_days_32 : decode cX10_days 32 = .ok (.getfield 134, 3) := by decide +kernel
theorem dX10_days_35 : decode cX10_days 35 = .ok (.iload_n 1, 1) := by decide +kernel
theorem dX10_days_36 : decode cX10_days 36 = .ok (.iadd, 1) := by decide +kernel
theorem dX10_days_37 : decode cX10_days 37 = .ok (.putfield 134, 3) := by decide +kernel
theorem dX10_days_40 : decode cX10_days 40 = .ok (.aload_n 0, 1) := by decide +kernel
theorem dX10_days_41 : decode cX10_days 41 = .ok (.getfield 134, 3) := by decide +kernel
theorem dX10_days_44 : decode cX10_days 44 = .ok (.ireturn, 1) := by decide +kernel
theorem dX10_isParent_0 : decode cX10_isParent 0 = .ok (.aload_n 0, 1) := by decide +kernel
theorem dX10_isParent_1 : decode cX10_isParent 1 = .ok (.getfield 9, 3) := by decide +kernel
theorem dX10_isParent_4 : decode cX10_isParent 4 = .ok (.iload_n 2, 1) := by decide +kernel
theorem dX10_isParent_5 : decode cX10_isParent 5 = .ok (.iaload, 1) := by decide +kernel
theorem dX10_isParent_6 : decode cX10_isParent 6 = .ok (.iload_n 1, 1) := by decide +kernel
theorem dX10_isParent_7 : decode cX10_isParent 7 = .ok (.if_icmp .eq 13, 3) := by decide +kernel
theorem dX10_isParent_10 : decode cX10_isParent 10 = .ok (.aload_n 0, 1) := by decide +kernel
theorem dX10_isParent_11 : decode cX10_isParent 11 = .ok (.getfield 13, 3) := by decide +kernel
theorem dX10_isParent_14 : decode cX10_isParent 14 = .ok (.iload_n 2, 1) := by decide +kernel
theorem dX10_isParent_15 : decode cX10_isParent 15 = .ok (.iaload, 1) := by decide +kernel
theorem dX10_isParent_16 : decode cX10_isParent 16 = .ok (.iload_n 1, 1) := by decide +kernel
theorem dX10_isParent_17 : decode cX10_isParent 17 = .ok (.if_icmp .ne 7, 3) := by decide +kernel
theorem dX10_isParent_20 : decode cX10_isParent 20 = .ok (.iconst 1, 1) := by decide +kernel
theorem dX10_isParent_21 : decode cX10_isParent 21 = .ok (.goto 4, 3) := by decide +kernel
theorem dX10_isParent_24 : decode cX10_isParent 24 = .ok (.iconst 0, 1) := by decide +kernel
