theorem dX5_beginsUnit_32 : decode cX5_beginsUnit 32 = .ok (.iconst 1, 1) := by decide +kernel
theorem dX5_beginsUnit_33 : decode cX5_beginsUnit 33 = .ok (.putfield 11, 3) := by decide +kernel
theorem dX5_beginsUnit_36 : decode cX5_beginsUnit 36 = .ok (.iload_n 1, 1) := by decide +kernel
theorem dX5_beginsUnit_37 : decode cX5_beginsUnit 37 = .ok (.invokestatic 38, 3) := by decide +kernel
theorem dX5_beginsUnit_40 : decode cX5_beginsUnit 40 = .ok (.ireturn, 1) := by decide +kernel
theorem dX5_followsUnit_0 : decode cX5_followsUnit 0 = .ok (.iload_n 1, 1) := by decide +kernel
theorem dX5_followsUnit_1 : decode cX5_followsUnit 1 = .ok (.bipush 41, 2) := by decide +kernel
theorem dX5_followsUnit_3 : decode cX5_followsUnit 3 = .ok (.if_icmp .ne 31, 3) := by decide +kernel
theorem dX5_followsUnit_6 : decode cX5_followsUnit 6 = .ok (.aload_n 0, 1) := by decide +kernel
theorem dX5_followsUnit_7 : decode cX5_followsUnit 7 = .ok (.iconst 4, 1) := by decide +kernel
theorem dX5_followsUnit_8 : decode cX5_followsUnit 8 = .ok (.putfield 11, 3) := by decide +kernel
theorem dX5_followsUnit_11 : decode cX5_followsUnit 11 = .ok (.aload_n 0, 1) := by decide +kernel
theorem dX5_followsUnit_12 : decode cX5_followsUnit 12 = .ok (.dup, 1) := by decide +kernel
theorem dX5_followsUnit_13 : decode cX5_followsUnit 13 = .ok (.getfield 15, 3) := by decide +kernel
theorem dX5_followsUnit_16 : decode cX5_followsUnit 16 = .ok (.iconst 1, 1) := by decide +kernel
theorem dX5_followsUnit_17 : decode cX5_followsUnit 17 = .ok (.isub, 1) := by decide +kernel
theorem dX5_followsUnit_18 : decode cX5_followsUnit 18 = .ok (.putfield 15, 3) := by decide +kernel
theorem dX5_followsUnit_21 : decode cX5_followsUnit 21 = .ok (.aload_n 0, 1) := by decide +kernel
theorem dX5_followsUnit_22 : decode cX5_followsUnit 22 = .ok (.getfield 15, 3) := by decide +kernel
theorem dX5_followsUnit_25 : decode cX5_followsUnit 25 = .ok (.ifCond .lt 7, 3) := by decide +kernel
theorem dX5_followsUnit_28 : decode cX5_followsUnit 28 = .ok (.iconst 1, 1) := by decide +kernel
theorem dX5_followsUnit_29 : decode cX5_followsUnit 29 = .ok (.goto 4, 3) := by decide +kernel
theorem dX5_followsUnit_32 : decode cX5_followsUnit 32 = .ok (.iconst 0, 1) := by decide +kernel
theorem dX5_followsUnit_33 : decode cX5_followsUnit 33 = .ok (.ireturn, 1) := by decide +kernel
theorem dX5_followsUnit_34 : decode cX5_followsUnit 34 = .ok (.aload_n 0, 1) := by decide +kernel
theorem dX5_followsUnit_35 : decode cX5_followsUnit 35 = .ok (.iconst 0, 1) := by decide +kernel
theorem dX5_followsUnit_36 : decode cX5_followsUnit 36 = .ok (.putfield 11, 3) := by decide +kernel
theorem dX5_followsUnit_39 : decode cX5_followsUnit 39 = .ok (.iload_n 1, 1) := by decide +kernel
theorem dX5_followsUnit_40 : decode cX5_followsUnit 40 = .ok (.bipush 38, 2) := by decide +kernel
theorem dX5_followsUnit_42 : decode cX5_followsUnit 42 = .ok (.if_icmp .eq 9, 3) := by decide +kernel
theorem dX5_followsUnit_45 : decode cX5_followsUnit 45 = .ok (.iload_n 1, 1) := by decide +kernel
theorem dX5_followsUnit_46 : decode cX5_followsUnit 46 = .ok (.bipush 124, 2) := by decide +kernel
theorem dX5_followsUnit_48 : decode cX5_followsUnit 48 = .ok (.if_icmp .ne 7, 3) := by decide +kernel
theorem dX5_followsUnit_51 : decode cX5_followsUnit 51 = .ok (.iconst 1, 1) := by decide +kernel
theorem dX5_followsUnit_52 : decode cX5_followsUnit 52 = .ok (.goto 4, 3) := by decide +kernel
theorem dX5_followsUnit_55 : decode cX5_followsUnit 55 = .ok (.iconst 0, 1) := by decide +kernel
theorem dX5_followsUnit_56 : decode cX5_followsUnit 56 = .ok (.ireturn, 1) := by decide +kernel
theorem dX5_isDigit_0 : decode cX5_isDigit 0 = .ok (.iload_n 0, 1) := by decide +kernel
theorem dX5_isDigit_1 : decode cX5_isDigit 1 = .ok (.bipush 48, 2) := by decide +kernel
theorem dX5_isDigit_3 : decode cX5_isDigit 3 = .ok (.if_icmp .lt 13, 3) := by decide +kernel
theorem dX5_isDigit_6 : decode cX5_isDigit 6 = .ok (.iload_n 0, 1) := by decide +kernel
theorem dX5_isDigit_7 : decode cX5_isDigit 7 = .ok (.bipush 57, 2) := by decide +kernel
theorem dX5_isDigit_9 : decode cX5_isDigit 9 = .ok (.if_icmp .gt 7, 3) := by decide +kernel
theorem dX5_isDigit_12 : decode cX5_isDigit 12 = .ok (.iconst 1, 1) := by decide +kernel
theorem dX5_isDigit_13 : decode cX5_isDigit 13 = .ok (.goto 4, 3) := by decide +kernel
theorem dX5_isDigit_16 : decode cX5_isDigit 16 = .ok (.iconst 0, 1) := by decide +kernel
theorem dX5_isDigit_17 : decode cX5_isDigit 17 = .ok (.ireturn, 1) := by decide +kernel
theorem dX5_isWord_0 : decode cX5_isWord 0 = .ok (.iload_n 0, 1) := by decide +kernel
theorem dX5_isWord_1 : decode cX5_isWord 1 = .ok (.bipush 121, 2) := by decide +kernel
theorem dX5_isWord_3 : decode cX5_isWord 3 = .ok (.if_icmp .eq 39, 3) := by decide +kernel
theorem dX5_isWord_6 : decode cX5_isWord 6 = .ok (.iload_n 0, 1) := by decide +kernel
theorem dX5_isWord_7 : decode cX5_isWord 7 = .ok (.bipush 100, 2) := by decide +kernel
theorem dX5_isWord_9 : decode cX5_isWord 9 = .ok (.if_icmp .eq 33, 3) := by decide +kernel
theorem dX5_isWord_12 : decode cX5_isWord 12 = .ok (.iload_n 0, 1) := by decide +kernel
theorem dX5_isWord_13 : decode cX5_isWord 13 = .ok (.bipush 119, 2) := by decide +kernel
theorem dX5_isWord_15 : decode cX5_isWord 15 = .ok (.if_icmp .eq 27, 3) := by decide +kernel
theorem dX5_isWord_18 : decode cX5_isWord 18 = .ok (.iload_n 0, 1) := by decide +kernel
theorem dX5_isWord_19 : decode cX5_isWord 19 = .ok (.bipush 108, 2) := by decide +kernel
theorem dX5_isWord_21 : decode cX5_isWord 21 = .ok (.if_icmp .eq 21, 3) := by decide +kernel
theorem dX5_isWord_24 : decode cX5_isWord 24 = .ok (.iload_n 0, 1) := by decide +kernel
theorem dX5_isWord_25 : decode cX5_isWord 25 = .ok (.bipush 102, 2) := by decide +kernel
theorem dX5_isWord_27 : decode cX5_isWord 27 = .ok (.if_icmp .eq 15, 3) := by decide +kernel
theorem dX5_isWord_30 : decode cX5_isWord 30 = .ok (.iload_n 0, 1) := by decide +kernel
theorem dX5_isWord_31 : decode cX5_isWord 31 = .ok (.bipush 109, 2) := by decide +kernel
theorem dX5_isWord_33 : decode cX5_isWord 33 = .ok (.if_icmp .eq 9, 3) := by decide +kernel
theorem dX5_isWord_36 : decode cX5_isWord 36 = .ok (.iload_n 0, 1) := by decide +kernel
theorem dX5_isWord_37 : decode cX5_isWord 37 = .ok (.bipush 107, 2) := by decide +kernel
theorem dX5_isWord_39 : decode cX5_isWord 39 = .ok (.if_icmp .ne 7, 3) := by decide +kernel
theorem dX5_isWord_42 : decode cX5_isWord 42 = .ok (.iconst 1, 1) := by decide +kernel
theorem dX5_isWord_43 : decode cX5_isWord 43 = .ok (.goto 4, 3) := by decide +kernel
theorem dX5_isWord_46 : decode cX5_isWord 46 = .ok (.iconst 0, 1) := by decide +kernel
theorem dX5_isWord_47 : decode cX5_isWord 47 = .ok (.ireturn, 1) := by decide +kernel
theorem dX6_init_0 : decode cX6_init 0 = .ok (.aload_n 0, 1) := by decide +kernel
theorem dX6_init_1 : decode cX6_init 1 = .ok (.invokespecial 3, 3) := by decide +kernel
theorem dX6_init_4 : decode cX6_init 4 = .ok (.aload_n 0, 1) := by decide +kernel
theorem dX6_init_5 : decode cX6_init 5 = .ok (.new 9, 3) := by decide +kernel
theorem dX6_init_8 : decode cX6_init 8 = .ok (.dup, 1) := by decide +kernel
theorem dX6_init_9 : decode cX6_init 9 = .ok (.invokespecial 11, 3) := by decide +kernel
theorem dX6_init_12 : decode cX6_init 12 = .ok (.putfield 12, 3) := by decide +kernel
theorem dX6_init_15 : decode cX6_init 15 = .ok (.aload_n 0, 1) := by decide +kernel
theorem dX6_init_16 : decode cX6_init 16 = .ok (.sipush 3600, 3) := by decide +kernel
theorem dX6_init_19 : decode cX6_init 19 = .ok (.newarray .char, 2) := by decide +kernel
theorem dX6_init_21 : decode cX6_init 21 = .ok (.putfield 18, 3) := by decide +kernel
theorem dX6_init_24 : decode cX6_init 24 = .ok (.aload_n 0, 1) := by decide +kernel
theorem dX6_init_25 : decode cX6_init 25 = .ok (.bipush 30, 2) := by decide +kernel
theorem dX6_init_27 : decode cX6_init 27 = .ok (.newarray .int, 2) := by decide +kernel
theorem dX6_init_29 : decode cX6_init 29 = .ok (.putfield 22, 3) := by decide +kernel
theorem dX6_init_32 : decode cX6_init 32 = .ok (.return_, 1) := by decide +kernel
theorem dX6_add_0 : decode cX6_add 0 = .ok (.aload_n 0, 1) := by decide +kernel
theorem dX6_add_1 : decode cX6_add 1 = .ok (.getfield 12, 3) := by decide +kernel
theorem dX6_add_4 : decode cX6_add 4 = .ok (.iload_n 2, 1) := by decide +kernel
theorem dX6_add_5 : decode cX6_add 5 = .ok (.iload_n 3, 1) := by decide +kernel
theorem dX6_add_6 : decode cX6_add 6 = .ok (.invokevirtual 26, 3) := by decide +kernel
theorem dX6_add_9 : decode cX6_add 9 = .ok (.istore 4, 2) := by decide +kernel
theorem dX6_add_11 : decode cX6_add 11 = .ok (.aload_n 1, 1) := by decide +kernel
theorem dX6_add_12 : decode cX6_add 12 = .ok (.getfield 30, 3) := by decide +kernel
theorem dX6_add_15 : decode cX6_add 15 = .ok (.iconst 0, 1) := by decide +kernel
theorem dX6_add_16 : decode cX6_add 16 = .ok (.aload_n 0, 1) := by decide +kernel
theorem dX6_add_17 : decode cX6_add 17 = .ok (.getfield 18, 3) := by decide +kernel
theorem dX6_add_20 : decode cX6_add 20 = .ok (.iload 4, 2) := by decide +kernel
theorem dX6_add_22 : decode cX6_add 22 = .ok (.bipush 120, 2) := by decide +kernel
theorem dX6_add_24 : decode cX6_add 24 = .ok (.imul, 1) := by decide +kernel
theorem dX6_add_25 : decode cX6_add 25 = .ok (.aload_n 1, 1) := by decide +kernel
theorem dX6_add_26 : decode cX6_add 26 = .ok (.getfield 33, 3) := by decide +kernel
theorem dX6_add_29 : decode cX6_add 29 = .ok (.invokestatic 36, 3) := by decide +kernel
theorem dX6_add_32 : decode cX6_add 32 = .ok (.aload_n 0, 1) := by decide +kernel
theorem dX6_add_33 : decode cX6_add 33 = .ok (.getfield 22, 3) := by decide +kernel
theorem dX6_add_36 : decode cX6_add 36 = .ok (.iload 4, 2) := by decide +kernel
theorem dX6_add_38 : decode cX6_add 38 = .ok (.aload_n 1, 1) := by decide +kernel
theorem dX6_add_39 : decode cX6_add 39 = .ok (.getfield 33, 3) := by decide +kernel
theorem dX6_add_42 : decode cX6_add 42 = .ok (.iastore, 1) := by decide +kernel
theorem dX6_add_43 : decode cX6_add 43 = .ok (.iload 4, 2) := by decide +kernel
theorem dX6_add_45 : decode cX6_add 45 = .ok (.ireturn, 1) := by decide +kernel
theorem dX6_holds_0 : decode cX6_holds 0 = .ok (.iload_n 1, 1) := by decide +kernel
theorem dX6_holds_1 : decode cX6_holds 1 = .ok (.bipush 120, 2) := by decide +kernel
theorem dX6_holds_3 : decode cX6_holds 3 = .ok (.imul, 1) := by decide +kernel
theorem dX6_holds_4 : decode cX6_holds 4 = .ok (.istore_n 3, 1) := by decide +kernel
theorem dX6_holds_5 : decode cX6_holds 5 = .ok (.aload_n 2, 1) := by decide +kernel
theorem dX6_holds_6 : decode cX6_holds 6 = .ok (.invokevirtual 42, 3) := by decide +kernel
theorem dX6_holds_9 : decode cX6_holds 9 = .ok (.iconst 0, 1) := by decide +kernel
theorem dX6_holds_10 : decode cX6_holds 10 = .ok (.istore 4, 2) := by decide +kernel
theorem dX6_holds_12 : decode cX6_holds 12 = .ok (.iload 4, 2) := by decide +kernel
theorem dX6_holds_14 : decode cX6_holds 14 = .ok (.aload_n 0, 1) := by decide +kernel
theorem dX6_holds_15 : decode cX6_holds 15 = .ok (.getfield 22, 3) := by decide +kernel
theorem dX6_holds_18 : decode cX6_holds 18 = .ok (.iload_n 1, 1) := by decide +kernel
theorem dX6_holds_19 : decode cX6_holds 19 = .ok (.iaload, 1) := by decide +kernel
theorem dX6_holds_20 : decode cX6_holds 20 = .ok (.if_icmp .ge 22, 3) := by decide +kernel
theorem dX6_holds_23 : decode cX6_holds 23 = .ok (.aload_n 2, 1) := by decide +kernel
theorem dX6_holds_24 : decode cX6_holds 24 = .ok (.aload_n 0, 1) := by decide +kernel
theorem dX6_holds_25 : decode cX6_holds 25 = .ok (.getfield 18, 3) := by decide +kernel
theorem dX6_holds_28 : decode cX6_holds 28 = .ok (.iload_n 3, 1) := by decide +kernel
theorem dX6_holds_29 : decode cX6_holds 29 = .ok (.iload 4, 2) := by decide +kernel
theorem dX6_holds_31 : decode cX6_holds 31 = .ok (.iadd, 1) := by decide +kernel
theorem dX6_holds_32 : decode cX6_holds 32 = .ok (.caload, 1) := by decide +kernel
theorem dX6_holds_33 : decode cX6_holds 33 = .ok (.invokevirtual 47, 3) := by decide +kernel
theorem dX6_holds_36 : decode cX6_holds 36 = .ok (.iinc 4 1, 3) := by decide +kernel
theorem dX6_holds_39 : decode cX6_holds 39 = .ok (.goto (-27), 3) := by decide +kernel
theorem dX6_holds_42 : decode cX6_holds 42 = .ok (.aload_n 2, 1) := by decide +kernel
theorem dX6_holds_43 : decode cX6_holds 43 = .ok (.invokevirtual 51, 3) := by decide +kernel
theorem dX6_holds_46 : decode cX6_holds 46 = .ok (.ireturn, 1) := by decide +kernel
theorem dX7_init_0 : decode cX7_init 0 = .ok (.aload_n 0, 1) := by decide +kernel
theorem dX7_init_1 : decode cX7_init 1 = .ok (.invokespecial 3, 3) := by decide +kernel
theorem dX7_init_4 : decode cX7_init 4 = .ok (.aload_n 0, 1) := by decide +kernel
theorem dX7_init_5 : decode cX7_init 5 = .ok (.bipush 100, 2) := by decide +kernel
theorem dX7_init_7 : decode cX7_init 7 = .ok (.newarray .int, 2) := by decide +kernel
theorem dX7_init_9 : decode cX7_init 9 = .ok (.putfield 9, 3) := by decide +kernel
theorem dX7_init_12 : decode cX7_init 12 = .ok (.aload_n 0, 1) := by decide +kernel
theorem dX7_init_13 : decode cX7_init 13 = .ok (.bipush 100, 2) := by decide +kernel
theorem dX7_init_15 : decode cX7_init 15 = .ok (.newarray .int, 2) := by decide +kernel
theorem dX7_init_17 : decode cX7_init 17 = .ok (.putfield 15, 3) := by decide +kernel
theorem dX7_init_20 : decode cX7_init 20 = .ok (.aload_n 0, 1) := by decide +kernel
theorem dX7_init_21 : decode cX7_init 21 = .ok (.bipush 100, 2) := by decide +kernel
theorem dX7_init_23 : decode cX7_init 23 = .ok (.newarray .int, 2) := by decide +kernel
theorem dX7_init_25 : decode cX7_init 25 = .ok (.putfield 18, 3) := by decide +kernel
theorem dX7_init_28 : decode cX7_init 28 = .ok (.aload_n 0, 1) := by decide +kernel
theorem dX7_init_29 : decode cX7_init 29 = .ok (.bipush 100, 2) := by decide +kernel
theorem dX7_init_31 : decode cX7_init 31 = .ok (.newarray .int, 2) := by decide +kernel
theorem dX7_init_33 : decode cX7_init 33 = .ok (.putfield 21, 3) := by decide +kernel
theorem dX7_init_36 : decode cX7_init 36 = .ok (.aload_n 0, 1) := by decide +kernel
theorem dX7_init_37 : decode cX7_init 37 = .ok (.bipush 100, 2) := by decide +kernel
theorem dX7_init_39 : decode cX7_init 39 = .ok (.newarray .int, 2) := by decide +kernel
theorem dX7_init_41 : decode cX7_init 41 = .ok (.putfield 24, 3) := by decide +kernel
theorem dX7_init_44 : decode cX7_init 44 = .ok (.aload_n 0, 1) := by decide +kernel
theorem dX7_init_45 : decode cX7_init 45 = .ok (.bipush 100, 2) := by decide +kernel
theorem dX7_init_47 : decode cX7_init 47 = .ok (.newarray .int, 2) := by decide +kernel
theorem dX7_init_49 : decode cX7_init 49 = .ok (.putfield 27, 3) := by decide +kernel
theorem dX7_init_52 : decode cX7_init 52 = .ok (.aload_n 0, 1) := by decide +kernel
theorem dX7_init_53 : decode cX7_init 53 = .ok (.iconst 0, 1) := by decide +kernel
theorem dX7_init_54 : decode cX7_init 54 = .ok (.putfield 30, 3) := by decide +kernel
theorem dX7_init_57 : decode cX7_init 57 = .ok (.aload_n 0, 1) := by decide +kernel
theorem dX7_init_58 : decode cX7_init 58 = .ok (.bipush 100, 2) := by decide +kernel
theorem dX7_init_60 : decode cX7_init 60 = .ok (.newarray .int, 2) := by decide +kernel
theorem dX7_init_62 : decode cX7_init 62 = .ok (.putfield 34, 3) := by decide +kernel
theorem dX7_init_65 : decode cX7_init 65 = .ok (.aload_n 0, 1) := by decide +kernel
theorem dX7_init_66 : decode cX7_init 66 = .ok (.iconst 0, 1) := by decide +kernel
theorem dX7_init_67 : decode cX7_init 67 = .ok (.putfield 37, 3) := by decide +kernel
theorem dX7_init_70 : decode cX7_init 70 = .ok (.return_, 1) := by decide +kernel
theorem dX7_isFull_0 : decode cX7_isFull 0 = .ok (.aload_n 0, 1) := by decide +kernel
theorem dX7_isFull_1 : decode cX7_isFull 1 = .ok (.getfield 30, 3) := by decide +kernel
theorem dX7_isFull_4 : decode cX7_isFull 4 = .ok (.bipush 100, 2) := by decide +kernel
theorem dX7_isFull_6 : decode cX7_isFull 6 = .ok (.if_icmp .lt 7, 3) := by decide +kernel
theorem dX7_isFull_9 : decode cX7_isFull 9 = .ok (.iconst 1, 1) := by decide +kernel
theorem dX7_isFull_10 : decode cX7_isFull 10 = .ok (.goto 4, 3) := by decide +kernel
theorem dX7_isFull_13 : decode cX7_isFull 13 = .ok (.iconst 0, 1) := by decide +kernel
theorem dX7_isFull_14 : decode cX7_isFull 14 = .ok (.ireturn, 1) := by decide +kernel
theorem dX7_has_0 : decode cX7_has 0 = .ok (.iload_n 1, 1) := by decide +kernel
theorem dX7_has_1 : decode cX7_has 1 = .ok (.ifCond .lt 15, 3) := by decide +kernel
theorem dX7_has_4 : decode cX7_has 4 = .ok (.iload_n 1, 1) := by decide +kernel
theorem dX7_has_5 : decode cX7_has 5 = .ok (.aload_n 0, 1) := by decide +kernel
theorem dX7_has_6 : decode cX7_has 6 = .ok (.getfield 30, 3) := by decide +kernel
theorem dX7_has_9 : decode cX7_has 9 = .ok (.if_icmp .ge 7, 3) := by decide +kernel
theorem dX7_has_12 : decode cX7_has 12 = .ok (.iconst 1, 1) := by decide +kernel
theorem dX7_has_13 : decode cX7_has 13 = .ok (.goto 4, 3) := by decide +kernel
theorem dX7_has_16 : decode cX7_has 16 = .ok (.iconst 0, 1) := by decide +kernel
theorem dX7_has_17 : decode cX7_has 17 = .ok (.ireturn, 1) := by decide +kernel
theorem dX7_isTakenBack_0 : decode cX7_isTakenBack 0 = .ok (.aload_n 0, 1) := by decide +kernel
theorem dX7_isTakenBack_1 : decode cX7_isTakenBack 1 = .ok (.getfield 27, 3) := by decide +kernel
theorem dX7_isTakenBack_4 : decode cX7_isTakenBack 4 = .ok (.iload_n 1, 1) := by decide +kernel
theorem dX7_isTakenBack_5 : decode cX7_isTakenBack 5 = .ok (.iaload, 1) := by decide +kernel
theorem dX7_isTakenBack_6 : decode cX7_isTakenBack 6 = .ok (.iconst (-1), 1) := by decide +kernel
theorem dX7_isTakenBack_7 : decode cX7_isTakenBack 7 = .ok (.if_icmp .eq 7, 3) := by decide +kernel
theorem dX7_isTakenBack_10 : decode cX7_isTakenBack 10 = .ok (.iconst 1, 1) := by decide +kernel
theorem dX7_isTakenBack_11 : decode cX7_isTakenBack 11 = .ok (.goto 4, 3) := by decide +kernel
theorem dX7_isTakenBack_14 : decode cX7_isTakenBack 14 = .ok (.iconst 0, 1) := by decide +kernel
theorem dX7_isTakenBack_15 : decode cX7_isTakenBack 15 = .ok (.ireturn, 1) := by decide +kernel
theorem dX7_add_0 : decode cX7_add 0 = .ok (.aload_n 0, 1) := by decide +kernel
theorem dX7_add_1 : decode cX7_add 1 = .ok (.getfield 30, 3) := by decide +kernel
theorem dX7_add_4 : decode cX7_add 4 = .ok (.istore 6, 2) := by decide +kernel
theorem dX7_add_6 : decode cX7_add 6 = .ok (.aload_n 0, 1) := by decide +kernel
theorem dX7_add_7 : decode cX7_add 7 = .ok (.getfield 9, 3) := by decide +kernel
theorem dX7_add_10 : decode cX7_add 10 = .ok (.iload 6, 2) := by decide +kernel
theorem dX7_add_12 : decode cX7_add 12 = .ok (.iload_n 1, 1) := by decide +kernel
theorem dX7_add_13 : decode cX7_add 13 = .ok (.iastore, 1) := by decide +kernel
theorem dX7_add_14 : decode cX7_add 14 = .ok (.aload_n 0, 1) := by decide +kernel
theorem dX7_add_15 : decode cX7_add 15 = .ok (.getfield 15, 3) := by decide +kernel
theorem dX7_add_18 : decode cX7_add 18 = .ok (.iload 6, 2) := by decide +kernel
theorem dX7_add_20 : decode cX7_add 20 = .ok (.iload_n 2, 1) := by decide +kernel
theorem dX7_add_21 : decode cX7_add 21 = .ok (.iastore, 1) := by decide +kernel
theorem dX7_add_22 : decode cX7_add 22 = .ok (.aload_n 0, 1) := by decide +kernel
theorem dX7_add_23 : decode cX7_add 23 = .ok (.getfield 18, 3) := by decide +kernel
theorem dX7_add_26 : decode cX7_add 26 = .ok (.iload 6, 2) := by decide +kernel
theorem dX7_add_28 : decode cX7_add 28 = .ok (.iload_n 3, 1) := by decide +kernel
theorem dX7_add_29 : decode cX7_add 29 = .ok (.iastore, 1) := by decide +kernel
theorem dX7_add_30 : decode cX7_add 30 = .ok (.aload_n 0, 1) := by decide +kernel
theorem dX7_add_31 : decode cX7_add 31 = .ok (.getfield 21, 3) := by decide +kernel
theorem dX7_add_34 : decode cX7_add 34 = .ok (.iload 6, 2) := by decide +kernel
theorem dX7_add_36 : decode cX7_add 36 = .ok (.iload 4, 2) := by decide +kernel
theorem dX7_add_38 : decode cX7_add 38 = .ok (.iastore, 1) := by decide +kernel
theorem dX7_add_39 : decode cX7_add 39 = .ok (.aload_n 0, 1) := by decide +kernel
theorem dX7_add_40 : decode cX7_add 40 = .ok (.getfield 24, 3) := by decide +kernel
theorem dX7_add_43 : decode cX7_add 43 = .ok (.iload 6, 2) := by decide +kernel
theorem dX7_add_45 : decode cX7_add 45 = .ok (.iload 5, 2) := by decide +kernel
theorem dX7_add_47 : decode cX7_add 47 = .ok (.iastore, 1) := by decide +kernel
theorem dX7_add_48 : decode cX7_add 48 = .ok (.aload_n 0, 1) := by decide +kernel
theorem dX7_add_49 : decode cX7_add 49 = .ok (.getfield 27, 3) := by decide +kernel
theorem dX7_add_52 : decode cX7_add 52 = .ok (.iload 6, 2) := by decide +kernel
theorem dX7_add_54 : decode cX7_add 54 = .ok (.iconst (-1), 1) := by decide +kernel
theorem dX7_add_55 : decode cX7_add 55 = .ok (.iastore, 1) := by decide +kernel
theorem dX7_add_56 : decode cX7_add 56 = .ok (.aload_n 0, 1) := by decide +kernel
theorem dX7_add_57 : decode cX7_add 57 = .ok (.dup, 1) := by decide +kernel
theorem dX7_add_58 : decode cX7_add 58 = .ok (.getfield 30, 3) := by decide +kernel
theorem dX7_add_61 : decode cX7_add 61 = .ok (.iconst 1, 1) := by decide +kernel
theorem dX7_add_62 : decode cX7_add 62 = .ok (.iadd, 1) := by decide +kernel
theorem dX7_add_63 : decode cX7_add 63 = .ok (.putfield 30, 3) := by decide +kernel
theorem dX7_add_66 : decode cX7_add 66 = .ok (.iload 6, 2) := by decide +kernel
theorem dX7_add_68 : decode cX7_add 68 = .ok (.ireturn, 1) := by decide +kernel
theorem dX7_takeBack_0 : decode cX7_takeBack 0 = .ok (.aload_n 0, 1) := by decide +kernel
theorem dX7_takeBack_1 : decode cX7_takeBack 1 = .ok (.getfield 27, 3) := by decide +kernel
theorem dX7_takeBack_4 : decode cX7_takeBack 4 = .ok (.iload_n 1, 1) := by decide +kernel
theorem dX7_takeBack_5 : decode cX7_takeBack 5 = .ok (.iload_n 2, 1) := by decide +kernel
theorem dX7_takeBack_6 : decode cX7_takeBack 6 = .ok (.iastore, 1) := by decide +kernel
theorem dX7_takeBack_7 : decode cX7_takeBack 7 = .ok (.return_, 1) := by decide +kernel
theorem dX7_isKnown_0 : decode cX7_isKnown 0 = .ok (.aload_n 0, 1) := by decide +kernel
theorem dX7_isKnown_1 : decode cX7_isKnown 1 = .ok (.getfield 24, 3) := by decide +kernel
theorem dX7_isKnown_4 : decode cX7_isKnown 4 = .ok (.iload_n 1, 1) := by decide +kernel
theorem dX7_isKnown_5 : decode cX7_isKnown 5 = .ok (.iaload, 1) := by decide +kernel
theorem dX7_isKnown_6 : decode cX7_isKnown 6 = .ok (.iload_n 2, 1) := by decide +kernel
theorem dX7_isKnown_7 : decode cX7_isKnown 7 = .ok (.if_icmp .gt 27, 3) := by decide +kernel
theorem dX7_isKnown_10 : decode cX7_isKnown 10 = .ok (.aload_n 0, 1) := by decide +kernel
theorem dX7_isKnown_11 : decode cX7_isKnown 11 = .ok (.getfield 27, 3) := by decide +kernel
theorem dX7_isKnown_14 : decode cX7_isKnown 14 = .ok (.iload_n 1, 1) := by decide +kernel
theorem dX7_isKnown_15 : decode cX7_isKnown 15 = .ok (.iaload, 1) := by decide +kernel
theorem dX7_isKnown_16 : decode cX7_isKnown 16 = .ok (.iconst (-1), 1) := by decide +kernel
theorem dX7_isKnown_17 : decode cX7_isKnown 17 = .ok (.if_icmp .eq 13, 3) := by decide +kernel
theorem dX7_isKnown_20 : decode cX7_isKnown 20 = .ok (.aload_n 0, 1) := by decide +kernel
theorem dX7_isKnown_21 : decode cX7_isKnown 21 = .ok (.getfield 27, 3) := by decide +kernel
theorem dX7_isKnown_24 : decode cX7_isKnown 24 = .ok (.iload_n 1, 1) := by decide +kernel
theorem dX7_isKnown_25 : decode cX7_isKnown 25 = .ok (.iaload, 1) := by decide +kernel
theorem dX7_isKnown_26 : decode cX7_isKnown 26 = .ok (.iload_n 2, 1) := by decide +kernel
theorem dX7_isKnown_27 : decode cX7_isKnown 27 = .ok (.if_icmp .le 7, 3) := by decide +kernel
theorem dX7_isKnown_30 : decode cX7_isKnown 30 = .ok (.iconst 1, 1) := by decide +kernel
theorem dX7_isKnown_31 : decode cX7_isKnown 31 = .ok (.goto 4, 3) := by decide +kernel
theorem dX7_isKnown_34 : decode cX7_isKnown 34 = .ok (.iconst 0, 1) := by decide +kernel
theorem dX7_isKnown_35 : decode cX7_isKnown 35 = .ok (.ireturn, 1) := by decide +kernel
theorem dX7_hasServed_0 : decode cX7_hasServed 0 = .ok (.iconst 0, 1) := by decide +kernel
theorem dX7_hasServed_1 : decode cX7_hasServed 1 = .ok (.istore 4, 2) := by decide +kernel
theorem dX7_hasServed_3 : decode cX7_hasServed 3 = .ok (.iload 4, 2) := by decide +kernel
theorem dX7_hasServed_5 : decode cX7_hasServed 5 = .ok (.aload_n 0, 1) := by decide +kernel
theorem dX7_hasServed_6 : decode cX7_hasServed 6 = .ok (.getfield 30, 3) := by decide +kernel
theorem dX7_hasServed_9 : decode cX7_hasServed 9 = .ok (.if_icmp .ge 43, 3) := by decide +kernel
theorem dX7_hasServed_12 : decode cX7_hasServed 12 = .ok (.aload_n 0, 1) := by decide +kernel
theorem dX7_hasServed_13 : decode cX7_hasServed 13 = .ok (.getfield 9, 3) := by decide +kernel
theorem dX7_hasServed_16 : decode cX7_hasServed 16 = .ok (.iload 4, 2) := by decide +kernel
theorem dX7_hasServed_18 : decode cX7_hasServed 18 = .ok (.iaload, 1) := by decide +kernel
theorem dX7_hasServed_19 : decode cX7_hasServed 19 = .ok (.iload_n 1, 1) := by decide +kernel
theorem dX7_hasServed_20 : decode cX7_hasServed 20 = .ok (.if_icmp .ne 26, 3) := by decide +kernel
theorem dX7_hasServed_23 : decode cX7_hasServed 23 = .ok (.aload_n 0, 1) := by decide +kernel
theorem dX7_hasServed_24 : decode cX7_hasServed 24 = .ok (.getfield 15, 3) := by decide +kernel
theorem dX7_hasServed_27 : decode cX7_hasServed 27 = .ok (.iload 4, 2) := by decide +kernel
theorem dX7_hasServed_29 : decode cX7_hasServed 29 = .ok (.iaload, 1) := by decide +kernel
theorem dX7_hasServed_30 : decode cX7_hasServed 30 = .ok (.iload_n 2, 1) := by decide +kernel
theorem dX7_hasServed_31 : decode cX7_hasServed 31 = .ok (.if_icmp .ne 15, 3) := by decide +kernel
theorem dX7_hasServed_34 : decode cX7_hasServed 34 = .ok (.aload_n 0, 1) := by decide +kernel
theorem dX7_hasServed_35 : decode cX7_hasServed 35 = .ok (.iload 4, 2) := by decide +kernel
theorem dX7_hasServed_37 : decode cX7_hasServed 37 = .ok (.iload_n 3, 1) := by decide +kernel
theorem dX7_hasServed_38 : decode cX7_hasServed 38 = .ok (.invokevirtual 40, 3) := by decide +kernel
theorem dX7_hasServed_41 : decode cX7_hasServed 41 = .ok (.ifCond .eq 5, 3) := by decide +kernel
theorem dX7_hasServed_44 : decode cX7_hasServed 44 = .ok (.iconst 1, 1) := by decide +kernel
theorem dX7_hasServed_45 : decode cX7_hasServed 45 = .ok (.ireturn, 1) := by decide +kernel
theorem dX7_hasServed_46 : decode cX7_hasServed 46 = .ok (.iinc 4 1, 3) := by decide +kernel
theorem dX7_hasServed_49 : decode cX7_hasServed 49 = .ok (.goto (-46), 3) := by decide +kernel
theorem dX7_hasServed_52 : decode cX7_hasServed 52 = .ok (.iconst 0, 1) := by decide +kernel
theorem dX7_hasServed_53 : decode cX7_hasServed 53 = .ok (.ireturn, 1) := by decide +kernel
theorem dX7_firstServedDay_0 : decode cX7_firstServedDay 0 = .ok (.iconst (-1), 1) := by decide +kernel
theorem dX7_firstServedDay_1 : decode cX7_firstServedDay 1 = .ok (.istore 4, 2) := by decide +kernel
theorem dX7_firstServedDay_3 : decode cX7_firstServedDay 3 = .ok (.aload_n 0, 1) := by decide +kernel
theorem dX7_firstServedDay_4 : decode cX7_firstServedDay 4 = .ok (.iload_n 1, 1) := by decide +kernel
theorem dX7_firstServedDay_5 : decode cX7_firstServedDay 5 = .ok (.iload_n 2, 1) := by decide +kernel
theorem dX7_firstServedDay_6 : decode cX7_firstServedDay 6 = .ok (.iload_n 3, 1) := by decide +kernel
theorem dX7_firstServedDay_7 : decode cX7_firstServedDay 7 = .ok (.invokevirtual 44, 3) := by decide +kernel
theorem dX7_firstServedDay_10 : decode cX7_firstServedDay 10 = .ok (.iconst 0, 1) := by decide +kernel
theorem dX7_firstServedDay_11 : decode cX7_firstServedDay 11 = .ok (.istore 5, 2) := by decide +kernel
theorem dX7_firstServedDay_13 : decode cX7_firstServedDay 13 = .ok (.iload 5, 2) := by decide +kernel
theorem dX7_firstServedDay_15 : decode cX7_firstServedDay 15 = .ok (.aload_n 0, 1) := by decide +kernel
theorem dX7_firstServedDay_16 : decode cX7_firstServedDay 16 = .ok (.getfield 37, 3) := by decide +kernel
theorem dX7_firstServedDay_19 : decode cX7_firstServedDay 19 = .ok (.if_icmp .ge 56, 3) := by decide +kernel
theorem dX7_firstServedDay_22 : decode cX7_firstServedDay 22 = .ok (.aload_n 0, 1) := by decide +kernel
theorem dX7_firstServedDay_23 : decode cX7_firstServedDay 23 = .ok (.getfield 34, 3) := by decide +kernel
theorem dX7_firstServedDay_26 : decode cX7_firstServedDay 26 = .ok (.iload 5, 2) := by decide +kernel
theorem dX7_firstServedDay_28 : decode cX7_firstServedDay 28 = .ok (.iaload, 1) := by decide +kernel
theorem dX7_firstServedDay_29 : decode cX7_firstServedDay 29 = .ok (.istore 6, 2) := by decide +kernel
theorem dX7_firstServedDay_31 : decode cX7_firstServedDay 31 = .ok (.aload_n 0, 1) := by decide +kernel
theorem dX7_firstServedDay_32 : decode cX7_firstServedDay 32 = .ok (.getfield 15, 3) := by decide +kernel
theorem dX7_firstServedDay_35 : decode cX7_firstServedDay 35 = .ok (.iload 6, 2) := by decide +kernel
theorem dX7_firstServedDay_37 : decode cX7_firstServedDay 37 = .ok (.iaload, 1) := by decide +kernel
theorem dX7_firstServedDay_38 : decode cX7_firstServedDay 38 = .ok (.iconst (-1), 1) := by decide +kernel
theorem dX7_firstServedDay_39 : decode cX7_firstServedDay 39 = .ok (.if_icmp .eq 30, 3) := by decide +kernel
theorem dX7_firstServedDay_42 : decode cX7_firstServedDay 42 = .ok (.iload 4, 2) := by decide +kernel
theorem dX7_firstServedDay_44 : decode cX7_firstServedDay 44 = .ok (.iconst (-1), 1) := by decide +kernel
theorem dX7_firstServedDay_45 : decode cX7_firstServedDay 45 = .ok (.if_icmp .eq 15, 3) := by decide +kernel
theorem dX7_firstServedDay_48 : decode cX7_firstServedDay 48 = .ok (.aload_n 0, 1) := by decide +kernel
theorem dX7_firstServedDay_49 : decode cX7_firstServedDay 49 = .ok (.getfield 18, 3) := by decide +kernel
theorem dX7_firstServedDay_52 : decode cX7_firstServedDay 52 = .ok (.iload 6, 2) := by decide +kernel
theorem dX7_firstServedDay_54 : decode cX7_firstServedDay 54 = .ok (.iaload, 1) := by decide +kernel
theorem dX7_firstServedDay_55 : decode cX7_firstServedDay 55 = .ok (.iload 4, 2) := by decide +kernel
theorem dX7_firstServedDay_57 : decode cX7_firstServedDay 57 = .ok (.if_icmp .ge 12, 3) := by decide +kernel
theorem dX7_firstServedDay_60 : decode cX7_firstServedDay 60 = .ok (.aload_n 0, 1) := by decide +kernel
theorem dX7_firstServedDay_61 : decode cX7_firstServedDay 61 = .ok (.getfield 18, 3) := by decide +kernel
theorem dX7_firstServedDay_64 : decode cX7_firstServedDay 64 = .ok (.iload 6, 2) := by decide +kernel
theorem dX7_firstServedDay_66 : decode cX7_firstServedDay 66 = .ok (.iaload, 1) := by decide +kernel
theorem dX7_firstServedDay_67 : decode cX7_firstServedDay 67 = .ok (.istore 4, 2) := by decide +kernel
theorem dX7_firstServedDay_69 : decode cX7_firstServedDay 69 = .ok (.iinc 5 1, 3) := by decide +kernel
theorem dX7_firstServedDay_72 : decode cX7_firstServedDay 72 = .ok (.goto (-59), 3) := by decide +kernel
theorem dX7_firstServedDay_75 : decode cX7_firstServedDay 75 = .ok (.iload 4, 2) := by decide +kernel
theorem dX7_firstServedDay_77 : decode cX7_firstServedDay 77 = .ok (.ireturn, 1) := by decide +kernel
theorem dX7_daysOf_0 : decode cX7_daysOf 0 = .ok (.iconst 0, 1) := by decide +kernel
theorem dX7_daysOf_1 : decode cX7_daysOf 1 = .ok (.istore 5, 2) := by decide +kernel
theorem dX7_daysOf_3 : decode cX7_daysOf 3 = .ok (.iconst 0, 1) := by decide +kernel
theorem dX7_daysOf_4 : decode cX7_daysOf 4 = .ok (.istore 6, 2) := by decide +kernel
theorem dX7_daysOf_6 : decode cX7_daysOf 6 = .ok (.aload_n 0, 1) := by decide +kernel
theorem dX7_daysOf_7 : decode cX7_daysOf 7 = .ok (.iload_n 2, 1) := by decide +kernel
theorem dX7_daysOf_8 : decode cX7_daysOf 8 = .ok (.iload_n 3, 1) := by decide +kernel
theorem dX7_daysOf_9 : decode cX7_daysOf 9 = .ok (.iload 4, 2) := by decide +kernel
theorem dX7_daysOf_11 : decode cX7_daysOf 11 = .ok (.invokevirtual 44, 3) := by decide +kernel
theorem dX7_daysOf_14 : decode cX7_daysOf 14 = .ok (.iconst 0, 1) := by decide +kernel
theorem dX7_daysOf_15 : decode cX7_daysOf 15 = .ok (.istore 7, 2) := by decide +kernel
theorem dX7_daysOf_17 : decode cX7_daysOf 17 = .ok (.iload 7, 2) := by decide +kernel
theorem dX7_daysOf_19 : decode cX7_daysOf 19 = .ok (.sipush 201, 3) := by decide +kernel
theorem dX7_daysOf_22 : decode cX7_daysOf 22 = .ok (.if_icmp .ge 48, 3) := by decide +kernel
theorem dX7_daysOf_25 : decode cX7_daysOf 25 = .ok (.iload 6, 2) := by decide +kernel
theorem dX7_daysOf_27 : decode cX7_daysOf 27 = .ok (.iload_n 3, 1) := by decide +kernel
theorem dX7_daysOf_28 : decode cX7_daysOf 28 = .ok (.if_icmp .gt 42, 3) := by decide +kernel
theorem dX7_daysOf_31 : decode cX7_daysOf 31 = .ok (.aload_n 0, 1) := by decide +kernel
theorem dX7_daysOf_32 : decode cX7_daysOf 32 = .ok (.iload 6, 2) := by decide +kernel
theorem dX7_daysOf_34 : decode cX7_daysOf 34 = .ok (.iload_n 3, 1) := by decide +kernel
theorem dX7_daysOf_35 : decode cX7_daysOf 35 = .ok (.invokevirtual 48, 3) := by decide +kernel
theorem dX7_daysOf_38 : decode cX7_daysOf 38 = .ok (.istore 8, 2) := by decide +kernel
theorem dX7_daysOf_40 : decode cX7_daysOf 40 = .ok (.aload_n 0, 1) := by decide +kernel
theorem dX7_daysOf_41 : decode cX7_daysOf 41 = .ok (.iload_n 1, 1) := by decide +kernel
theorem dX7_daysOf_42 : decode cX7_daysOf 42 = .ok (.iload 6, 2) := by decide +kernel
theorem dX7_daysOf_44 : decode cX7_daysOf 44 = .ok (.invokevirtual 52, 3) := by decide +kernel
theorem dX7_daysOf_47 : decode cX7_daysOf 47 = .ok (.ifCond .eq 13, 3) := by decide +kernel
theorem dX7_daysOf_50 : decode cX7_daysOf 50 = .ok (.iload 5, 2) := by decide +kernel
theorem dX7_daysOf_52 : decode cX7_daysOf 52 = .ok (.iload 8, 2) := by decide +kernel
theorem dX7_daysOf_54 : decode cX7_daysOf 54 = .ok (.iload 6, 2) := by decide +kernel
theorem dX7_daysOf_56 : decode cX7_daysOf 56 = .ok (.isub, 1) := by decide +kernel
theorem dX7_daysOf_57 : decode cX7_daysOf 57 = .ok (.iadd, 1) := by decide +kernel
theorem dX7_daysOf_58 : decode cX7_daysOf 58 = .ok (.istore 5, 2) := by decide +kernel
theorem dX7_daysOf_60 : decode cX7_daysOf 60 = .ok (.iload 8, 2) := by decide +kernel
theorem dX7_daysOf_62 : decode cX7_daysOf 62 = .ok (.istore 6, 2) := by decide +kernel
theorem dX7_daysOf_64 : decode cX7_daysOf 64 = .ok (.iinc 7 1, 3) := by decide +kernel
theorem dX7_daysOf_67 : decode cX7_daysOf 67 = .ok (.goto (-50), 3) := by decide +kernel
theorem dX7_daysOf_70 : decode cX7_daysOf 70 = .ok (.iload 5, 2) := by decide +kernel
theorem dX7_daysOf_72 : decode cX7_daysOf 72 = .ok (.ireturn, 1) := by decide +kernel
theorem dX7_pick_0 : decode cX7_pick 0 = .ok (.aload_n 0, 1) := by decide +kernel
theorem dX7_pick_1 : decode cX7_pick 1 = .ok (.iconst 0, 1) := by decide +kernel
theorem dX7_pick_2 : decode cX7_pick 2 = .ok (.putfield 37, 3) := by decide +kernel
theorem dX7_pick_5 : decode cX7_pick 5 = .ok (.iconst 0, 1) := by decide +kernel
theorem dX7_pick_6 : decode cX7_pick 6 = .ok (.istore 4, 2) := by decide +kernel
theorem dX7_pick_8 : decode cX7_pick 8 = .ok (.iload 4, 2) := by decide +kernel
theorem dX7_pick_10 : decode cX7_pick 10 = .ok (.aload_n 0, 1) := by decide +kernel
theorem dX7_pick_11 : decode cX7_pick 11 = .ok (.getfield 30, 3) := by decide +kernel
theorem dX7_pick_14 : decode cX7_pick 14 = .ok (.if_icmp .ge 62, 3) := by decide +kernel
theorem dX7_pick_17 : decode cX7_pick 17 = .ok (.aload_n 0, 1) := by decide +kernel
theorem dX7_pick_18 : decode cX7_pick 18 = .ok (.getfield 9, 3) := by decide +kernel
theorem dX7_pick_21 : decode cX7_pick 21 = .ok (.iload 4, 2) := by decide +kernel
theorem dX7_pick_23 : decode cX7_pick 23 = .ok (.iaload, 1) := by decide +kernel
theorem dX7_pick_24 : decode cX7_pick 24 = .ok (.iload_n 1, 1) := by decide +kernel
theorem dX7_pick_25 : decode cX7_pick 25 = .ok (.if_icmp .ne 45, 3) := by decide +kernel
theorem dX7_pick_28 : decode cX7_pick 28 = .ok (.aload_n 0, 1) := by decide +kernel
theorem dX7_pick_29 : decode cX7_pick 29 = .ok (.getfield 18, 3) := by decide +kernel
theorem dX7_pick_32 : decode cX7_pick 32 = .ok (.iload 4, 2) := by decide +kernel
theorem dX7_pick_34 : decode cX7_pick 34 = .ok (.iaload, 1) := by decide +kernel
theorem dX7_pick_35 : decode cX7_pick 35 = .ok (.iload_n 2, 1) := by decide +kernel
theorem dX7_pick_36 : decode cX7_pick 36 = .ok (.if_icmp .gt 34, 3) := by decide +kernel
theorem dX7_pick_39 : decode cX7_pick 39 = .ok (.aload_n 0, 1) := by decide +kernel
theorem dX7_pick_40 : decode cX7_pick 40 = .ok (.iload 4, 2) := by decide +kernel
theorem dX7_pick_42 : decode cX7_pick 42 = .ok (.iload_n 3, 1) := by decide +kernel
theorem dX7_pick_43 : decode cX7_pick 43 = .ok (.invokevirtual 40, 3) := by decide +kernel
theorem dX7_pick_46 : decode cX7_pick 46 = .ok (.ifCond .eq 24, 3) := by decide +kernel
theorem dX7_pick_49 : decode cX7_pick 49 = .ok (.aload_n 0, 1) := by decide +kernel
theorem dX7_pick_50 : decode cX7_pick 50 = .ok (.getfield 34, 3) := by decide +kernel
theorem dX7_pick_53 : decode cX7_pick 53 = .ok (.aload_n 0, 1) := by decide +kernel
theorem dX7_pick_54 : decode cX7_pick 54 = .ok (.getfield 37, 3) := by decide +kernel
theorem dX7_pick_57 : decode cX7_pick 57 = .ok (.iload 4, 2) := by decide +kernel
theorem dX7_pick_59 : decode cX7_pick 59 = .ok (.iastore, 1) := by decide +kernel
theorem dX7_pick_60 : decode cX7_pick 60 = .ok (.aload_n 0, 1) := by decide +kernel
theorem dX7_pick_61 : decode cX7_pick 61 = .ok (.dup, 1) := by decide +kernel
theorem dX7_pick_62 : decode cX7_pick 62 = .ok (.getfield 37, 3) := by decide +kernel
theorem dX7_pick_65 : decode cX7_pick 65 = .ok (.iconst 1, 1) := by decide +kernel
theorem dX7_pick_66 : decode cX7_pick 66 = .ok (.iadd, 1) := by decide +kernel
theorem dX7_pick_67 : decode cX7_pick 67 = .ok (.putfield 37, 3) := by decide +kernel
theorem dX7_pick_70 : decode cX7_pick 70 = .ok (.iinc 4 1, 3) := by decide +kernel
theorem dX7_pick_73 : decode cX7_pick 73 = .ok (.goto (-65), 3) := by decide +kernel
theorem dX7_pick_76 : decode cX7_pick 76 = .ok (.return_, 1) := by decide +kernel
theorem dX7_nextChange_0 : decode cX7_nextChange 0 = .ok (.iload_n 2, 1) := by decide +kernel
theorem dX7_nextChange_1 : decode cX7_nextChange 1 = .ok (.iconst 1, 1) := by decide +kernel
theorem dX7_nextChange_2 : decode cX7_nextChange 2 = .ok (.iadd, 1) := by decide +kernel
theorem dX7_nextChange_3 : decode cX7_nextChange 3 = .ok (.istore_n 3, 1) := by decide +kernel
theorem dX7_nextChange_4 : decode cX7_nextChange 4 = .ok (.iconst 0, 1) := by decide +kernel
theorem dX7_nextChange_5 : decode cX7_nextChange 5 = .ok (.istore 4, 2) := by decide +kernel
theorem dX7_nextChange_7 : decode cX7_nextChange 7 = .ok (.iload 4, 2) := by decide +kernel
theorem dX7_nextChange_9 : decode cX7_nextChange 9 = .ok (.aload_n 0, 1) := by decide +kernel
theorem dX7_nextChange_10 : decode cX7_nextChange 10 = .ok (.getfield 37, 3) := by decide +kernel
theorem dX7_nextChange_13 : decode cX7_nextChange 13 = .ok (.if_icmp .ge 69, 3) := by decide +kernel
theorem dX7_nextChange_16 : decode cX7_nextChange 16 = .ok (.aload_n 0, 1) := by decide +kernel
theorem dX7_nextChange_17 : decode cX7_nextChange 17 = .ok (.getfield 34, 3) := by decide +kernel
theorem dX7_nextChange_20 : decode cX7_nextChange 20 = .ok (.iload 4, 2) := by decide +kernel
theorem dX7_nextChange_22 : decode cX7_nextChange 22 = .ok (.iaload, 1) := by decide +kernel
theorem dX7_nextChange_23 : decode cX7_nextChange 23 = .ok (.istore 5, 2) := by decide +kernel
theorem dX7_nextChange_25 : decode cX7_nextChange 25 = .ok (.aload_n 0, 1) := by decide +kernel
theorem dX7_nextChange_26 : decode cX7_nextChange 26 = .ok (.getfield 18, 3) := by decide +kernel
theorem dX7_nextChange_29 : decode cX7_nextChange 29 = .ok (.iload 5, 2) := by decide +kernel
theorem dX7_nextChange_31 : decode cX7_nextChange 31 = .ok (.iaload, 1) := by decide +kernel
theorem dX7_nextChange_32 : decode cX7_nextChange 32 = .ok (.iload_n 1, 1) := by decide +kernel
theorem dX7_nextChange_33 : decode cX7_nextChange 33 = .ok (.if_icmp .le 18, 3) := by decide +kernel
theorem dX7_nextChange_36 : decode cX7_nextChange 36 = .ok (.iload_n 3, 1) := by decide +kernel
theorem dX7_nextChange_37 : decode cX7_nextChange 37 = .ok (.aload_n 0, 1) := by decide +kernel
theorem dX7_nextChange_38 : decode cX7_nextChange 38 = .ok (.getfield 18, 3) := by decide +kernel
theorem dX7_nextChange_41 : decode cX7_nextChange 41 = .ok (.iload 5, 2) := by decide +kernel
theorem dX7_nextChange_43 : decode cX7_nextChange 43 = .ok (.iaload, 1) := by decide +kernel
theorem dX7_nextChange_44 : decode cX7_nextChange 44 = .ok (.invokestatic 55, 3) := by decide +kernel
theorem dX7_nextChange_47 : decode cX7_nextChange 47 = .ok (.istore_n 3, 1) := by decide +kernel
theorem dX7_nextChange_48 : decode cX7_nextChange 48 = .ok (.goto 28, 3) := by decide +kernel
theorem dX7_nextChange_51 : decode cX7_nextChange 51 = .ok (.aload_n 0, 1) := by decide +kernel
theorem dX7_nextChange_52 : decode cX7_nextChange 52 = .ok (.getfield 21, 3) := by decide +kernel
theorem dX7_nextChange_55 : decode cX7_nextChange 55 = .ok (.iload 5, 2) := by decide +kernel
theorem dX7_nextChange_57 : decode cX7_nextChange 57 = .ok (.iaload, 1) := by decide +kernel
theorem dX7_nextChange_58 : decode cX7_nextChange 58 = .ok (.iload_n 1, 1) := by decide +kernel
theorem dX7_nextChange_59 : decode cX7_nextChange 59 = .ok (.if_icmp .lt 17, 3) := by decide +kernel
theorem dX7_nextChange_62 : decode cX7_nextChange 62 = .ok (.iload_n 3, 1) := by decide +kernel
theorem dX7_nextChange_63 : decode cX7_nextChange 63 = .ok (.aload_n 0, 1) := by decide +kernel
theorem dX7_nextChange_64 : decode cX7_nextChange 64 = .ok (.getfield 21, 3) := by decide +kernel
theorem dX7_nextChange_67 : decode cX7_nextChange 67 = .ok (.iload 5, 2) := by decide +kernel
theorem dX7_nextChange_69 : decode cX7_nextChange 69 = .ok (.iaload, 1) := by decide +kernel
theorem dX7_nextChange_70 : decode cX7_nextChange 70 = .ok (.iconst 1, 1) := by decide +kernel
theorem dX7_nextChange_71 : decode cX7_nextChange 71 = .ok (.iadd, 1) := by decide +kernel
theorem dX7_nextChange_72 : decode cX7_nextChange 72 = .ok (.invokestatic 55, 3) := by decide +kernel
theorem dX7_nextChange_75 : decode cX7_nextChange 75 = .ok (.istore_n 3, 1) := by decide +kernel
theorem dX7_nextChange_76 : decode cX7_nextChange 76 = .ok (.iinc 4 1, 3) := by decide +kernel
theorem dX7_nextChange_79 : decode cX7_nextChange 79 = .ok (.goto (-72), 3) := by decide +kernel
theorem dX7_nextChange_82 : decode cX7_nextChange 82 = .ok (.iload_n 3, 1) := by decide +kernel
theorem dX7_nextChange_83 : decode cX7_nextChange 83 = .ok (.ireturn, 1) := by decide +kernel
theorem dX7_isOfKind_0 : decode cX7_isOfKind 0 = .ok (.iconst (-1), 1) := by decide +kernel
theorem dX7_isOfKind_1 : decode cX7_isOfKind 1 = .ok (.istore_n 3, 1) := by decide +kernel
theorem dX7_isOfKind_2 : decode cX7_isOfKind 2 = .ok (.iconst 0, 1) := by decide +kernel
theorem dX7_isOfKind_3 : decode cX7_isOfKind 3 = .ok (.istore 4, 2) := by decide +kernel
theorem dX7_isOfKind_5 : decode cX7_isOfKind 5 = .ok (.iconst 0, 1) := by decide +kernel
theorem dX7_isOfKind_6 : decode cX7_isOfKind 6 = .ok (.istore 5, 2) := by decide +kernel
theorem dX7_isOfKind_8 : decode cX7_isOfKind 8 = .ok (.iconst 0, 1) := by decide +kernel
theorem dX7_isOfKind_9 : decode cX7_isOfKind 9 = .ok (.istore 6, 2) := by decide +kernel
theorem dX7_isOfKind_11 : decode cX7_isOfKind 11 = .ok (.iload 6, 2) := by decide +kernel
theorem dX7_isOfKind_13 : decode cX7_isOfKind 13 = .ok (.aload_n 0, 1) := by decide +kernel
theorem dX7_isOfKind_14 : decode cX7_isOfKind 14 = .ok (.getfield 37, 3) := by decide +kernel
theorem dX7_isOfKind_17 : decode cX7_isOfKind 17 = .ok (.if_icmp .ge 96, 3) := by decide +kernel
theorem dX7_isOfKind_20 : decode cX7_isOfKind 20 = .ok (.aload_n 0, 1) := by decide +kernel
theorem dX7_isOfKind_21 : decode cX7_isOfKind 21 = .ok (.getfield 34, 3) := by decide +kernel
theorem dX7_isOfKind_24 : decode cX7_isOfKind 24 = .ok (.iload 6, 2) := by decide +kernel
theorem dX7_isOfKind_26 : decode cX7_isOfKind 26 = .ok (.iaload, 1) := by decide +kernel
theorem dX7_isOfKind_27 : decode cX7_isOfKind 27 = .ok (.istore 7, 2) := by decide +kernel
theorem dX7_isOfKind_29 : decode cX7_isOfKind 29 = .ok (.aload_n 0, 1) := by decide +kernel
theorem dX7_isOfKind_30 : decode cX7_isOfKind 30 = .ok (.getfield 18, 3) := by decide +kernel
theorem dX7_isOfKind_33 : decode cX7_isOfKind 33 = .ok (.iload 7, 2) := by decide +kernel
theorem dX7_isOfKind_35 : decode cX7_isOfKind 35 = .ok (.iaload, 1) := by decide +kernel
theorem dX7_isOfKind_36 : decode cX7_isOfKind 36 = .ok (.iload_n 2, 1) := by decide +kernel
theorem dX7_isOfKind_37 : decode cX7_isOfKind 37 = .ok (.if_icmp .gt 70, 3) := by decide +kernel
theorem dX7_isOfKind_40 : decode cX7_isOfKind 40 = .ok (.aload_n 0, 1) := by decide +kernel
theorem dX7_isOfKind_41 : decode cX7_isOfKind 41 = .ok (.getfield 21, 3) := by decide +kernel
theorem dX7_isOfKind_44 : decode cX7_isOfKind 44 = .ok (.iload 7, 2) := by decide +kernel
theorem dX7_isOfKind_46 : decode cX7_isOfKind 46 = .ok (.iaload, 1) := by decide +kernel
theorem dX7_isOfKind_47 : decode cX7_isOfKind 47 = .ok (.iload_n 2, 1) := by decide +kernel
theorem dX7_isOfKind_48 : decode cX7_isOfKind 48 = .ok (.if_icmp .ge 6, 3) := by decide +kernel
theorem dX7_isOfKind_51 : decode cX7_isOfKind 51 = .ok (.goto 56, 3) := by decide +kernel
theorem dX7_isOfKind_54 : decode cX7_isOfKind 54 = .ok (.aload_n 0, 1) := by decide +kernel
theorem dX7_isOfKind_55 : decode cX7_isOfKind 55 = .ok (.getfield 15, 3) := by decide +kernel
theorem dX7_isOfKind_58 : decode cX7_isOfKind 58 = .ok (.iload 7, 2) := by decide +kernel
theorem dX7_isOfKind_60 : decode cX7_isOfKind 60 = .ok (.iaload, 1) := by decide +kernel
theorem dX7_isOfKind_61 : decode cX7_isOfKind 61 = .ok (.iconst (-1), 1) := by decide +kernel
theorem dX7_isOfKind_62 : decode cX7_isOfKind 62 = .ok (.if_icmp .ne 9, 3) := by decide +kernel
theorem dX7_isOfKind_65 : decode cX7_isOfKind 65 = .ok (.iconst 1, 1) := by decide +kernel
theorem dX7_isOfKind_66 : decode cX7_isOfKind 66 = .ok (.istore 5, 2) := by decide +kernel
theorem dX7_isOfKind_68 : decode cX7_isOfKind 68 = .ok (.goto 39, 3) := by decide +kernel
theorem dX7_isOfKind_71 : decode cX7_isOfKind 71 = .ok (.iload 4, 2) := by decide +kernel
theorem dX7_isOfKind_73 : decode cX7_isOfKind 73 = .ok (.ifCond .ne 19, 3) := by decide +kernel
theorem dX7_isOfKind_76 : decode cX7_isOfKind 76 = .ok (.iload_n 3, 1) := by decide +kernel
theorem dX7_isOfKind_77 : decode cX7_isOfKind 77 = .ok (.iconst (-1), 1) := by decide +kernel
theorem dX7_isOfKind_78 : decode cX7_isOfKind 78 = .ok (.if_icmp .eq 18, 3) := by decide +kernel
theorem dX7_isOfKind_81 : decode cX7_isOfKind 81 = .ok (.iload_n 3, 1) := by decide +kernel
theorem dX7_isOfKind_82 : decode cX7_isOfKind 82 = .ok (.aload_n 0, 1) := by decide +kernel
theorem dX7_isOfKind_83 : decode cX7_isOfKind 83 = .ok (.getfield 15, 3) := by decide +kernel
theorem dX7_isOfKind_86 : decode cX7_isOfKind 86 = .ok (.iload 7, 2) := by decide +kernel
theorem dX7_isOfKind_88 : decode cX7_isOfKind 88 = .ok (.iaload, 1) := by decide +kernel
theorem dX7_isOfKind_89 : decode cX7_isOfKind 89 = .ok (.if_icmp .eq 7, 3) := by decide +kernel
theorem dX7_isOfKind_92 : decode cX7_isOfKind 92 = .ok (.iconst 1, 1) := by decide +kernel
theorem dX7_isOfKind_93 : decode cX7_isOfKind 93 = .ok (.goto 4, 3) := by decide +kernel
theorem dX7_isOfKind_96 : decode cX7_isOfKind 96 = .ok (.iconst 0, 1) := by decide +kernel
theorem dX7_isOfKind_97 : decode cX7_isOfKind 97 = .ok (.istore 4, 2) := by decide +kernel
theorem dX7_isOfKind_99 : decode cX7_isOfKind 99 = .ok (.aload_n 0, 1) := by decide +kernel
theorem dX7_isOfKind_100 : decode cX7_isOfKind 100 = .ok (.getfield 15, 3) := by decide +kernel
theorem dX7_isOfKind_103 : decode cX7_isOfKind 103 = .ok (.iload 7, 2) := by decide +kernel
theorem dX7_isOfKind_105 : decode cX7_isOfKind 105 = .ok (.iaload, 1) := by decide +kernel
theorem dX7_isOfKind_106 : decode cX7_isOfKind 106 = .ok (.istore_n 3, 1) := by decide +kernel
theorem dX7_isOfKind_107 : decode cX7_isOfKind 107 = .ok (.iinc 6 1, 3) := by decide +kernel
theorem dX7_isOfKind_110 : decode cX7_isOfKind 110 = .ok (.goto (-99), 3) := by decide +kernel
theorem dX7_isOfKind_113 : decode cX7_isOfKind 113 = .ok (.iload_n 1, 1) := by decide +kernel
theorem dX7_isOfKind_114 : decode cX7_isOfKind 114 = .ok (.ifCond .ne 14, 3) := by decide +kernel
theorem dX7_isOfKind_117 : decode cX7_isOfKind 117 = .ok (.iload_n 3, 1) := by decide +kernel
theorem dX7_isOfKind_118 : decode cX7_isOfKind 118 = .ok (.iconst (-1), 1) := by decide +kernel
theorem dX7_isOfKind_119 : decode cX7_isOfKind 119 = .ok (.if_icmp .eq 7, 3) := by decide +kernel
theorem dX7_isOfKind_122 : decode cX7_isOfKind 122 = .ok (.iconst 1, 1) := by decide +kernel
theorem dX7_isOfKind_123 : decode cX7_isOfKind 123 = .ok (.goto 4, 3) := by decide +kernel
theorem dX7_isOfKind_126 : decode cX7_isOfKind 126 = .ok (.iconst 0, 1) := by decide +kernel
theorem dX7_isOfKind_127 : decode cX7_isOfKind 127 = .ok (.ireturn, 1) := by decide +kernel
theorem dX7_isOfKind_128 : decode cX7_isOfKind 128 = .ok (.iload_n 1, 1) := by decide +kernel
theorem dX7_isOfKind_129 : decode cX7_isOfKind 129 = .ok (.iconst 1, 1) := by decide +kernel
theorem dX7_isOfKind_130 : decode cX7_isOfKind 130 = .ok (.if_icmp .ne 21, 3) := by decide +kernel
theorem dX7_isOfKind_133 : decode cX7_isOfKind 133 = .ok (.iload 5, 2) := by decide +kernel
theorem dX7_isOfKind_135 : decode cX7_isOfKind 135 = .ok (.ifCond .eq 12, 3) := by decide +kernel
theorem dX7_isOfKind_138 : decode cX7_isOfKind 138 = .ok (.iload_n 3, 1) := by decide +kernel
theorem dX7_isOfKind_139 : decode cX7_isOfKind 139 = .ok (.iconst (-1), 1) := by decide +kernel
theorem dX7_isOfKind_140 : decode cX7_isOfKind 140 = .ok (.if_icmp .ne 7, 3) := by decide +kernel
theorem dX7_isOfKind_143 : decode cX7_isOfKind 143 = .ok (.iconst 1, 1) := by decide +kernel
theorem dX7_isOfKind_144 : decode cX7_isOfKind 144 = .ok (.goto 9, 3) := by decide +kernel
theorem dX7_isOfKind_147 : decode cX7_isOfKind 147 = .ok (.iconst 0, 1) := by decide +kernel
theorem dX7_isOfKind_148 : decode cX7_isOfKind 148 = .ok (.goto 5, 3) := by decide +kernel
theorem dX7_isOfKind_151 : decode cX7_isOfKind 151 = .ok (.iload 4, 2) := by decide +kernel
theorem dX7_isOfKind_153 : decode cX7_isOfKind 153 = .ok (.ireturn, 1) := by decide +kernel
theorem dX8_init_0 : decode cX8_init 0 = .ok (.aload_n 0, 1) := by decide +kernel
theorem dX8_init_1 : decode cX8_init 1 = .ok (.invokespecial 3, 3) := by decide +kernel
theorem dX8_init_4 : decode cX8_init 4 = .ok (.aload_n 0, 1) := by decide +kernel
theorem dX8_init_5 : decode cX8_init 5 = .ok (.bipush 6, 2) := by decide +kernel
theorem dX8_init_7 : decode cX8_init 7 = .ok (.newarray .int, 2) := by decide +kernel
theorem dX8_init_9 : decode cX8_init 9 = .ok (.putfield 9, 3) := by decide +kernel
theorem dX8_init_12 : decode cX8_init 12 = .ok (.aload_n 0, 1) := by decide +kernel
theorem dX8_init_13 : decode cX8_init 13 = .ok (.iconst 0, 1) := by decide +kernel
theorem dX8_init_14 : decode cX8_init 14 = .ok (.putfield 15, 3) := by decide +kernel
theorem dX8_init_17 : decode cX8_init 17 = .ok (.aload_n 0, 1) := by decide +kernel
theorem dX8_init_18 : decode cX8_init 18 = .ok (.iconst 1, 1) := by decide +kernel
theorem dX8_init_19 : decode cX8_init 19 = .ok (.putfield 19, 3) := by decide +kernel
theorem dX8_init_22 : decode cX8_init 22 = .ok (.aload_n 0, 1) := by decide +kernel
theorem dX8_init_23 : decode cX8_init 23 = .ok (.iconst 0, 1) := by decide +kernel
theorem dX8_init_24 : decode cX8_init 24 = .ok (.putfield 22, 3) := by decide +kernel
theorem dX8_init_27 : decode cX8_init 27 = .ok (.aload_n 0, 1) := by decide +kernel
theorem dX8_init_28 : decode cX8_init 28 = .ok (.bipush 32, 2) := by decide +kernel
theorem dX8_init_30 : decode cX8_init 30 = .ok (.putfield 25, 3) := by decide +kernel
theorem dX8_init_33 : decode cX8_init 33 = .ok (.aload_n 0, 1) := by decide +kernel
theorem dX8_init_34 : decode cX8_init 34 = .ok (.iconst 0, 1) := by decide +kernel
theorem dX8_init_35 : decode cX8_init 35 = .ok (.putfield 29, 3) := by decide +kernel
theorem dX8_init_38 : decode cX8_init 38 = .ok (.aload_n 0, 1) := by decide +kernel
theorem dX8_init_39 : decode cX8_init 39 = .ok (.iconst 0, 1) := by decide +kernel
theorem dX8_init_40 : decode cX8_init 40 = .ok (.putfield 32, 3) := by decide +kernel
theorem dX8_init_43 : decode cX8_init 43 = .ok (.return_, 1) := by decide +kernel
theorem dX8_begin_0 : decode cX8_begin 0 = .ok (.aload_n 0, 1) := by decide +kernel
theorem dX8_begin_1 : decode cX8_begin 1 = .ok (.iconst 0, 1) := by decide +kernel
theorem dX8_begin_2 : decode cX8_begin 2 = .ok (.putfield 15, 3) := by decide +kernel
theorem dX8_begin_5 : decode cX8_begin 5 = .ok (.aload_n 0, 1) := by decide +kernel
theorem dX8_begin_6 : decode cX8_begin 6 = .ok (.iconst 1, 1) := by decide +kernel
theorem dX8_begin_7 : decode cX8_begin 7 = .ok (.putfield 19, 3) := by decide +kernel
theorem dX8_begin_10 : decode cX8_begin 10 = .ok (.aload_n 0, 1) := by decide +kernel
theorem dX8_begin_11 : decode cX8_begin 11 = .ok (.iconst 0, 1) := by decide +kernel
theorem dX8_begin_12 : decode cX8_begin 12 = .ok (.putfield 32, 3) := by decide +kernel
theorem dX8_begin_15 : decode cX8_begin 15 = .ok (.return_, 1) := by decide +kernel
theorem dX8_take_0 : decode cX8_take 0 = .ok (.iload_n 1, 1) := by decide +kernel
theorem dX8_take_1 : decode cX8_take 1 = .ok (.invokestatic 36, 3) := by decide +kernel
theorem dX8_take_4 : decode cX8_take 4 = .ok (.ifCond .eq 25, 3) := by decide +kernel
theorem dX8_take_7 : decode cX8_take 7 = .ok (.aload_n 0, 1) := by decide +kernel
theorem dX8_take_8 : decode cX8_take 8 = .ok (.aload_n 0, 1) := by decide +kernel
theorem dX8_take_9 : decode cX8_take 9 = .ok (.getfield 29, 3) := by decide +kernel
theorem dX8_take_12 : decode cX8_take 12 = .ok (.bipush 10, 2) := by decide +kernel
theorem dX8_take_14 : decode cX8_take 14 = .ok (.imul, 1) := by decide +kernel
theorem dX8_take_15 : decode cX8_take 15 = .ok (.iload_n 1, 1) := by decide +kernel
theorem dX8_take_16 : decode cX8_take 16 = .ok (.bipush 48, 2) := by decide +kernel
theorem dX8_take_18 : decode cX8_take 18 = .ok (.isub, 1) := by decide +kernel
theorem dX8_take_19 : decode cX8_take 19 = .ok (.iadd, 1) := by decide +kernel
theorem dX8_take_20 : decode cX8_take 20 = .ok (.putfield 29, 3) := by decide +kernel
theorem dX8_take_23 : decode cX8_take 23 = .ok (.aload_n 0, 1) := by decide +kernel
theorem dX8_take_24 : decode cX8_take 24 = .ok (.iconst 1, 1) := by decide +kernel
theorem dX8_take_25 : decode cX8_take 25 = .ok (.putfield 32, 3) := by decide +kernel
theorem dX8_take_28 : decode cX8_take 28 = .ok (.return_, 1) := by decide +kernel
theorem dX8_take_29 : decode cX8_take 29 = .ok (.aload_n 0, 1) := by decide +kernel
theorem dX8_take_30 : decode cX8_take 30 = .ok (.invokevirtual 42, 3) := by decide +kernel
theorem dX8_take_33 : decode cX8_take 33 = .ok (.iload_n 1, 1) := by decide +kernel
theorem dX8_take_34 : decode cX8_take 34 = .ok (.invokestatic 45, 3) := by decide +kernel
theorem dX8_take_37 : decode cX8_take 37 = .ok (.ifCond .eq 15, 3) := by decide +kernel
theorem dX8_take_40 : decode cX8_take 40 = .ok (.aload_n 0, 1) := by decide +kernel
theorem dX8_take_41 : decode cX8_take 41 = .ok (.aload_n 0, 1) := by decide +kernel
theorem dX8_take_42 : decode cX8_take 42 = .ok (.iload_n 1, 1) := by decide +kernel
theorem dX8_take_43 : decode cX8_take 43 = .ok (.invokevirtual 48, 3) := by decide +kernel
theorem dX8_take_46 : decode cX8_take 46 = .ok (.putfield 22, 3) := by decide +kernel
theorem dX8_take_49 : decode cX8_take 49 = .ok (.goto 39, 3) := by decide +kernel
theorem dX8_take_52 : decode cX8_take 52 = .ok (.iload_n 1, 1) := by decide +kernel
theorem dX8_take_53 : decode cX8_take 53 = .ok (.bipush 60, 2) := by decide +kernel
theorem dX8_take_55 : decode cX8_take 55 = .ok (.if_icmp .eq 15, 3) := by decide +kernel
theorem dX8_take_58 : decode cX8_take 58 = .ok (.iload_n 1, 1) := by decide +kernel
theorem dX8_take_59 : decode cX8_take 59 = .ok (.bipush 62, 2) := by decide +kernel
theorem dX8_take_61 : decode cX8_take 61 = .ok (.if_icmp .eq 9, 3) := by decide +kernel
theorem dX8_take_64 : decode cX8_take 64 = .ok (.iload_n 1, 1) := by decide +kernel
theorem dX8_take_65 : decode cX8_take 65 = .ok (.bipush 61, 2) := by decide +kernel
theorem dX8_take_67 : decode cX8_take 67 = .ok (.if_icmp .ne 16, 3) := by decide +kernel
theorem dX8_take_70 : decode cX8_take 70 = .ok (.aload_n 0, 1) := by decide +kernel
theorem dX8_take_71 : decode cX8_take 71 = .ok (.iload_n 1, 1) := by decide +kernel
theorem dX8_take_72 : decode cX8_take 72 = .ok (.putfield 25, 3) := by decide +kernel
theorem dX8_take_75 : decode cX8_take 75 = .ok (.aload_n 0, 1) := by decide +kernel
theorem dX8_take_76 : decode cX8_take 76 = .ok (.iconst 0, 1) := by decide +kernel
theorem dX8_take_77 : decode cX8_take 77 = .ok (.putfield 29, 3) := by decide +kernel
theorem dX8_take_80 : decode cX8_take 80 = .ok (.goto 8, 3) := by decide +kernel
theorem dX8_take_83 : decode cX8_take 83 = .ok (.aload_n 0, 1) := by decide +kernel
theorem dX8_take_84 : decode cX8_take 84 = .ok (.iload_n 1, 1) := by decide +kernel
theorem dX8_take_85 : decode cX8_take 85 = .ok (.invokevirtual 52, 3) := by decide +kernel
theorem dX8_take_88 : decode cX8_take 88 = .ok (.return_, 1) := by decide +kernel
theorem dX8_result_0 : decode cX8_result 0 = .ok (.aload_n 0, 1) := by decide +kernel
theorem dX8_result_1 : decode cX8_result 1 = .ok (.invokevirtual 42, 3) := by decide +kernel
theorem dX8_result_4 : decode cX8_result 4 = .ok (.aload_n 0, 1) := by decide +kernel
theorem dX8_result_5 : decode cX8_result 5 = .ok (.invokevirtual 56, 3) := by decide +kernel
theorem dX8_result_8 : decode cX8_result 8 = .ok (.ireturn, 1) := by decide +kernel
theorem dX8_takeJoint_0 : decode cX8_takeJoint 0 = .ok (.iload_n 1, 1) := by decide +kernel
theorem dX8_takeJoint_1 : decode cX8_takeJoint 1 = .ok (.bipush 40, 2) := by decide +kernel
theorem dX8_takeJoint_3 : decode cX8_takeJoint 3 = .ok (.if_icmp .ne 28, 3) := by decide +kernel
theorem dX8_takeJoint_6 : decode cX8_takeJoint 6 = .ok (.aload_n 0, 1) := by decide +kernel
theorem dX8_takeJoint_7 : decode cX8_takeJoint 7 = .ok (.aload_n 0, 1) := by decide +kernel
theorem dX8_takeJoint_8 : decode cX8_takeJoint 8 = .ok (.getfield 15, 3) := by decide +kernel
theorem dX8_takeJoint_11 : decode cX8_takeJoint 11 = .ok (.iconst 1, 1) := by decide +kernel
theorem dX8_takeJoint_12 : decode cX8_takeJoint 12 = .ok (.ishl, 1) := by decide +kernel
theorem dX8_takeJoint_13 : decode cX8_takeJoint 13 = .ok (.putfield 15, 3) := by decide +kernel
theorem dX8_takeJoint_16 : decode cX8_takeJoint 16 = .ok (.aload_n 0, 1) := by decide +kernel
theorem dX8_takeJoint_17 : decode cX8_takeJoint 17 = .ok (.aload_n 0, 1) := by decide +kernel
theorem dX8_takeJoint_18 : decode cX8_takeJoint 18 = .ok (.getfield 19, 3) := by decide +kernel
theorem dX8_takeJoint_21 : decode cX8_takeJoint 21 = .ok (.iconst 1, 1) := by decide +kernel
theorem dX8_takeJoint_22 : decode cX8_takeJoint 22 = .ok (.ishl, 1) := by decide +kernel
theorem dX8_takeJoint_23 : decode cX8_takeJoint 23 = .ok (.iconst 1, 1) := by decide +kernel
theorem dX8_takeJoint_24 : decode cX8_takeJoint 24 = .ok (.ior, 1) := by decide +kernel
theorem dX8_takeJoint_25 : decode cX8_takeJoint 25 = .ok (.putfield 19, 3) := by decide +kernel
theorem dX8_takeJoint_28 : decode cX8_takeJoint 28 = .ok (.goto 73, 3) := by decide +kernel
theorem dX8_takeJoint_31 : decode cX8_takeJoint 31 = .ok (.iload_n 1, 1) := by decide +kernel
theorem dX8_takeJoint_32 : decode cX8_takeJoint 32 = .ok (.bipush 41, 2) := by decide +kernel
theorem dX8_takeJoint_34 : decode cX8_takeJoint 34 = .ok (.if_icmp .ne 36, 3) := by decide +kernel
theorem dX8_takeJoint_37 : decode cX8_takeJoint 37 = .ok (.aload_n 0, 1) := by decide +kernel
theorem dX8_takeJoint_38 : decode cX8_takeJoint 38 = .ok (.invokevirtual 56, 3) := by decide +kernel
theorem dX8_takeJoint_41 : decode cX8_takeJoint 41 = .ok (.istore_n 2, 1) := by decide +kernel
theorem dX8_takeJoint_42 : decode cX8_takeJoint 42 = .ok (.aload_n 0, 1) := by decide +kernel
theorem dX8_takeJoint_43 : decode cX8_takeJoint 43 = .ok (.aload_n 0, 1) := by decide +kernel
theorem dX8_takeJoint_44 : decode cX8_takeJoint 44 = .ok (.getfield 15, 3) := by decide +kernel
theorem dX8_takeJoint_47 : decode cX8_takeJoint 47 = .ok (.iconst 1, 1) := by decide +kernel
theorem dX8_takeJoint_48 : decode cX8_takeJoint 48 = .ok (.iushr, 1) := by decide +kernel
theorem dX8_takeJoint_49 : decode cX8_takeJoint 49 = .ok (.putfield 15, 3) := by decide +kernel
theorem dX8_takeJoint_52 : decode cX8_takeJoint 52 = .ok (.aload_n 0, 1) := by decide +kernel
theorem dX8_takeJoint_53 : decode cX8_takeJoint 53 = .ok (.aload_n 0, 1) := by decide +kernel
theorem dX8_takeJoint_54 : decode cX8_takeJoint 54 = .ok (.getfield 19, 3) := by decide +kernel
theorem dX8_takeJoint_57 : decode cX8_takeJoint 57 = .ok (.iconst 1, 1) := by decide +kernel
theorem dX8_takeJoint_58 : decode cX8_takeJoint 58 = .ok (.iushr, 1) := by decide +kernel
theorem dX8_takeJoint_59 : decode cX8_takeJoint 59 = .ok (.putfield 19, 3) := by decide +kernel
theorem dX8_takeJoint_62 : decode cX8_takeJoint 62 = .ok (.aload_n 0, 1) := by decide +kernel
theorem dX8_takeJoint_63 : decode cX8_takeJoint 63 = .ok (.iload_n 2, 1) := by decide +kernel
theorem dX8_takeJoint_64 : decode cX8_takeJoint 64 = .ok (.invokevirtual 60, 3) := by decide +kernel
theorem dX8_takeJoint_67 : decode cX8_takeJoint 67 = .ok (.goto 34, 3) := by decide +kernel
theorem dX8_takeJoint_70 : decode cX8_takeJoint 70 = .ok (.iload_n 1, 1) := by decide +kernel
theorem dX8_takeJoint_71 : decode cX8_takeJoint 71 = .ok (.bipush 124, 2) := by decide +kernel
theorem dX8_takeJoint_73 : decode cX8_takeJoint 73 = .ok (.if_icmp .ne 28, 3) := by decide +kernel
theorem dX8_takeJoint_76 : decode cX8_takeJoint 76 = .ok (.aload_n 0, 1) := by decide +kernel
theorem dX8_takeJoint_77 : decode cX8_takeJoint 77 = .ok (.aload_n 0, 1) := by decide +kernel
theorem dX8_takeJoint_78 : decode cX8_takeJoint 78 = .ok (.getfield 15, 3) := by decide +kernel
theorem dX8_takeJoint_81 : decode cX8_takeJoint 81 = .ok (.aload_n 0, 1) := by decide +kernel
theorem dX8_takeJoint_82 : decode cX8_takeJoint 82 = .ok (.getfield 19, 3) := by decide +kernel
theorem dX8_takeJoint_85 : decode cX8_takeJoint 85 = .ok (.iconst 1, 1) := by decide +kernel
theorem dX8_takeJoint_86 : decode cX8_takeJoint 86 = .ok (.iand, 1) := by decide +kernel
theorem dX8_takeJoint_87 : decode cX8_takeJoint 87 = .ok (.ior, 1) := by decide +kernel
theorem dX8_takeJoint_88 : decode cX8_takeJoint 88 = .ok (.putfield 15, 3) := by decide +kernel
theorem dX8_takeJoint_91 : decode cX8_takeJoint 91 = .ok (.aload_n 0, 1) := by decide +kernel
theorem dX8_takeJoint_92 : decode cX8_takeJoint 92 = .ok (.aload_n 0, 1) := by decide +kernel
theorem dX8_takeJoint_93 : decode cX8_takeJoint 93 = .ok (.getfield 19, 3) := by decide +kernel
theorem dX8_takeJoint_96 : decode cX8_takeJoint 96 = .ok (.iconst 1, 1) := by decide +kernel
theorem dX8_takeJoint_97 : decode cX8_takeJoint 97 = .ok (.ior, 1) := by decide +kernel
theorem dX8_takeJoint_98 : decode cX8_takeJoint 98 = .ok (.putfield 19, 3) := by decide +kernel
theorem dX8_takeJoint_101 : decode cX8_takeJoint 101 = .ok (.return_, 1) := by decide +kernel
theorem dX8_settleNumber_0 : decode cX8_settleNumber 0 = .ok (.aload_n 0, 1) := by decide +kernel
theorem dX8_settleNumber_1 : decode cX8_settleNumber 1 = .ok (.getfield 32, 3) := by decide +kernel
theorem dX8_settleNumber_4 : decode cX8_settleNumber 4 = .ok (.ifCond .eq 16, 3) := by decide +kernel
theorem dX8_settleNumber_7 : decode cX8_settleNumber 7 = .ok (.aload_n 0, 1) := by decide +kernel
theorem dX8_settleNumber_8 : decode cX8_settleNumber 8 = .ok (.iconst 0, 1) := by decide +kernel
theorem dX8_settleNumber_9 : decode cX8_settleNumber 9 = .ok (.putfield 32, 3) := by decide +kernel
theorem dX8_settleNumber_12 : decode cX8_settleNumber 12 = .ok (.aload_n 0, 1) := by decide +kernel
theorem dX8_settleNumber_13 : decode cX8_settleNumber 13 = .ok (.aload_n 0, 1) := by decide +kernel
theorem dX8_settleNumber_14 : decode cX8_settleNumber 14 = .ok (.invokevirtual 64, 3) := by decide +kernel
theorem dX8_settleNumber_17 : decode cX8_settleNumber 17 = .ok (.invokevirtual 60, 3) := by decide +kernel
theorem dX8_settleNumber_20 : decode cX8_settleNumber 20 = .ok (.return_, 1) := by decide +kernel
theorem dX8_compares_0 : decode cX8_compares 0 = .ok (.aload_n 0, 1) := by decide +kernel
theorem dX8_compares_1 : decode cX8_compares 1 = .ok (.getfield 25, 3) := by decide +kernel
theorem dX8_compares_4 : decode cX8_compares 4 = .ok (.bipush 60, 2) := by decide +kernel
theorem dX8_compares_6 : decode cX8_compares 6 = .ok (.if_icmp .ne 20, 3) := by decide +kernel
theorem dX8_compares_9 : decode cX8_compares 9 = .ok (.aload_n 0, 1) := by decide +kernel
theorem dX8_compares_10 : decode cX8_compares 10 = .ok (.getfield 22, 3) := by decide +kernel
theorem dX8_compares_13 : decode cX8_compares 13 = .ok (.aload_n 0, 1) := by decide +kernel
theorem dX8_compares_14 : decode cX8_compares 14 = .ok (.getfield 29, 3) := by decide +kernel
theorem dX8_compares_17 : decode cX8_compares 17 = .ok (.if_icmp .ge 7, 3) := by decide +kernel
theorem dX8_compares_20 : decode cX8_compares 20 = .ok (.iconst 1, 1) := by decide +kernel
theorem dX8_compares_21 : decode cX8_compares 21 = .ok (.goto 4, 3) := by decide +kernel
theorem dX8_compares_24 : decode cX8_compares 24 = .ok (.iconst 0, 1) := by decide +kernel
theorem dX8_compares_25 : decode cX8_compares 25 = .ok (.ireturn, 1) := by decide +kernel
theorem dX8_compares_26 : decode cX8_compares 26 = .ok (.aload_n 0, 1) := by decide +kernel
theorem dX8_compares_27 : decode cX8_compares 27 = .ok (.getfield 25, 3) := by decide +kernel
theorem dX8_compares_30 : decode cX8_compares 30 = .ok (.bipush 62, 2) := by decide +kernel
theorem dX8_compares_32 : decode cX8_compares 32 = .ok (.if_icmp .ne 22, 3) := by decide +kernel
theorem dX8_compares_35 : decode cX8_compares 35 = .ok (.aload_n 0, 1) := by decide +kernel
theorem dX8_compares_36 : decode cX8_compares 36 = .ok (.getfield 22, 3) := by decide +kernel
theorem dX8_compares_39 : decode cX8_compares 39 = .ok (.aload_n 0, 1) := by decide +kernel
theorem dX8_compares_40 : decode cX8_compares 40 = .ok (.getfield 29, 3) := by decide +kernel
theorem dX8_compares_43 : decode cX8_compares 43 = .ok (.if_icmp .le 7, 3) := by decide +kernel
theorem dX8_compares_46 : decode cX8_compares 46 = .ok (.iconst 1, 1) := by decide +kernel
theorem dX8_compares_47 : decode cX8_compares 47 = .ok (.goto 23, 3) := by decide +kernel
theorem dX8_compares_50 : decode cX8_compares 50 = .ok (.iconst 0, 1) := by decide +kernel
theorem dX8_compares_51 : decode cX8_compares 51 = .ok (.goto 19, 3) := by decide +kernel
theorem dX8_compares_54 : decode cX8_compares 54 = .ok (.aload_n 0, 1) := by decide +kernel
theorem dX8_compares_55 : decode cX8_compares 55 = .ok (.getfield 22, 3) := by decide +kernel
theorem dX8_compares_58 : decode cX8_compares 58 = .ok (.aload_n 0, 1) := by decide +kernel
theorem dX8_compares_59 : decode cX8_compares 59 = .ok (.getfield 29, 3) := by decide +kernel
theorem dX8_compares_62 : decode cX8_compares 62 = .ok (.if_icmp .ne 7, 3) := by decide +kernel
theorem dX8_compares_65 : decode cX8_compares 65 = .ok (.iconst 1, 1) := by decide +kernel
theorem dX8_compares_66 : decode cX8_compares 66 = .ok (.goto 4, 3) := by decide +kernel
theorem dX8_compares_69 : decode cX8_compares 69 = .ok (.iconst 0, 1) := by decide +kernel
theorem dX8_compares_70 : decode cX8_compares 70 = .ok (.ireturn, 1) := by decide +kernel
theorem dX8_countUnit_0 : decode cX8_countUnit 0 = .ok (.iload_n 1, 1) := by decide +kernel
theorem dX8_countUnit_1 : decode cX8_countUnit 1 = .ok (.ifCond .ne 14, 3) := by decide +kernel
theorem dX8_countUnit_4 : decode cX8_countUnit 4 = .ok (.aload_n 0, 1) := by decide +kernel
theorem dX8_countUnit_5 : decode cX8_countUnit 5 = .ok (.aload_n 0, 1) := by decide +kernel
theorem dX8_countUnit_6 : decode cX8_countUnit 6 = .ok (.getfield 19, 3) := by decide +kernel
theorem dX8_countUnit_9 : decode cX8_countUnit 9 = .ok (.bipush (-2), 2) := by decide +kernel
theorem dX8_countUnit_11 : decode cX8_countUnit 11 = .ok (.iand, 1) := by decide +kernel
theorem dX8_countUnit_12 : decode cX8_countUnit 12 = .ok (.putfield 19, 3) := by decide +kernel
theorem dX8_countUnit_15 : decode cX8_countUnit 15 = .ok (.return_, 1) := by decide +kernel
theorem dX8_holdsHere_0 : decode cX8_holdsHere 0 = .ok (.aload_n 0, 1) := by decide +kernel
theorem dX8_holdsHere_1 : decode cX8_holdsHere 1 = .ok (.getfield 15, 3) := by decide +kernel
theorem dX8_holdsHere_4 : decode cX8_holdsHere 4 = .ok (.aload_n 0, 1) := by decide +kernel
theorem dX8_holdsHere_5 : decode cX8_holdsHere 5 = .ok (.getfield 19, 3) := by decide +kernel
theorem dX8_holdsHere_8 : decode cX8_holdsHere 8 = .ok (.ior, 1) := by decide +kernel
theorem dX8_holdsHere_9 : decode cX8_holdsHere 9 = .ok (.iconst 1, 1) := by decide +kernel
theorem dX8_holdsHere_10 : decode cX8_holdsHere 10 = .ok (.iand, 1) := by decide +kernel
theorem dX8_holdsHere_11 : decode cX8_holdsHere 11 = .ok (.ifCond .eq 7, 3) := by decide +kernel
theorem dX8_holdsHere_14 : decode cX8_holdsHere 14 = .ok (.iconst 1, 1) := by decide +kernel
theorem dX8_holdsHere_15 : decode cX8_holdsHere 15 = .ok (.goto 4, 3) := by decide +kernel
theorem dX8_holdsHere_18 : decode cX8_holdsHere 18 = .ok (.iconst 0, 1) := by decide +kernel
theorem dX8_holdsHere_19 : decode cX8_holdsHere 19 = .ok (.ireturn, 1) := by decide +kernel
theorem dX8_valueOfWord_0 : decode cX8_valueOfWord 0 = .ok (.iload_n 1, 1) := by decide +kernel
theorem dX8_valueOfWord_1 : decode cX8_valueOfWord 1 = .ok (.lookupswitch 105 #[(100, 70), (102, 91), (108, 84), (109, 98), (119, 77), (121, 59)], 59) := by decide +kernel
theorem dX8_valueOfWord_60 : decode cX8_valueOfWord 60 = .ok (.aload_n 0, 1) := by decide +kernel
theorem dX8_valueOfWord_61 : decode cX8_valueOfWord 61 = .ok (.getfield 9, 3) := by decide +kernel
theorem dX8_valueOfWord_64 : decode cX8_valueOfWord 64 = .ok (.iconst 0, 1) := by decide +kernel
theorem dX8_valueOfWord_65 : decode cX8_valueOfWord 65 = .ok (.iaload, 1) := by decide +kernel
theorem dX8_valueOfWord_66 : decode cX8_valueOfWord 66 = .ok (.sipush 360, 3) := by decide +kernel
theorem dX8_valueOfWord_69 : decode cX8_valueOfWord 69 = .ok (.idiv, 1) := by decide +kernel
theorem dX8_valueOfWord_70 : decode cX8_valueOfWord 70 = .ok (.ireturn, 1) := by decide +kernel
theorem dX8_valueOfWord_71 : decode cX8_valueOfWord 71 = .ok (.aload_n 0, 1) := by decide +kernel
theorem dX8_valueOfWord_72 : decode cX8_valueOfWord 72 = .ok (.getfield 9, 3) := by decide +kernel
theorem dX8_valueOfWord_75 : decode cX8_valueOfWord 75 = .ok (.iconst 0, 1) := by decide +kernel
theorem dX8_valueOfWord_76 : decode cX8_valueOfWord 76 = .ok (.iaload, 1) := by decide +kernel
theorem dX8_valueOfWord_77 : decode cX8_valueOfWord 77 = .ok (.ireturn, 1) := by decide +kernel
theorem dX8_valueOfWord_78 : decode cX8_valueOfWord 78 = .ok (.aload_n 0, 1) := by decide +kernel
theorem dX8_valueOfWord_79 : decode cX8_valueOfWord 79 = .ok (.getfield 9, 3) := by decide +kernel
theorem dX8_valueOfWord_82 : decode cX8_valueOfWord 82 = .ok (.iconst 1, 1) := by decide +kernel
theorem dX8_valueOfWord_83 : decode cX8_valueOfWord 83 = .ok (.iaload, 1) := by decide +kernel
theorem dX8_valueOfWord_84 : decode cX8_valueOfWord 84 = .ok (.ireturn, 1) := by decide +kernel
theorem dX8_valueOfWord_85 : decode cX8_valueOfWord 85 = .ok (.aload_n 0, 1) := by decide +kernel
theorem dX8_valueOfWord_86 : decode cX8_valueOfWord 86 = .ok (.getfield 9, 3) := by decide +kernel
theorem dX8_valueOfWord_89 : decode cX8_valueOfWord 89 = .ok (.iconst 2, 1) := by decide +kernel
theorem dX8_valueOfWord_90 : decode cX8_valueOfWord 90 = .ok (.iaload, 1) := by decide +kernel
theorem dX8_valueOfWord_91 : decode cX8_valueOfWord 91 = .ok (.ireturn, 1) := by decide +kernel
theorem dX8_valueOfWord_92 : decode cX8_valueOfWord 92 = .ok (.aload_n 0, 1) := by decide +kernel
theorem dX8_valueOfWord_93 : decode cX8_valueOfWord 93 = .ok (.getfield 9, 3) := by decide +kernel
theorem dX8_valueOfWord_96 : decode cX8_valueOfWord 96 = .ok (.iconst 3, 1) := by decide +kernel
theorem dX8_valueOfWord_97 : decode cX8_valueOfWord 97 = .ok (.iaload, 1) := by decide +kernel
theorem dX8_valueOfWord_98 : decode cX8_valueOfWord 98 = .ok (.ireturn, 1) := by decide +kernel
theorem dX8_valueOfWord_99 : decode cX8_valueOfWord 99 = .ok (.aload_n 0, 1) := by decide +kernel
theorem dX8_valueOfWord_100 : decode cX8_valueOfWord 100 = .ok (.getfield 9, 3) := by decide +kernel
theorem dX8_valueOfWord_103 : decode cX8_valueOfWord 103 = .ok (.iconst 4, 1) := by decide +kernel
theorem dX8_valueOfWord_104 : decode cX8_valueOfWord 104 = .ok (.iaload, 1) := by decide +kernel
theorem dX8_valueOfWord_105 : decode cX8_valueOfWord 105 = .ok (.ireturn, 1) := by decide +kernel
theorem dX8_valueOfWord_106 : decode cX8_valueOfWord 106 = .ok (.aload_n 0, 1) := by decide +kernel
theorem dX8_valueOfWord_107 : decode cX8_valueOfWord 107 = .ok (.getfield 9, 3) := by decide +kernel
theorem dX8_valueOfWord_110 : decode cX8_valueOfWord 110 = .ok (.iconst 5, 1) := by decide +kernel
theorem dX8_valueOfWord_111 : decode cX8_valueOfWord 111 = .ok (.iaload, 1) := by decide +kernel
theorem dX8_valueOfWord_112 : decode cX8_valueOfWord 112 = .ok (.ireturn, 1) := by decide +kernel
theorem dX9_init_0 : decode cX9_init 0 = .ok (.aload_n 0, 1) := by decide +kernel
theorem dX9_init_1 : decode cX9_init 1 = .ok (.invokespecial 1, 3) := by decide +kernel
theorem dX9_init_4 : decode cX9_init 4 = .ok (.aload_n 0, 1) := by decide +kernel
theorem dX9_init_5 : decode cX9_init 5 = .ok (.new 7, 3) := by decide +kernel
theorem dX9_init_8 : decode cX9_init 8 = .ok (.dup, 1) := by decide +kernel
theorem dX9_init_9 : decode cX9_init 9 = .ok (.invokespecial 9, 3) := by decide +kernel
theorem dX9_init_12 : decode cX9_init 12 = .ok (.putfield 10, 3) := by decide +kernel
theorem dX9_init_15 : decode cX9_init 15 = .ok (.aload_n 0, 1) := by decide +kernel
theorem dX9_init_16 : decode cX9_init 16 = .ok (.new 16, 3) := by decide +kernel
theorem dX9_init_19 : decode cX9_init 19 = .ok (.dup, 1) := by decide +kernel
theorem dX9_init_20 : decode cX9_init 20 = .ok (.invokespecial 18, 3) := by decide +kernel
theorem dX9_init_23 : decode cX9_init 23 = .ok (.putfield 19, 3) := by decide +kernel
theorem dX9_init_26 : decode cX9_init 26 = .ok (.aload_n 0, 1) := by decide +kernel
theorem dX9_init_27 : decode cX9_init 27 = .ok (.new 23, 3) := by decide +kernel
theorem dX9_init_30 : decode cX9_init 30 = .ok (.dup, 1) := by decide +kernel
theorem dX9_init_31 : decode cX9_init 31 = .ok (.invokespecial 25, 3) := by decide +kernel
theorem dX9_init_34 : decode cX9_init 34 = .ok (.putfield 26, 3) := by decide +kernel
theorem dX9_init_37 : decode cX9_init 37 = .ok (.aload_n 0, 1) := by decide +kernel
theorem dX9_init_38 : decode cX9_init 38 = .ok (.new 30, 3) := by decide +kernel
theorem dX9_init_41 : decode cX9_init 41 = .ok (.dup, 1) := by decide +kernel
theorem dX9_init_42 : decode cX9_init 42 = .ok (.invokespecial 32, 3) := by decide +kernel
theorem dX9_init_45 : decode cX9_init 45 = .ok (.putfield 33, 3) := by decide +kernel
theorem dX9_init_48 : decode cX9_init 48 = .ok (.aload_n 0, 1) := by decide +kernel
theorem dX9_init_49 : decode cX9_init 49 = .ok (.new 37, 3) := by decide +kernel
theorem dX9_init_52 : decode cX9_init 52 = .ok (.dup, 1) := by decide +kernel
theorem dX9_init_53 : decode cX9_init 53 = .ok (.invokespecial 39, 3) := by decide +kernel
theorem dX9_init_56 : decode cX9_init 56 = .ok (.putfield 40, 3) := by decide +kernel
theorem dX9_init_59 : decode cX9_init 59 = .ok (.aload_n 0, 1) := by decide +kernel
theorem dX9_init_60 : decode cX9_init 60 = .ok (.new 44, 3) := by decide +kernel
theorem dX9_init_63 : decode cX9_init 63 = .ok (.dup, 1) := by decide +kernel
theorem dX9_init_64 : decode cX9_init 64 = .ok (.invokespecial 46, 3) := by decide +kernel
theorem dX9_init_67 : decode cX9_init 67 = .ok (.putfield 47, 3) := by decide +kernel
theorem dX9_init_70 : decode cX9_init 70 = .ok (.aload_n 0, 1) := by decide +kernel
theorem dX9_init_71 : decode cX9_init 71 = .ok (.new 51, 3) := by decide +kernel
theorem dX9_init_74 : decode cX9_init 74 = .ok (.dup, 1) := by decide +kernel
theorem dX9_init_75 : decode cX9_init 75 = .ok (.invokespecial 53, 3) := by decide +kernel
theorem dX9_init_78 : decode cX9_init 78 = .ok (.putfield 54, 3) := by decide +kernel
theorem dX9_init_81 : decode cX9_init 81 = .ok (.aload_n 0, 1) := by decide +kernel
theorem dX9_init_82 : decode cX9_init 82 = .ok (.new 58, 3) := by decide +kernel
theorem dX9_init_85 : decode cX9_init 85 = .ok (.dup, 1) := by decide +kernel
theorem dX9_init_86 : decode cX9_init 86 = .ok (.invokespecial 60, 3) := by decide +kernel
theorem dX9_init_89 : decode cX9_init 89 = .ok (.putfield 61, 3) := by decide +kernel
theorem dX9_init_92 : decode cX9_init 92 = .ok (.aload_n 0, 1) := by decide +kernel
theorem dX9_init_93 : decode cX9_init 93 = .ok (.bipush 30, 2) := by decide +kernel
theorem dX9_init_95 : decode cX9_init 95 = .ok (.newarray .int, 2) := by decide +kernel
theorem dX9_init_97 : decode cX9_init 97 = .ok (.putfield 65, 3) := by decide +kernel
theorem dX9_init_100 : decode cX9_init 100 = .ok (.aload_n 0, 1) := by decide +kernel
theorem dX9_init_101 : decode cX9_init 101 = .ok (.new 69, 3) := by decide +kernel
theorem dX9_init_104 : decode cX9_init 104 = .ok (.dup, 1) := by decide +kernel
theorem dX9_init_105 : decode cX9_init 105 = .ok (.invokespecial 71, 3) := by decide +kernel
theorem dX9_init_108 : decode cX9_init 108 = .ok (.putfield 72, 3) := by decide +kernel
theorem dX9_init_111 : decode cX9_init 111 = .ok (.aload_n 0, 1) := by decide +kernel
theorem dX9_init_112 : decode cX9_init 112 = .ok (.bipush 30, 2) := by decide +kernel
theorem dX9_init_114 : decode cX9_init 114 = .ok (.newarray .int, 2) := by decide +kernel
theorem dX9_init_116 : decode cX9_init 116 = .ok (.putfield 76, 3) := by decide +kernel
theorem dX9_init_119 : decode cX9_init 119 = .ok (.aload_n 0, 1) := by decide +kernel
theorem dX9_init_120 : decode cX9_init 120 = .ok (.iconst 0, 1) := by decide +kernel
theorem dX9_init_121 : decode cX9_init 121 = .ok (.putfield 79, 3) := by decide +kernel
theorem dX9_init_124 : decode cX9_init 124 = .ok (.return_, 1) := by decide +kernel
theorem dX9_person_0 : decode cX9_person 0 = .ok (.aload_n 0, 1) := by decide +kernel
theorem dX9_person_1 : decode cX9_person 1 = .ok (.getfield 10, 3) := by decide +kernel
theorem dX9_person_4 : decode cX9_person 4 = .ok (.invokevirtual 83, 3) := by decide +kernel
theorem dX9_person_7 : decode cX9_person 7 = .ok (.ifCond .ne 25, 3) := by decide +kernel
theorem dX9_person_10 : decode cX9_person 10 = .ok (.aload_n 0, 1) := by decide +kernel
theorem dX9_person_11 : decode cX9_person 11 = .ok (.getfield 10, 3) := by decide +kernel
theorem dX9_person_14 : decode cX9_person 14 = .ok (.iload_n 1, 1) := by decide +kernel
theorem dX9_person_15 : decode cX9_person 15 = .ok (.invokevirtual 87, 3) := by decide +kernel
theorem dX9_person_18 : decode cX9_person 18 = .ok (.ifCond .eq 14, 3) := by decide +kernel
theorem dX9_person_21 : decode cX9_person 21 = .ok (.aload_n 0, 1) := by decide +kernel
theorem dX9_person_22 : decode cX9_person 22 = .ok (.getfield 10, 3) := by decide +kernel
theorem dX9_person_25 : decode cX9_person 25 = .ok (.iload_n 2, 1) := by decide +kernel
theorem dX9_person_26 : decode cX9_person 26 = .ok (.invokevirtual 87, 3) := by decide +kernel
theorem dX9_person_29 : decode cX9_person 29 = .ok (.ifCond .ne 5, 3) := by decide +kernel
theorem dX9_person_32 : decode cX9_person 32 = .ok (.iconst (-1), 1) := by decide +kernel
theorem dX9_person_33 : decode cX9_person 33 = .ok (.ireturn, 1) := by decide +kernel
theorem dX9_person_34 : decode cX9_person 34 = .ok (.aload_n 0, 1) := by decide +kernel
theorem dX9_person_35 : decode cX9_person 35 = .ok (.getfield 10, 3) := by decide +kernel
theorem dX9_person_38 : decode cX9_person 38 = .ok (.iload_n 1, 1) := by decide +kernel
theorem dX9_person_39 : decode cX9_person 39 = .ok (.iload_n 2, 1) := by decide +kernel
theorem dX9_person_40 : decode cX9_person 40 = .ok (.invokevirtual 91, 3) := by decide +kernel
theorem dX9_person_43 : decode cX9_person 43 = .ok (.ireturn, 1) := by decide +kernel
theorem dX9_master_0 : decode cX9_master 0 = .ok (.aload_n 0, 1) := by decide +kernel
theorem dX9_master_1 : decode cX9_master 1 = .ok (.getfield 10, 3) := by decide +kernel
theorem dX9_master_4 : decode cX9_master 4 = .ok (.iload_n 1, 1) := by decide +kernel
theorem dX9_master_5 : decode cX9_master 5 = .ok (.invokevirtual 95, 3) := by decide +kernel
theorem dX9_master_8 : decode cX9_master 8 = .ok (.ifCond .eq 14, 3) := by decide +kernel
theorem dX9_master_11 : decode cX9_master 11 = .ok (.aload_n 0, 1) := by decide +kernel
theorem dX9_master_12 : decode cX9_master 12 = .ok (.getfield 10, 3) := by decide +kernel
theorem dX9_master_15 : decode cX9_master 15 = .ok (.iload_n 1, 1) := by decide +kernel
theorem dX9_master_16 : decode cX9_master 16 = .ok (.invokevirtual 98, 3) := by decide +kernel
theorem dX9_master_19 : decode cX9_master 19 = .ok (.ifCond .eq 5, 3) := by decide +kernel
theorem dX9_master_22 : decode cX9_master 22 = .ok (.iconst 0, 1) := by decide +kernel
theorem dX9_master_23 : decode cX9_master 23 = .ok (.ireturn, 1) := by decide +kernel
theorem dX9_master_24 : decode cX9_master 24 = .ok (.aload_n 0, 1) := by decide +kernel
theorem dX9_master_25 : decode cX9_master 25 = .ok (.getfield 10, 3) := by decide +kernel
theorem dX9_master_28 : decode cX9_master 28 = .ok (.iload_n 1, 1) := by decide +kernel
theorem dX9_master_29 : decode cX9_master 29 = .ok (.aload_n 0, 1) := by decide +kernel
theorem dX9_master_30 : decode cX9_master 30 = .ok (.getfield 79, 3) := by decide +kernel
theorem dX9_master_33 : decode cX9_master 33 = .ok (.invokevirtual 101, 3) := by decide +kernel
theorem dX9_master_36 : decode cX9_master 36 = .ok (.iconst 1, 1) := by decide +kernel
theorem dX9_master_37 : decode cX9_master 37 = .ok (.ireturn, 1) := by decide +kernel
theorem dX9_death_0 : decode cX9_death 0 = .ok (.aload_n 0, 1) := by decide +kernel
theorem dX9_death_1 : decode cX9_death 1 = .ok (.getfield 10, 3) := by decide +kernel
theorem dX9_death_4 : decode cX9_death 4 = .ok (.iload_n 1, 1) := by decide +kernel
theorem dX9_death_5 : decode cX9_death 5 = .ok (.invokevirtual 98, 3) := by decide +kernel
theorem dX9_death_8 : decode cX9_death 8 = .ok (.ifCond .eq 8, 3) := by decide +kernel
theorem dX9_death_11 : decode cX9_death 11 = .ok (.iload_n 1, 1) := by decide +kernel
theorem dX9_death_12 : decode cX9_death 12 = .ok (.iload_n 2, 1) := by decide +kernel
theorem dX9_death_13 : decode cX9_death 13 = .ok (.if_icmp .ne 5, 3) := by decide +kernel
theorem dX9_death_16 : decode cX9_death 16 = .ok (.iconst 0, 1) := by decide +kernel
theorem dX9_death_17 : decode cX9_death 17 = .ok (.ireturn, 1) := by decide +kernel
theorem dX9_death_18 : decode cX9_death 18 = .ok (.iload_n 2, 1) := by decide +kernel
theorem dX9_death_19 : decode cX9_death 19 = .ok (.iconst (-1), 1) := by decide +kernel
theorem dX9_death_20 : decode cX9_death 20 = .ok (.if_icmp .eq 16, 3) := by decide +kernel
theorem dX9_death_23 : decode cX9_death 23 = .ok (.aload_n 0, 1) := by decide +kernel
theorem dX9_death_24 : decode cX9_death 24 = .ok (.getfield 10, 3) := by decide +kernel
theorem dX9_death_27 : decode cX9_death 27 = .ok (.iload_n 2, 1) := by decide +kernel
theorem dX9_death_28 : decode cX9_death 28 = .ok (.invokevirtual 98, 3) := by decide +kernel
theorem dX9_death_31 : decode cX9_death 31 = .ok (.ifCond .ne 5, 3) := by decide +kernel
theorem dX9_death_34 : decode cX9_death 34 = .ok (.iconst 0, 1) := by decide +kernel
theorem dX9_death_35 : decode cX9_death 35 = .ok (.ireturn, 1) := by decide +kernel
theorem dX9_death_36 : decode cX9_death 36 = .ok (.aload_n 0, 1) := by decide +kernel
theorem dX9_death_37 : decode cX9_death 37 = .ok (.getfield 10, 3) := by decide +kernel
theorem dX9_death_40 : decode cX9_death 40 = .ok (.iload_n 1, 1) := by decide +kernel
theorem dX9_death_41 : decode cX9_death 41 = .ok (.iload_n 2, 1) := by decide +kernel
theorem dX9_death_42 : decode cX9_death 42 = .ok (.aload_n 0, 1) := by decide +kernel
theorem dX9_death_43 : decode cX9_death 43 = .ok (.getfield 79, 3) := by decide +kernel
theorem dX9_death_46 : decode cX9_death 46 = .ok (.invokevirtual 105, 3) := by decide +kernel
theorem dX9_death_49 : decode cX9_death 49 = .ok (.iconst 1, 1) := by decide +kernel
theorem dX9_death_50 : decode cX9_death 50 = .ok (.ireturn, 1) := by decide +kernel
theorem dX9_days_0 : decode cX9_days 0 = .ok (.iload_n 1, 1) := by decide +kernel
theorem dX9_days_1 : decode cX9_days 1 = .ok (.invokestatic 109, 3) := by decide +kernel
theorem dX9_days_4 : decode cX9_days 4 = .ok (.ifCond .eq 15, 3) := by decide +kernel
theorem dX9_days_7 : decode cX9_days 7 = .ok (.aload_n 0, 1) := by decide +kernel
theorem dX9_days_8 : decode cX9_days 8 = .ok (.getfield 79, 3) := by decide +kernel
theorem dX9_days_11 : decode cX9_days 11 = .ok (.iload_n 1, 1) := by decide +kernel
theorem dX9_days_12 : decode cX9_days 12 = .ok (.iadd, 1) := by decide +kernel
theorem dX9_days_13 : decode cX9_days 13 = .ok (.sipush 20000, 3) := by decide +kernel
theorem dX9_days_16 : decode cX9_days 16 = .ok (.if_icmp .le 5, 3) := by decide +kernel
theorem dX9_days_19 : decode cX9_days 19 = .ok (.iconst (-1), 1) := by decide +kernel
theorem dX9_days_20 : decode cX9_days 20 = .ok (.ireturn, 1) := by decide +kernel
theorem dX9_days_21 : decode cX9_days 21 = .ok (.aload_n 0, 1) := by decide +kernel
theorem dX9_days_22 : decode cX9_days 22 = .ok (.dup, 1) := by decide +kernel
theorem dX9_days_23 : decode cX9_days 23 = .ok (.getfield 79, 3) := by decide +kernel
theorem dX9_days_26 : decode cX9_days 26 = .ok (.iload_n 1, 1) := by decide +kernel
theorem dX9_days_27 : decode cX9_days 27 = .ok (.iadd, 1) := by decide +kernel
theorem dX9_days_28 : decode cX9_days 28 = .ok (.putfield 79, 3) := by decide +kernel
theorem dX9_days_31 : decode cX9_days 31 = .ok (.aload_n 0, 1) := by decide +kernel
theorem dX9_days_32 : decode cX9_days 32 = .ok (.getfield 79, 3) := by decide +kernel
theorem dX9_days_35 : decode cX9_days 35 = .ok (.ireturn, 1) := by decide +kernel
theorem dX9_term_0 : decode cX9_term 0 = .ok (.aload_n 0, 1) := by decide +kernel
theorem dX9_term_1 : decode cX9_term 1 = .ok (.getfield 10, 3) := by decide +kernel
theorem dX9_term_4 : decode cX9_term 4 = .ok (.iload_n 1, 1) := by decide +kernel
theorem dX9_term_5 : decode cX9_term 5 = .ok (.invokevirtual 112, 3) := by decide +kernel
theorem dX9_term_8 : decode cX9_term 8 = .ok (.ifCond .eq 18, 3) := by decide +kernel
theorem dX9_term_11 : decode cX9_term 11 = .ok (.iload_n 1, 1) := by decide +kernel
theorem dX9_term_12 : decode cX9_term 12 = .ok (.iload_n 2, 1) := by decide +kernel
theorem dX9_term_13 : decode cX9_term 13 = .ok (.if_icmp .eq 13, 3) := by decide +kernel
theorem dX9_term_16 : decode cX9_term 16 = .ok (.aload_n 0, 1) := by decide +kernel
theorem dX9_term_17 : decode cX9_term 17 = .ok (.getfield 19, 3) := by decide +kernel
theorem dX9_term_20 : decode cX9_term 20 = .ok (.invokevirtual 115, 3) := by decide +kernel
theorem dX9_term_23 : decode cX9_term 23 = .ok (.ifCond .eq 5, 3) := by decide +kernel
theorem dX9_term_26 : decode cX9_term 26 = .ok (.iconst (-1), 1) := by decide +kernel
theorem dX9_term_27 : decode cX9_term 27 = .ok (.ireturn, 1) := by decide +kernel
theorem dX9_term_28 : decode cX9_term 28 = .ok (.iload_n 2, 1) := by decide +kernel
theorem dX9_term_29 : decode cX9_term 29 = .ok (.iconst (-1), 1) := by decide +kernel
theorem dX9_term_30 : decode cX9_term 30 = .ok (.if_icmp .eq 16, 3) := by decide +kernel
theorem dX9_term_33 : decode cX9_term 33 = .ok (.aload_n 0, 1) := by decide +kernel
theorem dX9_term_34 : decode cX9_term 34 = .ok (.getfield 10, 3) := by decide +kernel
theorem dX9_term_37 : decode cX9_term 37 = .ok (.iload_n 2, 1) := by decide +kernel
theorem dX9_term_38 : decode cX9_term 38 = .ok (.invokevirtual 112, 3) := by decide +kernel
theorem dX9_term_41 : decode cX9_term 41 = .ok (.ifCond .ne 5, 3) := by decide +kernel
theorem dX9_term_44 : decode cX9_term 44 = .ok (.iconst (-1), 1) := by decide +kernel
theorem dX9_term_45 : decode cX9_term 45 = .ok (.ireturn, 1) := by decide +kernel
theorem dX9_term_46 : decode cX9_term 46 = .ok (.iload_n 3, 1) := by decide +kernel
theorem dX9_term_47 : decode cX9_term 47 = .ok (.ifCond .lt 18, 3) := by decide +kernel
theorem dX9_term_50 : decode cX9_term 50 = .ok (.iload_n 3, 1) := by decide +kernel
theorem dX9_term_51 : decode cX9_term 51 = .ok (.iload 4, 2) := by decide +kernel
theorem dX9_term_53 : decode cX9_term 53 = .ok (.if_icmp .gt 12, 3) := by decide +kernel
theorem dX9_term_56 : decode cX9_term 56 = .ok (.iload 4, 2) := by decide +kernel
theorem dX9_term_58 : decode cX9_term 58 = .ok (.aload_n 0, 1) := by decide +kernel
theorem dX9_term_59 : decode cX9_term 59 = .ok (.getfield 79, 3) := by decide +kernel
theorem dX9_term_62 : decode cX9_term 62 = .ok (.if_icmp .le 5, 3) := by decide +kernel
theorem dX9_term_65 : decode cX9_term 65 = .ok (.iconst (-1), 1) := by decide +kernel
theorem dX9_term_66 : decode cX9_term 66 = .ok (.ireturn, 1) := by decide +kernel
theorem dX9_term_67 : decode cX9_term 67 = .ok (.aload_n 0, 1) := by decide +kernel
theorem dX9_term_68 : decode cX9_term 68 = .ok (.getfield 19, 3) := by decide +kernel
theorem dX9_term_71 : decode cX9_term 71 = .ok (.iload_n 1, 1) := by decide +kernel
theorem dX9_term_72 : decode cX9_term 72 = .ok (.iload_n 2, 1) := by decide +kernel
theorem dX9_term_73 : decode cX9_term 73 = .ok (.iload_n 3, 1) := by decide +kernel
theorem dX9_term_74 : decode cX9_term 74 = .ok (.iload 4, 2) := by decide +kernel
theorem dX9_term_76 : decode cX9_term 76 = .ok (.aload_n 0, 1) := by decide +kernel
theorem dX9_term_77 : decode cX9_term 77 = .ok (.getfield 79, 3) := by decide +kernel
theorem dX9_term_80 : decode cX9_term 80 = .ok (.invokevirtual 116, 3) := by decide +kernel
theorem dX9_term_83 : decode cX9_term 83 = .ok (.ireturn, 1) := by decide +kernel
theorem dX9_back_0 : decode cX9_back 0 = .ok (.aload_n 0, 1) := by decide +kernel
theorem dX9_back_1 : decode cX9_back 1 = .ok (.getfield 19, 3) := by decide +kernel
theorem dX9_back_4 : decode cX9_back 4 = .ok (.iload_n 1, 1) := by decide +kernel
theorem dX9_back_5 : decode cX9_back 5 = .ok (.invokevirtual 119, 3) := by decide +kernel
theorem dX9_back_8 : decode cX9_back 8 = .ok (.ifCond .eq 14, 3) := by decide +kernel
theorem dX9_back_11 : decode cX9_back 11 = .ok (.aload_n 0, 1) := by decide +kernel
theorem dX9_back_12 : decode cX9_back 12 = .ok (.getfield 19, 3) := by decide +kernel
theorem dX9_back_15 : decode cX9_back 15 = .ok (.iload_n 1, 1) := by decide +kernel
theorem dX9_back_16 : decode cX9_back 16 = .ok (.invokevirtual 120, 3) := by decide +kernel
theorem dX9_back_19 : decode cX9_back 19 = .ok (.ifCond .eq 5, 3) := by decide +kernel
theorem dX9_back_22 : decode cX9_back 22 = .ok (.iconst 0, 1) := by decide +kernel
theorem dX9_back_23 : decode cX9_back 23 = .ok (.ireturn, 1) := by decide +kernel
theorem dX9_back_24 : decode cX9_back 24 = .ok (.aload_n 0, 1) := by decide +kernel
theorem dX9_back_25 : decode cX9_back 25 = .ok (.getfield 19, 3) := by decide +kernel
theorem dX9_back_28 : decode cX9_back 28 = .ok (.iload_n 1, 1) := by decide +kernel
theorem dX9_back_29 : decode cX9_back 29 = .ok (.aload_n 0, 1) := by decide +kernel
theorem dX9_back_30 : decode cX9_back 30 = .ok (.getfield 79, 3) := by decide +kernel
theorem dX9_back_33 : decode cX9_back 33 = .ok (.invokevirtual 123, 3) := by decide +kernel
theorem dX9_back_36 : decode cX9_back 36 = .ok (.iconst 1, 1) := by decide +kernel
theorem dX9_back_37 : decode cX9_back 37 = .ok (.ireturn, 1) := by decide +kernel
theorem dX9_give_0 : decode cX9_give 0 = .ok (.aload_n 0, 1) := by decide +kernel
theorem dX9_give_1 : decode cX9_give 1 = .ok (.getfield 10, 3) := by decide +kernel
theorem dX9_give_4 : decode cX9_give 4 = .ok (.iload_n 1, 1) := by decide +kernel
theorem dX9_give_5 : decode cX9_give 5 = .ok (.invokevirtual 95, 3) := by decide +kernel
theorem dX9_give_8 : decode cX9_give 8 = .ok (.ifCond .eq 13, 3) := by decide +kernel
theorem dX9_give_11 : decode cX9_give 11 = .ok (.aload_n 0, 1) := by decide +kernel
theorem dX9_give_12 : decode cX9_give 12 = .ok (.getfield 26, 3) := by decide +kernel
theorem dX9_give_15 : decode cX9_give 15 = .ok (.invokevirtual 126, 3) := by decide +kernel
theorem dX9_give_18 : decode cX9_give 18 = .ok (.ifCond .eq 5, 3) := by decide +kernel
theorem dX9_give_21 : decode cX9_give 21 = .ok (.iconst 0, 1) := by decide +kernel
theorem dX9_give_22 : decode cX9_give 22 = .ok (.ireturn, 1) := by decide +kernel
theorem dX9_give_23 : decode cX9_give 23 = .ok (.iload_n 2, 1) := by decide +kernel
theorem dX9_give_24 : decode cX9_give 24 = .ok (.ifCond .lt 20, 3) := by decide +kernel
theorem dX9_give_27 : decode cX9_give 27 = .ok (.iload_n 2, 1) := by decide +kernel
theorem dX9_give_28 : decode cX9_give 28 = .ok (.bipush 9, 2) := by decide +kernel
theorem dX9_give_30 : decode cX9_give 30 = .ok (.if_icmp .gt 14, 3) := by decide +kernel
theorem dX9_give_33 : decode cX9_give 33 = .ok (.iload_n 3, 1) := by decide +kernel
theorem dX9_give_34 : decode cX9_give 34 = .ok (.ifCond .lt 10, 3) := by decide +kernel
theorem dX9_give_37 : decode cX9_give 37 = .ok (.iload_n 3, 1) := by decide +kernel
theorem dX9_give_38 : decode cX9_give 38 = .ok (.sipush 9999, 3) := by decide +kernel
theorem dX9_give_41 : decode cX9_give 41 = .ok (.if_icmp .le 5, 3) := by decide +kernel
theorem dX9_give_44 : decode cX9_give 44 = .ok (.iconst 0, 1) := by decide +kernel
theorem dX9_give_45 : decode cX9_give 45 = .ok (.ireturn, 1) := by decide +kernel
theorem dX9_give_46 : decode cX9_give 46 = .ok (.aload_n 0, 1) := by decide +kernel
theorem dX9_give_47 : decode cX9_give 47 = .ok (.getfield 26, 3) := by decide +kernel
theorem dX9_give_50 : decode cX9_give 50 = .ok (.iload_n 1, 1) := by decide +kernel
theorem dX9_give_51 : decode cX9_give 51 = .ok (.iload_n 2, 1) := by decide +kernel
theorem dX9_give_52 : decode cX9_give 52 = .ok (.iload_n 3, 1) := by decide +kernel
theorem dX9_give_53 : decode cX9_give 53 = .ok (.aload_n 0, 1) := by decide +kernel
theorem dX9_give_54 : decode cX9_give 54 = .ok (.getfield 79, 3) := by decide +kernel
theorem dX9_give_57 : decode cX9_give 57 = .ok (.invokevirtual 127, 3) := by decide +kernel
theorem dX9_give_60 : decode cX9_give 60 = .ok (.iconst 1, 1) := by decide +kernel
theorem dX9_give_61 : decode cX9_give 61 = .ok (.ireturn, 1) := by decide +kernel
theorem dX9_feed_0 : decode cX9_feed 0 = .ok (.aload_n 0, 1) := by decide +kernel
theorem dX9_feed_1 : decode cX9_feed 1 = .ok (.getfield 33, 3) := by decide +kernel
theorem dX9_feed_4 : decode cX9_feed 4 = .ok (.iload_n 1, 1) := by decide +kernel
theorem dX9_feed_5 : decode cX9_feed 5 = .ok (.invokevirtual 130, 3) := by decide +kernel
theorem dX9_feed_8 : decode cX9_feed 8 = .ok (.ifCond .ne 5, 3) := by decide +kernel
theorem dX9_feed_11 : decode cX9_feed 11 = .ok (.iconst (-1), 1) := by decide +kernel
theorem dX9_feed_12 : decode cX9_feed 12 = .ok (.ireturn, 1) := by decide +kernel
theorem dX9_feed_13 : decode cX9_feed 13 = .ok (.aload_n 0, 1) := by decide +kernel
theorem dX9_feed_14 : decode cX9_feed 14 = .ok (.getfield 33, 3) := by decide +kernel
theorem dX9_feed_17 : decode cX9_feed 17 = .ok (.iload_n 1, 1) := by decide +kernel
theorem dX9_feed_18 : decode cX9_feed 18 = .ok (.invokevirtual 133, 3) := by decide +kernel
theorem dX9_feed_21 : decode cX9_feed 21 = .ok (.aload_n 0, 1) := by decide +kernel
theorem dX9_feed_22 : decode cX9_feed 22 = .ok (.getfield 33, 3) := by decide +kernel
theorem dX9_feed_25 : decode cX9_feed 25 = .ok (.getfield 136, 3) := by decide +kernel
theorem dX9_feed_28 : decode cX9_feed 28 = .ok (.ireturn, 1) := by decide +kernel
theorem dX9_end_0 : decode cX9_end 0 = .ok (.iload_n 1, 1) := by decide +kernel
theorem dX9_end_1 : decode cX9_end 1 = .ok (.ifCond .lt 14, 3) := by decide +kernel
theorem dX9_end_4 : decode cX9_end 4 = .ok (.iload_n 1, 1) := by decide +kernel
theorem dX9_end_5 : decode cX9_end 5 = .ok (.aload_n 0, 1) := by decide +kernel
theorem dX9_end_6 : decode cX9_end 6 = .ok (.getfield 33, 3) := by decide +kernel
theorem dX9_end_9 : decode cX9_end 9 = .ok (.getfield 136, 3) := by decide +kernel
theorem dX9_end_12 : decode cX9_end 12 = .ok (.if_icmp .le 5, 3) := by decide +kernel
theorem dX9_end_15 : decode cX9_end 15 = .ok (.iconst 0, 1) := by decide +kernel
theorem dX9_end_16 : decode cX9_end 16 = .ok (.ireturn, 1) := by decide +kernel
theorem dX9_end_17 : decode cX9_end 17 = .ok (.aload_n 0, 1) := by decide +kernel
theorem dX9_end_18 : decode cX9_end 18 = .ok (.getfield 33, 3) := by decide +kernel
theorem dX9_end_21 : decode cX9_end 21 = .ok (.iload_n 1, 1) := by decide +kernel
theorem dX9_end_22 : decode cX9_end 22 = .ok (.putfield 136, 3) := by decide +kernel
theorem dX9_end_25 : decode cX9_end 25 = .ok (.iconst 1, 1) := by decide +kernel
theorem dX9_end_26 : decode cX9_end 26 = .ok (.ireturn, 1) := by decide +kernel
theorem dX9_fault_0 : decode cX9_fault 0 = .ok (.aload_n 0, 1) := by decide +kernel
theorem dX9_fault_1 : decode cX9_fault 1 = .ok (.getfield 40, 3) := by decide +kernel
theorem dX9_fault_4 : decode cX9_fault 4 = .ok (.aload_n 0, 1) := by decide +kernel
theorem dX9_fault_5 : decode cX9_fault 5 = .ok (.getfield 33, 3) := by decide +kernel
theorem dX9_fault_8 : decode cX9_fault 8 = .ok (.getfield 139, 3) := by decide +kernel
theorem dX9_fault_11 : decode cX9_fault 11 = .ok (.aload_n 0, 1) := by decide +kernel
theorem dX9_fault_12 : decode cX9_fault 12 = .ok (.getfield 33, 3) := by decide +kernel
theorem dX9_fault_15 : decode cX9_fault 15 = .ok (.getfield 136, 3) := by decide +kernel
theorem dX9_fault_18 : decode cX9_fault 18 = .ok (.invokevirtual 143, 3) := by decide +kernel
theorem dX9_fault_21 : decode cX9_fault 21 = .ok (.ireturn, 1) := by decide +kernel
theorem dX9_statute_0 : decode cX9_statute 0 = .ok (.iload_n 1, 1) := by decide +kernel
theorem dX9_statute_1 : decode cX9_statute 1 = .ok (.invokestatic 109, 3) := by decide +kernel
