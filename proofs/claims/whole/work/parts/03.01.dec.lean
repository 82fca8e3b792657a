theorem dX0_init_0 : decode cX0_init 0 = .ok (.aload_n 0, 1) := by decide +kernel
theorem dX0_init_1 : decode cX0_init 1 = .ok (.invokespecial 3, 3) := by decide +kernel
theorem dX0_init_4 : decode cX0_init 4 = .ok (.aload_n 0, 1) := by decide +kernel
theorem dX0_init_5 : decode cX0_init 5 = .ok (.bipush 120, 2) := by decide +kernel
theorem dX0_init_7 : decode cX0_init 7 = .ok (.newarray .char, 2) := by decide +kernel
theorem dX0_init_9 : decode cX0_init 9 = .ok (.putfield 9, 3) := by decide +kernel
theorem dX0_init_12 : decode cX0_init 12 = .ok (.aload_n 0, 1) := by decide +kernel
theorem dX0_init_13 : decode cX0_init 13 = .ok (.iconst 0, 1) := by decide +kernel
theorem dX0_init_14 : decode cX0_init 14 = .ok (.putfield 15, 3) := by decide +kernel
theorem dX0_init_17 : decode cX0_init 17 = .ok (.return_, 1) := by decide +kernel
theorem dX0_hasRoomFor_0 : decode cX0_hasRoomFor 0 = .ok (.iconst 0, 1) := by decide +kernel
theorem dX0_hasRoomFor_1 : decode cX0_hasRoomFor 1 = .ok (.istore_n 2, 1) := by decide +kernel
theorem dX0_hasRoomFor_2 : decode cX0_hasRoomFor 2 = .ok (.bipush 24, 2) := by decide +kernel
theorem dX0_hasRoomFor_4 : decode cX0_hasRoomFor 4 = .ok (.istore_n 3, 1) := by decide +kernel
theorem dX0_hasRoomFor_5 : decode cX0_hasRoomFor 5 = .ok (.iload_n 3, 1) := by decide +kernel
theorem dX0_hasRoomFor_6 : decode cX0_hasRoomFor 6 = .ok (.ifCond .lt 20, 3) := by decide +kernel
theorem dX0_hasRoomFor_9 : decode cX0_hasRoomFor 9 = .ok (.iload_n 1, 1) := by decide +kernel
theorem dX0_hasRoomFor_10 : decode cX0_hasRoomFor 10 = .ok (.iload_n 3, 1) := by decide +kernel
theorem dX0_hasRoomFor_11 : decode cX0_hasRoomFor 11 = .ok (.invokestatic 19, 3) := by decide +kernel
theorem dX0_hasRoomFor_14 : decode cX0_hasRoomFor 14 = .ok (.ifCond .eq 6, 3) := by decide +kernel
theorem dX0_hasRoomFor_17 : decode cX0_hasRoomFor 17 = .ok (.iinc 2 1, 3) := by decide +kernel
theorem dX0_hasRoomFor_20 : decode cX0_hasRoomFor 20 = .ok (.iinc 3 (-8), 3) := by decide +kernel
theorem dX0_hasRoomFor_23 : decode cX0_hasRoomFor 23 = .ok (.goto (-18), 3) := by decide +kernel
theorem dX0_hasRoomFor_26 : decode cX0_hasRoomFor 26 = .ok (.aload_n 0, 1) := by decide +kernel
theorem dX0_hasRoomFor_27 : decode cX0_hasRoomFor 27 = .ok (.getfield 15, 3) := by decide +kernel
theorem dX0_hasRoomFor_30 : decode cX0_hasRoomFor 30 = .ok (.iload_n 2, 1) := by decide +kernel
theorem dX0_hasRoomFor_31 : decode cX0_hasRoomFor 31 = .ok (.iadd, 1) := by decide +kernel
theorem dX0_hasRoomFor_32 : decode cX0_hasRoomFor 32 = .ok (.bipush 120, 2) := by decide +kernel
theorem dX0_hasRoomFor_34 : decode cX0_hasRoomFor 34 = .ok (.if_icmp .gt 7, 3) := by decide +kernel
theorem dX0_hasRoomFor_37 : decode cX0_hasRoomFor 37 = .ok (.iconst 1, 1) := by decide +kernel
theorem dX0_hasRoomFor_38 : decode cX0_hasRoomFor 38 = .ok (.goto 4, 3) := by decide +kernel
theorem dX0_hasRoomFor_41 : decode cX0_hasRoomFor 41 = .ok (.iconst 0, 1) := by decide +kernel
theorem dX0_hasRoomFor_42 : decode cX0_hasRoomFor 42 = .ok (.ireturn, 1) := by decide +kernel
theorem dX0_add_0 : decode cX0_add 0 = .ok (.bipush 24, 2) := by decide +kernel
theorem dX0_add_2 : decode cX0_add 2 = .ok (.istore_n 2, 1) := by decide +kernel
theorem dX0_add_3 : decode cX0_add 3 = .ok (.iload_n 2, 1) := by decide +kernel
theorem dX0_add_4 : decode cX0_add 4 = .ok (.ifCond .lt 49, 3) := by decide +kernel
theorem dX0_add_7 : decode cX0_add 7 = .ok (.iload_n 1, 1) := by decide +kernel
theorem dX0_add_8 : decode cX0_add 8 = .ok (.iload_n 2, 1) := by decide +kernel
theorem dX0_add_9 : decode cX0_add 9 = .ok (.invokestatic 19, 3) := by decide +kernel
theorem dX0_add_12 : decode cX0_add 12 = .ok (.istore_n 3, 1) := by decide +kernel
theorem dX0_add_13 : decode cX0_add 13 = .ok (.iload_n 3, 1) := by decide +kernel
theorem dX0_add_14 : decode cX0_add 14 = .ok (.ifCond .eq 33, 3) := by decide +kernel
theorem dX0_add_17 : decode cX0_add 17 = .ok (.aload_n 0, 1) := by decide +kernel
theorem dX0_add_18 : decode cX0_add 18 = .ok (.getfield 15, 3) := by decide +kernel
theorem dX0_add_21 : decode cX0_add 21 = .ok (.bipush 120, 2) := by decide +kernel
theorem dX0_add_23 : decode cX0_add 23 = .ok (.if_icmp .ge 24, 3) := by decide +kernel
theorem dX0_add_26 : decode cX0_add 26 = .ok (.aload_n 0, 1) := by decide +kernel
theorem dX0_add_27 : decode cX0_add 27 = .ok (.getfield 9, 3) := by decide +kernel
theorem dX0_add_30 : decode cX0_add 30 = .ok (.aload_n 0, 1) := by decide +kernel
theorem dX0_add_31 : decode cX0_add 31 = .ok (.getfield 15, 3) := by decide +kernel
theorem dX0_add_34 : decode cX0_add 34 = .ok (.iload_n 3, 1) := by decide +kernel
theorem dX0_add_35 : decode cX0_add 35 = .ok (.i2c, 1) := by decide +kernel
theorem dX0_add_36 : decode cX0_add 36 = .ok (.castore, 1) := by decide +kernel
theorem dX0_add_37 : decode cX0_add 37 = .ok (.aload_n 0, 1) := by decide +kernel
theorem dX0_add_38 : decode cX0_add 38 = .ok (.dup, 1) := by decide +kernel
theorem dX0_add_39 : decode cX0_add 39 = .ok (.getfield 15, 3) := by decide +kernel
theorem dX0_add_42 : decode cX0_add 42 = .ok (.iconst 1, 1) := by decide +kernel
theorem dX0_add_43 : decode cX0_add 43 = .ok (.iadd, 1) := by decide +kernel
theorem dX0_add_44 : decode cX0_add 44 = .ok (.putfield 15, 3) := by decide +kernel
theorem dX0_add_47 : decode cX0_add 47 = .ok (.iinc 2 (-8), 3) := by decide +kernel
theorem dX0_add_50 : decode cX0_add 50 = .ok (.goto (-47), 3) := by decide +kernel
theorem dX0_add_53 : decode cX0_add 53 = .ok (.return_, 1) := by decide +kernel
theorem dX0_byteOf_0 : decode cX0_byteOf 0 = .ok (.iload_n 0, 1) := by decide +kernel
theorem dX0_byteOf_1 : decode cX0_byteOf 1 = .ok (.iload_n 1, 1) := by decide +kernel
theorem dX0_byteOf_2 : decode cX0_byteOf 2 = .ok (.iushr, 1) := by decide +kernel
theorem dX0_byteOf_3 : decode cX0_byteOf 3 = .ok (.sipush 255, 3) := by decide +kernel
theorem dX0_byteOf_6 : decode cX0_byteOf 6 = .ok (.iand, 1) := by decide +kernel
theorem dX0_byteOf_7 : decode cX0_byteOf 7 = .ok (.ireturn, 1) := by decide +kernel
theorem dX1_init_0 : decode cX1_init 0 = .ok (.aload_n 0, 1) := by decide +kernel
theorem dX1_init_1 : decode cX1_init 1 = .ok (.invokespecial 3, 3) := by decide +kernel
theorem dX1_init_4 : decode cX1_init 4 = .ok (.aload_n 0, 1) := by decide +kernel
theorem dX1_init_5 : decode cX1_init 5 = .ok (.bipush 30, 2) := by decide +kernel
theorem dX1_init_7 : decode cX1_init 7 = .ok (.newarray .int, 2) := by decide +kernel
theorem dX1_init_9 : decode cX1_init 9 = .ok (.putfield 9, 3) := by decide +kernel
theorem dX1_init_12 : decode cX1_init 12 = .ok (.aload_n 0, 1) := by decide +kernel
theorem dX1_init_13 : decode cX1_init 13 = .ok (.bipush 30, 2) := by decide +kernel
theorem dX1_init_15 : decode cX1_init 15 = .ok (.newarray .int, 2) := by decide +kernel
theorem dX1_init_17 : decode cX1_init 17 = .ok (.putfield 15, 3) := by decide +kernel
theorem dX1_init_20 : decode cX1_init 20 = .ok (.aload_n 0, 1) := by decide +kernel
theorem dX1_init_21 : decode cX1_init 21 = .ok (.iconst 0, 1) := by decide +kernel
theorem dX1_init_22 : decode cX1_init 22 = .ok (.putfield 18, 3) := by decide +kernel
theorem dX1_init_25 : decode cX1_init 25 = .ok (.return_, 1) := by decide +kernel
theorem dX1_isFull_0 : decode cX1_isFull 0 = .ok (.aload_n 0, 1) := by decide +kernel
theorem dX1_isFull_1 : decode cX1_isFull 1 = .ok (.getfield 18, 3) := by decide +kernel
theorem dX1_isFull_4 : decode cX1_isFull 4 = .ok (.bipush 30, 2) := by decide +kernel
theorem dX1_isFull_6 : decode cX1_isFull 6 = .ok (.if_icmp .lt 7, 3) := by decide +kernel
theorem dX1_isFull_9 : decode cX1_isFull 9 = .ok (.iconst 1, 1) := by decide +kernel
theorem dX1_isFull_10 : decode cX1_isFull 10 = .ok (.goto 4, 3) := by decide +kernel
theorem dX1_isFull_13 : decode cX1_isFull 13 = .ok (.iconst 0, 1) := by decide +kernel
theorem dX1_isFull_14 : decode cX1_isFull 14 = .ok (.ireturn, 1) := by decide +kernel
theorem dX1_add_0 : decode cX1_add 0 = .ok (.aload_n 0, 1) := by decide +kernel
theorem dX1_add_1 : decode cX1_add 1 = .ok (.getfield 18, 3) := by decide +kernel
theorem dX1_add_4 : decode cX1_add 4 = .ok (.istore_n 3, 1) := by decide +kernel
theorem dX1_add_5 : decode cX1_add 5 = .ok (.aload_n 0, 1) := by decide +kernel
theorem dX1_add_6 : decode cX1_add 6 = .ok (.getfield 9, 3) := by decide +kernel
theorem dX1_add_9 : decode cX1_add 9 = .ok (.iload_n 3, 1) := by decide +kernel
theorem dX1_add_10 : decode cX1_add 10 = .ok (.iload_n 1, 1) := by decide +kernel
theorem dX1_add_11 : decode cX1_add 11 = .ok (.iastore, 1) := by decide +kernel
theorem dX1_add_12 : decode cX1_add 12 = .ok (.aload_n 0, 1) := by decide +kernel
theorem dX1_add_13 : decode cX1_add 13 = .ok (.getfield 15, 3) := by decide +kernel
theorem dX1_add_16 : decode cX1_add 16 = .ok (.iload_n 3, 1) := by decide +kernel
theorem dX1_add_17 : decode cX1_add 17 = .ok (.iload_n 2, 1) := by decide +kernel
theorem dX1_add_18 : decode cX1_add 18 = .ok (.iastore, 1) := by decide +kernel
theorem dX1_add_19 : decode cX1_add 19 = .ok (.aload_n 0, 1) := by decide +kernel
theorem dX1_add_20 : decode cX1_add 20 = .ok (.dup, 1) := by decide +kernel
theorem dX1_add_21 : decode cX1_add 21 = .ok (.getfield 18, 3) := by decide +kernel
theorem dX1_add_24 : decode cX1_add 24 = .ok (.iconst 1, 1) := by decide +kernel
theorem dX1_add_25 : decode cX1_add 25 = .ok (.iadd, 1) := by decide +kernel
theorem dX1_add_26 : decode cX1_add 26 = .ok (.putfield 18, 3) := by decide +kernel
theorem dX1_add_29 : decode cX1_add 29 = .ok (.iload_n 3, 1) := by decide +kernel
theorem dX1_add_30 : decode cX1_add 30 = .ok (.ireturn, 1) := by decide +kernel
theorem dX1_inForce_0 : decode cX1_inForce 0 = .ok (.iconst (-1), 1) := by decide +kernel
theorem dX1_inForce_1 : decode cX1_inForce 1 = .ok (.istore_n 3, 1) := by decide +kernel
theorem dX1_inForce_2 : decode cX1_inForce 2 = .ok (.iconst 0, 1) := by decide +kernel
theorem dX1_inForce_3 : decode cX1_inForce 3 = .ok (.istore 4, 2) := by decide +kernel
theorem dX1_inForce_5 : decode cX1_inForce 5 = .ok (.iload 4, 2) := by decide +kernel
theorem dX1_inForce_7 : decode cX1_inForce 7 = .ok (.aload_n 0, 1) := by decide +kernel
theorem dX1_inForce_8 : decode cX1_inForce 8 = .ok (.getfield 18, 3) := by decide +kernel
theorem dX1_inForce_11 : decode cX1_inForce 11 = .ok (.if_icmp .ge 67, 3) := by decide +kernel
theorem dX1_inForce_14 : decode cX1_inForce 14 = .ok (.aload_n 0, 1) := by decide +kernel
theorem dX1_inForce_15 : decode cX1_inForce 15 = .ok (.getfield 15, 3) := by decide +kernel
theorem dX1_inForce_18 : decode cX1_inForce 18 = .ok (.iload 4, 2) := by decide +kernel
theorem dX1_inForce_20 : decode cX1_inForce 20 = .ok (.iaload, 1) := by decide +kernel
theorem dX1_inForce_21 : decode cX1_inForce 21 = .ok (.iload_n 2, 1) := by decide +kernel
theorem dX1_inForce_22 : decode cX1_inForce 22 = .ok (.if_icmp .gt 18, 3) := by decide +kernel
theorem dX1_inForce_25 : decode cX1_inForce 25 = .ok (.aload_n 0, 1) := by decide +kernel
theorem dX1_inForce_26 : decode cX1_inForce 26 = .ok (.getfield 9, 3) := by decide +kernel
theorem dX1_inForce_29 : decode cX1_inForce 29 = .ok (.iload 4, 2) := by decide +kernel
theorem dX1_inForce_31 : decode cX1_inForce 31 = .ok (.iaload, 1) := by decide +kernel
theorem dX1_inForce_32 : decode cX1_inForce 32 = .ok (.iload_n 1, 1) := by decide +kernel
theorem dX1_inForce_33 : decode cX1_inForce 33 = .ok (.if_icmp .gt 7, 3) := by decide +kernel
theorem dX1_inForce_36 : decode cX1_inForce 36 = .ok (.iconst 1, 1) := by decide +kernel
theorem dX1_inForce_37 : decode cX1_inForce 37 = .ok (.goto 4, 3) := by decide +kernel
theorem dX1_inForce_40 : decode cX1_inForce 40 = .ok (.iconst 0, 1) := by decide +kernel
theorem dX1_inForce_41 : decode cX1_inForce 41 = .ok (.istore 5, 2) := by decide +kernel
theorem dX1_inForce_43 : decode cX1_inForce 43 = .ok (.iload 5, 2) := by decide +kernel
theorem dX1_inForce_45 : decode cX1_inForce 45 = .ok (.ifCond .eq 27, 3) := by decide +kernel
theorem dX1_inForce_48 : decode cX1_inForce 48 = .ok (.iload_n 3, 1) := by decide +kernel
theorem dX1_inForce_49 : decode cX1_inForce 49 = .ok (.iconst (-1), 1) := by decide +kernel
theorem dX1_inForce_50 : decode cX1_inForce 50 = .ok (.if_icmp .eq 19, 3) := by decide +kernel
theorem dX1_inForce_53 : decode cX1_inForce 53 = .ok (.aload_n 0, 1) := by decide +kernel
theorem dX1_inForce_54 : decode cX1_inForce 54 = .ok (.getfield 9, 3) := by decide +kernel
theorem dX1_inForce_57 : decode cX1_inForce 57 = .ok (.iload 4, 2) := by decide +kernel
theorem dX1_inForce_59 : decode cX1_inForce 59 = .ok (.iaload, 1) := by decide +kernel
theorem dX1_inForce_60 : decode cX1_inForce 60 = .ok (.aload_n 0, 1) := by decide +kernel
theorem dX1_inForce_61 : decode cX1_inForce 61 = .ok (.getfield 9, 3) := by decide +kernel
theorem dX1_inForce_64 : decode cX1_inForce 64 = .ok (.iload_n 3, 1) := by decide +kernel
theorem dX1_inForce_65 : decode cX1_inForce 65 = .ok (.iaload, 1) := by decide +kernel
theorem dX1_inForce_66 : decode cX1_inForce 66 = .ok (.if_icmp .lt 6, 3) := by decide +kernel
theorem dX1_inForce_69 : decode cX1_inForce 69 = .ok (.iload 4, 2) := by decide +kernel
theorem dX1_inForce_71 : decode cX1_inForce 71 = .ok (.istore_n 3, 1) := by decide +kernel
theorem dX1_inForce_72 : decode cX1_inForce 72 = .ok (.iinc 4 1, 3) := by decide +kernel
theorem dX1_inForce_75 : decode cX1_inForce 75 = .ok (.goto (-70), 3) := by decide +kernel
theorem dX1_inForce_78 : decode cX1_inForce 78 = .ok (.iload_n 3, 1) := by decide +kernel
theorem dX1_inForce_79 : decode cX1_inForce 79 = .ok (.ireturn, 1) := by decide +kernel
theorem dX2_init_0 : decode cX2_init 0 = .ok (.aload_n 0, 1) := by decide +kernel
theorem dX2_init_1 : decode cX2_init 1 = .ok (.invokespecial 3, 3) := by decide +kernel
theorem dX2_init_4 : decode cX2_init 4 = .ok (.aload_n 0, 1) := by decide +kernel
theorem dX2_init_5 : decode cX2_init 5 = .ok (.bipush 100, 2) := by decide +kernel
theorem dX2_init_7 : decode cX2_init 7 = .ok (.newarray .int, 2) := by decide +kernel
theorem dX2_init_9 : decode cX2_init 9 = .ok (.putfield 9, 3) := by decide +kernel
theorem dX2_init_12 : decode cX2_init 12 = .ok (.aload_n 0, 1) := by decide +kernel
theorem dX2_init_13 : decode cX2_init 13 = .ok (.bipush 100, 2) := by decide +kernel
theorem dX2_init_15 : decode cX2_init 15 = .ok (.newarray .int, 2) := by decide +kernel
theorem dX2_init_17 : decode cX2_init 17 = .ok (.putfield 15, 3) := by decide +kernel
theorem dX2_init_20 : decode cX2_init 20 = .ok (.aload_n 0, 1) := by decide +kernel
theorem dX2_init_21 : decode cX2_init 21 = .ok (.bipush 100, 2) := by decide +kernel
theorem dX2_init_23 : decode cX2_init 23 = .ok (.newarray .int, 2) := by decide +kernel
theorem dX2_init_25 : decode cX2_init 25 = .ok (.putfield 18, 3) := by decide +kernel
theorem dX2_init_28 : decode cX2_init 28 = .ok (.aload_n 0, 1) := by decide +kernel
theorem dX2_init_29 : decode cX2_init 29 = .ok (.bipush 100, 2) := by decide +kernel
theorem dX2_init_31 : decode cX2_init 31 = .ok (.newarray .int, 2) := by decide +kernel
theorem dX2_init_33 : decode cX2_init 33 = .ok (.putfield 21, 3) := by decide +kernel
theorem dX2_init_36 : decode cX2_init 36 = .ok (.aload_n 0, 1) := by decide +kernel
theorem dX2_init_37 : decode cX2_init 37 = .ok (.iconst 0, 1) := by decide +kernel
theorem dX2_init_38 : decode cX2_init 38 = .ok (.putfield 24, 3) := by decide +kernel
theorem dX2_init_41 : decode cX2_init 41 = .ok (.return_, 1) := by decide +kernel
theorem dX2_isFull_0 : decode cX2_isFull 0 = .ok (.aload_n 0, 1) := by decide +kernel
theorem dX2_isFull_1 : decode cX2_isFull 1 = .ok (.getfield 24, 3) := by decide +kernel
theorem dX2_isFull_4 : decode cX2_isFull 4 = .ok (.bipush 100, 2) := by decide +kernel
theorem dX2_isFull_6 : decode cX2_isFull 6 = .ok (.if_icmp .lt 7, 3) := by decide +kernel
theorem dX2_isFull_9 : decode cX2_isFull 9 = .ok (.iconst 1, 1) := by decide +kernel
theorem dX2_isFull_10 : decode cX2_isFull 10 = .ok (.goto 4, 3) := by decide +kernel
theorem dX2_isFull_13 : decode cX2_isFull 13 = .ok (.iconst 0, 1) := by decide +kernel
theorem dX2_isFull_14 : decode cX2_isFull 14 = .ok (.ireturn, 1) := by decide +kernel
theorem dX2_add_0 : decode cX2_add 0 = .ok (.aload_n 0, 1) := by decide +kernel
theorem dX2_add_1 : decode cX2_add 1 = .ok (.getfield 9, 3) := by decide +kernel
theorem dX2_add_4 : decode cX2_add 4 = .ok (.aload_n 0, 1) := by decide +kernel
theorem dX2_add_5 : decode cX2_add 5 = .ok (.getfield 24, 3) := by decide +kernel
theorem dX2_add_8 : decode cX2_add 8 = .ok (.iload_n 1, 1) := by decide +kernel
theorem dX2_add_9 : decode cX2_add 9 = .ok (.iastore, 1) := by decide +kernel
theorem dX2_add_10 : decode cX2_add 10 = .ok (.aload_n 0, 1) := by decide +kernel
theorem dX2_add_11 : decode cX2_add 11 = .ok (.getfield 15, 3) := by decide +kernel
theorem dX2_add_14 : decode cX2_add 14 = .ok (.aload_n 0, 1) := by decide +kernel
theorem dX2_add_15 : decode cX2_add 15 = .ok (.getfield 24, 3) := by decide +kernel
theorem dX2_add_18 : decode cX2_add 18 = .ok (.iload_n 2, 1) := by decide +kernel
theorem dX2_add_19 : decode cX2_add 19 = .ok (.iastore, 1) := by decide +kernel
theorem dX2_add_20 : decode cX2_add 20 = .ok (.aload_n 0, 1) := by decide +kernel
theorem dX2_add_21 : decode cX2_add 21 = .ok (.getfield 18, 3) := by decide +kernel
theorem dX2_add_24 : decode cX2_add 24 = .ok (.aload_n 0, 1) := by decide +kernel
theorem dX2_add_25 : decode cX2_add 25 = .ok (.getfield 24, 3) := by decide +kernel
theorem dX2_add_28 : decode cX2_add 28 = .ok (.iload_n 3, 1) := by decide +kernel
theorem dX2_add_29 : decode cX2_add 29 = .ok (.iastore, 1) := by decide +kernel
theorem dX2_add_30 : decode cX2_add 30 = .ok (.aload_n 0, 1) := by decide +kernel
theorem dX2_add_31 : decode cX2_add 31 = .ok (.getfield 21, 3) := by decide +kernel
theorem dX2_add_34 : decode cX2_add 34 = .ok (.aload_n 0, 1) := by decide +kernel
theorem dX2_add_35 : decode cX2_add 35 = .ok (.getfield 24, 3) := by decide +kernel
theorem dX2_add_38 : decode cX2_add 38 = .ok (.iload 4, 2) := by decide +kernel
theorem dX2_add_40 : decode cX2_add 40 = .ok (.iastore, 1) := by decide +kernel
theorem dX2_add_41 : decode cX2_add 41 = .ok (.aload_n 0, 1) := by decide +kernel
theorem dX2_add_42 : decode cX2_add 42 = .ok (.dup, 1) := by decide +kernel
theorem dX2_add_43 : decode cX2_add 43 = .ok (.getfield 24, 3) := by decide +kernel
theorem dX2_add_46 : decode cX2_add 46 = .ok (.iconst 1, 1) := by decide +kernel
theorem dX2_add_47 : decode cX2_add 47 = .ok (.iadd, 1) := by decide +kernel
theorem dX2_add_48 : decode cX2_add 48 = .ok (.putfield 24, 3) := by decide +kernel
theorem dX2_add_51 : decode cX2_add 51 = .ok (.return_, 1) := by decide +kernel
theorem dX2_sum_0 : decode cX2_sum 0 = .ok (.iconst 0, 1) := by decide +kernel
theorem dX2_sum_1 : decode cX2_sum 1 = .ok (.istore 4, 2) := by decide +kernel
theorem dX2_sum_3 : decode cX2_sum 3 = .ok (.iconst 0, 1) := by decide +kernel
theorem dX2_sum_4 : decode cX2_sum 4 = .ok (.istore 5, 2) := by decide +kernel
theorem dX2_sum_6 : decode cX2_sum 6 = .ok (.iload 5, 2) := by decide +kernel
theorem dX2_sum_8 : decode cX2_sum 8 = .ok (.aload_n 0, 1) := by decide +kernel
theorem dX2_sum_9 : decode cX2_sum 9 = .ok (.getfield 24, 3) := by decide +kernel
theorem dX2_sum_12 : decode cX2_sum 12 = .ok (.if_icmp .ge 40, 3) := by decide +kernel
theorem dX2_sum_15 : decode cX2_sum 15 = .ok (.aload_n 0, 1) := by decide +kernel
theorem dX2_sum_16 : decode cX2_sum 16 = .ok (.getfield 9, 3) := by decide +kernel
theorem dX2_sum_19 : decode cX2_sum 19 = .ok (.iload 5, 2) := by decide +kernel
theorem dX2_sum_21 : decode cX2_sum 21 = .ok (.iaload, 1) := by decide +kernel
theorem dX2_sum_22 : decode cX2_sum 22 = .ok (.iload_n 2, 1) := by decide +kernel
theorem dX2_sum_23 : decode cX2_sum 23 = .ok (.if_icmp .ne 23, 3) := by decide +kernel
theorem dX2_sum_26 : decode cX2_sum 26 = .ok (.aload_n 0, 1) := by decide +kernel
theorem dX2_sum_27 : decode cX2_sum 27 = .ok (.getfield 21, 3) := by decide +kernel
theorem dX2_sum_30 : decode cX2_sum 30 = .ok (.iload 5, 2) := by decide +kernel
theorem dX2_sum_32 : decode cX2_sum 32 = .ok (.iaload, 1) := by decide +kernel
theorem dX2_sum_33 : decode cX2_sum 33 = .ok (.iload_n 3, 1) := by decide +kernel
theorem dX2_sum_34 : decode cX2_sum 34 = .ok (.if_icmp .gt 12, 3) := by decide +kernel
theorem dX2_sum_37 : decode cX2_sum 37 = .ok (.iload 4, 2) := by decide +kernel
theorem dX2_sum_39 : decode cX2_sum 39 = .ok (.aload_n 1, 1) := by decide +kernel
theorem dX2_sum_40 : decode cX2_sum 40 = .ok (.iload 5, 2) := by decide +kernel
theorem dX2_sum_42 : decode cX2_sum 42 = .ok (.iaload, 1) := by decide +kernel
theorem dX2_sum_43 : decode cX2_sum 43 = .ok (.iadd, 1) := by decide +kernel
theorem dX2_sum_44 : decode cX2_sum 44 = .ok (.istore 4, 2) := by decide +kernel
theorem dX2_sum_46 : decode cX2_sum 46 = .ok (.iinc 5 1, 3) := by decide +kernel
theorem dX2_sum_49 : decode cX2_sum 49 = .ok (.goto (-43), 3) := by decide +kernel
theorem dX2_sum_52 : decode cX2_sum 52 = .ok (.iload 4, 2) := by decide +kernel
theorem dX2_sum_54 : decode cX2_sum 54 = .ok (.ireturn, 1) := by decide +kernel
theorem dX3_init_0 : decode cX3_init 0 = .ok (.aload_n 0, 1) := by decide +kernel
theorem dX3_init_1 : decode cX3_init 1 = .ok (.invokespecial 3, 3) := by decide +kernel
theorem dX3_init_4 : decode cX3_init 4 = .ok (.aload_n 0, 1) := by decide +kernel
theorem dX3_init_5 : decode cX3_init 5 = .ok (.bipush 30, 2) := by decide +kernel
theorem dX3_init_7 : decode cX3_init 7 = .ok (.newarray .int, 2) := by decide +kernel
theorem dX3_init_9 : decode cX3_init 9 = .ok (.putfield 9, 3) := by decide +kernel
theorem dX3_init_12 : decode cX3_init 12 = .ok (.aload_n 0, 1) := by decide +kernel
theorem dX3_init_13 : decode cX3_init 13 = .ok (.bipush 30, 2) := by decide +kernel
theorem dX3_init_15 : decode cX3_init 15 = .ok (.newarray .int, 2) := by decide +kernel
theorem dX3_init_17 : decode cX3_init 17 = .ok (.putfield 15, 3) := by decide +kernel
theorem dX3_init_20 : decode cX3_init 20 = .ok (.aload_n 0, 1) := by decide +kernel
theorem dX3_init_21 : decode cX3_init 21 = .ok (.bipush 30, 2) := by decide +kernel
theorem dX3_init_23 : decode cX3_init 23 = .ok (.newarray .int, 2) := by decide +kernel
theorem dX3_init_25 : decode cX3_init 25 = .ok (.putfield 18, 3) := by decide +kernel
theorem dX3_init_28 : decode cX3_init 28 = .ok (.aload_n 0, 1) := by decide +kernel
theorem dX3_init_29 : decode cX3_init 29 = .ok (.bipush 30, 2) := by decide +kernel
theorem dX3_init_31 : decode cX3_init 31 = .ok (.newarray .int, 2) := by decide +kernel
theorem dX3_init_33 : decode cX3_init 33 = .ok (.putfield 21, 3) := by decide +kernel
theorem dX3_init_36 : decode cX3_init 36 = .ok (.aload_n 0, 1) := by decide +kernel
theorem dX3_init_37 : decode cX3_init 37 = .ok (.bipush 30, 2) := by decide +kernel
theorem dX3_init_39 : decode cX3_init 39 = .ok (.newarray .int, 2) := by decide +kernel
theorem dX3_init_41 : decode cX3_init 41 = .ok (.putfield 24, 3) := by decide +kernel
theorem dX3_init_44 : decode cX3_init 44 = .ok (.aload_n 0, 1) := by decide +kernel
theorem dX3_init_45 : decode cX3_init 45 = .ok (.bipush 30, 2) := by decide +kernel
theorem dX3_init_47 : decode cX3_init 47 = .ok (.newarray .int, 2) := by decide +kernel
theorem dX3_init_49 : decode cX3_init 49 = .ok (.putfield 27, 3) := by decide +kernel
theorem dX3_init_52 : decode cX3_init 52 = .ok (.aload_n 0, 1) := by decide +kernel
theorem dX3_init_53 : decode cX3_init 53 = .ok (.iconst 0, 1) := by decide +kernel
theorem dX3_init_54 : decode cX3_init 54 = .ok (.putfield 30, 3) := by decide +kernel
theorem dX3_init_57 : decode cX3_init 57 = .ok (.return_, 1) := by decide +kernel
theorem dX3_isFull_0 : decode cX3_isFull 0 = .ok (.aload_n 0, 1) := by decide +kernel
theorem dX3_isFull_1 : decode cX3_isFull 1 = .ok (.getfield 30, 3) := by decide +kernel
theorem dX3_isFull_4 : decode cX3_isFull 4 = .ok (.bipush 30, 2) := by decide +kernel
theorem dX3_isFull_6 : decode cX3_isFull 6 = .ok (.if_icmp .lt 7, 3) := by decide +kernel
theorem dX3_isFull_9 : decode cX3_isFull 9 = .ok (.iconst 1, 1) := by decide +kernel
theorem dX3_isFull_10 : decode cX3_isFull 10 = .ok (.goto 4, 3) := by decide +kernel
theorem dX3_isFull_13 : decode cX3_isFull 13 = .ok (.iconst 0, 1) := by decide +kernel
theorem dX3_isFull_14 : decode cX3_isFull 14 = .ok (.ireturn, 1) := by decide +kernel
theorem dX3_has_0 : decode cX3_has 0 = .ok (.iload_n 1, 1) := by decide +kernel
theorem dX3_has_1 : decode cX3_has 1 = .ok (.ifCond .lt 15, 3) := by decide +kernel
theorem dX3_has_4 : decode cX3_has 4 = .ok (.iload_n 1, 1) := by decide +kernel
theorem dX3_has_5 : decode cX3_has 5 = .ok (.aload_n 0, 1) := by decide +kernel
theorem dX3_has_6 : decode cX3_has 6 = .ok (.getfield 30, 3) := by decide +kernel
theorem dX3_has_9 : decode cX3_has 9 = .ok (.if_icmp .ge 7, 3) := by decide +kernel
theorem dX3_has_12 : decode cX3_has 12 = .ok (.iconst 1, 1) := by decide +kernel
theorem dX3_has_13 : decode cX3_has 13 = .ok (.goto 4, 3) := by decide +kernel
theorem dX3_has_16 : decode cX3_has 16 = .ok (.iconst 0, 1) := by decide +kernel
theorem dX3_has_17 : decode cX3_has 17 = .ok (.ireturn, 1) := by decide +kernel
theorem dX3_isParent_0 : decode cX3_isParent 0 = .ok (.iload_n 1, 1) := by decide +kernel
theorem dX3_isParent_1 : decode cX3_isParent 1 = .ok (.iconst (-1), 1) := by decide +kernel
theorem dX3_isParent_2 : decode cX3_isParent 2 = .ok (.if_icmp .eq 11, 3) := by decide +kernel
theorem dX3_isParent_5 : decode cX3_isParent 5 = .ok (.aload_n 0, 1) := by decide +kernel
theorem dX3_isParent_6 : decode cX3_isParent 6 = .ok (.iload_n 1, 1) := by decide +kernel
theorem dX3_isParent_7 : decode cX3_isParent 7 = .ok (.invokevirtual 34, 3) := by decide +kernel
theorem dX3_isParent_10 : decode cX3_isParent 10 = .ok (.ifCond .eq 7, 3) := by decide +kernel
theorem dX3_isParent_13 : decode cX3_isParent 13 = .ok (.iconst 1, 1) := by decide +kernel
theorem dX3_isParent_14 : decode cX3_isParent 14 = .ok (.goto 4, 3) := by decide +kernel
theorem dX3_isParent_17 : decode cX3_isParent 17 = .ok (.iconst 0, 1) := by decide +kernel
theorem dX3_isParent_18 : decode cX3_isParent 18 = .ok (.ireturn, 1) := by decide +kernel
theorem dX3_isAlive_0 : decode cX3_isAlive 0 = .ok (.aload_n 0, 1) := by decide +kernel
theorem dX3_isAlive_1 : decode cX3_isAlive 1 = .ok (.iload_n 1, 1) := by decide +kernel
theorem dX3_isAlive_2 : decode cX3_isAlive 2 = .ok (.invokevirtual 34, 3) := by decide +kernel
theorem dX3_isAlive_5 : decode cX3_isAlive 5 = .ok (.ifCond .eq 17, 3) := by decide +kernel
theorem dX3_isAlive_8 : decode cX3_isAlive 8 = .ok (.aload_n 0, 1) := by decide +kernel
theorem dX3_isAlive_9 : decode cX3_isAlive 9 = .ok (.getfield 21, 3) := by decide +kernel
theorem dX3_isAlive_12 : decode cX3_isAlive 12 = .ok (.iload_n 1, 1) := by decide +kernel
theorem dX3_isAlive_13 : decode cX3_isAlive 13 = .ok (.iaload, 1) := by decide +kernel
theorem dX3_isAlive_14 : decode cX3_isAlive 14 = .ok (.iconst (-1), 1) := by decide +kernel
theorem dX3_isAlive_15 : decode cX3_isAlive 15 = .ok (.if_icmp .ne 7, 3) := by decide +kernel
theorem dX3_isAlive_18 : decode cX3_isAlive 18 = .ok (.iconst 1, 1) := by decide +kernel
theorem dX3_isAlive_19 : decode cX3_isAlive 19 = .ok (.goto 4, 3) := by decide +kernel
theorem dX3_isAlive_22 : decode cX3_isAlive 22 = .ok (.iconst 0, 1) := by decide +kernel
theorem dX3_isAlive_23 : decode cX3_isAlive 23 = .ok (.ireturn, 1) := by decide +kernel
theorem dX3_isMaster_0 : decode cX3_isMaster 0 = .ok (.aload_n 0, 1) := by decide +kernel
theorem dX3_isMaster_1 : decode cX3_isMaster 1 = .ok (.iload_n 1, 1) := by decide +kernel
theorem dX3_isMaster_2 : decode cX3_isMaster 2 = .ok (.invokevirtual 38, 3) := by decide +kernel
theorem dX3_isMaster_5 : decode cX3_isMaster 5 = .ok (.ifCond .eq 17, 3) := by decide +kernel
theorem dX3_isMaster_8 : decode cX3_isMaster 8 = .ok (.aload_n 0, 1) := by decide +kernel
theorem dX3_isMaster_9 : decode cX3_isMaster 9 = .ok (.getfield 18, 3) := by decide +kernel
theorem dX3_isMaster_12 : decode cX3_isMaster 12 = .ok (.iload_n 1, 1) := by decide +kernel
theorem dX3_isMaster_13 : decode cX3_isMaster 13 = .ok (.iaload, 1) := by decide +kernel
theorem dX3_isMaster_14 : decode cX3_isMaster 14 = .ok (.iconst (-1), 1) := by decide +kernel
theorem dX3_isMaster_15 : decode cX3_isMaster 15 = .ok (.if_icmp .eq 7, 3) := by decide +kernel
theorem dX3_isMaster_18 : decode cX3_isMaster 18 = .ok (.iconst 1, 1) := by decide +kernel
theorem dX3_isMaster_19 : decode cX3_isMaster 19 = .ok (.goto 4, 3) := by decide +kernel
theorem dX3_isMaster_22 : decode cX3_isMaster 22 = .ok (.iconst 0, 1) := by decide +kernel
theorem dX3_isMaster_23 : decode cX3_isMaster 23 = .ok (.ireturn, 1) := by decide +kernel
theorem dX3_add_0 : decode cX3_add 0 = .ok (.aload_n 0, 1) := by decide +kernel
theorem dX3_add_1 : decode cX3_add 1 = .ok (.getfield 30, 3) := by decide +kernel
theorem dX3_add_4 : decode cX3_add 4 = .ok (.istore_n 3, 1) := by decide +kernel
theorem dX3_add_5 : decode cX3_add 5 = .ok (.aload_n 0, 1) := by decide +kernel
theorem dX3_add_6 : decode cX3_add 6 = .ok (.getfield 9, 3) := by decide +kernel
theorem dX3_add_9 : decode cX3_add 9 = .ok (.iload_n 3, 1) := by decide +kernel
theorem dX3_add_10 : decode cX3_add 10 = .ok (.iload_n 1, 1) := by decide +kernel
theorem dX3_add_11 : decode cX3_add 11 = .ok (.iastore, 1) := by decide +kernel
theorem dX3_add_12 : decode cX3_add 12 = .ok (.aload_n 0, 1) := by decide +kernel
theorem dX3_add_13 : decode cX3_add 13 = .ok (.getfield 15, 3) := by decide +kernel
theorem dX3_add_16 : decode cX3_add 16 = .ok (.iload_n 3, 1) := by decide +kernel
theorem dX3_add_17 : decode cX3_add 17 = .ok (.iload_n 2, 1) := by decide +kernel
theorem dX3_add_18 : decode cX3_add 18 = .ok (.iastore, 1) := by decide +kernel
theorem dX3_add_19 : decode cX3_add 19 = .ok (.aload_n 0, 1) := by decide +kernel
theorem dX3_add_20 : decode cX3_add 20 = .ok (.getfield 18, 3) := by decide +kernel
theorem dX3_add_23 : decode cX3_add 23 = .ok (.iload_n 3, 1) := by decide +kernel
theorem dX3_add_24 : decode cX3_add 24 = .ok (.iconst (-1), 1) := by decide +kernel
theorem dX3_add_25 : decode cX3_add 25 = .ok (.iastore, 1) := by decide +kernel
theorem dX3_add_26 : decode cX3_add 26 = .ok (.aload_n 0, 1) := by decide +kernel
theorem dX3_add_27 : decode cX3_add 27 = .ok (.getfield 21, 3) := by decide +kernel
theorem dX3_add_30 : decode cX3_add 30 = .ok (.iload_n 3, 1) := by decide +kernel
theorem dX3_add_31 : decode cX3_add 31 = .ok (.iconst (-1), 1) := by decide +kernel
theorem dX3_add_32 : decode cX3_add 32 = .ok (.iastore, 1) := by decide +kernel
theorem dX3_add_33 : decode cX3_add 33 = .ok (.aload_n 0, 1) := by decide +kernel
theorem dX3_add_34 : decode cX3_add 34 = .ok (.getfield 24, 3) := by decide +kernel
theorem dX3_add_37 : decode cX3_add 37 = .ok (.iload_n 3, 1) := by decide +kernel
theorem dX3_add_38 : decode cX3_add 38 = .ok (.iconst (-1), 1) := by decide +kernel
theorem dX3_add_39 : decode cX3_add 39 = .ok (.iastore, 1) := by decide +kernel
theorem dX3_add_40 : decode cX3_add 40 = .ok (.aload_n 0, 1) := by decide +kernel
theorem dX3_add_41 : decode cX3_add 41 = .ok (.getfield 27, 3) := by decide +kernel
theorem dX3_add_44 : decode cX3_add 44 = .ok (.iload_n 3, 1) := by decide +kernel
theorem dX3_add_45 : decode cX3_add 45 = .ok (.iconst (-1), 1) := by decide +kernel
theorem dX3_add_46 : decode cX3_add 46 = .ok (.iastore, 1) := by decide +kernel
theorem dX3_add_47 : decode cX3_add 47 = .ok (.aload_n 0, 1) := by decide +kernel
theorem dX3_add_48 : decode cX3_add 48 = .ok (.dup, 1) := by decide +kernel
theorem dX3_add_49 : decode cX3_add 49 = .ok (.getfield 30, 3) := by decide +kernel
theorem dX3_add_52 : decode cX3_add 52 = .ok (.iconst 1, 1) := by decide +kernel
theorem dX3_add_53 : decode cX3_add 53 = .ok (.iadd, 1) := by decide +kernel
theorem dX3_add_54 : decode cX3_add 54 = .ok (.putfield 30, 3) := by decide +kernel
theorem dX3_add_57 : decode cX3_add 57 = .ok (.iload_n 3, 1) := by decide +kernel
theorem dX3_add_58 : decode cX3_add 58 = .ok (.ireturn, 1) := by decide +kernel
theorem dX3_raise_0 : decode cX3_raise 0 = .ok (.aload_n 0, 1) := by decide +kernel
theorem dX3_raise_1 : decode cX3_raise 1 = .ok (.getfield 18, 3) := by decide +kernel
theorem dX3_raise_4 : decode cX3_raise 4 = .ok (.iload_n 1, 1) := by decide +kernel
theorem dX3_raise_5 : decode cX3_raise 5 = .ok (.iaload, 1) := by decide +kernel
theorem dX3_raise_6 : decode cX3_raise 6 = .ok (.iconst (-1), 1) := by decide +kernel
theorem dX3_raise_7 : decode cX3_raise 7 = .ok (.if_icmp .ne 10, 3) := by decide +kernel
theorem dX3_raise_10 : decode cX3_raise 10 = .ok (.aload_n 0, 1) := by decide +kernel
theorem dX3_raise_11 : decode cX3_raise 11 = .ok (.getfield 18, 3) := by decide +kernel
theorem dX3_raise_14 : decode cX3_raise 14 = .ok (.iload_n 1, 1) := by decide +kernel
theorem dX3_raise_15 : decode cX3_raise 15 = .ok (.iload_n 2, 1) := by decide +kernel
theorem dX3_raise_16 : decode cX3_raise 16 = .ok (.iastore, 1) := by decide +kernel
theorem dX3_raise_17 : decode cX3_raise 17 = .ok (.return_, 1) := by decide +kernel
theorem dX3_bury_0 : decode cX3_bury 0 = .ok (.aload_n 0, 1) := by decide +kernel
theorem dX3_bury_1 : decode cX3_bury 1 = .ok (.getfield 21, 3) := by decide +kernel
theorem dX3_bury_4 : decode cX3_bury 4 = .ok (.iload_n 1, 1) := by decide +kernel
theorem dX3_bury_5 : decode cX3_bury 5 = .ok (.iload_n 3, 1) := by decide +kernel
theorem dX3_bury_6 : decode cX3_bury 6 = .ok (.iastore, 1) := by decide +kernel
theorem dX3_bury_7 : decode cX3_bury 7 = .ok (.aload_n 0, 1) := by decide +kernel
theorem dX3_bury_8 : decode cX3_bury 8 = .ok (.getfield 24, 3) := by decide +kernel
theorem dX3_bury_11 : decode cX3_bury 11 = .ok (.iload_n 1, 1) := by decide +kernel
theorem dX3_bury_12 : decode cX3_bury 12 = .ok (.iconst (-1), 1) := by decide +kernel
theorem dX3_bury_13 : decode cX3_bury 13 = .ok (.iastore, 1) := by decide +kernel
theorem dX3_bury_14 : decode cX3_bury 14 = .ok (.iconst 0, 1) := by decide +kernel
theorem dX3_bury_15 : decode cX3_bury 15 = .ok (.istore 4, 2) := by decide +kernel
theorem dX3_bury_17 : decode cX3_bury 17 = .ok (.iload 4, 2) := by decide +kernel
theorem dX3_bury_19 : decode cX3_bury 19 = .ok (.aload_n 0, 1) := by decide +kernel
theorem dX3_bury_20 : decode cX3_bury 20 = .ok (.getfield 30, 3) := by decide +kernel
theorem dX3_bury_23 : decode cX3_bury 23 = .ok (.if_icmp .ge 38, 3) := by decide +kernel
theorem dX3_bury_26 : decode cX3_bury 26 = .ok (.aload_n 0, 1) := by decide +kernel
theorem dX3_bury_27 : decode cX3_bury 27 = .ok (.getfield 24, 3) := by decide +kernel
theorem dX3_bury_30 : decode cX3_bury 30 = .ok (.iload 4, 2) := by decide +kernel
theorem dX3_bury_32 : decode cX3_bury 32 = .ok (.iaload, 1) := by decide +kernel
theorem dX3_bury_33 : decode cX3_bury 33 = .ok (.iload_n 1, 1) := by decide +kernel
theorem dX3_bury_34 : decode cX3_bury 34 = .ok (.if_icmp .ne 21, 3) := by decide +kernel
theorem dX3_bury_37 : decode cX3_bury 37 = .ok (.aload_n 0, 1) := by decide +kernel
theorem dX3_bury_38 : decode cX3_bury 38 = .ok (.getfield 24, 3) := by decide +kernel
theorem dX3_bury_41 : decode cX3_bury 41 = .ok (.iload 4, 2) := by decide +kernel
theorem dX3_bury_43 : decode cX3_bury 43 = .ok (.iload 4, 2) := by decide +kernel
theorem dX3_bury_45 : decode cX3_bury 45 = .ok (.iload_n 2, 1) := by decide +kernel
theorem dX3_bury_46 : decode cX3_bury 46 = .ok (.if_icmp .ne 7, 3) := by decide +kernel
theorem dX3_bury_49 : decode cX3_bury 49 = .ok (.iconst (-1), 1) := by decide +kernel
theorem dX3_bury_50 : decode cX3_bury 50 = .ok (.goto 4, 3) := by decide +kernel
theorem dX3_bury_53 : decode cX3_bury 53 = .ok (.iload_n 2, 1) := by decide +kernel
theorem dX3_bury_54 : decode cX3_bury 54 = .ok (.iastore, 1) := by decide +kernel
theorem dX3_bury_55 : decode cX3_bury 55 = .ok (.iinc 4 1, 3) := by decide +kernel
theorem dX3_bury_58 : decode cX3_bury 58 = .ok (.goto (-41), 3) := by decide +kernel
theorem dX3_bury_61 : decode cX3_bury 61 = .ok (.iload_n 2, 1) := by decide +kernel
theorem dX3_bury_62 : decode cX3_bury 62 = .ok (.iconst (-1), 1) := by decide +kernel
theorem dX3_bury_63 : decode cX3_bury 63 = .ok (.if_icmp .eq 13, 3) := by decide +kernel
theorem dX3_bury_66 : decode cX3_bury 66 = .ok (.aload_n 0, 1) := by decide +kernel
theorem dX3_bury_67 : decode cX3_bury 67 = .ok (.getfield 27, 3) := by decide +kernel
theorem dX3_bury_70 : decode cX3_bury 70 = .ok (.iload_n 2, 1) := by decide +kernel
theorem dX3_bury_71 : decode cX3_bury 71 = .ok (.iload_n 3, 1) := by decide +kernel
theorem dX3_bury_72 : decode cX3_bury 72 = .ok (.bipush 100, 2) := by decide +kernel
theorem dX3_bury_74 : decode cX3_bury 74 = .ok (.iadd, 1) := by decide +kernel
theorem dX3_bury_75 : decode cX3_bury 75 = .ok (.iastore, 1) := by decide +kernel
theorem dX3_bury_76 : decode cX3_bury 76 = .ok (.return_, 1) := by decide +kernel
theorem dX3_areKin_0 : decode cX3_areKin 0 = .ok (.iload_n 1, 1) := by decide +kernel
theorem dX3_areKin_1 : decode cX3_areKin 1 = .ok (.iload_n 2, 1) := by decide +kernel
theorem dX3_areKin_2 : decode cX3_areKin 2 = .ok (.if_icmp .eq 49, 3) := by decide +kernel
theorem dX3_areKin_5 : decode cX3_areKin 5 = .ok (.aload_n 0, 1) := by decide +kernel
theorem dX3_areKin_6 : decode cX3_areKin 6 = .ok (.iload_n 1, 1) := by decide +kernel
theorem dX3_areKin_7 : decode cX3_areKin 7 = .ok (.iload_n 2, 1) := by decide +kernel
theorem dX3_areKin_8 : decode cX3_areKin 8 = .ok (.invokevirtual 41, 3) := by decide +kernel
theorem dX3_areKin_11 : decode cX3_areKin 11 = .ok (.ifCond .ne 40, 3) := by decide +kernel
theorem dX3_areKin_14 : decode cX3_areKin 14 = .ok (.aload_n 0, 1) := by decide +kernel
theorem dX3_areKin_15 : decode cX3_areKin 15 = .ok (.iload_n 2, 1) := by decide +kernel
theorem dX3_areKin_16 : decode cX3_areKin 16 = .ok (.iload_n 1, 1) := by decide +kernel
theorem dX3_areKin_17 : decode cX3_areKin 17 = .ok (.invokevirtual 41, 3) := by decide +kernel
theorem dX3_areKin_20 : decode cX3_areKin 20 = .ok (.ifCond .ne 31, 3) := by decide +kernel
theorem dX3_areKin_23 : decode cX3_areKin 23 = .ok (.aload_n 0, 1) := by decide +kernel
theorem dX3_areKin_24 : decode cX3_areKin 24 = .ok (.aload_n 0, 1) := by decide +kernel
theorem dX3_areKin_25 : decode cX3_areKin 25 = .ok (.getfield 9, 3) := by decide +kernel
theorem dX3_areKin_28 : decode cX3_areKin 28 = .ok (.iload_n 1, 1) := by decide +kernel
theorem dX3_areKin_29 : decode cX3_areKin 29 = .ok (.iaload, 1) := by decide +kernel
theorem dX3_areKin_30 : decode cX3_areKin 30 = .ok (.iload_n 2, 1) := by decide +kernel
theorem dX3_areKin_31 : decode cX3_areKin 31 = .ok (.invokevirtual 45, 3) := by decide +kernel
theorem dX3_areKin_34 : decode cX3_areKin 34 = .ok (.ifCond .ne 17, 3) := by decide +kernel
theorem dX3_areKin_37 : decode cX3_areKin 37 = .ok (.aload_n 0, 1) := by decide +kernel
theorem dX3_areKin_38 : decode cX3_areKin 38 = .ok (.aload_n 0, 1) := by decide +kernel
theorem dX3_areKin_39 : decode cX3_areKin 39 = .ok (.getfield 15, 3) := by decide +kernel
theorem dX3_areKin_42 : decode cX3_areKin 42 = .ok (.iload_n 1, 1) := by decide +kernel
theorem dX3_areKin_43 : decode cX3_areKin 43 = .ok (.iaload, 1) := by decide +kernel
theorem dX3_areKin_44 : decode cX3_areKin 44 = .ok (.iload_n 2, 1) := by decide +kernel
theorem dX3_areKin_45 : decode cX3_areKin 45 = .ok (.invokevirtual 45, 3) := by decide +kernel
theorem dX3_areKin_48 : decode cX3_areKin 48 = .ok (.ifCond .eq 7, 3) := by decide +kernel
theorem dX3_areKin_51 : decode cX3_areKin 51 = .ok (.iconst 1, 1) := by decide +kernel
theorem dX3_areKin_52 : decode cX3_areKin 52 = .ok (.goto 4, 3) := by decide +kernel
theorem dX3_areKin_55 : decode cX3_areKin 55 = .ok (.iconst 0, 1) := by decide +kernel
theorem dX3_areKin_56 : decode cX3_areKin 56 = .ok (.ireturn, 1) := by decide +kernel
theorem dX3_isParentOf_0 : decode cX3_isParentOf 0 = .ok (.aload_n 0, 1) := by decide +kernel
theorem dX3_isParentOf_1 : decode cX3_isParentOf 1 = .ok (.getfield 9, 3) := by decide +kernel
theorem dX3_isParentOf_4 : decode cX3_isParentOf 4 = .ok (.iload_n 2, 1) := by decide +kernel
theorem dX3_isParentOf_5 : decode cX3_isParentOf 5 = .ok (.iaload, 1) := by decide +kernel
theorem dX3_isParentOf_6 : decode cX3_isParentOf 6 = .ok (.iload_n 1, 1) := by decide +kernel
theorem dX3_isParentOf_7 : decode cX3_isParentOf 7 = .ok (.if_icmp .eq 13, 3) := by decide +kernel
theorem dX3_isParentOf_10 : decode cX3_isParentOf 10 = .ok (.aload_n 0, 1) := by decide +kernel
theorem dX3_isParentOf_11 : decode cX3_isParentOf 11 = .ok (.getfield 15, 3) := by decide +kernel
theorem dX3_isParentOf_14 : decode cX3_isParentOf 14 = .ok (.iload_n 2, 1) := by decide +kernel
theorem dX3_isParentOf_15 : decode cX3_isParentOf 15 = .ok (.iaload, 1) := by decide +kernel
theorem dX3_isParentOf_16 : decode cX3_isParentOf 16 = .ok (.iload_n 1, 1) := by decide +kernel
theorem dX3_isParentOf_17 : decode cX3_isParentOf 17 = .ok (.if_icmp .ne 7, 3) := by decide +kernel
theorem dX3_isParentOf_20 : decode cX3_isParentOf 20 = .ok (.iconst 1, 1) := by decide +kernel
theorem dX3_isParentOf_21 : decode cX3_isParentOf 21 = .ok (.goto 4, 3) := by decide +kernel
theorem dX3_isParentOf_24 : decode cX3_isParentOf 24 = .ok (.iconst 0, 1) := by decide +kernel
theorem dX3_isParentOf_25 : decode cX3_isParentOf 25 = .ok (.ireturn, 1) := by decide +kernel
theorem dX3_shareParent_0 : decode cX3_shareParent 0 = .ok (.iload_n 1, 1) := by decide +kernel
theorem dX3_shareParent_1 : decode cX3_shareParent 1 = .ok (.iconst (-1), 1) := by decide +kernel
theorem dX3_shareParent_2 : decode cX3_shareParent 2 = .ok (.if_icmp .eq 16, 3) := by decide +kernel
theorem dX3_shareParent_5 : decode cX3_shareParent 5 = .ok (.aload_n 0, 1) := by decide +kernel
theorem dX3_shareParent_6 : decode cX3_shareParent 6 = .ok (.iload_n 1, 1) := by decide +kernel
theorem dX3_shareParent_7 : decode cX3_shareParent 7 = .ok (.iload_n 2, 1) := by decide +kernel
theorem dX3_shareParent_8 : decode cX3_shareParent 8 = .ok (.invokevirtual 41, 3) := by decide +kernel
theorem dX3_shareParent_11 : decode cX3_shareParent 11 = .ok (.ifCond .eq 7, 3) := by decide +kernel
theorem dX3_shareParent_14 : decode cX3_shareParent 14 = .ok (.iconst 1, 1) := by decide +kernel
theorem dX3_shareParent_15 : decode cX3_shareParent 15 = .ok (.goto 4, 3) := by decide +kernel
theorem dX3_shareParent_18 : decode cX3_shareParent 18 = .ok (.iconst 0, 1) := by decide +kernel
theorem dX3_shareParent_19 : decode cX3_shareParent 19 = .ok (.ireturn, 1) := by decide +kernel
theorem dX3_isChildOfMaster_0 : decode cX3_isChildOfMaster 0 = .ok (.aload_n 0, 1) := by decide +kernel
theorem dX3_isChildOfMaster_1 : decode cX3_isChildOfMaster 1 = .ok (.aload_n 0, 1) := by decide +kernel
theorem dX3_isChildOfMaster_2 : decode cX3_isChildOfMaster 2 = .ok (.getfield 9, 3) := by decide +kernel
theorem dX3_isChildOfMaster_5 : decode cX3_isChildOfMaster 5 = .ok (.iload_n 1, 1) := by decide +kernel
theorem dX3_isChildOfMaster_6 : decode cX3_isChildOfMaster 6 = .ok (.iaload, 1) := by decide +kernel
theorem dX3_isChildOfMaster_7 : decode cX3_isChildOfMaster 7 = .ok (.iload_n 2, 1) := by decide +kernel
theorem dX3_isChildOfMaster_8 : decode cX3_isChildOfMaster 8 = .ok (.invokevirtual 48, 3) := by decide +kernel
theorem dX3_isChildOfMaster_11 : decode cX3_isChildOfMaster 11 = .ok (.ifCond .ne 17, 3) := by decide +kernel
theorem dX3_isChildOfMaster_14 : decode cX3_isChildOfMaster 14 = .ok (.aload_n 0, 1) := by decide +kernel
theorem dX3_isChildOfMaster_15 : decode cX3_isChildOfMaster 15 = .ok (.aload_n 0, 1) := by decide +kernel
theorem dX3_isChildOfMaster_16 : decode cX3_isChildOfMaster 16 = .ok (.getfield 15, 3) := by decide +kernel
theorem dX3_isChildOfMaster_19 : decode cX3_isChildOfMaster 19 = .ok (.iload_n 1, 1) := by decide +kernel
theorem dX3_isChildOfMaster_20 : decode cX3_isChildOfMaster 20 = .ok (.iaload, 1) := by decide +kernel
theorem dX3_isChildOfMaster_21 : decode cX3_isChildOfMaster 21 = .ok (.iload_n 2, 1) := by decide +kernel
theorem dX3_isChildOfMaster_22 : decode cX3_isChildOfMaster 22 = .ok (.invokevirtual 48, 3) := by decide +kernel
theorem dX3_isChildOfMaster_25 : decode cX3_isChildOfMaster 25 = .ok (.ifCond .eq 7, 3) := by decide +kernel
theorem dX3_isChildOfMaster_28 : decode cX3_isChildOfMaster 28 = .ok (.iconst 1, 1) := by decide +kernel
theorem dX3_isChildOfMaster_29 : decode cX3_isChildOfMaster 29 = .ok (.goto 4, 3) := by decide +kernel
theorem dX3_isChildOfMaster_32 : decode cX3_isChildOfMaster 32 = .ok (.iconst 0, 1) := by decide +kernel
theorem dX3_isChildOfMaster_33 : decode cX3_isChildOfMaster 33 = .ok (.ireturn, 1) := by decide +kernel
theorem dX3_wasMasterBy_0 : decode cX3_wasMasterBy 0 = .ok (.aload_n 0, 1) := by decide +kernel
theorem dX3_wasMasterBy_1 : decode cX3_wasMasterBy 1 = .ok (.iload_n 1, 1) := by decide +kernel
theorem dX3_wasMasterBy_2 : decode cX3_wasMasterBy 2 = .ok (.invokevirtual 34, 3) := by decide +kernel
theorem dX3_wasMasterBy_5 : decode cX3_wasMasterBy 5 = .ok (.ifCond .eq 27, 3) := by decide +kernel
theorem dX3_wasMasterBy_8 : decode cX3_wasMasterBy 8 = .ok (.aload_n 0, 1) := by decide +kernel
theorem dX3_wasMasterBy_9 : decode cX3_wasMasterBy 9 = .ok (.getfield 18, 3) := by decide +kernel
theorem dX3_wasMasterBy_12 : decode cX3_wasMasterBy 12 = .ok (.iload_n 1, 1) := by decide +kernel
theorem dX3_wasMasterBy_13 : decode cX3_wasMasterBy 13 = .ok (.iaload, 1) := by decide +kernel
theorem dX3_wasMasterBy_14 : decode cX3_wasMasterBy 14 = .ok (.iconst (-1), 1) := by decide +kernel
theorem dX3_wasMasterBy_15 : decode cX3_wasMasterBy 15 = .ok (.if_icmp .eq 17, 3) := by decide +kernel
theorem dX3_wasMasterBy_18 : decode cX3_wasMasterBy 18 = .ok (.aload_n 0, 1) := by decide +kernel
theorem dX3_wasMasterBy_19 : decode cX3_wasMasterBy 19 = .ok (.getfield 18, 3) := by decide +kernel
theorem dX3_wasMasterBy_22 : decode cX3_wasMasterBy 22 = .ok (.iload_n 1, 1) := by decide +kernel
theorem dX3_wasMasterBy_23 : decode cX3_wasMasterBy 23 = .ok (.iaload, 1) := by decide +kernel
theorem dX3_wasMasterBy_24 : decode cX3_wasMasterBy 24 = .ok (.iload_n 2, 1) := by decide +kernel
theorem dX3_wasMasterBy_25 : decode cX3_wasMasterBy 25 = .ok (.if_icmp .gt 7, 3) := by decide +kernel
theorem dX3_wasMasterBy_28 : decode cX3_wasMasterBy 28 = .ok (.iconst 1, 1) := by decide +kernel
theorem dX3_wasMasterBy_29 : decode cX3_wasMasterBy 29 = .ok (.goto 4, 3) := by decide +kernel
theorem dX3_wasMasterBy_32 : decode cX3_wasMasterBy 32 = .ok (.iconst 0, 1) := by decide +kernel
theorem dX3_wasMasterBy_33 : decode cX3_wasMasterBy 33 = .ok (.ireturn, 1) := by decide +kernel
theorem dX3_masters_0 : decode cX3_masters 0 = .ok (.iconst 0, 1) := by decide +kernel
theorem dX3_masters_1 : decode cX3_masters 1 = .ok (.istore_n 1, 1) := by decide +kernel
theorem dX3_masters_2 : decode cX3_masters 2 = .ok (.iconst 0, 1) := by decide +kernel
theorem dX3_masters_3 : decode cX3_masters 3 = .ok (.istore_n 2, 1) := by decide +kernel
theorem dX3_masters_4 : decode cX3_masters 4 = .ok (.iload_n 2, 1) := by decide +kernel
theorem dX3_masters_5 : decode cX3_masters 5 = .ok (.aload_n 0, 1) := by decide +kernel
theorem dX3_masters_6 : decode cX3_masters 6 = .ok (.getfield 30, 3) := by decide +kernel
theorem dX3_masters_9 : decode cX3_masters 9 = .ok (.if_icmp .ge 20, 3) := by decide +kernel
theorem dX3_masters_12 : decode cX3_masters 12 = .ok (.aload_n 0, 1) := by decide +kernel
theorem dX3_masters_13 : decode cX3_masters 13 = .ok (.iload_n 2, 1) := by decide +kernel
theorem dX3_masters_14 : decode cX3_masters 14 = .ok (.invokevirtual 51, 3) := by decide +kernel
theorem dX3_masters_17 : decode cX3_masters 17 = .ok (.ifCond .eq 6, 3) := by decide +kernel
theorem dX3_masters_20 : decode cX3_masters 20 = .ok (.iinc 1 1, 3) := by decide +kernel
theorem dX3_masters_23 : decode cX3_masters 23 = .ok (.iinc 2 1, 3) := by decide +kernel
theorem dX3_masters_26 : decode cX3_masters 26 = .ok (.goto (-22), 3) := by decide +kernel
theorem dX3_masters_29 : decode cX3_masters 29 = .ok (.iload_n 1, 1) := by decide +kernel
theorem dX3_masters_30 : decode cX3_masters 30 = .ok (.ireturn, 1) := by decide +kernel
theorem dX3_handsOf_0 : decode cX3_handsOf 0 = .ok (.iconst 0, 1) := by decide +kernel
theorem dX3_handsOf_1 : decode cX3_handsOf 1 = .ok (.istore_n 2, 1) := by decide +kernel
theorem dX3_handsOf_2 : decode cX3_handsOf 2 = .ok (.iconst 0, 1) := by decide +kernel
theorem dX3_handsOf_3 : decode cX3_handsOf 3 = .ok (.istore_n 3, 1) := by decide +kernel
theorem dX3_handsOf_4 : decode cX3_handsOf 4 = .ok (.iload_n 3, 1) := by decide +kernel
theorem dX3_handsOf_5 : decode cX3_handsOf 5 = .ok (.aload_n 0, 1) := by decide +kernel
theorem dX3_handsOf_6 : decode cX3_handsOf 6 = .ok (.getfield 30, 3) := by decide +kernel
theorem dX3_handsOf_9 : decode cX3_handsOf 9 = .ok (.if_icmp .ge 22, 3) := by decide +kernel
theorem dX3_handsOf_12 : decode cX3_handsOf 12 = .ok (.aload_n 0, 1) := by decide +kernel
theorem dX3_handsOf_13 : decode cX3_handsOf 13 = .ok (.getfield 24, 3) := by decide +kernel
theorem dX3_handsOf_16 : decode cX3_handsOf 16 = .ok (.iload_n 3, 1) := by decide +kernel
theorem dX3_handsOf_17 : decode cX3_handsOf 17 = .ok (.iaload, 1) := by decide +kernel
theorem dX3_handsOf_18 : decode cX3_handsOf 18 = .ok (.iload_n 1, 1) := by decide +kernel
theorem dX3_handsOf_19 : decode cX3_handsOf 19 = .ok (.if_icmp .ne 6, 3) := by decide +kernel
theorem dX3_handsOf_22 : decode cX3_handsOf 22 = .ok (.iinc 2 1, 3) := by decide +kernel
theorem dX3_handsOf_25 : decode cX3_handsOf 25 = .ok (.iinc 3 1, 3) := by decide +kernel
theorem dX3_handsOf_28 : decode cX3_handsOf 28 = .ok (.goto (-24), 3) := by decide +kernel
theorem dX3_handsOf_31 : decode cX3_handsOf 31 = .ok (.iload_n 2, 1) := by decide +kernel
theorem dX3_handsOf_32 : decode cX3_handsOf 32 = .ok (.ireturn, 1) := by decide +kernel
theorem dX3_allHands_0 : decode cX3_allHands 0 = .ok (.aload_n 0, 1) := by decide +kernel
theorem dX3_allHands_1 : decode cX3_allHands 1 = .ok (.getfield 30, 3) := by decide +kernel
theorem dX3_allHands_4 : decode cX3_allHands 4 = .ok (.aload_n 0, 1) := by decide +kernel
theorem dX3_allHands_5 : decode cX3_allHands 5 = .ok (.iconst (-1), 1) := by decide +kernel
theorem dX3_allHands_6 : decode cX3_allHands 6 = .ok (.invokevirtual 54, 3) := by decide +kernel
theorem dX3_allHands_9 : decode cX3_allHands 9 = .ok (.isub, 1) := by decide +kernel
theorem dX3_allHands_10 : decode cX3_allHands 10 = .ok (.ireturn, 1) := by decide +kernel
theorem dX4_init_0 : decode cX4_init 0 = .ok (.aload_n 0, 1) := by decide +kernel
theorem dX4_init_1 : decode cX4_init 1 = .ok (.invokespecial 5, 3) := by decide +kernel
theorem dX4_init_4 : decode cX4_init 4 = .ok (.aload_n 0, 1) := by decide +kernel
theorem dX4_init_5 : decode cX4_init 5 = .ok (.bipush 40, 2) := by decide +kernel
theorem dX4_init_7 : decode cX4_init 7 = .ok (.newarray .int, 2) := by decide +kernel
theorem dX4_init_9 : decode cX4_init 9 = .ok (.putfield 11, 3) := by decide +kernel
theorem dX4_init_12 : decode cX4_init 12 = .ok (.aload_n 0, 1) := by decide +kernel
theorem dX4_init_13 : decode cX4_init 13 = .ok (.bipush 40, 2) := by decide +kernel
theorem dX4_init_15 : decode cX4_init 15 = .ok (.newarray .int, 2) := by decide +kernel
theorem dX4_init_17 : decode cX4_init 17 = .ok (.putfield 15, 3) := by decide +kernel
theorem dX4_init_20 : decode cX4_init 20 = .ok (.aload_n 0, 1) := by decide +kernel
theorem dX4_init_21 : decode cX4_init 21 = .ok (.bipush 120, 2) := by decide +kernel
theorem dX4_init_23 : decode cX4_init 23 = .ok (.newarray .int, 2) := by decide +kernel
theorem dX4_init_25 : decode cX4_init 25 = .ok (.putfield 18, 3) := by decide +kernel
theorem dX4_init_28 : decode cX4_init 28 = .ok (.aload_n 0, 1) := by decide +kernel
theorem dX4_init_29 : decode cX4_init 29 = .ok (.sipush 480, 3) := by decide +kernel
theorem dX4_init_32 : decode cX4_init 32 = .ok (.newarray .int, 2) := by decide +kernel
theorem dX4_init_34 : decode cX4_init 34 = .ok (.putfield 21, 3) := by decide +kernel
theorem dX4_init_37 : decode cX4_init 37 = .ok (.aload_n 0, 1) := by decide +kernel
theorem dX4_init_38 : decode cX4_init 38 = .ok (.iconst 0, 1) := by decide +kernel
theorem dX4_init_39 : decode cX4_init 39 = .ok (.putfield 24, 3) := by decide +kernel
theorem dX4_init_42 : decode cX4_init 42 = .ok (.return_, 1) := by decide +kernel
theorem dX4_isFull_0 : decode cX4_isFull 0 = .ok (.aload_n 0, 1) := by decide +kernel
theorem dX4_isFull_1 : decode cX4_isFull 1 = .ok (.getfield 24, 3) := by decide +kernel
theorem dX4_isFull_4 : decode cX4_isFull 4 = .ok (.bipush 40, 2) := by decide +kernel
theorem dX4_isFull_6 : decode cX4_isFull 6 = .ok (.if_icmp .lt 7, 3) := by decide +kernel
theorem dX4_isFull_9 : decode cX4_isFull 9 = .ok (.iconst 1, 1) := by decide +kernel
theorem dX4_isFull_10 : decode cX4_isFull 10 = .ok (.goto 4, 3) := by decide +kernel
theorem dX4_isFull_13 : decode cX4_isFull 13 = .ok (.iconst 0, 1) := by decide +kernel
theorem dX4_isFull_14 : decode cX4_isFull 14 = .ok (.ireturn, 1) := by decide +kernel
theorem dX4_has_0 : decode cX4_has 0 = .ok (.iload_n 1, 1) := by decide +kernel
theorem dX4_has_1 : decode cX4_has 1 = .ok (.ifCond .lt 15, 3) := by decide +kernel
theorem dX4_has_4 : decode cX4_has 4 = .ok (.iload_n 1, 1) := by decide +kernel
theorem dX4_has_5 : decode cX4_has 5 = .ok (.aload_n 0, 1) := by decide +kernel
theorem dX4_has_6 : decode cX4_has 6 = .ok (.getfield 24, 3) := by decide +kernel
theorem dX4_has_9 : decode cX4_has 9 = .ok (.if_icmp .ge 7, 3) := by decide +kernel
theorem dX4_has_12 : decode cX4_has 12 = .ok (.iconst 1, 1) := by decide +kernel
theorem dX4_has_13 : decode cX4_has 13 = .ok (.goto 4, 3) := by decide +kernel
theorem dX4_has_16 : decode cX4_has 16 = .ok (.iconst 0, 1) := by decide +kernel
theorem dX4_has_17 : decode cX4_has 17 = .ok (.ireturn, 1) := by decide +kernel
theorem dX4_isJudge_0 : decode cX4_isJudge 0 = .ok (.iload_n 0, 1) := by decide +kernel
theorem dX4_isJudge_1 : decode cX4_isJudge 1 = .ok (.ifCond .lt 12, 3) := by decide +kernel
theorem dX4_isJudge_4 : decode cX4_isJudge 4 = .ok (.iload_n 0, 1) := by decide +kernel
theorem dX4_isJudge_5 : decode cX4_isJudge 5 = .ok (.iconst 3, 1) := by decide +kernel
theorem dX4_isJudge_6 : decode cX4_isJudge 6 = .ok (.if_icmp .ge 7, 3) := by decide +kernel
theorem dX4_isJudge_9 : decode cX4_isJudge 9 = .ok (.iconst 1, 1) := by decide +kernel
theorem dX4_isJudge_10 : decode cX4_isJudge 10 = .ok (.goto 4, 3) := by decide +kernel
theorem dX4_isJudge_13 : decode cX4_isJudge 13 = .ok (.iconst 0, 1) := by decide +kernel
theorem dX4_isJudge_14 : decode cX4_isJudge 14 = .ok (.ireturn, 1) := by decide +kernel
theorem dX4_isPart_0 : decode cX4_isPart 0 = .ok (.iload_n 0, 1) := by decide +kernel
theorem dX4_isPart_1 : decode cX4_isPart 1 = .ok (.ifCond .lt 12, 3) := by decide +kernel
theorem dX4_isPart_4 : decode cX4_isPart 4 = .ok (.iload_n 0, 1) := by decide +kernel
theorem dX4_isPart_5 : decode cX4_isPart 5 = .ok (.iconst 4, 1) := by decide +kernel
theorem dX4_isPart_6 : decode cX4_isPart 6 = .ok (.if_icmp .ge 7, 3) := by decide +kernel
theorem dX4_isPart_9 : decode cX4_isPart 9 = .ok (.iconst 1, 1) := by decide +kernel
theorem dX4_isPart_10 : decode cX4_isPart 10 = .ok (.goto 4, 3) := by decide +kernel
theorem dX4_isPart_13 : decode cX4_isPart 13 = .ok (.iconst 0, 1) := by decide +kernel
theorem dX4_isPart_14 : decode cX4_isPart 14 = .ok (.ireturn, 1) := by decide +kernel
theorem dX4_isDone_0 : decode cX4_isDone 0 = .ok (.aload_n 0, 1) := by decide +kernel
theorem dX4_isDone_1 : decode cX4_isDone 1 = .ok (.getfield 15, 3) := by decide +kernel
theorem dX4_isDone_4 : decode cX4_isDone 4 = .ok (.iload_n 1, 1) := by decide +kernel
theorem dX4_isDone_5 : decode cX4_isDone 5 = .ok (.iaload, 1) := by decide +kernel
theorem dX4_isDone_6 : decode cX4_isDone 6 = .ok (.iconst (-1), 1) := by decide +kernel
theorem dX4_isDone_7 : decode cX4_isDone 7 = .ok (.if_icmp .eq 7, 3) := by decide +kernel
theorem dX4_isDone_10 : decode cX4_isDone 10 = .ok (.iconst 1, 1) := by decide +kernel
theorem dX4_isDone_11 : decode cX4_isDone 11 = .ok (.goto 4, 3) := by decide +kernel
theorem dX4_isDone_14 : decode cX4_isDone 14 = .ok (.iconst 0, 1) := by decide +kernel
theorem dX4_isDone_15 : decode cX4_isDone 15 = .ok (.ireturn, 1) := by decide +kernel
theorem dX4_isPassed_0 : decode cX4_isPassed 0 = .ok (.aload_n 0, 1) := by decide +kernel
theorem dX4_isPassed_1 : decode cX4_isPassed 1 = .ok (.iload_n 1, 1) := by decide +kernel
theorem dX4_isPassed_2 : decode cX4_isPassed 2 = .ok (.invokevirtual 28, 3) := by decide +kernel
theorem dX4_isPassed_5 : decode cX4_isPassed 5 = .ok (.ifCond .eq 16, 3) := by decide +kernel
theorem dX4_isPassed_8 : decode cX4_isPassed 8 = .ok (.aload_n 0, 1) := by decide +kernel
theorem dX4_isPassed_9 : decode cX4_isPassed 9 = .ok (.iload_n 1, 1) := by decide +kernel
theorem dX4_isPassed_10 : decode cX4_isPassed 10 = .ok (.invokevirtual 32, 3) := by decide +kernel
theorem dX4_isPassed_13 : decode cX4_isPassed 13 = .ok (.iconst (-1), 1) := by decide +kernel
theorem dX4_isPassed_14 : decode cX4_isPassed 14 = .ok (.if_icmp .ne 7, 3) := by decide +kernel
theorem dX4_isPassed_17 : decode cX4_isPassed 17 = .ok (.iconst 1, 1) := by decide +kernel
theorem dX4_isPassed_18 : decode cX4_isPassed 18 = .ok (.goto 4, 3) := by decide +kernel
theorem dX4_isPassed_21 : decode cX4_isPassed 21 = .ok (.iconst 0, 1) := by decide +kernel
theorem dX4_isPassed_22 : decode cX4_isPassed 22 = .ok (.ireturn, 1) := by decide +kernel
theorem dX4_hasOpen_0 : decode cX4_hasOpen 0 = .ok (.iconst 0, 1) := by decide +kernel
theorem dX4_hasOpen_1 : decode cX4_hasOpen 1 = .ok (.istore_n 2, 1) := by decide +kernel
theorem dX4_hasOpen_2 : decode cX4_hasOpen 2 = .ok (.iload_n 2, 1) := by decide +kernel
theorem dX4_hasOpen_3 : decode cX4_hasOpen 3 = .ok (.aload_n 0, 1) := by decide +kernel
theorem dX4_hasOpen_4 : decode cX4_hasOpen 4 = .ok (.getfield 24, 3) := by decide +kernel
theorem dX4_hasOpen_7 : decode cX4_hasOpen 7 = .ok (.if_icmp .ge 29, 3) := by decide +kernel
theorem dX4_hasOpen_10 : decode cX4_hasOpen 10 = .ok (.aload_n 0, 1) := by decide +kernel
theorem dX4_hasOpen_11 : decode cX4_hasOpen 11 = .ok (.getfield 11, 3) := by decide +kernel
theorem dX4_hasOpen_14 : decode cX4_hasOpen 14 = .ok (.iload_n 2, 1) := by decide +kernel
theorem dX4_hasOpen_15 : decode cX4_hasOpen 15 = .ok (.iaload, 1) := by decide +kernel
theorem dX4_hasOpen_16 : decode cX4_hasOpen 16 = .ok (.iload_n 1, 1) := by decide +kernel
theorem dX4_hasOpen_17 : decode cX4_hasOpen 17 = .ok (.if_icmp .ne 13, 3) := by decide +kernel
theorem dX4_hasOpen_20 : decode cX4_hasOpen 20 = .ok (.aload_n 0, 1) := by decide +kernel
theorem dX4_hasOpen_21 : decode cX4_hasOpen 21 = .ok (.iload_n 2, 1) := by decide +kernel
theorem dX4_hasOpen_22 : decode cX4_hasOpen 22 = .ok (.invokevirtual 28, 3) := by decide +kernel
theorem dX4_hasOpen_25 : decode cX4_hasOpen 25 = .ok (.ifCond .ne 5, 3) := by decide +kernel
theorem dX4_hasOpen_28 : decode cX4_hasOpen 28 = .ok (.iconst 1, 1) := by decide +kernel
theorem dX4_hasOpen_29 : decode cX4_hasOpen 29 = .ok (.ireturn, 1) := by decide +kernel
theorem dX4_hasOpen_30 : decode cX4_hasOpen 30 = .ok (.iinc 2 1, 3) := by decide +kernel
theorem dX4_hasOpen_33 : decode cX4_hasOpen 33 = .ok (.goto (-31), 3) := by decide +kernel
theorem dX4_hasOpen_36 : decode cX4_hasOpen 36 = .ok (.iconst 0, 1) := by decide +kernel
theorem dX4_hasOpen_37 : decode cX4_hasOpen 37 = .ok (.ireturn, 1) := by decide +kernel
theorem dX4_judgeOf_0 : decode cX4_judgeOf 0 = .ok (.aload_n 0, 1) := by decide +kernel
theorem dX4_judgeOf_1 : decode cX4_judgeOf 1 = .ok (.getfield 18, 3) := by decide +kernel
theorem dX4_judgeOf_4 : decode cX4_judgeOf 4 = .ok (.iload_n 1, 1) := by decide +kernel
theorem dX4_judgeOf_5 : decode cX4_judgeOf 5 = .ok (.iconst 3, 1) := by decide +kernel
theorem dX4_judgeOf_6 : decode cX4_judgeOf 6 = .ok (.imul, 1) := by decide +kernel
theorem dX4_judgeOf_7 : decode cX4_judgeOf 7 = .ok (.iload_n 2, 1) := by decide +kernel
theorem dX4_judgeOf_8 : decode cX4_judgeOf 8 = .ok (.iadd, 1) := by decide +kernel
theorem dX4_judgeOf_9 : decode cX4_judgeOf 9 = .ok (.iaload, 1) := by decide +kernel
theorem dX4_judgeOf_10 : decode cX4_judgeOf 10 = .ok (.ireturn, 1) := by decide +kernel
theorem dX4_add_0 : decode cX4_add 0 = .ok (.aload_n 0, 1) := by decide +kernel
theorem dX4_add_1 : decode cX4_add 1 = .ok (.getfield 24, 3) := by decide +kernel
theorem dX4_add_4 : decode cX4_add 4 = .ok (.istore 6, 2) := by decide +kernel
theorem dX4_add_6 : decode cX4_add 6 = .ok (.aload_n 0, 1) := by decide +kernel
theorem dX4_add_7 : decode cX4_add 7 = .ok (.getfield 11, 3) := by decide +kernel
theorem dX4_add_10 : decode cX4_add 10 = .ok (.iload 6, 2) := by decide +kernel
theorem dX4_add_12 : decode cX4_add 12 = .ok (.iload_n 1, 1) := by decide +kernel
theorem dX4_add_13 : decode cX4_add 13 = .ok (.iastore, 1) := by decide +kernel
theorem dX4_add_14 : decode cX4_add 14 = .ok (.aload_n 0, 1) := by decide +kernel
theorem dX4_add_15 : decode cX4_add 15 = .ok (.getfield 15, 3) := by decide +kernel
theorem dX4_add_18 : decode cX4_add 18 = .ok (.iload 6, 2) := by decide +kernel
theorem dX4_add_20 : decode cX4_add 20 = .ok (.iconst (-1), 1) := by decide +kernel
theorem dX4_add_21 : decode cX4_add 21 = .ok (.iastore, 1) := by decide +kernel
theorem dX4_add_22 : decode cX4_add 22 = .ok (.iconst 0, 1) := by decide +kernel
theorem dX4_add_23 : decode cX4_add 23 = .ok (.istore 7, 2) := by decide +kernel
theorem dX4_add_25 : decode cX4_add 25 = .ok (.iload 7, 2) := by decide +kernel
theorem dX4_add_27 : decode cX4_add 27 = .ok (.bipush 12, 2) := by decide +kernel
theorem dX4_add_29 : decode cX4_add 29 = .ok (.if_icmp .ge 23, 3) := by decide +kernel
theorem dX4_add_32 : decode cX4_add 32 = .ok (.aload_n 0, 1) := by decide +kernel
theorem dX4_add_33 : decode cX4_add 33 = .ok (.getfield 21, 3) := by decide +kernel
theorem dX4_add_36 : decode cX4_add 36 = .ok (.iload 6, 2) := by decide +kernel
theorem dX4_add_38 : decode cX4_add 38 = .ok (.bipush 12, 2) := by decide +kernel
theorem dX4_add_40 : decode cX4_add 40 = .ok (.imul, 1) := by decide +kernel
theorem dX4_add_41 : decode cX4_add 41 = .ok (.iload 7, 2) := by decide +kernel
theorem dX4_add_43 : decode cX4_add 43 = .ok (.iadd, 1) := by decide +kernel
theorem dX4_add_44 : decode cX4_add 44 = .ok (.iconst (-1), 1) := by decide +kernel
theorem dX4_add_45 : decode cX4_add 45 = .ok (.iastore, 1) := by decide +kernel
theorem dX4_add_46 : decode cX4_add 46 = .ok (.iinc 7 1, 3) := by decide +kernel
theorem dX4_add_49 : decode cX4_add 49 = .ok (.goto (-24), 3) := by decide +kernel
theorem dX4_add_52 : decode cX4_add 52 = .ok (.aload_n 0, 1) := by decide +kernel
theorem dX4_add_53 : decode cX4_add 53 = .ok (.iload 6, 2) := by decide +kernel
theorem dX4_add_55 : decode cX4_add 55 = .ok (.aload_n 2, 1) := by decide +kernel
theorem dX4_add_56 : decode cX4_add 56 = .ok (.iload_n 3, 1) := by decide +kernel
theorem dX4_add_57 : decode cX4_add 57 = .ok (.lload 4, 2) := by decide +kernel
theorem dX4_add_59 : decode cX4_add 59 = .ok (.invokevirtual 36, 3) := by decide +kernel
theorem dX4_add_62 : decode cX4_add 62 = .ok (.aload_n 0, 1) := by decide +kernel
theorem dX4_add_63 : decode cX4_add 63 = .ok (.dup, 1) := by decide +kernel
theorem dX4_add_64 : decode cX4_add 64 = .ok (.getfield 24, 3) := by decide +kernel
theorem dX4_add_67 : decode cX4_add 67 = .ok (.iconst 1, 1) := by decide +kernel
theorem dX4_add_68 : decode cX4_add 68 = .ok (.iadd, 1) := by decide +kernel
theorem dX4_add_69 : decode cX4_add 69 = .ok (.putfield 24, 3) := by decide +kernel
theorem dX4_add_72 : decode cX4_add 72 = .ok (.iload 6, 2) := by decide +kernel
theorem dX4_add_74 : decode cX4_add 74 = .ok (.ireturn, 1) := by decide +kernel
theorem dX4_drawJudges_0 : decode cX4_drawJudges 0 = .ok (.lload 4, 2) := by decide +kernel
theorem dX4_drawJudges_2 : decode cX4_drawJudges 2 = .ok (.lstore 6, 2) := by decide +kernel
theorem dX4_drawJudges_4 : decode cX4_drawJudges 4 = .ok (.iload_n 3, 1) := by decide +kernel
theorem dX4_drawJudges_5 : decode cX4_drawJudges 5 = .ok (.istore 8, 2) := by decide +kernel
theorem dX4_drawJudges_7 : decode cX4_drawJudges 7 = .ok (.iconst 0, 1) := by decide +kernel
theorem dX4_drawJudges_8 : decode cX4_drawJudges 8 = .ok (.istore 9, 2) := by decide +kernel
theorem dX4_drawJudges_10 : decode cX4_drawJudges 10 = .ok (.iload 9, 2) := by decide +kernel
theorem dX4_drawJudges_12 : decode cX4_drawJudges 12 = .ok (.iconst 3, 1) := by decide +kernel
theorem dX4_drawJudges_13 : decode cX4_drawJudges 13 = .ok (.if_icmp .ge 83, 3) := by decide +kernel
theorem dX4_drawJudges_16 : decode cX4_drawJudges 16 = .ok (.iload 8, 2) := by decide +kernel
theorem dX4_drawJudges_18 : decode cX4_drawJudges 18 = .ok (.ifCond .le 78, 3) := by decide +kernel
theorem dX4_drawJudges_21 : decode cX4_drawJudges 21 = .ok (.lload 6, 2) := by decide +kernel
theorem dX4_drawJudges_23 : decode cX4_drawJudges 23 = .ok (.ldc2_w 40, 3) := by decide +kernel
theorem dX4_drawJudges_26 : decode cX4_drawJudges 26 = .ok (.lmul, 1) := by decide +kernel
theorem dX4_drawJudges_27 : decode cX4_drawJudges 27 = .ok (.ldc2_w 42, 3) := by decide +kernel
theorem dX4_drawJudges_30 : decode cX4_drawJudges 30 = .ok (.ladd, 1) := by decide +kernel
theorem dX4_drawJudges_31 : decode cX4_drawJudges 31 = .ok (.lstore 6, 2) := by decide +kernel
theorem dX4_drawJudges_33 : decode cX4_drawJudges 33 = .ok (.lload 6, 2) := by decide +kernel
theorem dX4_drawJudges_35 : decode cX4_drawJudges 35 = .ok (.bipush 33, 2) := by decide +kernel
theorem dX4_drawJudges_37 : decode cX4_drawJudges 37 = .ok (.lushr, 1) := by decide +kernel
theorem dX4_drawJudges_38 : decode cX4_drawJudges 38 = .ok (.iload 8, 2) := by decide +kernel
theorem dX4_drawJudges_40 : decode cX4_drawJudges 40 = .ok (.i2l, 1) := by decide +kernel
theorem dX4_drawJudges_41 : decode cX4_drawJudges 41 = .ok (.lrem, 1) := by decide +kernel
theorem dX4_drawJudges_42 : decode cX4_drawJudges 42 = .ok (.l2i, 1) := by decide +kernel
theorem dX4_drawJudges_43 : decode cX4_drawJudges 43 = .ok (.istore 10, 2) := by decide +kernel
theorem dX4_drawJudges_45 : decode cX4_drawJudges 45 = .ok (.aload_n 0, 1) := by decide +kernel
theorem dX4_drawJudges_46 : decode cX4_drawJudges 46 = .ok (.getfield 18, 3) := by decide +kernel
theorem dX4_drawJudges_49 : decode cX4_drawJudges 49 = .ok (.iload_n 1, 1) := by decide +kernel
theorem dX4_drawJudges_50 : decode cX4_drawJudges 50 = .ok (.iconst 3, 1) := by decide +kernel
theorem dX4_drawJudges_51 : decode cX4_drawJudges 51 = .ok (.imul, 1) := by decide +kernel
theorem dX4_drawJudges_52 : decode cX4_drawJudges 52 = .ok (.iload 9, 2) := by decide +kernel
theorem dX4_drawJudges_54 : decode cX4_drawJudges 54 = .ok (.iadd, 1) := by decide +kernel
theorem dX4_drawJudges_55 : decode cX4_drawJudges 55 = .ok (.aload_n 2, 1) := by decide +kernel
theorem dX4_drawJudges_56 : decode cX4_drawJudges 56 = .ok (.iload 10, 2) := by decide +kernel
theorem dX4_drawJudges_58 : decode cX4_drawJudges 58 = .ok (.iaload, 1) := by decide +kernel
theorem dX4_drawJudges_59 : decode cX4_drawJudges 59 = .ok (.iastore, 1) := by decide +kernel
theorem dX4_drawJudges_60 : decode cX4_drawJudges 60 = .ok (.iinc 8 (-1), 3) := by decide +kernel
theorem dX4_drawJudges_63 : decode cX4_drawJudges 63 = .ok (.iload 10, 2) := by decide +kernel
theorem dX4_drawJudges_65 : decode cX4_drawJudges 65 = .ok (.istore 11, 2) := by decide +kernel
theorem dX4_drawJudges_67 : decode cX4_drawJudges 67 = .ok (.iload 11, 2) := by decide +kernel
theorem dX4_drawJudges_69 : decode cX4_drawJudges 69 = .ok (.iload 8, 2) := by decide +kernel
theorem dX4_drawJudges_71 : decode cX4_drawJudges 71 = .ok (.if_icmp .ge 19, 3) := by decide +kernel
theorem dX4_drawJudges_74 : decode cX4_drawJudges 74 = .ok (.aload_n 2, 1) := by decide +kernel
theorem dX4_drawJudges_75 : decode cX4_drawJudges 75 = .ok (.iload 11, 2) := by decide +kernel
theorem dX4_drawJudges_77 : decode cX4_drawJudges 77 = .ok (.aload_n 2, 1) := by decide +kernel
theorem dX4_drawJudges_78 : decode cX4_drawJudges 78 = .ok (.iload 11, 2) := by decide +kernel
theorem dX4_drawJudges_80 : decode cX4_drawJudges 80 = .ok (.iconst 1, 1) := by decide +kernel
theorem dX4_drawJudges_81 : decode cX4_drawJudges 81 = .ok (.iadd, 1) := by decide +kernel
theorem dX4_drawJudges_82 : decode cX4_drawJudges 82 = .ok (.iaload, 1) := by decide +kernel
theorem dX4_drawJudges_83 : decode cX4_drawJudges 83 = .ok (.iastore, 1) := by decide +kernel
theorem dX4_drawJudges_84 : decode cX4_drawJudges 84 = .ok (.iinc 11 1, 3) := by decide +kernel
theorem dX4_drawJudges_87 : decode cX4_drawJudges 87 = .ok (.goto (-20), 3) := by decide +kernel
theorem dX4_drawJudges_90 : decode cX4_drawJudges 90 = .ok (.iinc 9 1, 3) := by decide +kernel
theorem dX4_drawJudges_93 : decode cX4_drawJudges 93 = .ok (.goto (-83), 3) := by decide +kernel
theorem dX4_drawJudges_96 : decode cX4_drawJudges 96 = .ok (.return_, 1) := by decide +kernel
theorem dX4_setPoints_0 : decode cX4_setPoints 0 = .ok (.aload_n 0, 1) := by decide +kernel
theorem dX4_setPoints_1 : decode cX4_setPoints 1 = .ok (.getfield 21, 3) := by decide +kernel
theorem dX4_setPoints_4 : decode cX4_setPoints 4 = .ok (.iload_n 1, 1) := by decide +kernel
theorem dX4_setPoints_5 : decode cX4_setPoints 5 = .ok (.bipush 12, 2) := by decide +kernel
theorem dX4_setPoints_7 : decode cX4_setPoints 7 = .ok (.imul, 1) := by decide +kernel
theorem dX4_setPoints_8 : decode cX4_setPoints 8 = .ok (.iload_n 2, 1) := by decide +kernel
theorem dX4_setPoints_9 : decode cX4_setPoints 9 = .ok (.iconst 4, 1) := by decide +kernel
theorem dX4_setPoints_10 : decode cX4_setPoints 10 = .ok (.imul, 1) := by decide +kernel
theorem dX4_setPoints_11 : decode cX4_setPoints 11 = .ok (.iadd, 1) := by decide +kernel
theorem dX4_setPoints_12 : decode cX4_setPoints 12 = .ok (.iload_n 3, 1) := by decide +kernel
theorem dX4_setPoints_13 : decode cX4_setPoints 13 = .ok (.iadd, 1) := by decide +kernel
theorem dX4_setPoints_14 : decode cX4_setPoints 14 = .ok (.iload 4, 2) := by decide +kernel
theorem dX4_setPoints_16 : decode cX4_setPoints 16 = .ok (.iastore, 1) := by decide +kernel
theorem dX4_setPoints_17 : decode cX4_setPoints 17 = .ok (.aload_n 0, 1) := by decide +kernel
theorem dX4_setPoints_18 : decode cX4_setPoints 18 = .ok (.iload_n 1, 1) := by decide +kernel
theorem dX4_setPoints_19 : decode cX4_setPoints 19 = .ok (.invokevirtual 44, 3) := by decide +kernel
theorem dX4_setPoints_22 : decode cX4_setPoints 22 = .ok (.ifCond .eq 11, 3) := by decide +kernel
theorem dX4_setPoints_25 : decode cX4_setPoints 25 = .ok (.aload_n 0, 1) := by decide +kernel
theorem dX4_setPoints_26 : decode cX4_setPoints 26 = .ok (.getfield 15, 3) := by decide +kernel
theorem dX4_setPoints_29 : decode cX4_setPoints 29 = .ok (.iload_n 1, 1) := by decide +kernel
theorem dX4_setPoints_30 : decode cX4_setPoints 30 = .ok (.iload 5, 2) := by decide +kernel
theorem dX4_setPoints_32 : decode cX4_setPoints 32 = .ok (.iastore, 1) := by decide +kernel
theorem dX4_setPoints_33 : decode cX4_setPoints 33 = .ok (.return_, 1) := by decide +kernel
theorem dX4_allGiven_0 : decode cX4_allGiven 0 = .ok (.iconst 0, 1) := by decide +kernel
theorem dX4_allGiven_1 : decode cX4_allGiven 1 = .ok (.istore_n 2, 1) := by decide +kernel
theorem dX4_allGiven_2 : decode cX4_allGiven 2 = .ok (.iload_n 2, 1) := by decide +kernel
theorem dX4_allGiven_3 : decode cX4_allGiven 3 = .ok (.bipush 12, 2) := by decide +kernel
theorem dX4_allGiven_5 : decode cX4_allGiven 5 = .ok (.if_icmp .ge 26, 3) := by decide +kernel
theorem dX4_allGiven_8 : decode cX4_allGiven 8 = .ok (.aload_n 0, 1) := by decide +kernel
theorem dX4_allGiven_9 : decode cX4_allGiven 9 = .ok (.getfield 21, 3) := by decide +kernel
theorem dX4_allGiven_12 : decode cX4_allGiven 12 = .ok (.iload_n 1, 1) := by decide +kernel
theorem dX4_allGiven_13 : decode cX4_allGiven 13 = .ok (.bipush 12, 2) := by decide +kernel
theorem dX4_allGiven_15 : decode cX4_allGiven 15 = .ok (.imul, 1) := by decide +kernel
theorem dX4_allGiven_16 : decode cX4_allGiven 16 = .ok (.iload_n 2, 1) := by decide +kernel
theorem dX4_allGiven_17 : decode cX4_allGiven 17 = .ok (.iadd, 1) := by decide +kernel
theorem dX4_allGiven_18 : decode cX4_allGiven 18 = .ok (.iaload, 1) := by decide +kernel
theorem dX4_allGiven_19 : decode cX4_allGiven 19 = .ok (.iconst (-1), 1) := by decide +kernel
theorem dX4_allGiven_20 : decode cX4_allGiven 20 = .ok (.if_icmp .ne 5, 3) := by decide +kernel
theorem dX4_allGiven_23 : decode cX4_allGiven 23 = .ok (.iconst 0, 1) := by decide +kernel
theorem dX4_allGiven_24 : decode cX4_allGiven 24 = .ok (.ireturn, 1) := by decide +kernel
theorem dX4_allGiven_25 : decode cX4_allGiven 25 = .ok (.iinc 2 1, 3) := by decide +kernel
theorem dX4_allGiven_28 : decode cX4_allGiven 28 = .ok (.goto (-26), 3) := by decide +kernel
theorem dX4_allGiven_31 : decode cX4_allGiven 31 = .ok (.iconst 1, 1) := by decide +kernel
theorem dX4_allGiven_32 : decode cX4_allGiven 32 = .ok (.ireturn, 1) := by decide +kernel
theorem dX4_markOf_0 : decode cX4_markOf 0 = .ok (.iconst 0, 1) := by decide +kernel
theorem dX4_markOf_1 : decode cX4_markOf 1 = .ok (.istore_n 2, 1) := by decide +kernel
theorem dX4_markOf_2 : decode cX4_markOf 2 = .ok (.iconst 0, 1) := by decide +kernel
theorem dX4_markOf_3 : decode cX4_markOf 3 = .ok (.istore_n 3, 1) := by decide +kernel
theorem dX4_markOf_4 : decode cX4_markOf 4 = .ok (.iload_n 3, 1) := by decide +kernel
theorem dX4_markOf_5 : decode cX4_markOf 5 = .ok (.iconst 4, 1) := by decide +kernel
theorem dX4_markOf_6 : decode cX4_markOf 6 = .ok (.if_icmp .ge 18, 3) := by decide +kernel
theorem dX4_markOf_9 : decode cX4_markOf 9 = .ok (.iload_n 2, 1) := by decide +kernel
theorem dX4_markOf_10 : decode cX4_markOf 10 = .ok (.aload_n 0, 1) := by decide +kernel
theorem dX4_markOf_11 : decode cX4_markOf 11 = .ok (.iload_n 1, 1) := by decide +kernel
theorem dX4_markOf_12 : decode cX4_markOf 12 = .ok (.iload_n 3, 1) := by decide +kernel
theorem dX4_markOf_13 : decode cX4_markOf 13 = .ok (.invokevirtual 47, 3) := by decide +kernel
theorem dX4_markOf_16 : decode cX4_markOf 16 = .ok (.iadd, 1) := by decide +kernel
theorem dX4_markOf_17 : decode cX4_markOf 17 = .ok (.istore_n 2, 1) := by decide +kernel
theorem dX4_markOf_18 : decode cX4_markOf 18 = .ok (.iinc 3 1, 3) := by decide +kernel
theorem dX4_markOf_21 : decode cX4_markOf 21 = .ok (.goto (-17), 3) := by decide +kernel
theorem dX4_markOf_24 : decode cX4_markOf 24 = .ok (.iload_n 2, 1) := by decide +kernel
theorem dX4_markOf_25 : decode cX4_markOf 25 = .ok (.bipush 12, 2) := by decide +kernel
theorem dX4_markOf_27 : decode cX4_markOf 27 = .ok (.idiv, 1) := by decide +kernel
theorem dX4_markOf_28 : decode cX4_markOf 28 = .ok (.ireturn, 1) := by decide +kernel
theorem dX4_refusedPart_0 : decode cX4_refusedPart 0 = .ok (.iconst 0, 1) := by decide +kernel
theorem dX4_refusedPart_1 : decode cX4_refusedPart 1 = .ok (.istore_n 2, 1) := by decide +kernel
theorem dX4_refusedPart_2 : decode cX4_refusedPart 2 = .ok (.iload_n 2, 1) := by decide +kernel
theorem dX4_refusedPart_3 : decode cX4_refusedPart 3 = .ok (.iconst 4, 1) := by decide +kernel
theorem dX4_refusedPart_4 : decode cX4_refusedPart 4 = .ok (.if_icmp .ge 22, 3) := by decide +kernel
theorem dX4_refusedPart_7 : decode cX4_refusedPart 7 = .ok (.aload_n 0, 1) := by decide +kernel
theorem dX4_refusedPart_8 : decode cX4_refusedPart 8 = .ok (.iload_n 1, 1) := by decide +kernel
theorem dX4_refusedPart_9 : decode cX4_refusedPart 9 = .ok (.iload_n 2, 1) := by decide +kernel
theorem dX4_refusedPart_10 : decode cX4_refusedPart 10 = .ok (.invokevirtual 47, 3) := by decide +kernel
theorem dX4_refusedPart_13 : decode cX4_refusedPart 13 = .ok (.bipush 15, 2) := by decide +kernel
theorem dX4_refusedPart_15 : decode cX4_refusedPart 15 = .ok (.if_icmp .ge 5, 3) := by decide +kernel
theorem dX4_refusedPart_18 : decode cX4_refusedPart 18 = .ok (.iload_n 2, 1) := by decide +kernel
theorem dX4_refusedPart_19 : decode cX4_refusedPart 19 = .ok (.ireturn, 1) := by decide +kernel
theorem dX4_refusedPart_20 : decode cX4_refusedPart 20 = .ok (.iinc 2 1, 3) := by decide +kernel
theorem dX4_refusedPart_23 : decode cX4_refusedPart 23 = .ok (.goto (-21), 3) := by decide +kernel
theorem dX4_refusedPart_26 : decode cX4_refusedPart 26 = .ok (.iconst (-1), 1) := by decide +kernel
theorem dX4_refusedPart_27 : decode cX4_refusedPart 27 = .ok (.ireturn, 1) := by decide +kernel
theorem dX4_sumOfPart_0 : decode cX4_sumOfPart 0 = .ok (.iconst 0, 1) := by decide +kernel
theorem dX4_sumOfPart_1 : decode cX4_sumOfPart 1 = .ok (.istore_n 3, 1) := by decide +kernel
theorem dX4_sumOfPart_2 : decode cX4_sumOfPart 2 = .ok (.iconst 0, 1) := by decide +kernel
theorem dX4_sumOfPart_3 : decode cX4_sumOfPart 3 = .ok (.istore 4, 2) := by decide +kernel
theorem dX4_sumOfPart_5 : decode cX4_sumOfPart 5 = .ok (.iload 4, 2) := by decide +kernel
theorem dX4_sumOfPart_7 : decode cX4_sumOfPart 7 = .ok (.iconst 3, 1) := by decide +kernel
theorem dX4_sumOfPart_8 : decode cX4_sumOfPart 8 = .ok (.if_icmp .ge 28, 3) := by decide +kernel
theorem dX4_sumOfPart_11 : decode cX4_sumOfPart 11 = .ok (.iload_n 3, 1) := by decide +kernel
theorem dX4_sumOfPart_12 : decode cX4_sumOfPart 12 = .ok (.aload_n 0, 1) := by decide +kernel
theorem dX4_sumOfPart_13 : decode cX4_sumOfPart 13 = .ok (.getfield 21, 3) := by decide +kernel
theorem dX4_sumOfPart_16 : decode cX4_sumOfPart 16 = .ok (.iload_n 1, 1) := by decide +kernel
theorem dX4_sumOfPart_17 : decode cX4_sumOfPart 17 = .ok (.bipush 12, 2) := by decide +kernel
theorem dX4_sumOfPart_19 : decode cX4_sumOfPart 19 = .ok (.imul, 1) := by decide +kernel
theorem dX4_sumOfPart_20 : decode cX4_sumOfPart 20 = .ok (.iload 4, 2) := by decide +kernel
theorem dX4_sumOfPart_22 : decode cX4_sumOfPart 22 = .ok (.iconst 4, 1) := by decide +kernel
theorem dX4_sumOfPart_23 : decode cX4_sumOfPart 23 = .ok (.imul, 1) := by decide +kernel
theorem dX4_sumOfPart_24 : decode cX4_sumOfPart 24 = .ok (.iadd, 1) := by decide +kernel
theorem dX4_sumOfPart_25 : decode cX4_sumOfPart 25 = .ok (.iload_n 2, 1) := by decide +kernel
theorem dX4_sumOfPart_26 : decode cX4_sumOfPart 26 = .ok (.iadd, 1) := by decide +kernel
theorem dX4_sumOfPart_27 : decode cX4_sumOfPart 27 = .ok (.iaload, 1) := by decide +kernel
theorem dX4_sumOfPart_28 : decode cX4_sumOfPart 28 = .ok (.iadd, 1) := by decide +kernel
theorem dX4_sumOfPart_29 : decode cX4_sumOfPart 29 = .ok (.istore_n 3, 1) := by decide +kernel
theorem dX4_sumOfPart_30 : decode cX4_sumOfPart 30 = .ok (.iinc 4 1, 3) := by decide +kernel
theorem dX4_sumOfPart_33 : decode cX4_sumOfPart 33 = .ok (.goto (-28), 3) := by decide +kernel
theorem dX4_sumOfPart_36 : decode cX4_sumOfPart 36 = .ok (.iload_n 3, 1) := by decide +kernel
theorem dX4_sumOfPart_37 : decode cX4_sumOfPart 37 = .ok (.ireturn, 1) := by decide +kernel
theorem dX4_latestMark_0 : decode cX4_latestMark 0 = .ok (.iconst (-1), 1) := by decide +kernel
theorem dX4_latestMark_1 : decode cX4_latestMark 1 = .ok (.istore_n 3, 1) := by decide +kernel
theorem dX4_latestMark_2 : decode cX4_latestMark 2 = .ok (.iconst 0, 1) := by decide +kernel
theorem dX4_latestMark_3 : decode cX4_latestMark 3 = .ok (.istore 4, 2) := by decide +kernel
theorem dX4_latestMark_5 : decode cX4_latestMark 5 = .ok (.iload 4, 2) := by decide +kernel
theorem dX4_latestMark_7 : decode cX4_latestMark 7 = .ok (.aload_n 0, 1) := by decide +kernel
theorem dX4_latestMark_8 : decode cX4_latestMark 8 = .ok (.getfield 24, 3) := by decide +kernel
theorem dX4_latestMark_11 : decode cX4_latestMark 11 = .ok (.if_icmp .ge 76, 3) := by decide +kernel
theorem dX4_latestMark_14 : decode cX4_latestMark 14 = .ok (.aload_n 0, 1) := by decide +kernel
theorem dX4_latestMark_15 : decode cX4_latestMark 15 = .ok (.getfield 11, 3) := by decide +kernel
theorem dX4_latestMark_18 : decode cX4_latestMark 18 = .ok (.iload 4, 2) := by decide +kernel
theorem dX4_latestMark_20 : decode cX4_latestMark 20 = .ok (.iaload, 1) := by decide +kernel
theorem dX4_latestMark_21 : decode cX4_latestMark 21 = .ok (.iload_n 1, 1) := by decide +kernel
theorem dX4_latestMark_22 : decode cX4_latestMark 22 = .ok (.if_icmp .ne 27, 3) := by decide +kernel
theorem dX4_latestMark_25 : decode cX4_latestMark 25 = .ok (.aload_n 0, 1) := by decide +kernel
theorem dX4_latestMark_26 : decode cX4_latestMark 26 = .ok (.iload 4, 2) := by decide +kernel
theorem dX4_latestMark_28 : decode cX4_latestMark 28 = .ok (.invokevirtual 51, 3) := by decide +kernel
theorem dX4_latestMark_31 : decode cX4_latestMark 31 = .ok (.ifCond .eq 18, 3) := by decide +kernel
theorem dX4_latestMark_34 : decode cX4_latestMark 34 = .ok (.aload_n 0, 1) := by decide +kernel
theorem dX4_latestMark_35 : decode cX4_latestMark 35 = .ok (.getfield 15, 3) := by decide +kernel
theorem dX4_latestMark_38 : decode cX4_latestMark 38 = .ok (.iload 4, 2) := by decide +kernel
theorem dX4_latestMark_40 : decode cX4_latestMark 40 = .ok (.iaload, 1) := by decide +kernel
theorem dX4_latestMark_41 : decode cX4_latestMark 41 = .ok (.iload_n 2, 1) := by decide +kernel
theorem dX4_latestMark_42 : decode cX4_latestMark 42 = .ok (.if_icmp .gt 7, 3) := by decide +kernel
theorem dX4_latestMark_45 : decode cX4_latestMark 45 = .ok (.iconst 1, 1) := by decide +kernel
theorem dX4_latestMark_46 : decode cX4_latestMark 46 = .ok (.goto 4, 3) := by decide +kernel
theorem dX4_latestMark_49 : decode cX4_latestMark 49 = .ok (.iconst 0, 1) := by decide +kernel
theorem dX4_latestMark_50 : decode cX4_latestMark 50 = .ok (.istore 5, 2) := by decide +kernel
theorem dX4_latestMark_52 : decode cX4_latestMark 52 = .ok (.iload 5, 2) := by decide +kernel
theorem dX4_latestMark_54 : decode cX4_latestMark 54 = .ok (.ifCond .eq 27, 3) := by decide +kernel
theorem dX4_latestMark_57 : decode cX4_latestMark 57 = .ok (.iload_n 3, 1) := by decide +kernel
theorem dX4_latestMark_58 : decode cX4_latestMark 58 = .ok (.iconst (-1), 1) := by decide +kernel
theorem dX4_latestMark_59 : decode cX4_latestMark 59 = .ok (.if_icmp .eq 19, 3) := by decide +kernel
theorem dX4_latestMark_62 : decode cX4_latestMark 62 = .ok (.aload_n 0, 1) := by decide +kernel
theorem dX4_latestMark_63 : decode cX4_latestMark 63 = .ok (.getfield 15, 3) := by decide +kernel
theorem dX4_latestMark_66 : decode cX4_latestMark 66 = .ok (.iload 4, 2) := by decide +kernel
theorem dX4_latestMark_68 : decode cX4_latestMark 68 = .ok (.iaload, 1) := by decide +kernel
theorem dX4_latestMark_69 : decode cX4_latestMark 69 = .ok (.aload_n 0, 1) := by decide +kernel
theorem dX4_latestMark_70 : decode cX4_latestMark 70 = .ok (.getfield 15, 3) := by decide +kernel
theorem dX4_latestMark_73 : decode cX4_latestMark 73 = .ok (.iload_n 3, 1) := by decide +kernel
theorem dX4_latestMark_74 : decode cX4_latestMark 74 = .ok (.iaload, 1) := by decide +kernel
theorem dX4_latestMark_75 : decode cX4_latestMark 75 = .ok (.if_icmp .lt 6, 3) := by decide +kernel
theorem dX4_latestMark_78 : decode cX4_latestMark 78 = .ok (.iload 4, 2) := by decide +kernel
theorem dX4_latestMark_80 : decode cX4_latestMark 80 = .ok (.istore_n 3, 1) := by decide +kernel
theorem dX4_latestMark_81 : decode cX4_latestMark 81 = .ok (.iinc 4 1, 3) := by decide +kernel
theorem dX4_latestMark_84 : decode cX4_latestMark 84 = .ok (.goto (-79), 3) := by decide +kernel
theorem dX4_latestMark_87 : decode cX4_latestMark 87 = .ok (.iload_n 3, 1) := by decide +kernel
theorem dX4_latestMark_88 : decode cX4_latestMark 88 = .ok (.iconst (-1), 1) := by decide +kernel
theorem dX4_latestMark_89 : decode cX4_latestMark 89 = .ok (.if_icmp .ne 7, 3) := by decide +kernel
theorem dX4_latestMark_92 : decode cX4_latestMark 92 = .ok (.iconst 0, 1) := by decide +kernel
theorem dX4_latestMark_93 : decode cX4_latestMark 93 = .ok (.goto 8, 3) := by decide +kernel
theorem dX4_latestMark_96 : decode cX4_latestMark 96 = .ok (.aload_n 0, 1) := by decide +kernel
theorem dX4_latestMark_97 : decode cX4_latestMark 97 = .ok (.iload_n 3, 1) := by decide +kernel
theorem dX4_latestMark_98 : decode cX4_latestMark 98 = .ok (.invokevirtual 54, 3) := by decide +kernel
theorem dX4_latestMark_101 : decode cX4_latestMark 101 = .ok (.ireturn, 1) := by decide +kernel
theorem dX5_init_0 : decode cX5_init 0 = .ok (.aload_n 0, 1) := by decide +kernel
theorem dX5_init_1 : decode cX5_init 1 = .ok (.invokespecial 3, 3) := by decide +kernel
theorem dX5_init_4 : decode cX5_init 4 = .ok (.aload_n 0, 1) := by decide +kernel
theorem dX5_init_5 : decode cX5_init 5 = .ok (.iconst 0, 1) := by decide +kernel
theorem dX5_init_6 : decode cX5_init 6 = .ok (.putfield 11, 3) := by decide +kernel
theorem dX5_init_9 : decode cX5_init 9 = .ok (.aload_n 0, 1) := by decide +kernel
theorem dX5_init_10 : decode cX5_init 10 = .ok (.iconst 0, 1) := by decide +kernel
theorem dX5_init_11 : decode cX5_init 11 = .ok (.putfield 15, 3) := by decide +kernel
theorem dX5_init_14 : decode cX5_init 14 = .ok (.aload_n 0, 1) := by decide +kernel
theorem dX5_init_15 : decode cX5_init 15 = .ok (.iconst 0, 1) := by decide +kernel
theorem dX5_init_16 : decode cX5_init 16 = .ok (.putfield 18, 3) := by decide +kernel
theorem dX5_init_19 : decode cX5_init 19 = .ok (.return_, 1) := by decide +kernel
theorem dX5_firstFault_0 : decode cX5_firstFault 0 = .ok (.aload_n 0, 1) := by decide +kernel
theorem dX5_firstFault_1 : decode cX5_firstFault 1 = .ok (.iconst 0, 1) := by decide +kernel
theorem dX5_firstFault_2 : decode cX5_firstFault 2 = .ok (.putfield 11, 3) := by decide +kernel
theorem dX5_firstFault_5 : decode cX5_firstFault 5 = .ok (.aload_n 0, 1) := by decide +kernel
theorem dX5_firstFault_6 : decode cX5_firstFault 6 = .ok (.iconst 0, 1) := by decide +kernel
theorem dX5_firstFault_7 : decode cX5_firstFault 7 = .ok (.putfield 15, 3) := by decide +kernel
theorem dX5_firstFault_10 : decode cX5_firstFault 10 = .ok (.aload_n 0, 1) := by decide +kernel
theorem dX5_firstFault_11 : decode cX5_firstFault 11 = .ok (.iconst 0, 1) := by decide +kernel
theorem dX5_firstFault_12 : decode cX5_firstFault 12 = .ok (.putfield 18, 3) := by decide +kernel
theorem dX5_firstFault_15 : decode cX5_firstFault 15 = .ok (.iconst 0, 1) := by decide +kernel
theorem dX5_firstFault_16 : decode cX5_firstFault 16 = .ok (.istore_n 3, 1) := by decide +kernel
theorem dX5_firstFault_17 : decode cX5_firstFault 17 = .ok (.iload_n 3, 1) := by decide +kernel
theorem dX5_firstFault_18 : decode cX5_firstFault 18 = .ok (.iload_n 2, 1) := by decide +kernel
theorem dX5_firstFault_19 : decode cX5_firstFault 19 = .ok (.if_icmp .ge 27, 3) := by decide +kernel
theorem dX5_firstFault_22 : decode cX5_firstFault 22 = .ok (.iload_n 3, 1) := by decide +kernel
theorem dX5_firstFault_23 : decode cX5_firstFault 23 = .ok (.aload_n 1, 1) := by decide +kernel
theorem dX5_firstFault_24 : decode cX5_firstFault 24 = .ok (.arraylength, 1) := by decide +kernel
theorem dX5_firstFault_25 : decode cX5_firstFault 25 = .ok (.if_icmp .ge 21, 3) := by decide +kernel
theorem dX5_firstFault_28 : decode cX5_firstFault 28 = .ok (.aload_n 0, 1) := by decide +kernel
theorem dX5_firstFault_29 : decode cX5_firstFault 29 = .ok (.aload_n 1, 1) := by decide +kernel
theorem dX5_firstFault_30 : decode cX5_firstFault 30 = .ok (.iload_n 3, 1) := by decide +kernel
theorem dX5_firstFault_31 : decode cX5_firstFault 31 = .ok (.caload, 1) := by decide +kernel
theorem dX5_firstFault_32 : decode cX5_firstFault 32 = .ok (.invokevirtual 21, 3) := by decide +kernel
theorem dX5_firstFault_35 : decode cX5_firstFault 35 = .ok (.ifCond .ne 5, 3) := by decide +kernel
theorem dX5_firstFault_38 : decode cX5_firstFault 38 = .ok (.iload_n 3, 1) := by decide +kernel
theorem dX5_firstFault_39 : decode cX5_firstFault 39 = .ok (.ireturn, 1) := by decide +kernel
theorem dX5_firstFault_40 : decode cX5_firstFault 40 = .ok (.iinc 3 1, 3) := by decide +kernel
theorem dX5_firstFault_43 : decode cX5_firstFault 43 = .ok (.goto (-26), 3) := by decide +kernel
theorem dX5_firstFault_46 : decode cX5_firstFault 46 = .ok (.aload_n 0, 1) := by decide +kernel
theorem dX5_firstFault_47 : decode cX5_firstFault 47 = .ok (.invokevirtual 25, 3) := by decide +kernel
theorem dX5_firstFault_50 : decode cX5_firstFault 50 = .ok (.ifCond .eq 7, 3) := by decide +kernel
theorem dX5_firstFault_53 : decode cX5_firstFault 53 = .ok (.iconst (-1), 1) := by decide +kernel
theorem dX5_firstFault_54 : decode cX5_firstFault 54 = .ok (.goto 4, 3) := by decide +kernel
theorem dX5_firstFault_57 : decode cX5_firstFault 57 = .ok (.iload_n 2, 1) := by decide +kernel
theorem dX5_firstFault_58 : decode cX5_firstFault 58 = .ok (.ireturn, 1) := by decide +kernel
theorem dX5_isWhole_0 : decode cX5_isWhole 0 = .ok (.aload_n 0, 1) := by decide +kernel
theorem dX5_isWhole_1 : decode cX5_isWhole 1 = .ok (.getfield 15, 3) := by decide +kernel
theorem dX5_isWhole_4 : decode cX5_isWhole 4 = .ok (.ifCond .ne 23, 3) := by decide +kernel
theorem dX5_isWhole_7 : decode cX5_isWhole 7 = .ok (.aload_n 0, 1) := by decide +kernel
theorem dX5_isWhole_8 : decode cX5_isWhole 8 = .ok (.getfield 11, 3) := by decide +kernel
theorem dX5_isWhole_11 : decode cX5_isWhole 11 = .ok (.iconst 3, 1) := by decide +kernel
theorem dX5_isWhole_12 : decode cX5_isWhole 12 = .ok (.if_icmp .eq 11, 3) := by decide +kernel
theorem dX5_isWhole_15 : decode cX5_isWhole 15 = .ok (.aload_n 0, 1) := by decide +kernel
theorem dX5_isWhole_16 : decode cX5_isWhole 16 = .ok (.getfield 11, 3) := by decide +kernel
theorem dX5_isWhole_19 : decode cX5_isWhole 19 = .ok (.iconst 4, 1) := by decide +kernel
theorem dX5_isWhole_20 : decode cX5_isWhole 20 = .ok (.if_icmp .ne 7, 3) := by decide +kernel
theorem dX5_isWhole_23 : decode cX5_isWhole 23 = .ok (.iconst 1, 1) := by decide +kernel
theorem dX5_isWhole_24 : decode cX5_isWhole 24 = .ok (.goto 4, 3) := by decide +kernel
theorem dX5_isWhole_27 : decode cX5_isWhole 27 = .ok (.iconst 0, 1) := by decide +kernel
theorem dX5_isWhole_28 : decode cX5_isWhole 28 = .ok (.ireturn, 1) := by decide +kernel
theorem dX5_goesOnWith_0 : decode cX5_goesOnWith 0 = .ok (.iload_n 1, 1) := by decide +kernel
theorem dX5_goesOnWith_1 : decode cX5_goesOnWith 1 = .ok (.bipush 32, 2) := by decide +kernel
theorem dX5_goesOnWith_3 : decode cX5_goesOnWith 3 = .ok (.if_icmp .ne 25, 3) := by decide +kernel
theorem dX5_goesOnWith_6 : decode cX5_goesOnWith 6 = .ok (.aload_n 0, 1) := by decide +kernel
theorem dX5_goesOnWith_7 : decode cX5_goesOnWith 7 = .ok (.aload_n 0, 1) := by decide +kernel
theorem dX5_goesOnWith_8 : decode cX5_goesOnWith 8 = .ok (.getfield 11, 3) := by decide +kernel
theorem dX5_goesOnWith_11 : decode cX5_goesOnWith 11 = .ok (.iconst 3, 1) := by decide +kernel
theorem dX5_goesOnWith_12 : decode cX5_goesOnWith 12 = .ok (.if_icmp .ne 7, 3) := by decide +kernel
theorem dX5_goesOnWith_15 : decode cX5_goesOnWith 15 = .ok (.iconst 4, 1) := by decide +kernel
theorem dX5_goesOnWith_16 : decode cX5_goesOnWith 16 = .ok (.goto 7, 3) := by decide +kernel
theorem dX5_goesOnWith_19 : decode cX5_goesOnWith 19 = .ok (.aload_n 0, 1) := by decide +kernel
theorem dX5_goesOnWith_20 : decode cX5_goesOnWith 20 = .ok (.getfield 11, 3) := by decide +kernel
theorem dX5_goesOnWith_23 : decode cX5_goesOnWith 23 = .ok (.putfield 11, 3) := by decide +kernel
theorem dX5_goesOnWith_26 : decode cX5_goesOnWith 26 = .ok (.iconst 1, 1) := by decide +kernel
theorem dX5_goesOnWith_27 : decode cX5_goesOnWith 27 = .ok (.ireturn, 1) := by decide +kernel
theorem dX5_goesOnWith_28 : decode cX5_goesOnWith 28 = .ok (.aload_n 0, 1) := by decide +kernel
theorem dX5_goesOnWith_29 : decode cX5_goesOnWith 29 = .ok (.getfield 11, 3) := by decide +kernel
theorem dX5_goesOnWith_32 : decode cX5_goesOnWith 32 = .ok (.tableswitch 121 0 3 #[32, 38, 67, 82], 32) := by decide +kernel
theorem dX5_goesOnWith_64 : decode cX5_goesOnWith 64 = .ok (.aload_n 0, 1) := by decide +kernel
theorem dX5_goesOnWith_65 : decode cX5_goesOnWith 65 = .ok (.iload_n 1, 1) := by decide +kernel
theorem dX5_goesOnWith_66 : decode cX5_goesOnWith 66 = .ok (.invokevirtual 29, 3) := by decide +kernel
theorem dX5_goesOnWith_69 : decode cX5_goesOnWith 69 = .ok (.ireturn, 1) := by decide +kernel
theorem dX5_goesOnWith_70 : decode cX5_goesOnWith 70 = .ok (.aload_n 0, 1) := by decide +kernel
theorem dX5_goesOnWith_71 : decode cX5_goesOnWith 71 = .ok (.iconst 2, 1) := by decide +kernel
theorem dX5_goesOnWith_72 : decode cX5_goesOnWith 72 = .ok (.putfield 11, 3) := by decide +kernel
theorem dX5_goesOnWith_75 : decode cX5_goesOnWith 75 = .ok (.iload_n 1, 1) := by decide +kernel
theorem dX5_goesOnWith_76 : decode cX5_goesOnWith 76 = .ok (.bipush 60, 2) := by decide +kernel
theorem dX5_goesOnWith_78 : decode cX5_goesOnWith 78 = .ok (.if_icmp .eq 15, 3) := by decide +kernel
theorem dX5_goesOnWith_81 : decode cX5_goesOnWith 81 = .ok (.iload_n 1, 1) := by decide +kernel
theorem dX5_goesOnWith_82 : decode cX5_goesOnWith 82 = .ok (.bipush 62, 2) := by decide +kernel
theorem dX5_goesOnWith_84 : decode cX5_goesOnWith 84 = .ok (.if_icmp .eq 9, 3) := by decide +kernel
theorem dX5_goesOnWith_87 : decode cX5_goesOnWith 87 = .ok (.iload_n 1, 1) := by decide +kernel
theorem dX5_goesOnWith_88 : decode cX5_goesOnWith 88 = .ok (.bipush 61, 2) := by decide +kernel
theorem dX5_goesOnWith_90 : decode cX5_goesOnWith 90 = .ok (.if_icmp .ne 7, 3) := by decide +kernel
theorem dX5_goesOnWith_93 : decode cX5_goesOnWith 93 = .ok (.iconst 1, 1) := by decide +kernel
theorem dX5_goesOnWith_94 : decode cX5_goesOnWith 94 = .ok (.goto 4, 3) := by decide +kernel
theorem dX5_goesOnWith_97 : decode cX5_goesOnWith 97 = .ok (.iconst 0, 1) := by decide +kernel
theorem dX5_goesOnWith_98 : decode cX5_goesOnWith 98 = .ok (.ireturn, 1) := by decide +kernel
theorem dX5_goesOnWith_99 : decode cX5_goesOnWith 99 = .ok (.aload_n 0, 1) := by decide +kernel
theorem dX5_goesOnWith_100 : decode cX5_goesOnWith 100 = .ok (.iconst 3, 1) := by decide +kernel
theorem dX5_goesOnWith_101 : decode cX5_goesOnWith 101 = .ok (.putfield 11, 3) := by decide +kernel
theorem dX5_goesOnWith_104 : decode cX5_goesOnWith 104 = .ok (.aload_n 0, 1) := by decide +kernel
theorem dX5_goesOnWith_105 : decode cX5_goesOnWith 105 = .ok (.iconst 1, 1) := by decide +kernel
theorem dX5_goesOnWith_106 : decode cX5_goesOnWith 106 = .ok (.putfield 18, 3) := by decide +kernel
theorem dX5_goesOnWith_109 : decode cX5_goesOnWith 109 = .ok (.iload_n 1, 1) := by decide +kernel
theorem dX5_goesOnWith_110 : decode cX5_goesOnWith 110 = .ok (.invokestatic 32, 3) := by decide +kernel
theorem dX5_goesOnWith_113 : decode cX5_goesOnWith 113 = .ok (.ireturn, 1) := by decide +kernel
theorem dX5_goesOnWith_114 : decode cX5_goesOnWith 114 = .ok (.aload_n 0, 1) := by decide +kernel
theorem dX5_goesOnWith_115 : decode cX5_goesOnWith 115 = .ok (.dup, 1) := by decide +kernel
theorem dX5_goesOnWith_116 : decode cX5_goesOnWith 116 = .ok (.getfield 18, 3) := by decide +kernel
theorem dX5_goesOnWith_119 : decode cX5_goesOnWith 119 = .ok (.iconst 1, 1) := by decide +kernel
theorem dX5_goesOnWith_120 : decode cX5_goesOnWith 120 = .ok (.iadd, 1) := by decide +kernel
theorem dX5_goesOnWith_121 : decode cX5_goesOnWith 121 = .ok (.putfield 18, 3) := by decide +kernel
theorem dX5_goesOnWith_124 : decode cX5_goesOnWith 124 = .ok (.iload_n 1, 1) := by decide +kernel
theorem dX5_goesOnWith_125 : decode cX5_goesOnWith 125 = .ok (.invokestatic 32, 3) := by decide +kernel
theorem dX5_goesOnWith_128 : decode cX5_goesOnWith 128 = .ok (.ifCond .eq 19, 3) := by decide +kernel
theorem dX5_goesOnWith_131 : decode cX5_goesOnWith 131 = .ok (.aload_n 0, 1) := by decide +kernel
theorem dX5_goesOnWith_132 : decode cX5_goesOnWith 132 = .ok (.getfield 18, 3) := by decide +kernel
theorem dX5_goesOnWith_135 : decode cX5_goesOnWith 135 = .ok (.iconst 5, 1) := by decide +kernel
theorem dX5_goesOnWith_136 : decode cX5_goesOnWith 136 = .ok (.if_icmp .gt 7, 3) := by decide +kernel
theorem dX5_goesOnWith_139 : decode cX5_goesOnWith 139 = .ok (.iconst 1, 1) := by decide +kernel
theorem dX5_goesOnWith_140 : decode cX5_goesOnWith 140 = .ok (.goto 12, 3) := by decide +kernel
theorem dX5_goesOnWith_143 : decode cX5_goesOnWith 143 = .ok (.iconst 0, 1) := by decide +kernel
theorem dX5_goesOnWith_144 : decode cX5_goesOnWith 144 = .ok (.goto 8, 3) := by decide +kernel
theorem dX5_goesOnWith_147 : decode cX5_goesOnWith 147 = .ok (.aload_n 0, 1) := by decide +kernel
theorem dX5_goesOnWith_148 : decode cX5_goesOnWith 148 = .ok (.iload_n 1, 1) := by decide +kernel
theorem dX5_goesOnWith_149 : decode cX5_goesOnWith 149 = .ok (.invokevirtual 35, 3) := by decide +kernel
theorem dX5_goesOnWith_152 : decode cX5_goesOnWith 152 = .ok (.ireturn, 1) := by decide +kernel
theorem dX5_goesOnWith_153 : decode cX5_goesOnWith 153 = .ok (.aload_n 0, 1) := by decide +kernel
theorem dX5_goesOnWith_154 : decode cX5_goesOnWith 154 = .ok (.iload_n 1, 1) := by decide +kernel
theorem dX5_goesOnWith_155 : decode cX5_goesOnWith 155 = .ok (.invokevirtual 35, 3) := by decide +kernel
theorem dX5_goesOnWith_158 : decode cX5_goesOnWith 158 = .ok (.ireturn, 1) := by decide +kernel
theorem dX5_beginsUnit_0 : decode cX5_beginsUnit 0 = .ok (.iload_n 1, 1) := by decide +kernel
theorem dX5_beginsUnit_1 : decode cX5_beginsUnit 1 = .ok (.bipush 40, 2) := by decide +kernel
theorem dX5_beginsUnit_3 : decode cX5_beginsUnit 3 = .ok (.if_icmp .ne 28, 3) := by decide +kernel
theorem dX5_beginsUnit_6 : decode cX5_beginsUnit 6 = .ok (.aload_n 0, 1) := by decide +kernel
theorem dX5_beginsUnit_7 : decode cX5_beginsUnit 7 = .ok (.dup, 1) := by decide +kernel
theorem dX5_beginsUnit_8 : decode cX5_beginsUnit 8 = .ok (.getfield 15, 3) := by decide +kernel
theorem dX5_beginsUnit_11 : decode cX5_beginsUnit 11 = .ok (.iconst 1, 1) := by decide +kernel
theorem dX5_beginsUnit_12 : decode cX5_beginsUnit 12 = .ok (.iadd, 1) := by decide +kernel
theorem dX5_beginsUnit_13 : decode cX5_beginsUnit 13 = .ok (.putfield 15, 3) := by decide +kernel
theorem dX5_beginsUnit_16 : decode cX5_beginsUnit 16 = .ok (.aload_n 0, 1) := by decide +kernel
theorem dX5_beginsUnit_17 : decode cX5_beginsUnit 17 = .ok (.getfield 15, 3) := by decide +kernel
theorem dX5_beginsUnit_20 : decode cX5_beginsUnit 20 = .ok (.bipush 8, 2) := by decide +kernel
theorem dX5_beginsUnit_22 : decode cX5_beginsUnit 22 = .ok (.if_icmp .gt 7, 3) := by decide +kernel
theorem dX5_beginsUnit_25 : decode cX5_beginsUnit 25 = .ok (.iconst 1, 1) := by decide +kernel
theorem dX5_beginsUnit_26 : decode cX5_beginsUnit 26 = .ok (.goto 4, 3) := by decide +kernel
theorem dX5_beginsUnit_29 : decode cX5_beginsUnit 29 = .ok (.iconst 0, 1) := by decide +kernel
theorem dX5_beginsUnit_30 : decode cX5_beginsUnit 30 = .ok (.ireturn, 1) := by decide +kernel
theorem dX5_beginsUnit_31 : decode cX5_beginsUnit 31 = .ok (.aload_n 0, 1) := by decide +kernel
