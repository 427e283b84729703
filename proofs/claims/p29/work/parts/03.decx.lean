theorem dX0_init_0 : decode cX0_init 0 = .ok (.aload_n 0, 1) := by decide +kernel
theorem dX0_init_1 : decode cX0_init 1 = .ok (.iload_n 3, 1) := by decide +kernel
theorem dX0_init_2 : decode cX0_init 2 = .ok (.invokespecial 1, 3) := by decide +kernel
theorem dX0_init_5 : decode cX0_init 5 = .ok (.aload_n 0, 1) := by decide +kernel
theorem dX0_init_6 : decode cX0_init 6 = .ok (.aload_n 1, 1) := by decide +kernel
theorem dX0_init_7 : decode cX0_init 7 = .ok (.putfield 7, 3) := by decide +kernel
theorem dX0_init_10 : decode cX0_init 10 = .ok (.aload_n 0, 1) := by decide +kernel
theorem dX0_init_11 : decode cX0_init 11 = .ok (.iload_n 2, 1) := by decide +kernel
theorem dX0_init_12 : decode cX0_init 12 = .ok (.putfield 13, 3) := by decide +kernel
theorem dX0_init_15 : decode cX0_init 15 = .ok (.aload_n 0, 1) := by decide +kernel
theorem dX0_init_16 : decode cX0_init 16 = .ok (.iload 4, 2) := by decide +kernel
theorem dX0_init_18 : decode cX0_init 18 = .ok (.putfield 17, 3) := by decide +kernel
theorem dX0_init_21 : decode cX0_init 21 = .ok (.return_, 1) := by decide +kernel
theorem dX0_owner_0 : decode cX0_owner 0 = .ok (.aload_n 0, 1) := by decide +kernel
theorem dX0_owner_1 : decode cX0_owner 1 = .ok (.getfield 7, 3) := by decide +kernel
theorem dX0_owner_4 : decode cX0_owner 4 = .ok (.areturn, 1) := by decide +kernel
theorem dX0_expiry_0 : decode cX0_expiry 0 = .ok (.aload_n 0, 1) := by decide +kernel
theorem dX0_expiry_1 : decode cX0_expiry 1 = .ok (.getfield 17, 3) := by decide +kernel
theorem dX0_expiry_4 : decode cX0_expiry 4 = .ok (.ireturn, 1) := by decide +kernel
theorem dX0_mayPay_0 : decode cX0_mayPay 0 = .ok (.aload_n 1, 1) := by decide +kernel
theorem dX0_mayPay_1 : decode cX0_mayPay 1 = .ok (.getfield 20, 3) := by decide +kernel
theorem dX0_mayPay_4 : decode cX0_mayPay 4 = .ok (.aload_n 0, 1) := by decide +kernel
theorem dX0_mayPay_5 : decode cX0_mayPay 5 = .ok (.getfield 13, 3) := by decide +kernel
theorem dX0_mayPay_8 : decode cX0_mayPay 8 = .ok (.if_icmp .ne 18, 3) := by decide +kernel
theorem dX0_mayPay_11 : decode cX0_mayPay 11 = .ok (.aload_n 0, 1) := by decide +kernel
theorem dX0_mayPay_12 : decode cX0_mayPay 12 = .ok (.getfield 7, 3) := by decide +kernel
theorem dX0_mayPay_15 : decode cX0_mayPay 15 = .ok (.aload_n 1, 1) := by decide +kernel
theorem dX0_mayPay_16 : decode cX0_mayPay 16 = .ok (.invokevirtual 23, 3) := by decide +kernel
theorem dX0_mayPay_19 : decode cX0_mayPay 19 = .ok (.ifCond .eq 7, 3) := by decide +kernel
theorem dX0_mayPay_22 : decode cX0_mayPay 22 = .ok (.iconst 1, 1) := by decide +kernel
theorem dX0_mayPay_23 : decode cX0_mayPay 23 = .ok (.goto 4, 3) := by decide +kernel
theorem dX0_mayPay_26 : decode cX0_mayPay 26 = .ok (.iconst 0, 1) := by decide +kernel
theorem dX0_mayPay_27 : decode cX0_mayPay 27 = .ok (.ireturn, 1) := by decide +kernel
theorem dX1_init_0 : decode cX1_init 0 = .ok (.aload_n 0, 1) := by decide +kernel
theorem dX1_init_1 : decode cX1_init 1 = .ok (.invokespecial 3, 3) := by decide +kernel
theorem dX1_init_4 : decode cX1_init 4 = .ok (.aload_n 0, 1) := by decide +kernel
theorem dX1_init_5 : decode cX1_init 5 = .ok (.bipush 6, 2) := by decide +kernel
theorem dX1_init_7 : decode cX1_init 7 = .ok (.newarray .int, 2) := by decide +kernel
theorem dX1_init_9 : decode cX1_init 9 = .ok (.putfield 9, 3) := by decide +kernel
theorem dX1_init_12 : decode cX1_init 12 = .ok (.aload_n 0, 1) := by decide +kernel
theorem dX1_init_13 : decode cX1_init 13 = .ok (.iload_n 1, 1) := by decide +kernel
theorem dX1_init_14 : decode cX1_init 14 = .ok (.putfield 15, 3) := by decide +kernel
theorem dX1_init_17 : decode cX1_init 17 = .ok (.aload_n 0, 1) := by decide +kernel
theorem dX1_init_18 : decode cX1_init 18 = .ok (.iload_n 2, 1) := by decide +kernel
theorem dX1_init_19 : decode cX1_init 19 = .ok (.putfield 19, 3) := by decide +kernel
theorem dX1_init_22 : decode cX1_init 22 = .ok (.aload_n 0, 1) := by decide +kernel
theorem dX1_init_23 : decode cX1_init 23 = .ok (.iload_n 3, 1) := by decide +kernel
theorem dX1_init_24 : decode cX1_init 24 = .ok (.putfield 22, 3) := by decide +kernel
theorem dX1_init_27 : decode cX1_init 27 = .ok (.return_, 1) := by decide +kernel
theorem dX1_shareOf_0 : decode cX1_shareOf 0 = .ok (.aload_n 1, 1) := by decide +kernel
theorem dX1_shareOf_1 : decode cX1_shareOf 1 = .ok (.getfield 25, 3) := by decide +kernel
theorem dX1_shareOf_4 : decode cX1_shareOf 4 = .ok (.istore_n 2, 1) := by decide +kernel
theorem dX1_shareOf_5 : decode cX1_shareOf 5 = .ok (.iload_n 2, 1) := by decide +kernel
theorem dX1_shareOf_6 : decode cX1_shareOf 6 = .ok (.ifCond .lt 18, 3) := by decide +kernel
theorem dX1_shareOf_9 : decode cX1_shareOf 9 = .ok (.iload_n 2, 1) := by decide +kernel
theorem dX1_shareOf_10 : decode cX1_shareOf 10 = .ok (.bipush 6, 2) := by decide +kernel
theorem dX1_shareOf_12 : decode cX1_shareOf 12 = .ok (.if_icmp .ge 12, 3) := by decide +kernel
theorem dX1_shareOf_15 : decode cX1_shareOf 15 = .ok (.aload_n 0, 1) := by decide +kernel
theorem dX1_shareOf_16 : decode cX1_shareOf 16 = .ok (.getfield 9, 3) := by decide +kernel
theorem dX1_shareOf_19 : decode cX1_shareOf 19 = .ok (.iload_n 2, 1) := by decide +kernel
theorem dX1_shareOf_20 : decode cX1_shareOf 20 = .ok (.iaload, 1) := by decide +kernel
theorem dX1_shareOf_21 : decode cX1_shareOf 21 = .ok (.goto 4, 3) := by decide +kernel
theorem dX1_shareOf_24 : decode cX1_shareOf 24 = .ok (.iconst 0, 1) := by decide +kernel
theorem dX1_shareOf_25 : decode cX1_shareOf 25 = .ok (.ireturn, 1) := by decide +kernel
theorem dX1_pay_0 : decode cX1_pay 0 = .ok (.aload_n 1, 1) := by decide +kernel
theorem dX1_pay_1 : decode cX1_pay 1 = .ok (.getfield 25, 3) := by decide +kernel
theorem dX1_pay_4 : decode cX1_pay 4 = .ok (.istore_n 3, 1) := by decide +kernel
theorem dX1_pay_5 : decode cX1_pay 5 = .ok (.iload_n 3, 1) := by decide +kernel
theorem dX1_pay_6 : decode cX1_pay 6 = .ok (.ifCond .lt 29, 3) := by decide +kernel
theorem dX1_pay_9 : decode cX1_pay 9 = .ok (.iload_n 3, 1) := by decide +kernel
theorem dX1_pay_10 : decode cX1_pay 10 = .ok (.bipush 6, 2) := by decide +kernel
theorem dX1_pay_12 : decode cX1_pay 12 = .ok (.if_icmp .ge 23, 3) := by decide +kernel
theorem dX1_pay_15 : decode cX1_pay 15 = .ok (.aload_n 0, 1) := by decide +kernel
theorem dX1_pay_16 : decode cX1_pay 16 = .ok (.getfield 9, 3) := by decide +kernel
theorem dX1_pay_19 : decode cX1_pay 19 = .ok (.iload_n 3, 1) := by decide +kernel
theorem dX1_pay_20 : decode cX1_pay 20 = .ok (.dup2, 1) := by decide +kernel
theorem dX1_pay_21 : decode cX1_pay 21 = .ok (.iaload, 1) := by decide +kernel
theorem dX1_pay_22 : decode cX1_pay 22 = .ok (.iload_n 2, 1) := by decide +kernel
theorem dX1_pay_23 : decode cX1_pay 23 = .ok (.iadd, 1) := by decide +kernel
theorem dX1_pay_24 : decode cX1_pay 24 = .ok (.iastore, 1) := by decide +kernel
theorem dX1_pay_25 : decode cX1_pay 25 = .ok (.aload_n 0, 1) := by decide +kernel
theorem dX1_pay_26 : decode cX1_pay 26 = .ok (.dup, 1) := by decide +kernel
theorem dX1_pay_27 : decode cX1_pay 27 = .ok (.getfield 22, 3) := by decide +kernel
theorem dX1_pay_30 : decode cX1_pay 30 = .ok (.iload_n 2, 1) := by decide +kernel
theorem dX1_pay_31 : decode cX1_pay 31 = .ok (.isub, 1) := by decide +kernel
theorem dX1_pay_32 : decode cX1_pay 32 = .ok (.putfield 22, 3) := by decide +kernel
theorem dX1_pay_35 : decode cX1_pay 35 = .ok (.return_, 1) := by decide +kernel
theorem dX2_init_0 : decode cX2_init 0 = .ok (.aload_n 0, 1) := by decide +kernel
theorem dX2_init_1 : decode cX2_init 1 = .ok (.iload_n 2, 1) := by decide +kernel
theorem dX2_init_2 : decode cX2_init 2 = .ok (.invokespecial 3, 3) := by decide +kernel
theorem dX2_init_5 : decode cX2_init 5 = .ok (.aload_n 0, 1) := by decide +kernel
theorem dX2_init_6 : decode cX2_init 6 = .ok (.iload_n 1, 1) := by decide +kernel
theorem dX2_init_7 : decode cX2_init 7 = .ok (.putfield 9, 3) := by decide +kernel
theorem dX2_init_10 : decode cX2_init 10 = .ok (.aload_n 0, 1) := by decide +kernel
theorem dX2_init_11 : decode cX2_init 11 = .ok (.iload_n 3, 1) := by decide +kernel
theorem dX2_init_12 : decode cX2_init 12 = .ok (.putfield 15, 3) := by decide +kernel
theorem dX2_init_15 : decode cX2_init 15 = .ok (.aload_n 0, 1) := by decide +kernel
theorem dX2_init_16 : decode cX2_init 16 = .ok (.iload 4, 2) := by decide +kernel
theorem dX2_init_18 : decode cX2_init 18 = .ok (.putfield 18, 3) := by decide +kernel
theorem dX2_init_21 : decode cX2_init 21 = .ok (.aload_n 0, 1) := by decide +kernel
theorem dX2_init_22 : decode cX2_init 22 = .ok (.iload 5, 2) := by decide +kernel
theorem dX2_init_24 : decode cX2_init 24 = .ok (.putfield 21, 3) := by decide +kernel
theorem dX2_init_27 : decode cX2_init 27 = .ok (.return_, 1) := by decide +kernel
theorem dX2_owner_0 : decode cX2_owner 0 = .ok (.aload_n 0, 1) := by decide +kernel
theorem dX2_owner_1 : decode cX2_owner 1 = .ok (.areturn, 1) := by decide +kernel
theorem dX2_expiry_0 : decode cX2_expiry 0 = .ok (.aload_n 0, 1) := by decide +kernel
theorem dX2_expiry_1 : decode cX2_expiry 1 = .ok (.getfield 18, 3) := by decide +kernel
theorem dX2_expiry_4 : decode cX2_expiry 4 = .ok (.ireturn, 1) := by decide +kernel
theorem dX2_mayPay_0 : decode cX2_mayPay 0 = .ok (.aload_n 0, 1) := by decide +kernel
theorem dX2_mayPay_1 : decode cX2_mayPay 1 = .ok (.aload_n 1, 1) := by decide +kernel
theorem dX2_mayPay_2 : decode cX2_mayPay 2 = .ok (.invokevirtual 24, 3) := by decide +kernel
theorem dX2_mayPay_5 : decode cX2_mayPay 5 = .ok (.ireturn, 1) := by decide +kernel
theorem dX2_allows_0 : decode cX2_allows 0 = .ok (.aload_n 0, 1) := by decide +kernel
theorem dX2_allows_1 : decode cX2_allows 1 = .ok (.getfield 15, 3) := by decide +kernel
theorem dX2_allows_4 : decode cX2_allows 4 = .ok (.iload_n 1, 1) := by decide +kernel
theorem dX2_allows_5 : decode cX2_allows 5 = .ok (.invokestatic 28, 3) := by decide +kernel
theorem dX2_allows_8 : decode cX2_allows 8 = .ok (.ireturn, 1) := by decide +kernel
theorem dX2_suits_0 : decode cX2_suits 0 = .ok (.aload_n 0, 1) := by decide +kernel
theorem dX2_suits_1 : decode cX2_suits 1 = .ok (.aload_n 1, 1) := by decide +kernel
theorem dX2_suits_2 : decode cX2_suits 2 = .ok (.getfield 32, 3) := by decide +kernel
theorem dX2_suits_5 : decode cX2_suits 5 = .ok (.invokevirtual 37, 3) := by decide +kernel
theorem dX2_suits_8 : decode cX2_suits 8 = .ok (.ifCond .eq 18, 3) := by decide +kernel
theorem dX2_suits_11 : decode cX2_suits 11 = .ok (.aload_n 1, 1) := by decide +kernel
theorem dX2_suits_12 : decode cX2_suits 12 = .ok (.getfield 41, 3) := by decide +kernel
theorem dX2_suits_15 : decode cX2_suits 15 = .ok (.aload_n 0, 1) := by decide +kernel
theorem dX2_suits_16 : decode cX2_suits 16 = .ok (.getfield 18, 3) := by decide +kernel
theorem dX2_suits_19 : decode cX2_suits 19 = .ok (.if_icmp .gt 7, 3) := by decide +kernel
theorem dX2_suits_22 : decode cX2_suits 22 = .ok (.iconst 1, 1) := by decide +kernel
theorem dX2_suits_23 : decode cX2_suits 23 = .ok (.goto 4, 3) := by decide +kernel
theorem dX2_suits_26 : decode cX2_suits 26 = .ok (.iconst 0, 1) := by decide +kernel
theorem dX2_suits_27 : decode cX2_suits 27 = .ok (.ireturn, 1) := by decide +kernel
theorem dX2_room_0 : decode cX2_room 0 = .ok (.aload_n 0, 1) := by decide +kernel
theorem dX2_room_1 : decode cX2_room 1 = .ok (.getfield 44, 3) := by decide +kernel
theorem dX2_room_4 : decode cX2_room 4 = .ok (.aload_n 0, 1) := by decide +kernel
theorem dX2_room_5 : decode cX2_room 5 = .ok (.getfield 21, 3) := by decide +kernel
theorem dX2_room_8 : decode cX2_room 8 = .ok (.imul, 1) := by decide +kernel
theorem dX2_room_9 : decode cX2_room 9 = .ok (.bipush 100, 2) := by decide +kernel
theorem dX2_room_11 : decode cX2_room 11 = .ok (.idiv, 1) := by decide +kernel
theorem dX2_room_12 : decode cX2_room 12 = .ok (.aload_n 0, 1) := by decide +kernel
theorem dX2_room_13 : decode cX2_room 13 = .ok (.getfield 47, 3) := by decide +kernel
theorem dX2_room_16 : decode cX2_room 16 = .ok (.isub, 1) := by decide +kernel
theorem dX2_room_17 : decode cX2_room 17 = .ok (.istore_n 1, 1) := by decide +kernel
theorem dX2_room_18 : decode cX2_room 18 = .ok (.iconst 0, 1) := by decide +kernel
theorem dX2_room_19 : decode cX2_room 19 = .ok (.iload_n 1, 1) := by decide +kernel
theorem dX2_room_20 : decode cX2_room 20 = .ok (.aload_n 0, 1) := by decide +kernel
theorem dX2_room_21 : decode cX2_room 21 = .ok (.getfield 50, 3) := by decide +kernel
theorem dX2_room_24 : decode cX2_room 24 = .ok (.invokestatic 53, 3) := by decide +kernel
theorem dX2_room_27 : decode cX2_room 27 = .ok (.invokestatic 59, 3) := by decide +kernel
theorem dX2_room_30 : decode cX2_room 30 = .ok (.ireturn, 1) := by decide +kernel
theorem dX2_takeOverhead_0 : decode cX2_takeOverhead 0 = .ok (.aload_n 0, 1) := by decide +kernel
theorem dX2_takeOverhead_1 : decode cX2_takeOverhead 1 = .ok (.dup, 1) := by decide +kernel
theorem dX2_takeOverhead_2 : decode cX2_takeOverhead 2 = .ok (.getfield 50, 3) := by decide +kernel
theorem dX2_takeOverhead_5 : decode cX2_takeOverhead 5 = .ok (.iload_n 1, 1) := by decide +kernel
theorem dX2_takeOverhead_6 : decode cX2_takeOverhead 6 = .ok (.isub, 1) := by decide +kernel
theorem dX2_takeOverhead_7 : decode cX2_takeOverhead 7 = .ok (.putfield 50, 3) := by decide +kernel
theorem dX2_takeOverhead_10 : decode cX2_takeOverhead 10 = .ok (.aload_n 0, 1) := by decide +kernel
theorem dX2_takeOverhead_11 : decode cX2_takeOverhead 11 = .ok (.dup, 1) := by decide +kernel
theorem dX2_takeOverhead_12 : decode cX2_takeOverhead 12 = .ok (.getfield 47, 3) := by decide +kernel
theorem dX2_takeOverhead_15 : decode cX2_takeOverhead 15 = .ok (.iload_n 1, 1) := by decide +kernel
theorem dX2_takeOverhead_16 : decode cX2_takeOverhead 16 = .ok (.iadd, 1) := by decide +kernel
theorem dX2_takeOverhead_17 : decode cX2_takeOverhead 17 = .ok (.putfield 47, 3) := by decide +kernel
theorem dX2_takeOverhead_20 : decode cX2_takeOverhead 20 = .ok (.return_, 1) := by decide +kernel
theorem dX3_init_0 : decode cX3_init 0 = .ok (.aload_n 0, 1) := by decide +kernel
theorem dX3_init_1 : decode cX3_init 1 = .ok (.invokespecial 3, 3) := by decide +kernel
theorem dX3_init_4 : decode cX3_init 4 = .ok (.aload_n 0, 1) := by decide +kernel
theorem dX3_init_5 : decode cX3_init 5 = .ok (.bipush 12, 2) := by decide +kernel
theorem dX3_init_7 : decode cX3_init 7 = .ok (.newarray .int, 2) := by decide +kernel
theorem dX3_init_9 : decode cX3_init 9 = .ok (.putfield 9, 3) := by decide +kernel
theorem dX3_init_12 : decode cX3_init 12 = .ok (.aload_n 0, 1) := by decide +kernel
theorem dX3_init_13 : decode cX3_init 13 = .ok (.bipush 16, 2) := by decide +kernel
theorem dX3_init_15 : decode cX3_init 15 = .ok (.newarray .int, 2) := by decide +kernel
theorem dX3_init_17 : decode cX3_init 17 = .ok (.putfield 15, 3) := by decide +kernel
theorem dX3_init_20 : decode cX3_init 20 = .ok (.aload_n 0, 1) := by decide +kernel
theorem dX3_init_21 : decode cX3_init 21 = .ok (.bipush 16, 2) := by decide +kernel
theorem dX3_init_23 : decode cX3_init 23 = .ok (.newarray .int, 2) := by decide +kernel
theorem dX3_init_25 : decode cX3_init 25 = .ok (.putfield 18, 3) := by decide +kernel
theorem dX3_init_28 : decode cX3_init 28 = .ok (.aload_n 0, 1) := by decide +kernel
theorem dX3_init_29 : decode cX3_init 29 = .ok (.bipush 12, 2) := by decide +kernel
theorem dX3_init_31 : decode cX3_init 31 = .ok (.bipush 16, 2) := by decide +kernel
theorem dX3_init_33 : decode cX3_init 33 = .ok (.multianewarray 21 2, 4) := by decide +kernel
theorem dX3_init_37 : decode cX3_init 37 = .ok (.putfield 23, 3) := by decide +kernel
theorem dX3_init_40 : decode cX3_init 40 = .ok (.aload_n 0, 1) := by decide +kernel
theorem dX3_init_41 : decode cX3_init 41 = .ok (.bipush 12, 2) := by decide +kernel
theorem dX3_init_43 : decode cX3_init 43 = .ok (.newarray .int, 2) := by decide +kernel
theorem dX3_init_45 : decode cX3_init 45 = .ok (.putfield 26, 3) := by decide +kernel
theorem dX3_init_48 : decode cX3_init 48 = .ok (.aload_n 0, 1) := by decide +kernel
theorem dX3_init_49 : decode cX3_init 49 = .ok (.bipush 12, 2) := by decide +kernel
theorem dX3_init_51 : decode cX3_init 51 = .ok (.newarray .int, 2) := by decide +kernel
theorem dX3_init_53 : decode cX3_init 53 = .ok (.putfield 29, 3) := by decide +kernel
theorem dX3_init_56 : decode cX3_init 56 = .ok (.aload_n 0, 1) := by decide +kernel
theorem dX3_init_57 : decode cX3_init 57 = .ok (.bipush 12, 2) := by decide +kernel
theorem dX3_init_59 : decode cX3_init 59 = .ok (.newarray .int, 2) := by decide +kernel
theorem dX3_init_61 : decode cX3_init 61 = .ok (.putfield 32, 3) := by decide +kernel
theorem dX3_init_64 : decode cX3_init 64 = .ok (.aload_n 0, 1) := by decide +kernel
theorem dX3_init_65 : decode cX3_init 65 = .ok (.bipush 12, 2) := by decide +kernel
theorem dX3_init_67 : decode cX3_init 67 = .ok (.newarray .int, 2) := by decide +kernel
theorem dX3_init_69 : decode cX3_init 69 = .ok (.putfield 35, 3) := by decide +kernel
theorem dX3_init_72 : decode cX3_init 72 = .ok (.aload_n 0, 1) := by decide +kernel
theorem dX3_init_73 : decode cX3_init 73 = .ok (.bipush 12, 2) := by decide +kernel
theorem dX3_init_75 : decode cX3_init 75 = .ok (.newarray .int, 2) := by decide +kernel
theorem dX3_init_77 : decode cX3_init 77 = .ok (.putfield 38, 3) := by decide +kernel
theorem dX3_init_80 : decode cX3_init 80 = .ok (.return_, 1) := by decide +kernel
theorem dX3_begin_0 : decode cX3_begin 0 = .ok (.aload_n 0, 1) := by decide +kernel
theorem dX3_begin_1 : decode cX3_begin 1 = .ok (.iconst 0, 1) := by decide +kernel
theorem dX3_begin_2 : decode cX3_begin 2 = .ok (.iload_n 1, 1) := by decide +kernel
theorem dX3_begin_3 : decode cX3_begin 3 = .ok (.bipush 12, 2) := by decide +kernel
theorem dX3_begin_5 : decode cX3_begin 5 = .ok (.invokestatic 41, 3) := by decide +kernel
theorem dX3_begin_8 : decode cX3_begin 8 = .ok (.invokestatic 47, 3) := by decide +kernel
theorem dX3_begin_11 : decode cX3_begin 11 = .ok (.putfield 50, 3) := by decide +kernel
theorem dX3_begin_14 : decode cX3_begin 14 = .ok (.aload_n 0, 1) := by decide +kernel
theorem dX3_begin_15 : decode cX3_begin 15 = .ok (.iconst 0, 1) := by decide +kernel
theorem dX3_begin_16 : decode cX3_begin 16 = .ok (.iload_n 2, 1) := by decide +kernel
theorem dX3_begin_17 : decode cX3_begin 17 = .ok (.bipush 16, 2) := by decide +kernel
theorem dX3_begin_19 : decode cX3_begin 19 = .ok (.invokestatic 41, 3) := by decide +kernel
theorem dX3_begin_22 : decode cX3_begin 22 = .ok (.invokestatic 47, 3) := by decide +kernel
theorem dX3_begin_25 : decode cX3_begin 25 = .ok (.putfield 54, 3) := by decide +kernel
theorem dX3_begin_28 : decode cX3_begin 28 = .ok (.iconst 0, 1) := by decide +kernel
theorem dX3_begin_29 : decode cX3_begin 29 = .ok (.istore_n 3, 1) := by decide +kernel
theorem dX3_begin_30 : decode cX3_begin 30 = .ok (.iload_n 3, 1) := by decide +kernel
theorem dX3_begin_31 : decode cX3_begin 31 = .ok (.aload_n 0, 1) := by decide +kernel
theorem dX3_begin_32 : decode cX3_begin 32 = .ok (.getfield 50, 3) := by decide +kernel
theorem dX3_begin_35 : decode cX3_begin 35 = .ok (.if_icmp .ge 44, 3) := by decide +kernel
theorem dX3_begin_38 : decode cX3_begin 38 = .ok (.aload_n 0, 1) := by decide +kernel
theorem dX3_begin_39 : decode cX3_begin 39 = .ok (.getfield 29, 3) := by decide +kernel
theorem dX3_begin_42 : decode cX3_begin 42 = .ok (.iload_n 3, 1) := by decide +kernel
theorem dX3_begin_43 : decode cX3_begin 43 = .ok (.iconst 0, 1) := by decide +kernel
theorem dX3_begin_44 : decode cX3_begin 44 = .ok (.iastore, 1) := by decide +kernel
theorem dX3_begin_45 : decode cX3_begin 45 = .ok (.iconst 0, 1) := by decide +kernel
theorem dX3_begin_46 : decode cX3_begin 46 = .ok (.istore 4, 2) := by decide +kernel
theorem dX3_begin_48 : decode cX3_begin 48 = .ok (.iload 4, 2) := by decide +kernel
theorem dX3_begin_50 : decode cX3_begin 50 = .ok (.aload_n 0, 1) := by decide +kernel
theorem dX3_begin_51 : decode cX3_begin 51 = .ok (.getfield 54, 3) := by decide +kernel
theorem dX3_begin_54 : decode cX3_begin 54 = .ok (.if_icmp .ge 19, 3) := by decide +kernel
theorem dX3_begin_57 : decode cX3_begin 57 = .ok (.aload_n 0, 1) := by decide +kernel
theorem dX3_begin_58 : decode cX3_begin 58 = .ok (.getfield 23, 3) := by decide +kernel
theorem dX3_begin_61 : decode cX3_begin 61 = .ok (.iload_n 3, 1) := by decide +kernel
theorem dX3_begin_62 : decode cX3_begin 62 = .ok (.aaload, 1) := by decide +kernel
theorem dX3_begin_63 : decode cX3_begin 63 = .ok (.iload 4, 2) := by decide +kernel
theorem dX3_begin_65 : decode cX3_begin 65 = .ok (.iconst 0, 1) := by decide +kernel
theorem dX3_begin_66 : decode cX3_begin 66 = .ok (.iastore, 1) := by decide +kernel
theorem dX3_begin_67 : decode cX3_begin 67 = .ok (.iinc 4 1, 3) := by decide +kernel
theorem dX3_begin_70 : decode cX3_begin 70 = .ok (.goto (-22), 3) := by decide +kernel
theorem dX3_begin_73 : decode cX3_begin 73 = .ok (.iinc 3 1, 3) := by decide +kernel
theorem dX3_begin_76 : decode cX3_begin 76 = .ok (.goto (-46), 3) := by decide +kernel
theorem dX3_begin_79 : decode cX3_begin 79 = .ok (.return_, 1) := by decide +kernel
theorem dX3_setCost_0 : decode cX3_setCost 0 = .ok (.aload_n 0, 1) := by decide +kernel
theorem dX3_setCost_1 : decode cX3_setCost 1 = .ok (.iload_n 1, 1) := by decide +kernel
theorem dX3_setCost_2 : decode cX3_setCost 2 = .ok (.invokevirtual 57, 3) := by decide +kernel
theorem dX3_setCost_5 : decode cX3_setCost 5 = .ok (.ifCond .eq 17, 3) := by decide +kernel
theorem dX3_setCost_8 : decode cX3_setCost 8 = .ok (.aload_n 0, 1) := by decide +kernel
theorem dX3_setCost_9 : decode cX3_setCost 9 = .ok (.getfield 15, 3) := by decide +kernel
theorem dX3_setCost_12 : decode cX3_setCost 12 = .ok (.iload_n 1, 1) := by decide +kernel
theorem dX3_setCost_13 : decode cX3_setCost 13 = .ok (.iload_n 2, 1) := by decide +kernel
theorem dX3_setCost_14 : decode cX3_setCost 14 = .ok (.iastore, 1) := by decide +kernel
theorem dX3_setCost_15 : decode cX3_setCost 15 = .ok (.aload_n 0, 1) := by decide +kernel
theorem dX3_setCost_16 : decode cX3_setCost 16 = .ok (.getfield 18, 3) := by decide +kernel
theorem dX3_setCost_19 : decode cX3_setCost 19 = .ok (.iload_n 1, 1) := by decide +kernel
theorem dX3_setCost_20 : decode cX3_setCost 20 = .ok (.iconst 0, 1) := by decide +kernel
theorem dX3_setCost_21 : decode cX3_setCost 21 = .ok (.iastore, 1) := by decide +kernel
theorem dX3_setCost_22 : decode cX3_setCost 22 = .ok (.return_, 1) := by decide +kernel
theorem dX3_setPot_0 : decode cX3_setPot 0 = .ok (.aload_n 0, 1) := by decide +kernel
theorem dX3_setPot_1 : decode cX3_setPot 1 = .ok (.iload_n 1, 1) := by decide +kernel
theorem dX3_setPot_2 : decode cX3_setPot 2 = .ok (.invokevirtual 61, 3) := by decide +kernel
theorem dX3_setPot_5 : decode cX3_setPot 5 = .ok (.ifCond .eq 17, 3) := by decide +kernel
theorem dX3_setPot_8 : decode cX3_setPot 8 = .ok (.aload_n 0, 1) := by decide +kernel
theorem dX3_setPot_9 : decode cX3_setPot 9 = .ok (.getfield 9, 3) := by decide +kernel
theorem dX3_setPot_12 : decode cX3_setPot 12 = .ok (.iload_n 1, 1) := by decide +kernel
theorem dX3_setPot_13 : decode cX3_setPot 13 = .ok (.iload_n 2, 1) := by decide +kernel
theorem dX3_setPot_14 : decode cX3_setPot 14 = .ok (.iastore, 1) := by decide +kernel
theorem dX3_setPot_15 : decode cX3_setPot 15 = .ok (.aload_n 0, 1) := by decide +kernel
theorem dX3_setPot_16 : decode cX3_setPot 16 = .ok (.getfield 26, 3) := by decide +kernel
theorem dX3_setPot_19 : decode cX3_setPot 19 = .ok (.iload_n 1, 1) := by decide +kernel
theorem dX3_setPot_20 : decode cX3_setPot 20 = .ok (.iload_n 3, 1) := by decide +kernel
theorem dX3_setPot_21 : decode cX3_setPot 21 = .ok (.iastore, 1) := by decide +kernel
theorem dX3_setPot_22 : decode cX3_setPot 22 = .ok (.return_, 1) := by decide +kernel
theorem dX3_leftOfCost_0 : decode cX3_leftOfCost 0 = .ok (.aload_n 0, 1) := by decide +kernel
theorem dX3_leftOfCost_1 : decode cX3_leftOfCost 1 = .ok (.iload_n 1, 1) := by decide +kernel
theorem dX3_leftOfCost_2 : decode cX3_leftOfCost 2 = .ok (.invokevirtual 57, 3) := by decide +kernel
theorem dX3_leftOfCost_5 : decode cX3_leftOfCost 5 = .ok (.ifCond .eq 12, 3) := by decide +kernel
theorem dX3_leftOfCost_8 : decode cX3_leftOfCost 8 = .ok (.aload_n 0, 1) := by decide +kernel
theorem dX3_leftOfCost_9 : decode cX3_leftOfCost 9 = .ok (.getfield 15, 3) := by decide +kernel
theorem dX3_leftOfCost_12 : decode cX3_leftOfCost 12 = .ok (.iload_n 1, 1) := by decide +kernel
theorem dX3_leftOfCost_13 : decode cX3_leftOfCost 13 = .ok (.iaload, 1) := by decide +kernel
theorem dX3_leftOfCost_14 : decode cX3_leftOfCost 14 = .ok (.goto 4, 3) := by decide +kernel
theorem dX3_leftOfCost_17 : decode cX3_leftOfCost 17 = .ok (.iconst 0, 1) := by decide +kernel
theorem dX3_leftOfCost_18 : decode cX3_leftOfCost 18 = .ok (.ireturn, 1) := by decide +kernel
theorem dX3_leftOfPot_0 : decode cX3_leftOfPot 0 = .ok (.aload_n 0, 1) := by decide +kernel
theorem dX3_leftOfPot_1 : decode cX3_leftOfPot 1 = .ok (.iload_n 1, 1) := by decide +kernel
theorem dX3_leftOfPot_2 : decode cX3_leftOfPot 2 = .ok (.invokevirtual 61, 3) := by decide +kernel
theorem dX3_leftOfPot_5 : decode cX3_leftOfPot 5 = .ok (.ifCond .eq 12, 3) := by decide +kernel
theorem dX3_leftOfPot_8 : decode cX3_leftOfPot 8 = .ok (.aload_n 0, 1) := by decide +kernel
theorem dX3_leftOfPot_9 : decode cX3_leftOfPot 9 = .ok (.getfield 9, 3) := by decide +kernel
theorem dX3_leftOfPot_12 : decode cX3_leftOfPot 12 = .ok (.iload_n 1, 1) := by decide +kernel
theorem dX3_leftOfPot_13 : decode cX3_leftOfPot 13 = .ok (.iaload, 1) := by decide +kernel
theorem dX3_leftOfPot_14 : decode cX3_leftOfPot 14 = .ok (.goto 4, 3) := by decide +kernel
theorem dX3_leftOfPot_17 : decode cX3_leftOfPot 17 = .ok (.iconst 0, 1) := by decide +kernel
theorem dX3_leftOfPot_18 : decode cX3_leftOfPot 18 = .ok (.ireturn, 1) := by decide +kernel
theorem dX3_share_0 : decode cX3_share 0 = .ok (.aload_n 0, 1) := by decide +kernel
theorem dX3_share_1 : decode cX3_share 1 = .ok (.iload_n 1, 1) := by decide +kernel
theorem dX3_share_2 : decode cX3_share 2 = .ok (.invokevirtual 61, 3) := by decide +kernel
theorem dX3_share_5 : decode cX3_share 5 = .ok (.ifCond .eq 22, 3) := by decide +kernel
theorem dX3_share_8 : decode cX3_share 8 = .ok (.aload_n 0, 1) := by decide +kernel
theorem dX3_share_9 : decode cX3_share 9 = .ok (.iload_n 2, 1) := by decide +kernel
theorem dX3_share_10 : decode cX3_share 10 = .ok (.invokevirtual 57, 3) := by decide +kernel
theorem dX3_share_13 : decode cX3_share 13 = .ok (.ifCond .eq 14, 3) := by decide +kernel
theorem dX3_share_16 : decode cX3_share 16 = .ok (.aload_n 0, 1) := by decide +kernel
theorem dX3_share_17 : decode cX3_share 17 = .ok (.getfield 23, 3) := by decide +kernel
theorem dX3_share_20 : decode cX3_share 20 = .ok (.iload_n 1, 1) := by decide +kernel
theorem dX3_share_21 : decode cX3_share 21 = .ok (.aaload, 1) := by decide +kernel
theorem dX3_share_22 : decode cX3_share 22 = .ok (.iload_n 2, 1) := by decide +kernel
theorem dX3_share_23 : decode cX3_share 23 = .ok (.iaload, 1) := by decide +kernel
theorem dX3_share_24 : decode cX3_share 24 = .ok (.goto 4, 3) := by decide +kernel
theorem dX3_share_27 : decode cX3_share 27 = .ok (.iconst 0, 1) := by decide +kernel
theorem dX3_share_28 : decode cX3_share 28 = .ok (.ireturn, 1) := by decide +kernel
theorem dX3_paidInAll_0 : decode cX3_paidInAll 0 = .ok (.iconst 0, 1) := by decide +kernel
theorem dX3_paidInAll_1 : decode cX3_paidInAll 1 = .ok (.istore_n 1, 1) := by decide +kernel
theorem dX3_paidInAll_2 : decode cX3_paidInAll 2 = .ok (.iconst 0, 1) := by decide +kernel
theorem dX3_paidInAll_3 : decode cX3_paidInAll 3 = .ok (.istore_n 2, 1) := by decide +kernel
theorem dX3_paidInAll_4 : decode cX3_paidInAll 4 = .ok (.iload_n 2, 1) := by decide +kernel
theorem dX3_paidInAll_5 : decode cX3_paidInAll 5 = .ok (.aload_n 0, 1) := by decide +kernel
theorem dX3_paidInAll_6 : decode cX3_paidInAll 6 = .ok (.getfield 54, 3) := by decide +kernel
theorem dX3_paidInAll_9 : decode cX3_paidInAll 9 = .ok (.if_icmp .ge 18, 3) := by decide +kernel
theorem dX3_paidInAll_12 : decode cX3_paidInAll 12 = .ok (.iload_n 1, 1) := by decide +kernel
theorem dX3_paidInAll_13 : decode cX3_paidInAll 13 = .ok (.aload_n 0, 1) := by decide +kernel
theorem dX3_paidInAll_14 : decode cX3_paidInAll 14 = .ok (.getfield 18, 3) := by decide +kernel
theorem dX3_paidInAll_17 : decode cX3_paidInAll 17 = .ok (.iload_n 2, 1) := by decide +kernel
theorem dX3_paidInAll_18 : decode cX3_paidInAll 18 = .ok (.iaload, 1) := by decide +kernel
theorem dX3_paidInAll_19 : decode cX3_paidInAll 19 = .ok (.iadd, 1) := by decide +kernel
theorem dX3_paidInAll_20 : decode cX3_paidInAll 20 = .ok (.istore_n 1, 1) := by decide +kernel
theorem dX3_paidInAll_21 : decode cX3_paidInAll 21 = .ok (.iinc 2 1, 3) := by decide +kernel
theorem dX3_paidInAll_24 : decode cX3_paidInAll 24 = .ok (.goto (-20), 3) := by decide +kernel
theorem dX3_paidInAll_27 : decode cX3_paidInAll 27 = .ok (.iload_n 1, 1) := by decide +kernel
theorem dX3_paidInAll_28 : decode cX3_paidInAll 28 = .ok (.ireturn, 1) := by decide +kernel
theorem dX3_payCosts_0 : decode cX3_payCosts 0 = .ok (.iconst 0, 1) := by decide +kernel
theorem dX3_payCosts_1 : decode cX3_payCosts 1 = .ok (.istore_n 1, 1) := by decide +kernel
theorem dX3_payCosts_2 : decode cX3_payCosts 2 = .ok (.iload_n 1, 1) := by decide +kernel
theorem dX3_payCosts_3 : decode cX3_payCosts 3 = .ok (.aload_n 0, 1) := by decide +kernel
theorem dX3_payCosts_4 : decode cX3_payCosts 4 = .ok (.getfield 54, 3) := by decide +kernel
theorem dX3_payCosts_7 : decode cX3_payCosts 7 = .ok (.if_icmp .ge 35, 3) := by decide +kernel
theorem dX3_payCosts_10 : decode cX3_payCosts 10 = .ok (.iconst 1, 1) := by decide +kernel
theorem dX3_payCosts_11 : decode cX3_payCosts 11 = .ok (.istore_n 2, 1) := by decide +kernel
theorem dX3_payCosts_12 : decode cX3_payCosts 12 = .ok (.iconst 0, 1) := by decide +kernel
theorem dX3_payCosts_13 : decode cX3_payCosts 13 = .ok (.istore_n 3, 1) := by decide +kernel
theorem dX3_payCosts_14 : decode cX3_payCosts 14 = .ok (.iload_n 3, 1) := by decide +kernel
theorem dX3_payCosts_15 : decode cX3_payCosts 15 = .ok (.ldc 64, 2) := by decide +kernel
theorem dX3_payCosts_17 : decode cX3_payCosts 17 = .ok (.if_icmp .ge 19, 3) := by decide +kernel
theorem dX3_payCosts_20 : decode cX3_payCosts 20 = .ok (.iload_n 2, 1) := by decide +kernel
theorem dX3_payCosts_21 : decode cX3_payCosts 21 = .ok (.ifCond .eq 15, 3) := by decide +kernel
theorem dX3_payCosts_24 : decode cX3_payCosts 24 = .ok (.aload_n 0, 1) := by decide +kernel
theorem dX3_payCosts_25 : decode cX3_payCosts 25 = .ok (.iload_n 1, 1) := by decide +kernel
theorem dX3_payCosts_26 : decode cX3_payCosts 26 = .ok (.invokevirtual 65, 3) := by decide +kernel
theorem dX3_payCosts_29 : decode cX3_payCosts 29 = .ok (.istore_n 2, 1) := by decide +kernel
theorem dX3_payCosts_30 : decode cX3_payCosts 30 = .ok (.iinc 3 1, 3) := by decide +kernel
theorem dX3_payCosts_33 : decode cX3_payCosts 33 = .ok (.goto (-19), 3) := by decide +kernel
theorem dX3_payCosts_36 : decode cX3_payCosts 36 = .ok (.iinc 1 1, 3) := by decide +kernel
theorem dX3_payCosts_39 : decode cX3_payCosts 39 = .ok (.goto (-37), 3) := by decide +kernel
theorem dX3_payCosts_42 : decode cX3_payCosts 42 = .ok (.return_, 1) := by decide +kernel
theorem dX3_drawOnPots_0 : decode cX3_drawOnPots 0 = .ok (.iconst 0, 1) := by decide +kernel
theorem dX3_drawOnPots_1 : decode cX3_drawOnPots 1 = .ok (.istore_n 1, 1) := by decide +kernel
theorem dX3_drawOnPots_2 : decode cX3_drawOnPots 2 = .ok (.iload_n 1, 1) := by decide +kernel
theorem dX3_drawOnPots_3 : decode cX3_drawOnPots 3 = .ok (.aload_n 0, 1) := by decide +kernel
theorem dX3_drawOnPots_4 : decode cX3_drawOnPots 4 = .ok (.getfield 50, 3) := by decide +kernel
theorem dX3_drawOnPots_7 : decode cX3_drawOnPots 7 = .ok (.if_icmp .ge 35, 3) := by decide +kernel
theorem dX3_drawOnPots_10 : decode cX3_drawOnPots 10 = .ok (.iconst 1, 1) := by decide +kernel
theorem dX3_drawOnPots_11 : decode cX3_drawOnPots 11 = .ok (.istore_n 2, 1) := by decide +kernel
theorem dX3_drawOnPots_12 : decode cX3_drawOnPots 12 = .ok (.iconst 0, 1) := by decide +kernel
theorem dX3_drawOnPots_13 : decode cX3_drawOnPots 13 = .ok (.istore_n 3, 1) := by decide +kernel
theorem dX3_drawOnPots_14 : decode cX3_drawOnPots 14 = .ok (.iload_n 3, 1) := by decide +kernel
theorem dX3_drawOnPots_15 : decode cX3_drawOnPots 15 = .ok (.ldc 64, 2) := by decide +kernel
theorem dX3_drawOnPots_17 : decode cX3_drawOnPots 17 = .ok (.if_icmp .ge 19, 3) := by decide +kernel
theorem dX3_drawOnPots_20 : decode cX3_drawOnPots 20 = .ok (.iload_n 2, 1) := by decide +kernel
theorem dX3_drawOnPots_21 : decode cX3_drawOnPots 21 = .ok (.ifCond .eq 15, 3) := by decide +kernel
theorem dX3_drawOnPots_24 : decode cX3_drawOnPots 24 = .ok (.aload_n 0, 1) := by decide +kernel
theorem dX3_drawOnPots_25 : decode cX3_drawOnPots 25 = .ok (.iload_n 1, 1) := by decide +kernel
theorem dX3_drawOnPots_26 : decode cX3_drawOnPots 26 = .ok (.invokevirtual 68, 3) := by decide +kernel
theorem dX3_drawOnPots_29 : decode cX3_drawOnPots 29 = .ok (.istore_n 2, 1) := by decide +kernel
theorem dX3_drawOnPots_30 : decode cX3_drawOnPots 30 = .ok (.iinc 3 1, 3) := by decide +kernel
theorem dX3_drawOnPots_33 : decode cX3_drawOnPots 33 = .ok (.goto (-19), 3) := by decide +kernel
theorem dX3_drawOnPots_36 : decode cX3_drawOnPots 36 = .ok (.iinc 1 1, 3) := by decide +kernel
theorem dX3_drawOnPots_39 : decode cX3_drawOnPots 39 = .ok (.goto (-37), 3) := by decide +kernel
theorem dX3_drawOnPots_42 : decode cX3_drawOnPots 42 = .ok (.return_, 1) := by decide +kernel
theorem dX3_spreadCosts_0 : decode cX3_spreadCosts 0 = .ok (.iconst 0, 1) := by decide +kernel
theorem dX3_spreadCosts_1 : decode cX3_spreadCosts 1 = .ok (.istore_n 1, 1) := by decide +kernel
theorem dX3_spreadCosts_2 : decode cX3_spreadCosts 2 = .ok (.iload_n 1, 1) := by decide +kernel
theorem dX3_spreadCosts_3 : decode cX3_spreadCosts 3 = .ok (.aload_n 0, 1) := by decide +kernel
theorem dX3_spreadCosts_4 : decode cX3_spreadCosts 4 = .ok (.getfield 54, 3) := by decide +kernel
theorem dX3_spreadCosts_7 : decode cX3_spreadCosts 7 = .ok (.if_icmp .ge 63, 3) := by decide +kernel
theorem dX3_spreadCosts_10 : decode cX3_spreadCosts 10 = .ok (.iconst 0, 1) := by decide +kernel
theorem dX3_spreadCosts_11 : decode cX3_spreadCosts 11 = .ok (.istore_n 2, 1) := by decide +kernel
theorem dX3_spreadCosts_12 : decode cX3_spreadCosts 12 = .ok (.iload_n 2, 1) := by decide +kernel
theorem dX3_spreadCosts_13 : decode cX3_spreadCosts 13 = .ok (.aload_n 0, 1) := by decide +kernel
theorem dX3_spreadCosts_14 : decode cX3_spreadCosts 14 = .ok (.getfield 50, 3) := by decide +kernel
theorem dX3_spreadCosts_17 : decode cX3_spreadCosts 17 = .ok (.if_icmp .ge 47, 3) := by decide +kernel
theorem dX3_spreadCosts_20 : decode cX3_spreadCosts 20 = .ok (.aload_n 0, 1) := by decide +kernel
theorem dX3_spreadCosts_21 : decode cX3_spreadCosts 21 = .ok (.getfield 26, 3) := by decide +kernel
theorem dX3_spreadCosts_24 : decode cX3_spreadCosts 24 = .ok (.iload_n 2, 1) := by decide +kernel
theorem dX3_spreadCosts_25 : decode cX3_spreadCosts 25 = .ok (.iaload, 1) := by decide +kernel
theorem dX3_spreadCosts_26 : decode cX3_spreadCosts 26 = .ok (.iload_n 1, 1) := by decide +kernel
theorem dX3_spreadCosts_27 : decode cX3_spreadCosts 27 = .ok (.invokestatic 71, 3) := by decide +kernel
theorem dX3_spreadCosts_30 : decode cX3_spreadCosts 30 = .ok (.istore_n 3, 1) := by decide +kernel
theorem dX3_spreadCosts_31 : decode cX3_spreadCosts 31 = .ok (.iconst 0, 1) := by decide +kernel
theorem dX3_spreadCosts_32 : decode cX3_spreadCosts 32 = .ok (.istore 4, 2) := by decide +kernel
theorem dX3_spreadCosts_34 : decode cX3_spreadCosts 34 = .ok (.iload 4, 2) := by decide +kernel
theorem dX3_spreadCosts_36 : decode cX3_spreadCosts 36 = .ok (.ldc 64, 2) := by decide +kernel
theorem dX3_spreadCosts_38 : decode cX3_spreadCosts 38 = .ok (.if_icmp .ge 20, 3) := by decide +kernel
theorem dX3_spreadCosts_41 : decode cX3_spreadCosts 41 = .ok (.iload_n 3, 1) := by decide +kernel
theorem dX3_spreadCosts_42 : decode cX3_spreadCosts 42 = .ok (.ifCond .eq 16, 3) := by decide +kernel
theorem dX3_spreadCosts_45 : decode cX3_spreadCosts 45 = .ok (.aload_n 0, 1) := by decide +kernel
theorem dX3_spreadCosts_46 : decode cX3_spreadCosts 46 = .ok (.iload_n 2, 1) := by decide +kernel
theorem dX3_spreadCosts_47 : decode cX3_spreadCosts 47 = .ok (.iload_n 1, 1) := by decide +kernel
theorem dX3_spreadCosts_48 : decode cX3_spreadCosts 48 = .ok (.invokevirtual 75, 3) := by decide +kernel
theorem dX3_spreadCosts_51 : decode cX3_spreadCosts 51 = .ok (.istore_n 3, 1) := by decide +kernel
theorem dX3_spreadCosts_52 : decode cX3_spreadCosts 52 = .ok (.iinc 4 1, 3) := by decide +kernel
theorem dX3_spreadCosts_55 : decode cX3_spreadCosts 55 = .ok (.goto (-21), 3) := by decide +kernel
theorem dX3_spreadCosts_58 : decode cX3_spreadCosts 58 = .ok (.iinc 2 1, 3) := by decide +kernel
theorem dX3_spreadCosts_61 : decode cX3_spreadCosts 61 = .ok (.goto (-49), 3) := by decide +kernel
theorem dX3_spreadCosts_64 : decode cX3_spreadCosts 64 = .ok (.iinc 1 1, 3) := by decide +kernel
theorem dX3_spreadCosts_67 : decode cX3_spreadCosts 67 = .ok (.goto (-65), 3) := by decide +kernel
theorem dX3_spreadCosts_70 : decode cX3_spreadCosts 70 = .ok (.return_, 1) := by decide +kernel
theorem dX3_payMoreOf_0 : decode cX3_payMoreOf 0 = .ok (.aload_n 0, 1) := by decide +kernel
theorem dX3_payMoreOf_1 : decode cX3_payMoreOf 1 = .ok (.iload_n 1, 1) := by decide +kernel
theorem dX3_payMoreOf_2 : decode cX3_payMoreOf 2 = .ok (.invokevirtual 78, 3) := by decide +kernel
theorem dX3_payMoreOf_5 : decode cX3_payMoreOf 5 = .ok (.ifCond .gt 5, 3) := by decide +kernel
theorem dX3_payMoreOf_8 : decode cX3_payMoreOf 8 = .ok (.iconst 0, 1) := by decide +kernel
theorem dX3_payMoreOf_9 : decode cX3_payMoreOf 9 = .ok (.ireturn, 1) := by decide +kernel
theorem dX3_payMoreOf_10 : decode cX3_payMoreOf 10 = .ok (.aload_n 0, 1) := by decide +kernel
theorem dX3_payMoreOf_11 : decode cX3_payMoreOf 11 = .ok (.aload_n 0, 1) := by decide +kernel
theorem dX3_payMoreOf_12 : decode cX3_payMoreOf 12 = .ok (.invokevirtual 82, 3) := by decide +kernel
theorem dX3_payMoreOf_15 : decode cX3_payMoreOf 15 = .ok (.aload_n 0, 1) := by decide +kernel
theorem dX3_payMoreOf_16 : decode cX3_payMoreOf 16 = .ok (.aload_n 0, 1) := by decide +kernel
theorem dX3_payMoreOf_17 : decode cX3_payMoreOf 17 = .ok (.getfield 26, 3) := by decide +kernel
theorem dX3_payMoreOf_20 : decode cX3_payMoreOf 20 = .ok (.iload_n 1, 1) := by decide +kernel
theorem dX3_payMoreOf_21 : decode cX3_payMoreOf 21 = .ok (.invokevirtual 86, 3) := by decide +kernel
theorem dX3_payMoreOf_24 : decode cX3_payMoreOf 24 = .ok (.iconst 0, 1) := by decide +kernel
theorem dX3_payMoreOf_25 : decode cX3_payMoreOf 25 = .ok (.invokevirtual 90, 3) := by decide +kernel
theorem dX3_payMoreOf_28 : decode cX3_payMoreOf 28 = .ok (.istore_n 2, 1) := by decide +kernel
theorem dX3_payMoreOf_29 : decode cX3_payMoreOf 29 = .ok (.iload_n 2, 1) := by decide +kernel
theorem dX3_payMoreOf_30 : decode cX3_payMoreOf 30 = .ok (.iconst (-1), 1) := by decide +kernel
theorem dX3_payMoreOf_31 : decode cX3_payMoreOf 31 = .ok (.if_icmp .ne 5, 3) := by decide +kernel
theorem dX3_payMoreOf_34 : decode cX3_payMoreOf 34 = .ok (.iconst 0, 1) := by decide +kernel
theorem dX3_payMoreOf_35 : decode cX3_payMoreOf 35 = .ok (.ireturn, 1) := by decide +kernel
theorem dX3_payMoreOf_36 : decode cX3_payMoreOf 36 = .ok (.aload_n 0, 1) := by decide +kernel
theorem dX3_payMoreOf_37 : decode cX3_payMoreOf 37 = .ok (.iload_n 2, 1) := by decide +kernel
theorem dX3_payMoreOf_38 : decode cX3_payMoreOf 38 = .ok (.invokevirtual 94, 3) := by decide +kernel
theorem dX3_payMoreOf_41 : decode cX3_payMoreOf 41 = .ok (.istore_n 3, 1) := by decide +kernel
theorem dX3_payMoreOf_42 : decode cX3_payMoreOf 42 = .ok (.aload_n 0, 1) := by decide +kernel
theorem dX3_payMoreOf_43 : decode cX3_payMoreOf 43 = .ok (.iload_n 2, 1) := by decide +kernel
theorem dX3_payMoreOf_44 : decode cX3_payMoreOf 44 = .ok (.aload_n 0, 1) := by decide +kernel
theorem dX3_payMoreOf_45 : decode cX3_payMoreOf 45 = .ok (.iload_n 1, 1) := by decide +kernel
theorem dX3_payMoreOf_46 : decode cX3_payMoreOf 46 = .ok (.invokevirtual 78, 3) := by decide +kernel
theorem dX3_payMoreOf_49 : decode cX3_payMoreOf 49 = .ok (.aload_n 0, 1) := by decide +kernel
theorem dX3_payMoreOf_50 : decode cX3_payMoreOf 50 = .ok (.iload_n 3, 1) := by decide +kernel
theorem dX3_payMoreOf_51 : decode cX3_payMoreOf 51 = .ok (.invokevirtual 97, 3) := by decide +kernel
theorem dX3_payMoreOf_54 : decode cX3_payMoreOf 54 = .ok (.invokestatic 41, 3) := by decide +kernel
theorem dX3_payMoreOf_57 : decode cX3_payMoreOf 57 = .ok (.invokevirtual 100, 3) := by decide +kernel
theorem dX3_payMoreOf_60 : decode cX3_payMoreOf 60 = .ok (.istore 4, 2) := by decide +kernel
theorem dX3_payMoreOf_62 : decode cX3_payMoreOf 62 = .ok (.aload_n 0, 1) := by decide +kernel
theorem dX3_payMoreOf_63 : decode cX3_payMoreOf 63 = .ok (.iload_n 2, 1) := by decide +kernel
theorem dX3_payMoreOf_64 : decode cX3_payMoreOf 64 = .ok (.iload 4, 2) := by decide +kernel
theorem dX3_payMoreOf_66 : decode cX3_payMoreOf 66 = .ok (.invokevirtual 103, 3) := by decide +kernel
theorem dX3_payMoreOf_69 : decode cX3_payMoreOf 69 = .ok (.aload_n 0, 1) := by decide +kernel
theorem dX3_payMoreOf_70 : decode cX3_payMoreOf 70 = .ok (.iload_n 2, 1) := by decide +kernel
theorem dX3_payMoreOf_71 : decode cX3_payMoreOf 71 = .ok (.iload_n 1, 1) := by decide +kernel
theorem dX3_payMoreOf_72 : decode cX3_payMoreOf 72 = .ok (.iload 4, 2) := by decide +kernel
theorem dX3_payMoreOf_74 : decode cX3_payMoreOf 74 = .ok (.invokevirtual 107, 3) := by decide +kernel
theorem dX3_payMoreOf_77 : decode cX3_payMoreOf 77 = .ok (.aload_n 0, 1) := by decide +kernel
theorem dX3_payMoreOf_78 : decode cX3_payMoreOf 78 = .ok (.iload_n 3, 1) := by decide +kernel
theorem dX3_payMoreOf_79 : decode cX3_payMoreOf 79 = .ok (.iload 4, 2) := by decide +kernel
theorem dX3_payMoreOf_81 : decode cX3_payMoreOf 81 = .ok (.ineg, 1) := by decide +kernel
theorem dX3_payMoreOf_82 : decode cX3_payMoreOf 82 = .ok (.invokevirtual 111, 3) := by decide +kernel
theorem dX3_payMoreOf_85 : decode cX3_payMoreOf 85 = .ok (.aload_n 0, 1) := by decide +kernel
theorem dX3_payMoreOf_86 : decode cX3_payMoreOf 86 = .ok (.iload_n 1, 1) := by decide +kernel
theorem dX3_payMoreOf_87 : decode cX3_payMoreOf 87 = .ok (.iload 4, 2) := by decide +kernel
theorem dX3_payMoreOf_89 : decode cX3_payMoreOf 89 = .ok (.invokevirtual 114, 3) := by decide +kernel
theorem dX3_payMoreOf_92 : decode cX3_payMoreOf 92 = .ok (.iload 4, 2) := by decide +kernel
theorem dX3_payMoreOf_94 : decode cX3_payMoreOf 94 = .ok (.ifCond .le 7, 3) := by decide +kernel
theorem dX3_payMoreOf_97 : decode cX3_payMoreOf 97 = .ok (.iconst 1, 1) := by decide +kernel
theorem dX3_payMoreOf_98 : decode cX3_payMoreOf 98 = .ok (.goto 4, 3) := by decide +kernel
theorem dX3_payMoreOf_101 : decode cX3_payMoreOf 101 = .ok (.iconst 0, 1) := by decide +kernel
theorem dX3_payMoreOf_102 : decode cX3_payMoreOf 102 = .ok (.ireturn, 1) := by decide +kernel
theorem dX3_drawMoreOn_0 : decode cX3_drawMoreOn 0 = .ok (.aload_n 0, 1) := by decide +kernel
theorem dX3_drawMoreOn_1 : decode cX3_drawMoreOn 1 = .ok (.iload_n 1, 1) := by decide +kernel
theorem dX3_drawMoreOn_2 : decode cX3_drawMoreOn 2 = .ok (.invokevirtual 97, 3) := by decide +kernel
theorem dX3_drawMoreOn_5 : decode cX3_drawMoreOn 5 = .ok (.ifCond .gt 5, 3) := by decide +kernel
theorem dX3_drawMoreOn_8 : decode cX3_drawMoreOn 8 = .ok (.iconst 0, 1) := by decide +kernel
theorem dX3_drawMoreOn_9 : decode cX3_drawMoreOn 9 = .ok (.ireturn, 1) := by decide +kernel
theorem dX3_drawMoreOn_10 : decode cX3_drawMoreOn 10 = .ok (.aload_n 0, 1) := by decide +kernel
theorem dX3_drawMoreOn_11 : decode cX3_drawMoreOn 11 = .ok (.iconst 1, 1) := by decide +kernel
theorem dX3_drawMoreOn_12 : decode cX3_drawMoreOn 12 = .ok (.iload_n 1, 1) := by decide +kernel
theorem dX3_drawMoreOn_13 : decode cX3_drawMoreOn 13 = .ok (.ishl, 1) := by decide +kernel
theorem dX3_drawMoreOn_14 : decode cX3_drawMoreOn 14 = .ok (.aload_n 0, 1) := by decide +kernel
theorem dX3_drawMoreOn_15 : decode cX3_drawMoreOn 15 = .ok (.iload_n 1, 1) := by decide +kernel
theorem dX3_drawMoreOn_16 : decode cX3_drawMoreOn 16 = .ok (.invokevirtual 117, 3) := by decide +kernel
theorem dX3_drawMoreOn_19 : decode cX3_drawMoreOn 19 = .ok (.iconst 0, 1) := by decide +kernel
theorem dX3_drawMoreOn_20 : decode cX3_drawMoreOn 20 = .ok (.invokevirtual 90, 3) := by decide +kernel
theorem dX3_drawMoreOn_23 : decode cX3_drawMoreOn 23 = .ok (.istore_n 2, 1) := by decide +kernel
theorem dX3_drawMoreOn_24 : decode cX3_drawMoreOn 24 = .ok (.iload_n 2, 1) := by decide +kernel
theorem dX3_drawMoreOn_25 : decode cX3_drawMoreOn 25 = .ok (.iconst (-1), 1) := by decide +kernel
theorem dX3_drawMoreOn_26 : decode cX3_drawMoreOn 26 = .ok (.if_icmp .ne 5, 3) := by decide +kernel
theorem dX3_drawMoreOn_29 : decode cX3_drawMoreOn 29 = .ok (.iconst 0, 1) := by decide +kernel
theorem dX3_drawMoreOn_30 : decode cX3_drawMoreOn 30 = .ok (.ireturn, 1) := by decide +kernel
theorem dX3_drawMoreOn_31 : decode cX3_drawMoreOn 31 = .ok (.aload_n 0, 1) := by decide +kernel
theorem dX3_drawMoreOn_32 : decode cX3_drawMoreOn 32 = .ok (.iload_n 2, 1) := by decide +kernel
theorem dX3_drawMoreOn_33 : decode cX3_drawMoreOn 33 = .ok (.aload_n 0, 1) := by decide +kernel
theorem dX3_drawMoreOn_34 : decode cX3_drawMoreOn 34 = .ok (.iload_n 1, 1) := by decide +kernel
theorem dX3_drawMoreOn_35 : decode cX3_drawMoreOn 35 = .ok (.invokevirtual 97, 3) := by decide +kernel
theorem dX3_drawMoreOn_38 : decode cX3_drawMoreOn 38 = .ok (.invokevirtual 100, 3) := by decide +kernel
theorem dX3_drawMoreOn_41 : decode cX3_drawMoreOn 41 = .ok (.istore_n 3, 1) := by decide +kernel
theorem dX3_drawMoreOn_42 : decode cX3_drawMoreOn 42 = .ok (.aload_n 0, 1) := by decide +kernel
theorem dX3_drawMoreOn_43 : decode cX3_drawMoreOn 43 = .ok (.iload_n 2, 1) := by decide +kernel
theorem dX3_drawMoreOn_44 : decode cX3_drawMoreOn 44 = .ok (.iload_n 3, 1) := by decide +kernel
theorem dX3_drawMoreOn_45 : decode cX3_drawMoreOn 45 = .ok (.invokevirtual 103, 3) := by decide +kernel
theorem dX3_drawMoreOn_48 : decode cX3_drawMoreOn 48 = .ok (.aload_n 0, 1) := by decide +kernel
theorem dX3_drawMoreOn_49 : decode cX3_drawMoreOn 49 = .ok (.iload_n 1, 1) := by decide +kernel
theorem dX3_drawMoreOn_50 : decode cX3_drawMoreOn 50 = .ok (.iload_n 3, 1) := by decide +kernel
theorem dX3_drawMoreOn_51 : decode cX3_drawMoreOn 51 = .ok (.ineg, 1) := by decide +kernel
theorem dX3_drawMoreOn_52 : decode cX3_drawMoreOn 52 = .ok (.invokevirtual 111, 3) := by decide +kernel
theorem dX3_drawMoreOn_55 : decode cX3_drawMoreOn 55 = .ok (.aload_n 0, 1) := by decide +kernel
theorem dX3_drawMoreOn_56 : decode cX3_drawMoreOn 56 = .ok (.iload_n 2, 1) := by decide +kernel
theorem dX3_drawMoreOn_57 : decode cX3_drawMoreOn 57 = .ok (.iload_n 3, 1) := by decide +kernel
theorem dX3_drawMoreOn_58 : decode cX3_drawMoreOn 58 = .ok (.invokevirtual 111, 3) := by decide +kernel
theorem dX3_drawMoreOn_61 : decode cX3_drawMoreOn 61 = .ok (.iload_n 3, 1) := by decide +kernel
theorem dX3_drawMoreOn_62 : decode cX3_drawMoreOn 62 = .ok (.ifCond .le 7, 3) := by decide +kernel
theorem dX3_drawMoreOn_65 : decode cX3_drawMoreOn 65 = .ok (.iconst 1, 1) := by decide +kernel
theorem dX3_drawMoreOn_66 : decode cX3_drawMoreOn 66 = .ok (.goto 4, 3) := by decide +kernel
theorem dX3_drawMoreOn_69 : decode cX3_drawMoreOn 69 = .ok (.iconst 0, 1) := by decide +kernel
theorem dX3_drawMoreOn_70 : decode cX3_drawMoreOn 70 = .ok (.ireturn, 1) := by decide +kernel
theorem dX3_payMoreFrom_0 : decode cX3_payMoreFrom 0 = .ok (.aload_n 0, 1) := by decide +kernel
theorem dX3_payMoreFrom_1 : decode cX3_payMoreFrom 1 = .ok (.aload_n 0, 1) := by decide +kernel
theorem dX3_payMoreFrom_2 : decode cX3_payMoreFrom 2 = .ok (.iload_n 1, 1) := by decide +kernel
theorem dX3_payMoreFrom_3 : decode cX3_payMoreFrom 3 = .ok (.invokevirtual 117, 3) := by decide +kernel
theorem dX3_payMoreFrom_6 : decode cX3_payMoreFrom 6 = .ok (.aload_n 0, 1) := by decide +kernel
theorem dX3_payMoreFrom_7 : decode cX3_payMoreFrom 7 = .ok (.aload_n 0, 1) := by decide +kernel
theorem dX3_payMoreFrom_8 : decode cX3_payMoreFrom 8 = .ok (.getfield 29, 3) := by decide +kernel
theorem dX3_payMoreFrom_11 : decode cX3_payMoreFrom 11 = .ok (.iload_n 2, 1) := by decide +kernel
theorem dX3_payMoreFrom_12 : decode cX3_payMoreFrom 12 = .ok (.invokevirtual 86, 3) := by decide +kernel
theorem dX3_payMoreFrom_15 : decode cX3_payMoreFrom 15 = .ok (.iand, 1) := by decide +kernel
theorem dX3_payMoreFrom_16 : decode cX3_payMoreFrom 16 = .ok (.iconst 1, 1) := by decide +kernel
theorem dX3_payMoreFrom_17 : decode cX3_payMoreFrom 17 = .ok (.iload_n 1, 1) := by decide +kernel
theorem dX3_payMoreFrom_18 : decode cX3_payMoreFrom 18 = .ok (.ishl, 1) := by decide +kernel
theorem dX3_payMoreFrom_19 : decode cX3_payMoreFrom 19 = .ok (.iload_n 2, 1) := by decide +kernel
theorem dX3_payMoreFrom_20 : decode cX3_payMoreFrom 20 = .ok (.iconst 1, 1) := by decide +kernel
theorem dX3_payMoreFrom_21 : decode cX3_payMoreFrom 21 = .ok (.iadd, 1) := by decide +kernel
theorem dX3_payMoreFrom_22 : decode cX3_payMoreFrom 22 = .ok (.invokevirtual 90, 3) := by decide +kernel
theorem dX3_payMoreFrom_25 : decode cX3_payMoreFrom 25 = .ok (.istore_n 3, 1) := by decide +kernel
theorem dX3_payMoreFrom_26 : decode cX3_payMoreFrom 26 = .ok (.iload_n 3, 1) := by decide +kernel
theorem dX3_payMoreFrom_27 : decode cX3_payMoreFrom 27 = .ok (.iconst (-1), 1) := by decide +kernel
theorem dX3_payMoreFrom_28 : decode cX3_payMoreFrom 28 = .ok (.if_icmp .ne 5, 3) := by decide +kernel
theorem dX3_payMoreFrom_31 : decode cX3_payMoreFrom 31 = .ok (.iconst 0, 1) := by decide +kernel
theorem dX3_payMoreFrom_32 : decode cX3_payMoreFrom 32 = .ok (.ireturn, 1) := by decide +kernel
theorem dX3_payMoreFrom_33 : decode cX3_payMoreFrom 33 = .ok (.aload_n 0, 1) := by decide +kernel
theorem dX3_payMoreFrom_34 : decode cX3_payMoreFrom 34 = .ok (.iload_n 3, 1) := by decide +kernel
theorem dX3_payMoreFrom_35 : decode cX3_payMoreFrom 35 = .ok (.invokevirtual 94, 3) := by decide +kernel
theorem dX3_payMoreFrom_38 : decode cX3_payMoreFrom 38 = .ok (.istore 4, 2) := by decide +kernel
theorem dX3_payMoreFrom_40 : decode cX3_payMoreFrom 40 = .ok (.aload_n 0, 1) := by decide +kernel
theorem dX3_payMoreFrom_41 : decode cX3_payMoreFrom 41 = .ok (.iload_n 3, 1) := by decide +kernel
theorem dX3_payMoreFrom_42 : decode cX3_payMoreFrom 42 = .ok (.aload_n 0, 1) := by decide +kernel
theorem dX3_payMoreFrom_43 : decode cX3_payMoreFrom 43 = .ok (.iload 4, 2) := by decide +kernel
theorem dX3_payMoreFrom_45 : decode cX3_payMoreFrom 45 = .ok (.iload_n 2, 1) := by decide +kernel
theorem dX3_payMoreFrom_46 : decode cX3_payMoreFrom 46 = .ok (.invokevirtual 120, 3) := by decide +kernel
theorem dX3_payMoreFrom_49 : decode cX3_payMoreFrom 49 = .ok (.invokevirtual 100, 3) := by decide +kernel
theorem dX3_payMoreFrom_52 : decode cX3_payMoreFrom 52 = .ok (.istore 5, 2) := by decide +kernel
theorem dX3_payMoreFrom_54 : decode cX3_payMoreFrom 54 = .ok (.aload_n 0, 1) := by decide +kernel
theorem dX3_payMoreFrom_55 : decode cX3_payMoreFrom 55 = .ok (.iload_n 3, 1) := by decide +kernel
theorem dX3_payMoreFrom_56 : decode cX3_payMoreFrom 56 = .ok (.iload 5, 2) := by decide +kernel
theorem dX3_payMoreFrom_58 : decode cX3_payMoreFrom 58 = .ok (.invokevirtual 103, 3) := by decide +kernel
theorem dX3_payMoreFrom_61 : decode cX3_payMoreFrom 61 = .ok (.aload_n 0, 1) := by decide +kernel
theorem dX3_payMoreFrom_62 : decode cX3_payMoreFrom 62 = .ok (.iload 4, 2) := by decide +kernel
theorem dX3_payMoreFrom_64 : decode cX3_payMoreFrom 64 = .ok (.iload_n 2, 1) := by decide +kernel
theorem dX3_payMoreFrom_65 : decode cX3_payMoreFrom 65 = .ok (.iload 5, 2) := by decide +kernel
theorem dX3_payMoreFrom_67 : decode cX3_payMoreFrom 67 = .ok (.ineg, 1) := by decide +kernel
theorem dX3_payMoreFrom_68 : decode cX3_payMoreFrom 68 = .ok (.invokevirtual 107, 3) := by decide +kernel
theorem dX3_payMoreFrom_71 : decode cX3_payMoreFrom 71 = .ok (.aload_n 0, 1) := by decide +kernel
theorem dX3_payMoreFrom_72 : decode cX3_payMoreFrom 72 = .ok (.iload_n 3, 1) := by decide +kernel
theorem dX3_payMoreFrom_73 : decode cX3_payMoreFrom 73 = .ok (.iload_n 2, 1) := by decide +kernel
theorem dX3_payMoreFrom_74 : decode cX3_payMoreFrom 74 = .ok (.iload 5, 2) := by decide +kernel
theorem dX3_payMoreFrom_76 : decode cX3_payMoreFrom 76 = .ok (.invokevirtual 107, 3) := by decide +kernel
theorem dX3_payMoreFrom_79 : decode cX3_payMoreFrom 79 = .ok (.iload 5, 2) := by decide +kernel
theorem dX3_payMoreFrom_81 : decode cX3_payMoreFrom 81 = .ok (.ifCond .le 7, 3) := by decide +kernel
theorem dX3_payMoreFrom_84 : decode cX3_payMoreFrom 84 = .ok (.iconst 1, 1) := by decide +kernel
theorem dX3_payMoreFrom_85 : decode cX3_payMoreFrom 85 = .ok (.goto 4, 3) := by decide +kernel
theorem dX3_payMoreFrom_88 : decode cX3_payMoreFrom 88 = .ok (.iconst 0, 1) := by decide +kernel
theorem dX3_payMoreFrom_89 : decode cX3_payMoreFrom 89 = .ok (.ireturn, 1) := by decide +kernel
theorem dX3_findChain_0 : decode cX3_findChain 0 = .ok (.iconst 0, 1) := by decide +kernel
theorem dX3_findChain_1 : decode cX3_findChain 1 = .ok (.istore 4, 2) := by decide +kernel
theorem dX3_findChain_3 : decode cX3_findChain 3 = .ok (.iconst 0, 1) := by decide +kernel
theorem dX3_findChain_4 : decode cX3_findChain 4 = .ok (.istore 5, 2) := by decide +kernel
theorem dX3_findChain_6 : decode cX3_findChain 6 = .ok (.iload 5, 2) := by decide +kernel
theorem dX3_findChain_8 : decode cX3_findChain 8 = .ok (.aload_n 0, 1) := by decide +kernel
theorem dX3_findChain_9 : decode cX3_findChain 9 = .ok (.getfield 50, 3) := by decide +kernel
theorem dX3_findChain_12 : decode cX3_findChain 12 = .ok (.if_icmp .ge 53, 3) := by decide +kernel
theorem dX3_findChain_15 : decode cX3_findChain 15 = .ok (.aload_n 0, 1) := by decide +kernel
theorem dX3_findChain_16 : decode cX3_findChain 16 = .ok (.getfield 35, 3) := by decide +kernel
theorem dX3_findChain_19 : decode cX3_findChain 19 = .ok (.iload 5, 2) := by decide +kernel
theorem dX3_findChain_21 : decode cX3_findChain 21 = .ok (.iconst (-1), 1) := by decide +kernel
theorem dX3_findChain_22 : decode cX3_findChain 22 = .ok (.iastore, 1) := by decide +kernel
theorem dX3_findChain_23 : decode cX3_findChain 23 = .ok (.aload_n 0, 1) := by decide +kernel
theorem dX3_findChain_24 : decode cX3_findChain 24 = .ok (.getfield 38, 3) := by decide +kernel
theorem dX3_findChain_27 : decode cX3_findChain 27 = .ok (.iload 5, 2) := by decide +kernel
theorem dX3_findChain_29 : decode cX3_findChain 29 = .ok (.iconst (-1), 1) := by decide +kernel
theorem dX3_findChain_30 : decode cX3_findChain 30 = .ok (.iastore, 1) := by decide +kernel
theorem dX3_findChain_31 : decode cX3_findChain 31 = .ok (.iload_n 1, 1) := by decide +kernel
theorem dX3_findChain_32 : decode cX3_findChain 32 = .ok (.iload 5, 2) := by decide +kernel
theorem dX3_findChain_34 : decode cX3_findChain 34 = .ok (.invokestatic 71, 3) := by decide +kernel
theorem dX3_findChain_37 : decode cX3_findChain 37 = .ok (.ifCond .eq 22, 3) := by decide +kernel
theorem dX3_findChain_40 : decode cX3_findChain 40 = .ok (.iload 4, 2) := by decide +kernel
theorem dX3_findChain_42 : decode cX3_findChain 42 = .ok (.bipush 12, 2) := by decide +kernel
theorem dX3_findChain_44 : decode cX3_findChain 44 = .ok (.if_icmp .ge 15, 3) := by decide +kernel
theorem dX3_findChain_47 : decode cX3_findChain 47 = .ok (.aload_n 0, 1) := by decide +kernel
theorem dX3_findChain_48 : decode cX3_findChain 48 = .ok (.getfield 32, 3) := by decide +kernel
theorem dX3_findChain_51 : decode cX3_findChain 51 = .ok (.iload 4, 2) := by decide +kernel
theorem dX3_findChain_53 : decode cX3_findChain 53 = .ok (.iload 5, 2) := by decide +kernel
theorem dX3_findChain_55 : decode cX3_findChain 55 = .ok (.iastore, 1) := by decide +kernel
theorem dX3_findChain_56 : decode cX3_findChain 56 = .ok (.iinc 4 1, 3) := by decide +kernel
theorem dX3_findChain_59 : decode cX3_findChain 59 = .ok (.iinc 5 1, 3) := by decide +kernel
theorem dX3_findChain_62 : decode cX3_findChain 62 = .ok (.goto (-56), 3) := by decide +kernel
theorem dX3_findChain_65 : decode cX3_findChain 65 = .ok (.iload_n 1, 1) := by decide +kernel
theorem dX3_findChain_66 : decode cX3_findChain 66 = .ok (.istore 5, 2) := by decide +kernel
theorem dX3_findChain_68 : decode cX3_findChain 68 = .ok (.iconst 0, 1) := by decide +kernel
theorem dX3_findChain_69 : decode cX3_findChain 69 = .ok (.istore 6, 2) := by decide +kernel
theorem dX3_findChain_71 : decode cX3_findChain 71 = .ok (.iload 6, 2) := by decide +kernel
theorem dX3_findChain_73 : decode cX3_findChain 73 = .ok (.iload 4, 2) := by decide +kernel
theorem dX3_findChain_75 : decode cX3_findChain 75 = .ok (.if_icmp .ge 132, 3) := by decide +kernel
theorem dX3_findChain_78 : decode cX3_findChain 78 = .ok (.iload 6, 2) := by decide +kernel
theorem dX3_findChain_80 : decode cX3_findChain 80 = .ok (.bipush 12, 2) := by decide +kernel
theorem dX3_findChain_82 : decode cX3_findChain 82 = .ok (.if_icmp .ge 125, 3) := by decide +kernel
theorem dX3_findChain_85 : decode cX3_findChain 85 = .ok (.aload_n 0, 1) := by decide +kernel
theorem dX3_findChain_86 : decode cX3_findChain 86 = .ok (.getfield 32, 3) := by decide +kernel
theorem dX3_findChain_89 : decode cX3_findChain 89 = .ok (.iload 6, 2) := by decide +kernel
theorem dX3_findChain_91 : decode cX3_findChain 91 = .ok (.iaload, 1) := by decide +kernel
theorem dX3_findChain_92 : decode cX3_findChain 92 = .ok (.istore 7, 2) := by decide +kernel
theorem dX3_findChain_94 : decode cX3_findChain 94 = .ok (.iload_n 2, 1) := by decide +kernel
theorem dX3_findChain_95 : decode cX3_findChain 95 = .ok (.iload 7, 2) := by decide +kernel
theorem dX3_findChain_97 : decode cX3_findChain 97 = .ok (.invokestatic 71, 3) := by decide +kernel
theorem dX3_findChain_100 : decode cX3_findChain 100 = .ok (.ifCond .eq 6, 3) := by decide +kernel
theorem dX3_findChain_103 : decode cX3_findChain 103 = .ok (.iload 7, 2) := by decide +kernel
theorem dX3_findChain_105 : decode cX3_findChain 105 = .ok (.ireturn, 1) := by decide +kernel
theorem dX3_findChain_106 : decode cX3_findChain 106 = .ok (.iconst 0, 1) := by decide +kernel
theorem dX3_findChain_107 : decode cX3_findChain 107 = .ok (.istore 8, 2) := by decide +kernel
theorem dX3_findChain_109 : decode cX3_findChain 109 = .ok (.iload 8, 2) := by decide +kernel
theorem dX3_findChain_111 : decode cX3_findChain 111 = .ok (.aload_n 0, 1) := by decide +kernel
theorem dX3_findChain_112 : decode cX3_findChain 112 = .ok (.getfield 50, 3) := by decide +kernel
theorem dX3_findChain_115 : decode cX3_findChain 115 = .ok (.if_icmp .ge 86, 3) := by decide +kernel
theorem dX3_findChain_118 : decode cX3_findChain 118 = .ok (.iload 5, 2) := by decide +kernel
theorem dX3_findChain_120 : decode cX3_findChain 120 = .ok (.iload 8, 2) := by decide +kernel
theorem dX3_findChain_122 : decode cX3_findChain 122 = .ok (.invokestatic 71, 3) := by decide +kernel
theorem dX3_findChain_125 : decode cX3_findChain 125 = .ok (.ifCond .eq 7, 3) := by decide +kernel
theorem dX3_findChain_128 : decode cX3_findChain 128 = .ok (.iconst (-1), 1) := by decide +kernel
theorem dX3_findChain_129 : decode cX3_findChain 129 = .ok (.goto 12, 3) := by decide +kernel
theorem dX3_findChain_132 : decode cX3_findChain 132 = .ok (.aload_n 0, 1) := by decide +kernel
theorem dX3_findChain_133 : decode cX3_findChain 133 = .ok (.iload 7, 2) := by decide +kernel
theorem dX3_findChain_135 : decode cX3_findChain 135 = .ok (.iload 8, 2) := by decide +kernel
theorem dX3_findChain_137 : decode cX3_findChain 137 = .ok (.iload_n 3, 1) := by decide +kernel
theorem dX3_findChain_138 : decode cX3_findChain 138 = .ok (.invokevirtual 123, 3) := by decide +kernel
theorem dX3_findChain_141 : decode cX3_findChain 141 = .ok (.istore 9, 2) := by decide +kernel
theorem dX3_findChain_143 : decode cX3_findChain 143 = .ok (.iload 9, 2) := by decide +kernel
theorem dX3_findChain_145 : decode cX3_findChain 145 = .ok (.iconst (-1), 1) := by decide +kernel
theorem dX3_findChain_146 : decode cX3_findChain 146 = .ok (.if_icmp .eq 49, 3) := by decide +kernel
theorem dX3_findChain_149 : decode cX3_findChain 149 = .ok (.iload 4, 2) := by decide +kernel
theorem dX3_findChain_151 : decode cX3_findChain 151 = .ok (.bipush 12, 2) := by decide +kernel
theorem dX3_findChain_153 : decode cX3_findChain 153 = .ok (.if_icmp .ge 42, 3) := by decide +kernel
theorem dX3_findChain_156 : decode cX3_findChain 156 = .ok (.aload_n 0, 1) := by decide +kernel
theorem dX3_findChain_157 : decode cX3_findChain 157 = .ok (.getfield 35, 3) := by decide +kernel
theorem dX3_findChain_160 : decode cX3_findChain 160 = .ok (.iload 8, 2) := by decide +kernel
theorem dX3_findChain_162 : decode cX3_findChain 162 = .ok (.iload 7, 2) := by decide +kernel
theorem dX3_findChain_164 : decode cX3_findChain 164 = .ok (.iastore, 1) := by decide +kernel
theorem dX3_findChain_165 : decode cX3_findChain 165 = .ok (.aload_n 0, 1) := by decide +kernel
theorem dX3_findChain_166 : decode cX3_findChain 166 = .ok (.getfield 38, 3) := by decide +kernel
theorem dX3_findChain_169 : decode cX3_findChain 169 = .ok (.iload 8, 2) := by decide +kernel
theorem dX3_findChain_171 : decode cX3_findChain 171 = .ok (.iload 9, 2) := by decide +kernel
theorem dX3_findChain_173 : decode cX3_findChain 173 = .ok (.iastore, 1) := by decide +kernel
theorem dX3_findChain_174 : decode cX3_findChain 174 = .ok (.iload 5, 2) := by decide +kernel
theorem dX3_findChain_176 : decode cX3_findChain 176 = .ok (.iconst 1, 1) := by decide +kernel
theorem dX3_findChain_177 : decode cX3_findChain 177 = .ok (.iload 8, 2) := by decide +kernel
theorem dX3_findChain_179 : decode cX3_findChain 179 = .ok (.ishl, 1) := by decide +kernel
theorem dX3_findChain_180 : decode cX3_findChain 180 = .ok (.ior, 1) := by decide +kernel
theorem dX3_findChain_181 : decode cX3_findChain 181 = .ok (.istore 5, 2) := by decide +kernel
theorem dX3_findChain_183 : decode cX3_findChain 183 = .ok (.aload_n 0, 1) := by decide +kernel
theorem dX3_findChain_184 : decode cX3_findChain 184 = .ok (.getfield 32, 3) := by decide +kernel
theorem dX3_findChain_187 : decode cX3_findChain 187 = .ok (.iload 4, 2) := by decide +kernel
theorem dX3_findChain_189 : decode cX3_findChain 189 = .ok (.iload 8, 2) := by decide +kernel
theorem dX3_findChain_191 : decode cX3_findChain 191 = .ok (.iastore, 1) := by decide +kernel
theorem dX3_findChain_192 : decode cX3_findChain 192 = .ok (.iinc 4 1, 3) := by decide +kernel
theorem dX3_findChain_195 : decode cX3_findChain 195 = .ok (.iinc 8 1, 3) := by decide +kernel
theorem dX3_findChain_198 : decode cX3_findChain 198 = .ok (.goto (-89), 3) := by decide +kernel
theorem dX3_findChain_201 : decode cX3_findChain 201 = .ok (.iinc 6 1, 3) := by decide +kernel
theorem dX3_findChain_204 : decode cX3_findChain 204 = .ok (.goto (-133), 3) := by decide +kernel
theorem dX3_findChain_207 : decode cX3_findChain 207 = .ok (.iconst (-1), 1) := by decide +kernel
theorem dX3_findChain_208 : decode cX3_findChain 208 = .ok (.ireturn, 1) := by decide +kernel
theorem dX3_costBetween_0 : decode cX3_costBetween 0 = .ok (.aload_n 0, 1) := by decide +kernel
theorem dX3_costBetween_1 : decode cX3_costBetween 1 = .ok (.iload_n 1, 1) := by decide +kernel
theorem dX3_costBetween_2 : decode cX3_costBetween 2 = .ok (.invokevirtual 61, 3) := by decide +kernel
theorem dX3_costBetween_5 : decode cX3_costBetween 5 = .ok (.ifCond .eq 27, 3) := by decide +kernel
theorem dX3_costBetween_8 : decode cX3_costBetween 8 = .ok (.aload_n 0, 1) := by decide +kernel
theorem dX3_costBetween_9 : decode cX3_costBetween 9 = .ok (.iload_n 2, 1) := by decide +kernel
theorem dX3_costBetween_10 : decode cX3_costBetween 10 = .ok (.invokevirtual 61, 3) := by decide +kernel
theorem dX3_costBetween_13 : decode cX3_costBetween 13 = .ok (.ifCond .eq 19, 3) := by decide +kernel
theorem dX3_costBetween_16 : decode cX3_costBetween 16 = .ok (.aload_n 0, 1) := by decide +kernel
theorem dX3_costBetween_17 : decode cX3_costBetween 17 = .ok (.getfield 26, 3) := by decide +kernel
theorem dX3_costBetween_20 : decode cX3_costBetween 20 = .ok (.iload_n 1, 1) := by decide +kernel
theorem dX3_costBetween_21 : decode cX3_costBetween 21 = .ok (.iaload, 1) := by decide +kernel
theorem dX3_costBetween_22 : decode cX3_costBetween 22 = .ok (.aload_n 0, 1) := by decide +kernel
theorem dX3_costBetween_23 : decode cX3_costBetween 23 = .ok (.getfield 29, 3) := by decide +kernel
theorem dX3_costBetween_26 : decode cX3_costBetween 26 = .ok (.iload_n 2, 1) := by decide +kernel
theorem dX3_costBetween_27 : decode cX3_costBetween 27 = .ok (.iaload, 1) := by decide +kernel
theorem dX3_costBetween_28 : decode cX3_costBetween 28 = .ok (.iand, 1) := by decide +kernel
theorem dX3_costBetween_29 : decode cX3_costBetween 29 = .ok (.goto 4, 3) := by decide +kernel
theorem dX3_costBetween_32 : decode cX3_costBetween 32 = .ok (.iconst 0, 1) := by decide +kernel
theorem dX3_costBetween_33 : decode cX3_costBetween 33 = .ok (.istore 4, 2) := by decide +kernel
theorem dX3_costBetween_35 : decode cX3_costBetween 35 = .ok (.iload 4, 2) := by decide +kernel
theorem dX3_costBetween_37 : decode cX3_costBetween 37 = .ok (.ifCond .ne 5, 3) := by decide +kernel
theorem dX3_costBetween_40 : decode cX3_costBetween 40 = .ok (.iconst (-1), 1) := by decide +kernel
theorem dX3_costBetween_41 : decode cX3_costBetween 41 = .ok (.ireturn, 1) := by decide +kernel
theorem dX3_costBetween_42 : decode cX3_costBetween 42 = .ok (.iload_n 3, 1) := by decide +kernel
theorem dX3_costBetween_43 : decode cX3_costBetween 43 = .ok (.istore 5, 2) := by decide +kernel
theorem dX3_costBetween_45 : decode cX3_costBetween 45 = .ok (.iload 5, 2) := by decide +kernel
theorem dX3_costBetween_47 : decode cX3_costBetween 47 = .ok (.aload_n 0, 1) := by decide +kernel
theorem dX3_costBetween_48 : decode cX3_costBetween 48 = .ok (.getfield 54, 3) := by decide +kernel
theorem dX3_costBetween_51 : decode cX3_costBetween 51 = .ok (.if_icmp .ge 22, 3) := by decide +kernel
theorem dX3_costBetween_54 : decode cX3_costBetween 54 = .ok (.iload 4, 2) := by decide +kernel
theorem dX3_costBetween_56 : decode cX3_costBetween 56 = .ok (.iload 5, 2) := by decide +kernel
theorem dX3_costBetween_58 : decode cX3_costBetween 58 = .ok (.invokestatic 71, 3) := by decide +kernel
theorem dX3_costBetween_61 : decode cX3_costBetween 61 = .ok (.ifCond .eq 6, 3) := by decide +kernel
theorem dX3_costBetween_64 : decode cX3_costBetween 64 = .ok (.iload 5, 2) := by decide +kernel
theorem dX3_costBetween_66 : decode cX3_costBetween 66 = .ok (.ireturn, 1) := by decide +kernel
theorem dX3_costBetween_67 : decode cX3_costBetween 67 = .ok (.iinc 5 1, 3) := by decide +kernel
theorem dX3_costBetween_70 : decode cX3_costBetween 70 = .ok (.goto (-25), 3) := by decide +kernel
theorem dX3_costBetween_73 : decode cX3_costBetween 73 = .ok (.iconst (-1), 1) := by decide +kernel
theorem dX3_costBetween_74 : decode cX3_costBetween 74 = .ok (.ireturn, 1) := by decide +kernel
theorem dX3_hasAhead_0 : decode cX3_hasAhead 0 = .ok (.aload_n 0, 1) := by decide +kernel
theorem dX3_hasAhead_1 : decode cX3_hasAhead 1 = .ok (.iload_n 1, 1) := by decide +kernel
theorem dX3_hasAhead_2 : decode cX3_hasAhead 2 = .ok (.invokevirtual 61, 3) := by decide +kernel
theorem dX3_hasAhead_5 : decode cX3_hasAhead 5 = .ok (.ifCond .eq 20, 3) := by decide +kernel
theorem dX3_hasAhead_8 : decode cX3_hasAhead 8 = .ok (.aload_n 0, 1) := by decide +kernel
theorem dX3_hasAhead_9 : decode cX3_hasAhead 9 = .ok (.aload_n 0, 1) := by decide +kernel
theorem dX3_hasAhead_10 : decode cX3_hasAhead 10 = .ok (.getfield 35, 3) := by decide +kernel
theorem dX3_hasAhead_13 : decode cX3_hasAhead 13 = .ok (.iload_n 1, 1) := by decide +kernel
theorem dX3_hasAhead_14 : decode cX3_hasAhead 14 = .ok (.iaload, 1) := by decide +kernel
theorem dX3_hasAhead_15 : decode cX3_hasAhead 15 = .ok (.invokevirtual 61, 3) := by decide +kernel
theorem dX3_hasAhead_18 : decode cX3_hasAhead 18 = .ok (.ifCond .eq 7, 3) := by decide +kernel
theorem dX3_hasAhead_21 : decode cX3_hasAhead 21 = .ok (.iconst 1, 1) := by decide +kernel
theorem dX3_hasAhead_22 : decode cX3_hasAhead 22 = .ok (.goto 4, 3) := by decide +kernel
theorem dX3_hasAhead_25 : decode cX3_hasAhead 25 = .ok (.iconst 0, 1) := by decide +kernel
theorem dX3_hasAhead_26 : decode cX3_hasAhead 26 = .ok (.ireturn, 1) := by decide +kernel
theorem dX3_firstOfChain_0 : decode cX3_firstOfChain 0 = .ok (.iload_n 1, 1) := by decide +kernel
theorem dX3_firstOfChain_1 : decode cX3_firstOfChain 1 = .ok (.istore_n 2, 1) := by decide +kernel
theorem dX3_firstOfChain_2 : decode cX3_firstOfChain 2 = .ok (.iconst 0, 1) := by decide +kernel
theorem dX3_firstOfChain_3 : decode cX3_firstOfChain 3 = .ok (.istore_n 3, 1) := by decide +kernel
theorem dX3_firstOfChain_4 : decode cX3_firstOfChain 4 = .ok (.iload_n 3, 1) := by decide +kernel
theorem dX3_firstOfChain_5 : decode cX3_firstOfChain 5 = .ok (.bipush 12, 2) := by decide +kernel
theorem dX3_firstOfChain_7 : decode cX3_firstOfChain 7 = .ok (.if_icmp .ge 24, 3) := by decide +kernel
theorem dX3_firstOfChain_10 : decode cX3_firstOfChain 10 = .ok (.aload_n 0, 1) := by decide +kernel
theorem dX3_firstOfChain_11 : decode cX3_firstOfChain 11 = .ok (.iload_n 2, 1) := by decide +kernel
theorem dX3_firstOfChain_12 : decode cX3_firstOfChain 12 = .ok (.invokevirtual 126, 3) := by decide +kernel
theorem dX3_firstOfChain_15 : decode cX3_firstOfChain 15 = .ok (.ifCond .eq 16, 3) := by decide +kernel
theorem dX3_firstOfChain_18 : decode cX3_firstOfChain 18 = .ok (.aload_n 0, 1) := by decide +kernel
theorem dX3_firstOfChain_19 : decode cX3_firstOfChain 19 = .ok (.getfield 35, 3) := by decide +kernel
theorem dX3_firstOfChain_22 : decode cX3_firstOfChain 22 = .ok (.iload_n 2, 1) := by decide +kernel
theorem dX3_firstOfChain_23 : decode cX3_firstOfChain 23 = .ok (.iaload, 1) := by decide +kernel
theorem dX3_firstOfChain_24 : decode cX3_firstOfChain 24 = .ok (.istore_n 2, 1) := by decide +kernel
theorem dX3_firstOfChain_25 : decode cX3_firstOfChain 25 = .ok (.iinc 3 1, 3) := by decide +kernel
theorem dX3_firstOfChain_28 : decode cX3_firstOfChain 28 = .ok (.goto (-24), 3) := by decide +kernel
theorem dX3_firstOfChain_31 : decode cX3_firstOfChain 31 = .ok (.iload_n 2, 1) := by decide +kernel
theorem dX3_firstOfChain_32 : decode cX3_firstOfChain 32 = .ok (.ireturn, 1) := by decide +kernel
theorem dX3_narrowest_0 : decode cX3_narrowest 0 = .ok (.iload_n 2, 1) := by decide +kernel
theorem dX3_narrowest_1 : decode cX3_narrowest 1 = .ok (.istore_n 3, 1) := by decide +kernel
theorem dX3_narrowest_2 : decode cX3_narrowest 2 = .ok (.iload_n 1, 1) := by decide +kernel
theorem dX3_narrowest_3 : decode cX3_narrowest 3 = .ok (.istore 4, 2) := by decide +kernel
theorem dX3_narrowest_5 : decode cX3_narrowest 5 = .ok (.iconst 0, 1) := by decide +kernel
theorem dX3_narrowest_6 : decode cX3_narrowest 6 = .ok (.istore 5, 2) := by decide +kernel
theorem dX3_narrowest_8 : decode cX3_narrowest 8 = .ok (.iload 5, 2) := by decide +kernel
theorem dX3_narrowest_10 : decode cX3_narrowest 10 = .ok (.bipush 12, 2) := by decide +kernel
theorem dX3_narrowest_12 : decode cX3_narrowest 12 = .ok (.if_icmp .ge 45, 3) := by decide +kernel
theorem dX3_narrowest_15 : decode cX3_narrowest 15 = .ok (.aload_n 0, 1) := by decide +kernel
theorem dX3_narrowest_16 : decode cX3_narrowest 16 = .ok (.iload 4, 2) := by decide +kernel
theorem dX3_narrowest_18 : decode cX3_narrowest 18 = .ok (.invokevirtual 126, 3) := by decide +kernel
theorem dX3_narrowest_21 : decode cX3_narrowest 21 = .ok (.ifCond .eq 36, 3) := by decide +kernel
theorem dX3_narrowest_24 : decode cX3_narrowest 24 = .ok (.iload_n 3, 1) := by decide +kernel
theorem dX3_narrowest_25 : decode cX3_narrowest 25 = .ok (.aload_n 0, 1) := by decide +kernel
theorem dX3_narrowest_26 : decode cX3_narrowest 26 = .ok (.iload 4, 2) := by decide +kernel
theorem dX3_narrowest_28 : decode cX3_narrowest 28 = .ok (.aload_n 0, 1) := by decide +kernel
theorem dX3_narrowest_29 : decode cX3_narrowest 29 = .ok (.getfield 38, 3) := by decide +kernel
theorem dX3_narrowest_32 : decode cX3_narrowest 32 = .ok (.iload 4, 2) := by decide +kernel
theorem dX3_narrowest_34 : decode cX3_narrowest 34 = .ok (.iaload, 1) := by decide +kernel
theorem dX3_narrowest_35 : decode cX3_narrowest 35 = .ok (.invokevirtual 120, 3) := by decide +kernel
theorem dX3_narrowest_38 : decode cX3_narrowest 38 = .ok (.invokestatic 41, 3) := by decide +kernel
theorem dX3_narrowest_41 : decode cX3_narrowest 41 = .ok (.istore_n 3, 1) := by decide +kernel
theorem dX3_narrowest_42 : decode cX3_narrowest 42 = .ok (.aload_n 0, 1) := by decide +kernel
theorem dX3_narrowest_43 : decode cX3_narrowest 43 = .ok (.getfield 35, 3) := by decide +kernel
theorem dX3_narrowest_46 : decode cX3_narrowest 46 = .ok (.iload 4, 2) := by decide +kernel
theorem dX3_narrowest_48 : decode cX3_narrowest 48 = .ok (.iaload, 1) := by decide +kernel
theorem dX3_narrowest_49 : decode cX3_narrowest 49 = .ok (.istore 4, 2) := by decide +kernel
theorem dX3_narrowest_51 : decode cX3_narrowest 51 = .ok (.iinc 5 1, 3) := by decide +kernel
theorem dX3_narrowest_54 : decode cX3_narrowest 54 = .ok (.goto (-46), 3) := by decide +kernel
theorem dX3_narrowest_57 : decode cX3_narrowest 57 = .ok (.iload_n 3, 1) := by decide +kernel
theorem dX3_narrowest_58 : decode cX3_narrowest 58 = .ok (.ireturn, 1) := by decide +kernel
theorem dX3_shiftAlongChain_0 : decode cX3_shiftAlongChain 0 = .ok (.iload_n 1, 1) := by decide +kernel
theorem dX3_shiftAlongChain_1 : decode cX3_shiftAlongChain 1 = .ok (.istore_n 3, 1) := by decide +kernel
theorem dX3_shiftAlongChain_2 : decode cX3_shiftAlongChain 2 = .ok (.iconst 0, 1) := by decide +kernel
theorem dX3_shiftAlongChain_3 : decode cX3_shiftAlongChain 3 = .ok (.istore 4, 2) := by decide +kernel
theorem dX3_shiftAlongChain_5 : decode cX3_shiftAlongChain 5 = .ok (.iload 4, 2) := by decide +kernel
theorem dX3_shiftAlongChain_7 : decode cX3_shiftAlongChain 7 = .ok (.bipush 12, 2) := by decide +kernel
theorem dX3_shiftAlongChain_9 : decode cX3_shiftAlongChain 9 = .ok (.if_icmp .ge 54, 3) := by decide +kernel
theorem dX3_shiftAlongChain_12 : decode cX3_shiftAlongChain 12 = .ok (.aload_n 0, 1) := by decide +kernel
theorem dX3_shiftAlongChain_13 : decode cX3_shiftAlongChain 13 = .ok (.iload_n 3, 1) := by decide +kernel
theorem dX3_shiftAlongChain_14 : decode cX3_shiftAlongChain 14 = .ok (.invokevirtual 126, 3) := by decide +kernel
theorem dX3_shiftAlongChain_17 : decode cX3_shiftAlongChain 17 = .ok (.ifCond .eq 46, 3) := by decide +kernel
theorem dX3_shiftAlongChain_20 : decode cX3_shiftAlongChain 20 = .ok (.aload_n 0, 1) := by decide +kernel
theorem dX3_shiftAlongChain_21 : decode cX3_shiftAlongChain 21 = .ok (.iload_n 3, 1) := by decide +kernel
theorem dX3_shiftAlongChain_22 : decode cX3_shiftAlongChain 22 = .ok (.aload_n 0, 1) := by decide +kernel
theorem dX3_shiftAlongChain_23 : decode cX3_shiftAlongChain 23 = .ok (.getfield 38, 3) := by decide +kernel
theorem dX3_shiftAlongChain_26 : decode cX3_shiftAlongChain 26 = .ok (.iload_n 3, 1) := by decide +kernel
theorem dX3_shiftAlongChain_27 : decode cX3_shiftAlongChain 27 = .ok (.iaload, 1) := by decide +kernel
theorem dX3_shiftAlongChain_28 : decode cX3_shiftAlongChain 28 = .ok (.iload_n 2, 1) := by decide +kernel
theorem dX3_shiftAlongChain_29 : decode cX3_shiftAlongChain 29 = .ok (.ineg, 1) := by decide +kernel
theorem dX3_shiftAlongChain_30 : decode cX3_shiftAlongChain 30 = .ok (.invokevirtual 107, 3) := by decide +kernel
theorem dX3_shiftAlongChain_33 : decode cX3_shiftAlongChain 33 = .ok (.aload_n 0, 1) := by decide +kernel
theorem dX3_shiftAlongChain_34 : decode cX3_shiftAlongChain 34 = .ok (.aload_n 0, 1) := by decide +kernel
theorem dX3_shiftAlongChain_35 : decode cX3_shiftAlongChain 35 = .ok (.getfield 35, 3) := by decide +kernel
theorem dX3_shiftAlongChain_38 : decode cX3_shiftAlongChain 38 = .ok (.iload_n 3, 1) := by decide +kernel
theorem dX3_shiftAlongChain_39 : decode cX3_shiftAlongChain 39 = .ok (.iaload, 1) := by decide +kernel
theorem dX3_shiftAlongChain_40 : decode cX3_shiftAlongChain 40 = .ok (.aload_n 0, 1) := by decide +kernel
theorem dX3_shiftAlongChain_41 : decode cX3_shiftAlongChain 41 = .ok (.getfield 38, 3) := by decide +kernel
theorem dX3_shiftAlongChain_44 : decode cX3_shiftAlongChain 44 = .ok (.iload_n 3, 1) := by decide +kernel
theorem dX3_shiftAlongChain_45 : decode cX3_shiftAlongChain 45 = .ok (.iaload, 1) := by decide +kernel
theorem dX3_shiftAlongChain_46 : decode cX3_shiftAlongChain 46 = .ok (.iload_n 2, 1) := by decide +kernel
theorem dX3_shiftAlongChain_47 : decode cX3_shiftAlongChain 47 = .ok (.invokevirtual 107, 3) := by decide +kernel
theorem dX3_shiftAlongChain_50 : decode cX3_shiftAlongChain 50 = .ok (.aload_n 0, 1) := by decide +kernel
theorem dX3_shiftAlongChain_51 : decode cX3_shiftAlongChain 51 = .ok (.getfield 35, 3) := by decide +kernel
theorem dX3_shiftAlongChain_54 : decode cX3_shiftAlongChain 54 = .ok (.iload_n 3, 1) := by decide +kernel
theorem dX3_shiftAlongChain_55 : decode cX3_shiftAlongChain 55 = .ok (.iaload, 1) := by decide +kernel
theorem dX3_shiftAlongChain_56 : decode cX3_shiftAlongChain 56 = .ok (.istore_n 3, 1) := by decide +kernel
theorem dX3_shiftAlongChain_57 : decode cX3_shiftAlongChain 57 = .ok (.iinc 4 1, 3) := by decide +kernel
theorem dX3_shiftAlongChain_60 : decode cX3_shiftAlongChain 60 = .ok (.goto (-55), 3) := by decide +kernel
theorem dX3_shiftAlongChain_63 : decode cX3_shiftAlongChain 63 = .ok (.return_, 1) := by decide +kernel
theorem dX3_isPot_0 : decode cX3_isPot 0 = .ok (.iload_n 1, 1) := by decide +kernel
theorem dX3_isPot_1 : decode cX3_isPot 1 = .ok (.ifCond .lt 21, 3) := by decide +kernel
theorem dX3_isPot_4 : decode cX3_isPot 4 = .ok (.iload_n 1, 1) := by decide +kernel
theorem dX3_isPot_5 : decode cX3_isPot 5 = .ok (.aload_n 0, 1) := by decide +kernel
theorem dX3_isPot_6 : decode cX3_isPot 6 = .ok (.getfield 50, 3) := by decide +kernel
theorem dX3_isPot_9 : decode cX3_isPot 9 = .ok (.if_icmp .ge 13, 3) := by decide +kernel
theorem dX3_isPot_12 : decode cX3_isPot 12 = .ok (.iload_n 1, 1) := by decide +kernel
theorem dX3_isPot_13 : decode cX3_isPot 13 = .ok (.bipush 12, 2) := by decide +kernel
theorem dX3_isPot_15 : decode cX3_isPot 15 = .ok (.if_icmp .ge 7, 3) := by decide +kernel
theorem dX3_isPot_18 : decode cX3_isPot 18 = .ok (.iconst 1, 1) := by decide +kernel
theorem dX3_isPot_19 : decode cX3_isPot 19 = .ok (.goto 4, 3) := by decide +kernel
theorem dX3_isPot_22 : decode cX3_isPot 22 = .ok (.iconst 0, 1) := by decide +kernel
theorem dX3_isPot_23 : decode cX3_isPot 23 = .ok (.ireturn, 1) := by decide +kernel
theorem dX3_isCost_0 : decode cX3_isCost 0 = .ok (.iload_n 1, 1) := by decide +kernel
theorem dX3_isCost_1 : decode cX3_isCost 1 = .ok (.ifCond .lt 21, 3) := by decide +kernel
theorem dX3_isCost_4 : decode cX3_isCost 4 = .ok (.iload_n 1, 1) := by decide +kernel
theorem dX3_isCost_5 : decode cX3_isCost 5 = .ok (.aload_n 0, 1) := by decide +kernel
theorem dX3_isCost_6 : decode cX3_isCost 6 = .ok (.getfield 54, 3) := by decide +kernel
theorem dX3_isCost_9 : decode cX3_isCost 9 = .ok (.if_icmp .ge 13, 3) := by decide +kernel
theorem dX3_isCost_12 : decode cX3_isCost 12 = .ok (.iload_n 1, 1) := by decide +kernel
theorem dX3_isCost_13 : decode cX3_isCost 13 = .ok (.bipush 16, 2) := by decide +kernel
theorem dX3_isCost_15 : decode cX3_isCost 15 = .ok (.if_icmp .ge 7, 3) := by decide +kernel
theorem dX3_isCost_18 : decode cX3_isCost 18 = .ok (.iconst 1, 1) := by decide +kernel
theorem dX3_isCost_19 : decode cX3_isCost 19 = .ok (.goto 4, 3) := by decide +kernel
theorem dX3_isCost_22 : decode cX3_isCost 22 = .ok (.iconst 0, 1) := by decide +kernel
theorem dX3_isCost_23 : decode cX3_isCost 23 = .ok (.ireturn, 1) := by decide +kernel
theorem dX3_addShare_0 : decode cX3_addShare 0 = .ok (.aload_n 0, 1) := by decide +kernel
theorem dX3_addShare_1 : decode cX3_addShare 1 = .ok (.iload_n 1, 1) := by decide +kernel
theorem dX3_addShare_2 : decode cX3_addShare 2 = .ok (.invokevirtual 61, 3) := by decide +kernel
theorem dX3_addShare_5 : decode cX3_addShare 5 = .ok (.ifCond .eq 68, 3) := by decide +kernel
theorem dX3_addShare_8 : decode cX3_addShare 8 = .ok (.aload_n 0, 1) := by decide +kernel
theorem dX3_addShare_9 : decode cX3_addShare 9 = .ok (.iload_n 2, 1) := by decide +kernel
theorem dX3_addShare_10 : decode cX3_addShare 10 = .ok (.invokevirtual 57, 3) := by decide +kernel
theorem dX3_addShare_13 : decode cX3_addShare 13 = .ok (.ifCond .eq 60, 3) := by decide +kernel
theorem dX3_addShare_16 : decode cX3_addShare 16 = .ok (.aload_n 0, 1) := by decide +kernel
theorem dX3_addShare_17 : decode cX3_addShare 17 = .ok (.getfield 23, 3) := by decide +kernel
theorem dX3_addShare_20 : decode cX3_addShare 20 = .ok (.iload_n 1, 1) := by decide +kernel
theorem dX3_addShare_21 : decode cX3_addShare 21 = .ok (.aaload, 1) := by decide +kernel
theorem dX3_addShare_22 : decode cX3_addShare 22 = .ok (.iload_n 2, 1) := by decide +kernel
theorem dX3_addShare_23 : decode cX3_addShare 23 = .ok (.dup2, 1) := by decide +kernel
theorem dX3_addShare_24 : decode cX3_addShare 24 = .ok (.iaload, 1) := by decide +kernel
theorem dX3_addShare_25 : decode cX3_addShare 25 = .ok (.iload_n 3, 1) := by decide +kernel
theorem dX3_addShare_26 : decode cX3_addShare 26 = .ok (.iadd, 1) := by decide +kernel
theorem dX3_addShare_27 : decode cX3_addShare 27 = .ok (.iastore, 1) := by decide +kernel
theorem dX3_addShare_28 : decode cX3_addShare 28 = .ok (.iconst 1, 1) := by decide +kernel
theorem dX3_addShare_29 : decode cX3_addShare 29 = .ok (.iload_n 2, 1) := by decide +kernel
theorem dX3_addShare_30 : decode cX3_addShare 30 = .ok (.ishl, 1) := by decide +kernel
theorem dX3_addShare_31 : decode cX3_addShare 31 = .ok (.istore 4, 2) := by decide +kernel
theorem dX3_addShare_33 : decode cX3_addShare 33 = .ok (.aload_n 0, 1) := by decide +kernel
theorem dX3_addShare_34 : decode cX3_addShare 34 = .ok (.getfield 29, 3) := by decide +kernel
theorem dX3_addShare_37 : decode cX3_addShare 37 = .ok (.iload_n 1, 1) := by decide +kernel
theorem dX3_addShare_38 : decode cX3_addShare 38 = .ok (.aload_n 0, 1) := by decide +kernel
theorem dX3_addShare_39 : decode cX3_addShare 39 = .ok (.getfield 23, 3) := by decide +kernel
theorem dX3_addShare_42 : decode cX3_addShare 42 = .ok (.iload_n 1, 1) := by decide +kernel
theorem dX3_addShare_43 : decode cX3_addShare 43 = .ok (.aaload, 1) := by decide +kernel
theorem dX3_addShare_44 : decode cX3_addShare 44 = .ok (.iload_n 2, 1) := by decide +kernel
theorem dX3_addShare_45 : decode cX3_addShare 45 = .ok (.iaload, 1) := by decide +kernel
theorem dX3_addShare_46 : decode cX3_addShare 46 = .ok (.ifCond .le 15, 3) := by decide +kernel
theorem dX3_addShare_49 : decode cX3_addShare 49 = .ok (.aload_n 0, 1) := by decide +kernel
theorem dX3_addShare_50 : decode cX3_addShare 50 = .ok (.getfield 29, 3) := by decide +kernel
theorem dX3_addShare_53 : decode cX3_addShare 53 = .ok (.iload_n 1, 1) := by decide +kernel
theorem dX3_addShare_54 : decode cX3_addShare 54 = .ok (.iaload, 1) := by decide +kernel
theorem dX3_addShare_55 : decode cX3_addShare 55 = .ok (.iload 4, 2) := by decide +kernel
theorem dX3_addShare_57 : decode cX3_addShare 57 = .ok (.ior, 1) := by decide +kernel
theorem dX3_addShare_58 : decode cX3_addShare 58 = .ok (.goto 14, 3) := by decide +kernel
theorem dX3_addShare_61 : decode cX3_addShare 61 = .ok (.aload_n 0, 1) := by decide +kernel
theorem dX3_addShare_62 : decode cX3_addShare 62 = .ok (.getfield 29, 3) := by decide +kernel
theorem dX3_addShare_65 : decode cX3_addShare 65 = .ok (.iload_n 1, 1) := by decide +kernel
theorem dX3_addShare_66 : decode cX3_addShare 66 = .ok (.iaload, 1) := by decide +kernel
theorem dX3_addShare_67 : decode cX3_addShare 67 = .ok (.iload 4, 2) := by decide +kernel
theorem dX3_addShare_69 : decode cX3_addShare 69 = .ok (.iconst (-1), 1) := by decide +kernel
theorem dX3_addShare_70 : decode cX3_addShare 70 = .ok (.ixor, 1) := by decide +kernel
theorem dX3_addShare_71 : decode cX3_addShare 71 = .ok (.iand, 1) := by decide +kernel
theorem dX3_addShare_72 : decode cX3_addShare 72 = .ok (.iastore, 1) := by decide +kernel
theorem dX3_addShare_73 : decode cX3_addShare 73 = .ok (.return_, 1) := by decide +kernel
theorem dX3_addToPot_0 : decode cX3_addToPot 0 = .ok (.aload_n 0, 1) := by decide +kernel
theorem dX3_addToPot_1 : decode cX3_addToPot 1 = .ok (.iload_n 1, 1) := by decide +kernel
theorem dX3_addToPot_2 : decode cX3_addToPot 2 = .ok (.invokevirtual 61, 3) := by decide +kernel
theorem dX3_addToPot_5 : decode cX3_addToPot 5 = .ok (.ifCond .eq 13, 3) := by decide +kernel
theorem dX3_addToPot_8 : decode cX3_addToPot 8 = .ok (.aload_n 0, 1) := by decide +kernel
theorem dX3_addToPot_9 : decode cX3_addToPot 9 = .ok (.getfield 9, 3) := by decide +kernel
theorem dX3_addToPot_12 : decode cX3_addToPot 12 = .ok (.iload_n 1, 1) := by decide +kernel
theorem dX3_addToPot_13 : decode cX3_addToPot 13 = .ok (.dup2, 1) := by decide +kernel
theorem dX3_addToPot_14 : decode cX3_addToPot 14 = .ok (.iaload, 1) := by decide +kernel
theorem dX3_addToPot_15 : decode cX3_addToPot 15 = .ok (.iload_n 2, 1) := by decide +kernel
theorem dX3_addToPot_16 : decode cX3_addToPot 16 = .ok (.iadd, 1) := by decide +kernel
theorem dX3_addToPot_17 : decode cX3_addToPot 17 = .ok (.iastore, 1) := by decide +kernel
theorem dX3_addToPot_18 : decode cX3_addToPot 18 = .ok (.return_, 1) := by decide +kernel
theorem dX3_planCost_0 : decode cX3_planCost 0 = .ok (.aload_n 0, 1) := by decide +kernel
theorem dX3_planCost_1 : decode cX3_planCost 1 = .ok (.iload_n 1, 1) := by decide +kernel
theorem dX3_planCost_2 : decode cX3_planCost 2 = .ok (.invokevirtual 57, 3) := by decide +kernel
theorem dX3_planCost_5 : decode cX3_planCost 5 = .ok (.ifCond .eq 23, 3) := by decide +kernel
theorem dX3_planCost_8 : decode cX3_planCost 8 = .ok (.aload_n 0, 1) := by decide +kernel
theorem dX3_planCost_9 : decode cX3_planCost 9 = .ok (.getfield 15, 3) := by decide +kernel
theorem dX3_planCost_12 : decode cX3_planCost 12 = .ok (.iload_n 1, 1) := by decide +kernel
theorem dX3_planCost_13 : decode cX3_planCost 13 = .ok (.dup2, 1) := by decide +kernel
theorem dX3_planCost_14 : decode cX3_planCost 14 = .ok (.iaload, 1) := by decide +kernel
theorem dX3_planCost_15 : decode cX3_planCost 15 = .ok (.iload_n 2, 1) := by decide +kernel
theorem dX3_planCost_16 : decode cX3_planCost 16 = .ok (.isub, 1) := by decide +kernel
theorem dX3_planCost_17 : decode cX3_planCost 17 = .ok (.iastore, 1) := by decide +kernel
theorem dX3_planCost_18 : decode cX3_planCost 18 = .ok (.aload_n 0, 1) := by decide +kernel
theorem dX3_planCost_19 : decode cX3_planCost 19 = .ok (.getfield 18, 3) := by decide +kernel
theorem dX3_planCost_22 : decode cX3_planCost 22 = .ok (.iload_n 1, 1) := by decide +kernel
theorem dX3_planCost_23 : decode cX3_planCost 23 = .ok (.dup2, 1) := by decide +kernel
theorem dX3_planCost_24 : decode cX3_planCost 24 = .ok (.iaload, 1) := by decide +kernel
theorem dX3_planCost_25 : decode cX3_planCost 25 = .ok (.iload_n 2, 1) := by decide +kernel
theorem dX3_planCost_26 : decode cX3_planCost 26 = .ok (.iadd, 1) := by decide +kernel
theorem dX3_planCost_27 : decode cX3_planCost 27 = .ok (.iastore, 1) := by decide +kernel
theorem dX3_planCost_28 : decode cX3_planCost 28 = .ok (.return_, 1) := by decide +kernel
theorem dX3_potsWithMoney_0 : decode cX3_potsWithMoney 0 = .ok (.iconst 0, 1) := by decide +kernel
theorem dX3_potsWithMoney_1 : decode cX3_potsWithMoney 1 = .ok (.istore_n 1, 1) := by decide +kernel
theorem dX3_potsWithMoney_2 : decode cX3_potsWithMoney 2 = .ok (.iconst 0, 1) := by decide +kernel
theorem dX3_potsWithMoney_3 : decode cX3_potsWithMoney 3 = .ok (.istore_n 2, 1) := by decide +kernel
theorem dX3_potsWithMoney_4 : decode cX3_potsWithMoney 4 = .ok (.iload_n 2, 1) := by decide +kernel
theorem dX3_potsWithMoney_5 : decode cX3_potsWithMoney 5 = .ok (.aload_n 0, 1) := by decide +kernel
theorem dX3_potsWithMoney_6 : decode cX3_potsWithMoney 6 = .ok (.getfield 50, 3) := by decide +kernel
theorem dX3_potsWithMoney_9 : decode cX3_potsWithMoney 9 = .ok (.if_icmp .ge 24, 3) := by decide +kernel
theorem dX3_potsWithMoney_12 : decode cX3_potsWithMoney 12 = .ok (.aload_n 0, 1) := by decide +kernel
theorem dX3_potsWithMoney_13 : decode cX3_potsWithMoney 13 = .ok (.getfield 9, 3) := by decide +kernel
theorem dX3_potsWithMoney_16 : decode cX3_potsWithMoney 16 = .ok (.iload_n 2, 1) := by decide +kernel
theorem dX3_potsWithMoney_17 : decode cX3_potsWithMoney 17 = .ok (.iaload, 1) := by decide +kernel
theorem dX3_potsWithMoney_18 : decode cX3_potsWithMoney 18 = .ok (.ifCond .le 9, 3) := by decide +kernel
theorem dX3_potsWithMoney_21 : decode cX3_potsWithMoney 21 = .ok (.iload_n 1, 1) := by decide +kernel
theorem dX3_potsWithMoney_22 : decode cX3_potsWithMoney 22 = .ok (.iconst 1, 1) := by decide +kernel
theorem dX3_potsWithMoney_23 : decode cX3_potsWithMoney 23 = .ok (.iload_n 2, 1) := by decide +kernel
theorem dX3_potsWithMoney_24 : decode cX3_potsWithMoney 24 = .ok (.ishl, 1) := by decide +kernel
theorem dX3_potsWithMoney_25 : decode cX3_potsWithMoney 25 = .ok (.ior, 1) := by decide +kernel
theorem dX3_potsWithMoney_26 : decode cX3_potsWithMoney 26 = .ok (.istore_n 1, 1) := by decide +kernel
theorem dX3_potsWithMoney_27 : decode cX3_potsWithMoney 27 = .ok (.iinc 2 1, 3) := by decide +kernel
theorem dX3_potsWithMoney_30 : decode cX3_potsWithMoney 30 = .ok (.goto (-26), 3) := by decide +kernel
theorem dX3_potsWithMoney_33 : decode cX3_potsWithMoney 33 = .ok (.iload_n 1, 1) := by decide +kernel
theorem dX3_potsWithMoney_34 : decode cX3_potsWithMoney 34 = .ok (.ireturn, 1) := by decide +kernel
theorem dX3_potsWith_0 : decode cX3_potsWith 0 = .ok (.iconst 0, 1) := by decide +kernel
theorem dX3_potsWith_1 : decode cX3_potsWith 1 = .ok (.istore_n 3, 1) := by decide +kernel
theorem dX3_potsWith_2 : decode cX3_potsWith 2 = .ok (.iconst 0, 1) := by decide +kernel
theorem dX3_potsWith_3 : decode cX3_potsWith 3 = .ok (.istore 4, 2) := by decide +kernel
theorem dX3_potsWith_5 : decode cX3_potsWith 5 = .ok (.iload 4, 2) := by decide +kernel
theorem dX3_potsWith_7 : decode cX3_potsWith 7 = .ok (.aload_n 0, 1) := by decide +kernel
theorem dX3_potsWith_8 : decode cX3_potsWith 8 = .ok (.getfield 50, 3) := by decide +kernel
theorem dX3_potsWith_11 : decode cX3_potsWith 11 = .ok (.if_icmp .ge 34, 3) := by decide +kernel
theorem dX3_potsWith_14 : decode cX3_potsWith 14 = .ok (.iload 4, 2) := by decide +kernel
theorem dX3_potsWith_16 : decode cX3_potsWith 16 = .ok (.aload_n 1, 1) := by decide +kernel
theorem dX3_potsWith_17 : decode cX3_potsWith 17 = .ok (.arraylength, 1) := by decide +kernel
theorem dX3_potsWith_18 : decode cX3_potsWith 18 = .ok (.if_icmp .ge 27, 3) := by decide +kernel
theorem dX3_potsWith_21 : decode cX3_potsWith 21 = .ok (.aload_n 1, 1) := by decide +kernel
theorem dX3_potsWith_22 : decode cX3_potsWith 22 = .ok (.iload 4, 2) := by decide +kernel
theorem dX3_potsWith_24 : decode cX3_potsWith 24 = .ok (.iaload, 1) := by decide +kernel
theorem dX3_potsWith_25 : decode cX3_potsWith 25 = .ok (.iload_n 2, 1) := by decide +kernel
theorem dX3_potsWith_26 : decode cX3_potsWith 26 = .ok (.invokestatic 71, 3) := by decide +kernel
theorem dX3_potsWith_29 : decode cX3_potsWith 29 = .ok (.ifCond .eq 10, 3) := by decide +kernel
theorem dX3_potsWith_32 : decode cX3_potsWith 32 = .ok (.iload_n 3, 1) := by decide +kernel
theorem dX3_potsWith_33 : decode cX3_potsWith 33 = .ok (.iconst 1, 1) := by decide +kernel
theorem dX3_potsWith_34 : decode cX3_potsWith 34 = .ok (.iload 4, 2) := by decide +kernel
theorem dX3_potsWith_36 : decode cX3_potsWith 36 = .ok (.ishl, 1) := by decide +kernel
theorem dX3_potsWith_37 : decode cX3_potsWith 37 = .ok (.ior, 1) := by decide +kernel
theorem dX3_potsWith_38 : decode cX3_potsWith 38 = .ok (.istore_n 3, 1) := by decide +kernel
theorem dX3_potsWith_39 : decode cX3_potsWith 39 = .ok (.iinc 4 1, 3) := by decide +kernel
theorem dX3_potsWith_42 : decode cX3_potsWith 42 = .ok (.goto (-37), 3) := by decide +kernel
theorem dX3_potsWith_45 : decode cX3_potsWith 45 = .ok (.iload_n 3, 1) := by decide +kernel
theorem dX3_potsWith_46 : decode cX3_potsWith 46 = .ok (.ireturn, 1) := by decide +kernel
theorem dX3_potsAfter_0 : decode cX3_potsAfter 0 = .ok (.iconst 1, 1) := by decide +kernel
theorem dX3_potsAfter_1 : decode cX3_potsAfter 1 = .ok (.aload_n 0, 1) := by decide +kernel
theorem dX3_potsAfter_2 : decode cX3_potsAfter 2 = .ok (.getfield 50, 3) := by decide +kernel
theorem dX3_potsAfter_5 : decode cX3_potsAfter 5 = .ok (.ishl, 1) := by decide +kernel
theorem dX3_potsAfter_6 : decode cX3_potsAfter 6 = .ok (.iconst 1, 1) := by decide +kernel
theorem dX3_potsAfter_7 : decode cX3_potsAfter 7 = .ok (.isub, 1) := by decide +kernel
theorem dX3_potsAfter_8 : decode cX3_potsAfter 8 = .ok (.iconst (-1), 1) := by decide +kernel
theorem dX3_potsAfter_9 : decode cX3_potsAfter 9 = .ok (.iload_n 1, 1) := by decide +kernel
theorem dX3_potsAfter_10 : decode cX3_potsAfter 10 = .ok (.iconst 1, 1) := by decide +kernel
theorem dX3_potsAfter_11 : decode cX3_potsAfter 11 = .ok (.iadd, 1) := by decide +kernel
theorem dX3_potsAfter_12 : decode cX3_potsAfter 12 = .ok (.ishl, 1) := by decide +kernel
theorem dX3_potsAfter_13 : decode cX3_potsAfter 13 = .ok (.iand, 1) := by decide +kernel
theorem dX3_potsAfter_14 : decode cX3_potsAfter 14 = .ok (.ireturn, 1) := by decide +kernel
theorem dX4_init_0 : decode cX4_init 0 = .ok (.aload_n 0, 1) := by decide +kernel
theorem dX4_init_1 : decode cX4_init 1 = .ok (.invokespecial 1, 3) := by decide +kernel
theorem dX4_init_4 : decode cX4_init 4 = .ok (.aload_n 0, 1) := by decide +kernel
theorem dX4_init_5 : decode cX4_init 5 = .ok (.iload_n 1, 1) := by decide +kernel
theorem dX4_init_6 : decode cX4_init 6 = .ok (.putfield 7, 3) := by decide +kernel
theorem dX4_init_9 : decode cX4_init 9 = .ok (.return_, 1) := by decide +kernel
theorem dX5_init_0 : decode cX5_init 0 = .ok (.aload_n 0, 1) := by decide +kernel
theorem dX5_init_1 : decode cX5_init 1 = .ok (.invokespecial 3, 3) := by decide +kernel
theorem dX5_init_4 : decode cX5_init 4 = .ok (.aload_n 0, 1) := by decide +kernel
theorem dX5_init_5 : decode cX5_init 5 = .ok (.new 9, 3) := by decide +kernel
theorem dX5_init_8 : decode cX5_init 8 = .ok (.dup, 1) := by decide +kernel
theorem dX5_init_9 : decode cX5_init 9 = .ok (.invokespecial 11, 3) := by decide +kernel
theorem dX5_init_12 : decode cX5_init 12 = .ok (.putfield 12, 3) := by decide +kernel
theorem dX5_init_15 : decode cX5_init 15 = .ok (.aload_n 0, 1) := by decide +kernel
theorem dX5_init_16 : decode cX5_init 16 = .ok (.new 9, 3) := by decide +kernel
theorem dX5_init_19 : decode cX5_init 19 = .ok (.dup, 1) := by decide +kernel
theorem dX5_init_20 : decode cX5_init 20 = .ok (.invokespecial 11, 3) := by decide +kernel
theorem dX5_init_23 : decode cX5_init 23 = .ok (.putfield 16, 3) := by decide +kernel
theorem dX5_init_26 : decode cX5_init 26 = .ok (.aload_n 0, 1) := by decide +kernel
theorem dX5_init_27 : decode cX5_init 27 = .ok (.new 9, 3) := by decide +kernel
theorem dX5_init_30 : decode cX5_init 30 = .ok (.dup, 1) := by decide +kernel
theorem dX5_init_31 : decode cX5_init 31 = .ok (.invokespecial 11, 3) := by decide +kernel
theorem dX5_init_34 : decode cX5_init 34 = .ok (.putfield 19, 3) := by decide +kernel
theorem dX5_init_37 : decode cX5_init 37 = .ok (.aload_n 0, 1) := by decide +kernel
theorem dX5_init_38 : decode cX5_init 38 = .ok (.new 9, 3) := by decide +kernel
theorem dX5_init_41 : decode cX5_init 41 = .ok (.dup, 1) := by decide +kernel
theorem dX5_init_42 : decode cX5_init 42 = .ok (.invokespecial 11, 3) := by decide +kernel
theorem dX5_init_45 : decode cX5_init 45 = .ok (.putfield 22, 3) := by decide +kernel
theorem dX5_init_48 : decode cX5_init 48 = .ok (.aload_n 0, 1) := by decide +kernel
theorem dX5_init_49 : decode cX5_init 49 = .ok (.new 25, 3) := by decide +kernel
theorem dX5_init_52 : decode cX5_init 52 = .ok (.dup, 1) := by decide +kernel
theorem dX5_init_53 : decode cX5_init 53 = .ok (.invokespecial 27, 3) := by decide +kernel
theorem dX5_init_56 : decode cX5_init 56 = .ok (.putfield 28, 3) := by decide +kernel
theorem dX5_init_59 : decode cX5_init 59 = .ok (.aload_n 0, 1) := by decide +kernel
theorem dX5_init_60 : decode cX5_init 60 = .ok (.iconst 0, 1) := by decide +kernel
theorem dX5_init_61 : decode cX5_init 61 = .ok (.putfield 32, 3) := by decide +kernel
theorem dX5_init_64 : decode cX5_init 64 = .ok (.return_, 1) := by decide +kernel
theorem dX5_addFund_0 : decode cX5_addFund 0 = .ok (.iload_n 1, 1) := by decide +kernel
theorem dX5_addFund_1 : decode cX5_addFund 1 = .ok (.iconst 0, 1) := by decide +kernel
theorem dX5_addFund_2 : decode cX5_addFund 2 = .ok (.ldc 36, 2) := by decide +kernel
theorem dX5_addFund_4 : decode cX5_addFund 4 = .ok (.invokestatic 37, 3) := by decide +kernel
theorem dX5_addFund_7 : decode cX5_addFund 7 = .ok (.iload_n 2, 1) := by decide +kernel
theorem dX5_addFund_8 : decode cX5_addFund 8 = .ok (.iconst 0, 1) := by decide +kernel
theorem dX5_addFund_9 : decode cX5_addFund 9 = .ok (.sipush 255, 3) := by decide +kernel
theorem dX5_addFund_12 : decode cX5_addFund 12 = .ok (.invokestatic 37, 3) := by decide +kernel
theorem dX5_addFund_15 : decode cX5_addFund 15 = .ok (.iload_n 3, 1) := by decide +kernel
theorem dX5_addFund_16 : decode cX5_addFund 16 = .ok (.iconst 0, 1) := by decide +kernel
theorem dX5_addFund_17 : decode cX5_addFund 17 = .ok (.sipush 999, 3) := by decide +kernel
theorem dX5_addFund_20 : decode cX5_addFund 20 = .ok (.invokestatic 37, 3) := by decide +kernel
theorem dX5_addFund_23 : decode cX5_addFund 23 = .ok (.iload 4, 2) := by decide +kernel
theorem dX5_addFund_25 : decode cX5_addFund 25 = .ok (.iconst 0, 1) := by decide +kernel
theorem dX5_addFund_26 : decode cX5_addFund 26 = .ok (.bipush 100, 2) := by decide +kernel
theorem dX5_addFund_28 : decode cX5_addFund 28 = .ok (.invokestatic 37, 3) := by decide +kernel
theorem dX5_addFund_31 : decode cX5_addFund 31 = .ok (.aload_n 0, 1) := by decide +kernel
theorem dX5_addFund_32 : decode cX5_addFund 32 = .ok (.getfield 12, 3) := by decide +kernel
theorem dX5_addFund_35 : decode cX5_addFund 35 = .ok (.invokevirtual 41, 3) := by decide +kernel
theorem dX5_addFund_38 : decode cX5_addFund 38 = .ok (.bipush 6, 2) := by decide +kernel
theorem dX5_addFund_40 : decode cX5_addFund 40 = .ok (.if_icmp .ge 7, 3) := by decide +kernel
theorem dX5_addFund_43 : decode cX5_addFund 43 = .ok (.iconst 1, 1) := by decide +kernel
theorem dX5_addFund_44 : decode cX5_addFund 44 = .ok (.goto 4, 3) := by decide +kernel
theorem dX5_addFund_47 : decode cX5_addFund 47 = .ok (.iconst 0, 1) := by decide +kernel
theorem dX5_addFund_48 : decode cX5_addFund 48 = .ok (.invokestatic 45, 3) := by decide +kernel
theorem dX5_addFund_51 : decode cX5_addFund 51 = .ok (.aload_n 0, 1) := by decide +kernel
theorem dX5_addFund_52 : decode cX5_addFund 52 = .ok (.getfield 12, 3) := by decide +kernel
theorem dX5_addFund_55 : decode cX5_addFund 55 = .ok (.invokevirtual 41, 3) := by decide +kernel
theorem dX5_addFund_58 : decode cX5_addFund 58 = .ok (.istore 5, 2) := by decide +kernel
theorem dX5_addFund_60 : decode cX5_addFund 60 = .ok (.aload_n 0, 1) := by decide +kernel
theorem dX5_addFund_61 : decode cX5_addFund 61 = .ok (.getfield 12, 3) := by decide +kernel
theorem dX5_addFund_64 : decode cX5_addFund 64 = .ok (.new 49, 3) := by decide +kernel
theorem dX5_addFund_67 : decode cX5_addFund 67 = .ok (.dup, 1) := by decide +kernel
theorem dX5_addFund_68 : decode cX5_addFund 68 = .ok (.iload 5, 2) := by decide +kernel
theorem dX5_addFund_70 : decode cX5_addFund 70 = .ok (.iload_n 1, 1) := by decide +kernel
theorem dX5_addFund_71 : decode cX5_addFund 71 = .ok (.iload_n 2, 1) := by decide +kernel
theorem dX5_addFund_72 : decode cX5_addFund 72 = .ok (.iload_n 3, 1) := by decide +kernel
theorem dX5_addFund_73 : decode cX5_addFund 73 = .ok (.iload 4, 2) := by decide +kernel
theorem dX5_addFund_75 : decode cX5_addFund 75 = .ok (.invokespecial 51, 3) := by decide +kernel
theorem dX5_addFund_78 : decode cX5_addFund 78 = .ok (.invokevirtual 54, 3) := by decide +kernel
theorem dX5_addFund_81 : decode cX5_addFund 81 = .ok (.pop, 1) := by decide +kernel
theorem dX5_addFund_82 : decode cX5_addFund 82 = .ok (.iload 5, 2) := by decide +kernel
theorem dX5_addFund_84 : decode cX5_addFund 84 = .ok (.ireturn, 1) := by decide +kernel
theorem dX5_deposit_0 : decode cX5_deposit 0 = .ok (.aload_n 0, 1) := by decide +kernel
theorem dX5_deposit_1 : decode cX5_deposit 1 = .ok (.iload_n 1, 1) := by decide +kernel
theorem dX5_deposit_2 : decode cX5_deposit 2 = .ok (.invokevirtual 58, 3) := by decide +kernel
theorem dX5_deposit_5 : decode cX5_deposit 5 = .ok (.astore_n 3, 1) := by decide +kernel
theorem dX5_deposit_6 : decode cX5_deposit 6 = .ok (.iload_n 2, 1) := by decide +kernel
theorem dX5_deposit_7 : decode cX5_deposit 7 = .ok (.iconst 1, 1) := by decide +kernel
theorem dX5_deposit_8 : decode cX5_deposit 8 = .ok (.ldc 36, 2) := by decide +kernel
theorem dX5_deposit_10 : decode cX5_deposit 10 = .ok (.invokestatic 37, 3) := by decide +kernel
theorem dX5_deposit_13 : decode cX5_deposit 13 = .ok (.aload_n 3, 1) := by decide +kernel
theorem dX5_deposit_14 : decode cX5_deposit 14 = .ok (.dup, 1) := by decide +kernel
theorem dX5_deposit_15 : decode cX5_deposit 15 = .ok (.getfield 62, 3) := by decide +kernel
theorem dX5_deposit_18 : decode cX5_deposit 18 = .ok (.iload_n 2, 1) := by decide +kernel
theorem dX5_deposit_19 : decode cX5_deposit 19 = .ok (.iadd, 1) := by decide +kernel
theorem dX5_deposit_20 : decode cX5_deposit 20 = .ok (.putfield 62, 3) := by decide +kernel
theorem dX5_deposit_23 : decode cX5_deposit 23 = .ok (.aload_n 3, 1) := by decide +kernel
theorem dX5_deposit_24 : decode cX5_deposit 24 = .ok (.getfield 62, 3) := by decide +kernel
theorem dX5_deposit_27 : decode cX5_deposit 27 = .ok (.ireturn, 1) := by decide +kernel
theorem dX5_commit_0 : decode cX5_commit 0 = .ok (.aload_n 0, 1) := by decide +kernel
theorem dX5_commit_1 : decode cX5_commit 1 = .ok (.iload_n 1, 1) := by decide +kernel
theorem dX5_commit_2 : decode cX5_commit 2 = .ok (.invokevirtual 58, 3) := by decide +kernel
theorem dX5_commit_5 : decode cX5_commit 5 = .ok (.astore 5, 2) := by decide +kernel
theorem dX5_commit_7 : decode cX5_commit 7 = .ok (.iload_n 2, 1) := by decide +kernel
theorem dX5_commit_8 : decode cX5_commit 8 = .ok (.iconst 0, 1) := by decide +kernel
theorem dX5_commit_9 : decode cX5_commit 9 = .ok (.bipush 7, 2) := by decide +kernel
theorem dX5_commit_11 : decode cX5_commit 11 = .ok (.invokestatic 37, 3) := by decide +kernel
theorem dX5_commit_14 : decode cX5_commit 14 = .ok (.iload_n 3, 1) := by decide +kernel
theorem dX5_commit_15 : decode cX5_commit 15 = .ok (.iconst 1, 1) := by decide +kernel
theorem dX5_commit_16 : decode cX5_commit 16 = .ok (.ldc 36, 2) := by decide +kernel
theorem dX5_commit_18 : decode cX5_commit 18 = .ok (.invokestatic 37, 3) := by decide +kernel
theorem dX5_commit_21 : decode cX5_commit 21 = .ok (.iload 4, 2) := by decide +kernel
theorem dX5_commit_23 : decode cX5_commit 23 = .ok (.aload_n 0, 1) := by decide +kernel
theorem dX5_commit_24 : decode cX5_commit 24 = .ok (.getfield 32, 3) := by decide +kernel
theorem dX5_commit_27 : decode cX5_commit 27 = .ok (.sipush 999, 3) := by decide +kernel
theorem dX5_commit_30 : decode cX5_commit 30 = .ok (.invokestatic 37, 3) := by decide +kernel
theorem dX5_commit_33 : decode cX5_commit 33 = .ok (.aload 5, 2) := by decide +kernel
theorem dX5_commit_35 : decode cX5_commit 35 = .ok (.iload_n 2, 1) := by decide +kernel
theorem dX5_commit_36 : decode cX5_commit 36 = .ok (.invokevirtual 65, 3) := by decide +kernel
theorem dX5_commit_39 : decode cX5_commit 39 = .ok (.invokestatic 45, 3) := by decide +kernel
theorem dX5_commit_42 : decode cX5_commit 42 = .ok (.aload 5, 2) := by decide +kernel
theorem dX5_commit_44 : decode cX5_commit 44 = .ok (.getfield 62, 3) := by decide +kernel
theorem dX5_commit_47 : decode cX5_commit 47 = .ok (.iload_n 3, 1) := by decide +kernel
theorem dX5_commit_48 : decode cX5_commit 48 = .ok (.if_icmp .lt 7, 3) := by decide +kernel
theorem dX5_commit_51 : decode cX5_commit 51 = .ok (.iconst 1, 1) := by decide +kernel
theorem dX5_commit_52 : decode cX5_commit 52 = .ok (.goto 4, 3) := by decide +kernel
theorem dX5_commit_55 : decode cX5_commit 55 = .ok (.iconst 0, 1) := by decide +kernel
theorem dX5_commit_56 : decode cX5_commit 56 = .ok (.invokestatic 45, 3) := by decide +kernel
theorem dX5_commit_59 : decode cX5_commit 59 = .ok (.aload_n 0, 1) := by decide +kernel
theorem dX5_commit_60 : decode cX5_commit 60 = .ok (.getfield 16, 3) := by decide +kernel
theorem dX5_commit_63 : decode cX5_commit 63 = .ok (.invokevirtual 41, 3) := by decide +kernel
theorem dX5_commit_66 : decode cX5_commit 66 = .ok (.bipush 6, 2) := by decide +kernel
theorem dX5_commit_68 : decode cX5_commit 68 = .ok (.if_icmp .ge 7, 3) := by decide +kernel
theorem dX5_commit_71 : decode cX5_commit 71 = .ok (.iconst 1, 1) := by decide +kernel
theorem dX5_commit_72 : decode cX5_commit 72 = .ok (.goto 4, 3) := by decide +kernel
theorem dX5_commit_75 : decode cX5_commit 75 = .ok (.iconst 0, 1) := by decide +kernel
theorem dX5_commit_76 : decode cX5_commit 76 = .ok (.invokestatic 45, 3) := by decide +kernel
theorem dX5_commit_79 : decode cX5_commit 79 = .ok (.aload 5, 2) := by decide +kernel
theorem dX5_commit_81 : decode cX5_commit 81 = .ok (.dup, 1) := by decide +kernel
theorem dX5_commit_82 : decode cX5_commit 82 = .ok (.getfield 62, 3) := by decide +kernel
theorem dX5_commit_85 : decode cX5_commit 85 = .ok (.iload_n 3, 1) := by decide +kernel
theorem dX5_commit_86 : decode cX5_commit 86 = .ok (.isub, 1) := by decide +kernel
theorem dX5_commit_87 : decode cX5_commit 87 = .ok (.putfield 62, 3) := by decide +kernel
theorem dX5_commit_90 : decode cX5_commit 90 = .ok (.aload_n 0, 1) := by decide +kernel
theorem dX5_commit_91 : decode cX5_commit 91 = .ok (.getfield 16, 3) := by decide +kernel
theorem dX5_commit_94 : decode cX5_commit 94 = .ok (.new 69, 3) := by decide +kernel
theorem dX5_commit_97 : decode cX5_commit 97 = .ok (.dup, 1) := by decide +kernel
theorem dX5_commit_98 : decode cX5_commit 98 = .ok (.aload 5, 2) := by decide +kernel
theorem dX5_commit_100 : decode cX5_commit 100 = .ok (.iload_n 2, 1) := by decide +kernel
theorem dX5_commit_101 : decode cX5_commit 101 = .ok (.iload_n 3, 1) := by decide +kernel
theorem dX5_commit_102 : decode cX5_commit 102 = .ok (.iload 4, 2) := by decide +kernel
theorem dX5_commit_104 : decode cX5_commit 104 = .ok (.invokespecial 71, 3) := by decide +kernel
theorem dX5_commit_107 : decode cX5_commit 107 = .ok (.invokevirtual 54, 3) := by decide +kernel
theorem dX5_commit_110 : decode cX5_commit 110 = .ok (.pop, 1) := by decide +kernel
theorem dX5_commit_111 : decode cX5_commit 111 = .ok (.aload_n 0, 1) := by decide +kernel
theorem dX5_commit_112 : decode cX5_commit 112 = .ok (.getfield 16, 3) := by decide +kernel
theorem dX5_commit_115 : decode cX5_commit 115 = .ok (.invokevirtual 41, 3) := by decide +kernel
theorem dX5_commit_118 : decode cX5_commit 118 = .ok (.ireturn, 1) := by decide +kernel
theorem dX5_cancel_0 : decode cX5_cancel 0 = .ok (.aload_n 0, 1) := by decide +kernel
theorem dX5_cancel_1 : decode cX5_cancel 1 = .ok (.iload_n 1, 1) := by decide +kernel
theorem dX5_cancel_2 : decode cX5_cancel 2 = .ok (.invokevirtual 74, 3) := by decide +kernel
theorem dX5_cancel_5 : decode cX5_cancel 5 = .ok (.getfield 78, 3) := by decide +kernel
theorem dX5_cancel_8 : decode cX5_cancel 8 = .ok (.istore_n 2, 1) := by decide +kernel
theorem dX5_cancel_9 : decode cX5_cancel 9 = .ok (.aload_n 0, 1) := by decide +kernel
theorem dX5_cancel_10 : decode cX5_cancel 10 = .ok (.iload_n 1, 1) := by decide +kernel
theorem dX5_cancel_11 : decode cX5_cancel 11 = .ok (.invokevirtual 79, 3) := by decide +kernel
theorem dX5_cancel_14 : decode cX5_cancel 14 = .ok (.iload_n 2, 1) := by decide +kernel
theorem dX5_cancel_15 : decode cX5_cancel 15 = .ok (.ireturn, 1) := by decide +kernel
theorem dX5_advance_0 : decode cX5_advance 0 = .ok (.iload_n 1, 1) := by decide +kernel
theorem dX5_advance_1 : decode cX5_advance 1 = .ok (.iconst 1, 1) := by decide +kernel
theorem dX5_advance_2 : decode cX5_advance 2 = .ok (.sipush 999, 3) := by decide +kernel
theorem dX5_advance_5 : decode cX5_advance 5 = .ok (.invokestatic 37, 3) := by decide +kernel
theorem dX5_advance_8 : decode cX5_advance 8 = .ok (.aload_n 0, 1) := by decide +kernel
theorem dX5_advance_9 : decode cX5_advance 9 = .ok (.getfield 32, 3) := by decide +kernel
theorem dX5_advance_12 : decode cX5_advance 12 = .ok (.iload_n 1, 1) := by decide +kernel
theorem dX5_advance_13 : decode cX5_advance 13 = .ok (.iadd, 1) := by decide +kernel
theorem dX5_advance_14 : decode cX5_advance 14 = .ok (.iconst 1, 1) := by decide +kernel
theorem dX5_advance_15 : decode cX5_advance 15 = .ok (.sipush 999, 3) := by decide +kernel
theorem dX5_advance_18 : decode cX5_advance 18 = .ok (.invokestatic 37, 3) := by decide +kernel
theorem dX5_advance_21 : decode cX5_advance 21 = .ok (.aload_n 0, 1) := by decide +kernel
theorem dX5_advance_22 : decode cX5_advance 22 = .ok (.dup, 1) := by decide +kernel
theorem dX5_advance_23 : decode cX5_advance 23 = .ok (.getfield 32, 3) := by decide +kernel
theorem dX5_advance_26 : decode cX5_advance 26 = .ok (.iload_n 1, 1) := by decide +kernel
theorem dX5_advance_27 : decode cX5_advance 27 = .ok (.iadd, 1) := by decide +kernel
theorem dX5_advance_28 : decode cX5_advance 28 = .ok (.putfield 32, 3) := by decide +kernel
theorem dX5_advance_31 : decode cX5_advance 31 = .ok (.aload_n 0, 1) := by decide +kernel
theorem dX5_advance_32 : decode cX5_advance 32 = .ok (.invokevirtual 83, 3) := by decide +kernel
theorem dX5_advance_35 : decode cX5_advance 35 = .ok (.ireturn, 1) := by decide +kernel
theorem dX5_addCost_0 : decode cX5_addCost 0 = .ok (.iload_n 1, 1) := by decide +kernel
theorem dX5_addCost_1 : decode cX5_addCost 1 = .ok (.iconst 0, 1) := by decide +kernel
theorem dX5_addCost_2 : decode cX5_addCost 2 = .ok (.bipush 7, 2) := by decide +kernel
theorem dX5_addCost_4 : decode cX5_addCost 4 = .ok (.invokestatic 37, 3) := by decide +kernel
theorem dX5_addCost_7 : decode cX5_addCost 7 = .ok (.iload_n 2, 1) := by decide +kernel
theorem dX5_addCost_8 : decode cX5_addCost 8 = .ok (.iconst 0, 1) := by decide +kernel
theorem dX5_addCost_9 : decode cX5_addCost 9 = .ok (.aload_n 0, 1) := by decide +kernel
theorem dX5_addCost_10 : decode cX5_addCost 10 = .ok (.getfield 32, 3) := by decide +kernel
theorem dX5_addCost_13 : decode cX5_addCost 13 = .ok (.invokestatic 37, 3) := by decide +kernel
theorem dX5_addCost_16 : decode cX5_addCost 16 = .ok (.iload_n 3, 1) := by decide +kernel
theorem dX5_addCost_17 : decode cX5_addCost 17 = .ok (.iconst 1, 1) := by decide +kernel
theorem dX5_addCost_18 : decode cX5_addCost 18 = .ok (.ldc 36, 2) := by decide +kernel
theorem dX5_addCost_20 : decode cX5_addCost 20 = .ok (.invokestatic 37, 3) := by decide +kernel
theorem dX5_addCost_23 : decode cX5_addCost 23 = .ok (.aload_n 0, 1) := by decide +kernel
theorem dX5_addCost_24 : decode cX5_addCost 24 = .ok (.getfield 19, 3) := by decide +kernel
theorem dX5_addCost_27 : decode cX5_addCost 27 = .ok (.invokevirtual 41, 3) := by decide +kernel
theorem dX5_addCost_30 : decode cX5_addCost 30 = .ok (.bipush 16, 2) := by decide +kernel
theorem dX5_addCost_32 : decode cX5_addCost 32 = .ok (.if_icmp .ge 7, 3) := by decide +kernel
theorem dX5_addCost_35 : decode cX5_addCost 35 = .ok (.iconst 1, 1) := by decide +kernel
theorem dX5_addCost_36 : decode cX5_addCost 36 = .ok (.goto 4, 3) := by decide +kernel
theorem dX5_addCost_39 : decode cX5_addCost 39 = .ok (.iconst 0, 1) := by decide +kernel
theorem dX5_addCost_40 : decode cX5_addCost 40 = .ok (.invokestatic 45, 3) := by decide +kernel
theorem dX5_addCost_43 : decode cX5_addCost 43 = .ok (.aload_n 0, 1) := by decide +kernel
theorem dX5_addCost_44 : decode cX5_addCost 44 = .ok (.getfield 19, 3) := by decide +kernel
theorem dX5_addCost_47 : decode cX5_addCost 47 = .ok (.new 86, 3) := by decide +kernel
theorem dX5_addCost_50 : decode cX5_addCost 50 = .ok (.dup, 1) := by decide +kernel
theorem dX5_addCost_51 : decode cX5_addCost 51 = .ok (.iload_n 1, 1) := by decide +kernel
theorem dX5_addCost_52 : decode cX5_addCost 52 = .ok (.iload_n 2, 1) := by decide +kernel
theorem dX5_addCost_53 : decode cX5_addCost 53 = .ok (.iload_n 3, 1) := by decide +kernel
theorem dX5_addCost_54 : decode cX5_addCost 54 = .ok (.invokespecial 88, 3) := by decide +kernel
theorem dX5_addCost_57 : decode cX5_addCost 57 = .ok (.invokevirtual 54, 3) := by decide +kernel
theorem dX5_addCost_60 : decode cX5_addCost 60 = .ok (.pop, 1) := by decide +kernel
theorem dX5_addCost_61 : decode cX5_addCost 61 = .ok (.aload_n 0, 1) := by decide +kernel
theorem dX5_addCost_62 : decode cX5_addCost 62 = .ok (.getfield 19, 3) := by decide +kernel
theorem dX5_addCost_65 : decode cX5_addCost 65 = .ok (.invokevirtual 41, 3) := by decide +kernel
theorem dX5_addCost_68 : decode cX5_addCost 68 = .ok (.iconst 1, 1) := by decide +kernel
theorem dX5_addCost_69 : decode cX5_addCost 69 = .ok (.isub, 1) := by decide +kernel
theorem dX5_addCost_70 : decode cX5_addCost 70 = .ok (.ireturn, 1) := by decide +kernel
theorem dX5_charge_0 : decode cX5_charge 0 = .ok (.aload_n 0, 1) := by decide +kernel
theorem dX5_charge_1 : decode cX5_charge 1 = .ok (.invokevirtual 90, 3) := by decide +kernel
theorem dX5_charge_4 : decode cX5_charge 4 = .ok (.aload_n 0, 1) := by decide +kernel
theorem dX5_charge_5 : decode cX5_charge 5 = .ok (.getfield 28, 3) := by decide +kernel
theorem dX5_charge_8 : decode cX5_charge 8 = .ok (.invokevirtual 93, 3) := by decide +kernel
theorem dX5_charge_11 : decode cX5_charge 11 = .ok (.aload_n 0, 1) := by decide +kernel
theorem dX5_charge_12 : decode cX5_charge 12 = .ok (.getfield 28, 3) := by decide +kernel
theorem dX5_charge_15 : decode cX5_charge 15 = .ok (.invokevirtual 96, 3) := by decide +kernel
theorem dX5_charge_18 : decode cX5_charge 18 = .ok (.aload_n 0, 1) := by decide +kernel
theorem dX5_charge_19 : decode cX5_charge 19 = .ok (.getfield 28, 3) := by decide +kernel
theorem dX5_charge_22 : decode cX5_charge 22 = .ok (.invokevirtual 99, 3) := by decide +kernel
theorem dX5_charge_25 : decode cX5_charge 25 = .ok (.aload_n 0, 1) := by decide +kernel
theorem dX5_charge_26 : decode cX5_charge 26 = .ok (.getfield 28, 3) := by decide +kernel
theorem dX5_charge_29 : decode cX5_charge 29 = .ok (.invokevirtual 102, 3) := by decide +kernel
theorem dX5_charge_32 : decode cX5_charge 32 = .ok (.istore_n 1, 1) := by decide +kernel
theorem dX5_charge_33 : decode cX5_charge 33 = .ok (.aload_n 0, 1) := by decide +kernel
theorem dX5_charge_34 : decode cX5_charge 34 = .ok (.invokevirtual 105, 3) := by decide +kernel
theorem dX5_charge_37 : decode cX5_charge 37 = .ok (.aload_n 0, 1) := by decide +kernel
theorem dX5_charge_38 : decode cX5_charge 38 = .ok (.invokevirtual 108, 3) := by decide +kernel
theorem dX5_charge_41 : decode cX5_charge 41 = .ok (.iload_n 1, 1) := by decide +kernel
theorem dX5_charge_42 : decode cX5_charge 42 = .ok (.ireturn, 1) := by decide +kernel
theorem dX5_chargeOverhead_0 : decode cX5_chargeOverhead 0 = .ok (.iload_n 1, 1) := by decide +kernel
theorem dX5_chargeOverhead_1 : decode cX5_chargeOverhead 1 = .ok (.iconst 1, 1) := by decide +kernel
theorem dX5_chargeOverhead_2 : decode cX5_chargeOverhead 2 = .ok (.ldc 36, 2) := by decide +kernel
theorem dX5_chargeOverhead_4 : decode cX5_chargeOverhead 4 = .ok (.invokestatic 37, 3) := by decide +kernel
theorem dX5_chargeOverhead_7 : decode cX5_chargeOverhead 7 = .ok (.iload_n 1, 1) := by decide +kernel
theorem dX5_chargeOverhead_8 : decode cX5_chargeOverhead 8 = .ok (.istore_n 2, 1) := by decide +kernel
theorem dX5_chargeOverhead_9 : decode cX5_chargeOverhead 9 = .ok (.iconst 1, 1) := by decide +kernel
theorem dX5_chargeOverhead_10 : decode cX5_chargeOverhead 10 = .ok (.istore_n 3, 1) := by decide +kernel
theorem dX5_chargeOverhead_11 : decode cX5_chargeOverhead 11 = .ok (.iconst 0, 1) := by decide +kernel
theorem dX5_chargeOverhead_12 : decode cX5_chargeOverhead 12 = .ok (.istore 4, 2) := by decide +kernel
theorem dX5_chargeOverhead_14 : decode cX5_chargeOverhead 14 = .ok (.iload 4, 2) := by decide +kernel
theorem dX5_chargeOverhead_16 : decode cX5_chargeOverhead 16 = .ok (.iload_n 1, 1) := by decide +kernel
theorem dX5_chargeOverhead_17 : decode cX5_chargeOverhead 17 = .ok (.if_icmp .ge 52, 3) := by decide +kernel
theorem dX5_chargeOverhead_20 : decode cX5_chargeOverhead 20 = .ok (.iload_n 3, 1) := by decide +kernel
theorem dX5_chargeOverhead_21 : decode cX5_chargeOverhead 21 = .ok (.ifCond .eq 48, 3) := by decide +kernel
theorem dX5_chargeOverhead_24 : decode cX5_chargeOverhead 24 = .ok (.iload_n 2, 1) := by decide +kernel
theorem dX5_chargeOverhead_25 : decode cX5_chargeOverhead 25 = .ok (.ifCond .le 44, 3) := by decide +kernel
theorem dX5_chargeOverhead_28 : decode cX5_chargeOverhead 28 = .ok (.aload_n 0, 1) := by decide +kernel
theorem dX5_chargeOverhead_29 : decode cX5_chargeOverhead 29 = .ok (.iload_n 2, 1) := by decide +kernel
theorem dX5_chargeOverhead_30 : decode cX5_chargeOverhead 30 = .ok (.invokevirtual 111, 3) := by decide +kernel
theorem dX5_chargeOverhead_33 : decode cX5_chargeOverhead 33 = .ok (.istore 5, 2) := by decide +kernel
theorem dX5_chargeOverhead_35 : decode cX5_chargeOverhead 35 = .ok (.iload 5, 2) := by decide +kernel
theorem dX5_chargeOverhead_37 : decode cX5_chargeOverhead 37 = .ok (.ifCond .ne 10, 3) := by decide +kernel
theorem dX5_chargeOverhead_40 : decode cX5_chargeOverhead 40 = .ok (.aload_n 0, 1) := by decide +kernel
theorem dX5_chargeOverhead_41 : decode cX5_chargeOverhead 41 = .ok (.iload_n 2, 1) := by decide +kernel
theorem dX5_chargeOverhead_42 : decode cX5_chargeOverhead 42 = .ok (.invokevirtual 115, 3) := by decide +kernel
theorem dX5_chargeOverhead_45 : decode cX5_chargeOverhead 45 = .ok (.istore 5, 2) := by decide +kernel
theorem dX5_chargeOverhead_47 : decode cX5_chargeOverhead 47 = .ok (.iload_n 2, 1) := by decide +kernel
theorem dX5_chargeOverhead_48 : decode cX5_chargeOverhead 48 = .ok (.iload 5, 2) := by decide +kernel
theorem dX5_chargeOverhead_50 : decode cX5_chargeOverhead 50 = .ok (.isub, 1) := by decide +kernel
theorem dX5_chargeOverhead_51 : decode cX5_chargeOverhead 51 = .ok (.istore_n 2, 1) := by decide +kernel
theorem dX5_chargeOverhead_52 : decode cX5_chargeOverhead 52 = .ok (.iload 5, 2) := by decide +kernel
theorem dX5_chargeOverhead_54 : decode cX5_chargeOverhead 54 = .ok (.ifCond .le 7, 3) := by decide +kernel
theorem dX5_chargeOverhead_57 : decode cX5_chargeOverhead 57 = .ok (.iconst 1, 1) := by decide +kernel
theorem dX5_chargeOverhead_58 : decode cX5_chargeOverhead 58 = .ok (.goto 4, 3) := by decide +kernel
theorem dX5_chargeOverhead_61 : decode cX5_chargeOverhead 61 = .ok (.iconst 0, 1) := by decide +kernel
theorem dX5_chargeOverhead_62 : decode cX5_chargeOverhead 62 = .ok (.istore_n 3, 1) := by decide +kernel
theorem dX5_chargeOverhead_63 : decode cX5_chargeOverhead 63 = .ok (.iinc 4 1, 3) := by decide +kernel
theorem dX5_chargeOverhead_66 : decode cX5_chargeOverhead 66 = .ok (.goto (-52), 3) := by decide +kernel
theorem dX5_chargeOverhead_69 : decode cX5_chargeOverhead 69 = .ok (.iload_n 1, 1) := by decide +kernel
theorem dX5_chargeOverhead_70 : decode cX5_chargeOverhead 70 = .ok (.iload_n 2, 1) := by decide +kernel
theorem dX5_chargeOverhead_71 : decode cX5_chargeOverhead 71 = .ok (.isub, 1) := by decide +kernel
theorem dX5_chargeOverhead_72 : decode cX5_chargeOverhead 72 = .ok (.ireturn, 1) := by decide +kernel
theorem dX5_today_0 : decode cX5_today 0 = .ok (.aload_n 0, 1) := by decide +kernel
theorem dX5_today_1 : decode cX5_today 1 = .ok (.getfield 32, 3) := by decide +kernel
theorem dX5_today_4 : decode cX5_today 4 = .ok (.ireturn, 1) := by decide +kernel
theorem dX5_funds_0 : decode cX5_funds 0 = .ok (.aload_n 0, 1) := by decide +kernel
theorem dX5_funds_1 : decode cX5_funds 1 = .ok (.getfield 12, 3) := by decide +kernel
theorem dX5_funds_4 : decode cX5_funds 4 = .ok (.invokevirtual 41, 3) := by decide +kernel
theorem dX5_funds_7 : decode cX5_funds 7 = .ok (.ireturn, 1) := by decide +kernel
theorem dX5_freeOf_0 : decode cX5_freeOf 0 = .ok (.aload_n 0, 1) := by decide +kernel
theorem dX5_freeOf_1 : decode cX5_freeOf 1 = .ok (.iload_n 1, 1) := by decide +kernel
theorem dX5_freeOf_2 : decode cX5_freeOf 2 = .ok (.invokevirtual 58, 3) := by decide +kernel
theorem dX5_freeOf_5 : decode cX5_freeOf 5 = .ok (.getfield 62, 3) := by decide +kernel
theorem dX5_freeOf_8 : decode cX5_freeOf 8 = .ok (.ireturn, 1) := by decide +kernel
theorem dX5_committedOf_0 : decode cX5_committedOf 0 = .ok (.aload_n 0, 1) := by decide +kernel
theorem dX5_committedOf_1 : decode cX5_committedOf 1 = .ok (.iload_n 1, 1) := by decide +kernel
theorem dX5_committedOf_2 : decode cX5_committedOf 2 = .ok (.invokevirtual 58, 3) := by decide +kernel
theorem dX5_committedOf_5 : decode cX5_committedOf 5 = .ok (.astore_n 2, 1) := by decide +kernel
theorem dX5_committedOf_6 : decode cX5_committedOf 6 = .ok (.iconst 0, 1) := by decide +kernel
theorem dX5_committedOf_7 : decode cX5_committedOf 7 = .ok (.istore_n 3, 1) := by decide +kernel
theorem dX5_committedOf_8 : decode cX5_committedOf 8 = .ok (.iconst 0, 1) := by decide +kernel
theorem dX5_committedOf_9 : decode cX5_committedOf 9 = .ok (.istore 4, 2) := by decide +kernel
theorem dX5_committedOf_11 : decode cX5_committedOf 11 = .ok (.iload 4, 2) := by decide +kernel
theorem dX5_committedOf_13 : decode cX5_committedOf 13 = .ok (.aload_n 0, 1) := by decide +kernel
theorem dX5_committedOf_14 : decode cX5_committedOf 14 = .ok (.getfield 16, 3) := by decide +kernel
theorem dX5_committedOf_17 : decode cX5_committedOf 17 = .ok (.invokevirtual 41, 3) := by decide +kernel
theorem dX5_committedOf_20 : decode cX5_committedOf 20 = .ok (.if_icmp .ge 40, 3) := by decide +kernel
theorem dX5_committedOf_23 : decode cX5_committedOf 23 = .ok (.aload_n 0, 1) := by decide +kernel
theorem dX5_committedOf_24 : decode cX5_committedOf 24 = .ok (.getfield 16, 3) := by decide +kernel
theorem dX5_committedOf_27 : decode cX5_committedOf 27 = .ok (.iload 4, 2) := by decide +kernel
theorem dX5_committedOf_29 : decode cX5_committedOf 29 = .ok (.invokevirtual 118, 3) := by decide +kernel
theorem dX5_committedOf_32 : decode cX5_committedOf 32 = .ok (.checkcast 69, 3) := by decide +kernel
theorem dX5_committedOf_35 : decode cX5_committedOf 35 = .ok (.astore 5, 2) := by decide +kernel
theorem dX5_committedOf_37 : decode cX5_committedOf 37 = .ok (.aload 5, 2) := by decide +kernel
theorem dX5_committedOf_39 : decode cX5_committedOf 39 = .ok (.invokevirtual 122, 3) := by decide +kernel
theorem dX5_committedOf_42 : decode cX5_committedOf 42 = .ok (.aload_n 2, 1) := by decide +kernel
theorem dX5_committedOf_43 : decode cX5_committedOf 43 = .ok (.if_acmp .ne 11, 3) := by decide +kernel
theorem dX5_committedOf_46 : decode cX5_committedOf 46 = .ok (.iload_n 3, 1) := by decide +kernel
theorem dX5_committedOf_47 : decode cX5_committedOf 47 = .ok (.aload 5, 2) := by decide +kernel
theorem dX5_committedOf_49 : decode cX5_committedOf 49 = .ok (.getfield 78, 3) := by decide +kernel
theorem dX5_committedOf_52 : decode cX5_committedOf 52 = .ok (.iadd, 1) := by decide +kernel
theorem dX5_committedOf_53 : decode cX5_committedOf 53 = .ok (.istore_n 3, 1) := by decide +kernel
theorem dX5_committedOf_54 : decode cX5_committedOf 54 = .ok (.iinc 4 1, 3) := by decide +kernel
theorem dX5_committedOf_57 : decode cX5_committedOf 57 = .ok (.goto (-46), 3) := by decide +kernel
theorem dX5_committedOf_60 : decode cX5_committedOf 60 = .ok (.iload_n 3, 1) := by decide +kernel
theorem dX5_committedOf_61 : decode cX5_committedOf 61 = .ok (.ireturn, 1) := by decide +kernel
theorem dX5_directOf_0 : decode cX5_directOf 0 = .ok (.aload_n 0, 1) := by decide +kernel
theorem dX5_directOf_1 : decode cX5_directOf 1 = .ok (.iload_n 1, 1) := by decide +kernel
theorem dX5_directOf_2 : decode cX5_directOf 2 = .ok (.invokevirtual 58, 3) := by decide +kernel
theorem dX5_directOf_5 : decode cX5_directOf 5 = .ok (.getfield 126, 3) := by decide +kernel
theorem dX5_directOf_8 : decode cX5_directOf 8 = .ok (.ireturn, 1) := by decide +kernel
theorem dX5_overheadOf_0 : decode cX5_overheadOf 0 = .ok (.aload_n 0, 1) := by decide +kernel
theorem dX5_overheadOf_1 : decode cX5_overheadOf 1 = .ok (.iload_n 1, 1) := by decide +kernel
theorem dX5_overheadOf_2 : decode cX5_overheadOf 2 = .ok (.invokevirtual 58, 3) := by decide +kernel
theorem dX5_overheadOf_5 : decode cX5_overheadOf 5 = .ok (.getfield 129, 3) := by decide +kernel
theorem dX5_overheadOf_8 : decode cX5_overheadOf 8 = .ok (.ireturn, 1) := by decide +kernel
theorem dX5_roomOf_0 : decode cX5_roomOf 0 = .ok (.aload_n 0, 1) := by decide +kernel
theorem dX5_roomOf_1 : decode cX5_roomOf 1 = .ok (.iload_n 1, 1) := by decide +kernel
theorem dX5_roomOf_2 : decode cX5_roomOf 2 = .ok (.invokevirtual 58, 3) := by decide +kernel
theorem dX5_roomOf_5 : decode cX5_roomOf 5 = .ok (.invokevirtual 132, 3) := by decide +kernel
theorem dX5_roomOf_8 : decode cX5_roomOf 8 = .ok (.ireturn, 1) := by decide +kernel
theorem dX5_commitments_0 : decode cX5_commitments 0 = .ok (.aload_n 0, 1) := by decide +kernel
theorem dX5_commitments_1 : decode cX5_commitments 1 = .ok (.getfield 16, 3) := by decide +kernel
theorem dX5_commitments_4 : decode cX5_commitments 4 = .ok (.invokevirtual 41, 3) := by decide +kernel
theorem dX5_commitments_7 : decode cX5_commitments 7 = .ok (.ireturn, 1) := by decide +kernel
theorem dX5_fundOf_0 : decode cX5_fundOf 0 = .ok (.aload_n 0, 1) := by decide +kernel
theorem dX5_fundOf_1 : decode cX5_fundOf 1 = .ok (.iload_n 1, 1) := by decide +kernel
theorem dX5_fundOf_2 : decode cX5_fundOf 2 = .ok (.invokevirtual 74, 3) := by decide +kernel
theorem dX5_fundOf_5 : decode cX5_fundOf 5 = .ok (.invokevirtual 122, 3) := by decide +kernel
theorem dX5_fundOf_8 : decode cX5_fundOf 8 = .ok (.getfield 135, 3) := by decide +kernel
theorem dX5_fundOf_11 : decode cX5_fundOf 11 = .ok (.ireturn, 1) := by decide +kernel
theorem dX5_leftOf_0 : decode cX5_leftOf 0 = .ok (.aload_n 0, 1) := by decide +kernel
theorem dX5_leftOf_1 : decode cX5_leftOf 1 = .ok (.iload_n 1, 1) := by decide +kernel
theorem dX5_leftOf_2 : decode cX5_leftOf 2 = .ok (.invokevirtual 74, 3) := by decide +kernel
theorem dX5_leftOf_5 : decode cX5_leftOf 5 = .ok (.getfield 78, 3) := by decide +kernel
theorem dX5_leftOf_8 : decode cX5_leftOf 8 = .ok (.ireturn, 1) := by decide +kernel
theorem dX5_untilOf_0 : decode cX5_untilOf 0 = .ok (.aload_n 0, 1) := by decide +kernel
theorem dX5_untilOf_1 : decode cX5_untilOf 1 = .ok (.iload_n 1, 1) := by decide +kernel
theorem dX5_untilOf_2 : decode cX5_untilOf 2 = .ok (.invokevirtual 74, 3) := by decide +kernel
theorem dX5_untilOf_5 : decode cX5_untilOf 5 = .ok (.invokevirtual 138, 3) := by decide +kernel
theorem dX5_untilOf_8 : decode cX5_untilOf 8 = .ok (.ireturn, 1) := by decide +kernel
theorem dX5_costs_0 : decode cX5_costs 0 = .ok (.aload_n 0, 1) := by decide +kernel
theorem dX5_costs_1 : decode cX5_costs 1 = .ok (.getfield 19, 3) := by decide +kernel
theorem dX5_costs_4 : decode cX5_costs 4 = .ok (.invokevirtual 41, 3) := by decide +kernel
theorem dX5_costs_7 : decode cX5_costs 7 = .ok (.ireturn, 1) := by decide +kernel
theorem dX5_unpaidOf_0 : decode cX5_unpaidOf 0 = .ok (.aload_n 0, 1) := by decide +kernel
theorem dX5_unpaidOf_1 : decode cX5_unpaidOf 1 = .ok (.iload_n 1, 1) := by decide +kernel
theorem dX5_unpaidOf_2 : decode cX5_unpaidOf 2 = .ok (.invokevirtual 141, 3) := by decide +kernel
theorem dX5_unpaidOf_5 : decode cX5_unpaidOf 5 = .ok (.getfield 145, 3) := by decide +kernel
theorem dX5_unpaidOf_8 : decode cX5_unpaidOf 8 = .ok (.ireturn, 1) := by decide +kernel
theorem dX5_paidBy_0 : decode cX5_paidBy 0 = .ok (.aload_n 0, 1) := by decide +kernel
theorem dX5_paidBy_1 : decode cX5_paidBy 1 = .ok (.iload_n 1, 1) := by decide +kernel
theorem dX5_paidBy_2 : decode cX5_paidBy 2 = .ok (.invokevirtual 141, 3) := by decide +kernel
theorem dX5_paidBy_5 : decode cX5_paidBy 5 = .ok (.astore_n 3, 1) := by decide +kernel
theorem dX5_paidBy_6 : decode cX5_paidBy 6 = .ok (.aload_n 3, 1) := by decide +kernel
theorem dX5_paidBy_7 : decode cX5_paidBy 7 = .ok (.aload_n 0, 1) := by decide +kernel
theorem dX5_paidBy_8 : decode cX5_paidBy 8 = .ok (.iload_n 2, 1) := by decide +kernel
theorem dX5_paidBy_9 : decode cX5_paidBy 9 = .ok (.invokevirtual 58, 3) := by decide +kernel
theorem dX5_paidBy_12 : decode cX5_paidBy 12 = .ok (.invokevirtual 148, 3) := by decide +kernel
theorem dX5_paidBy_15 : decode cX5_paidBy 15 = .ok (.ireturn, 1) := by decide +kernel
theorem dX5_payable_0 : decode cX5_payable 0 = .ok (.aload_n 0, 1) := by decide +kernel
theorem dX5_payable_1 : decode cX5_payable 1 = .ok (.invokevirtual 90, 3) := by decide +kernel
theorem dX5_payable_4 : decode cX5_payable 4 = .ok (.aload_n 0, 1) := by decide +kernel
theorem dX5_payable_5 : decode cX5_payable 5 = .ok (.getfield 28, 3) := by decide +kernel
theorem dX5_payable_8 : decode cX5_payable 8 = .ok (.invokevirtual 93, 3) := by decide +kernel
theorem dX5_payable_11 : decode cX5_payable 11 = .ok (.aload_n 0, 1) := by decide +kernel
theorem dX5_payable_12 : decode cX5_payable 12 = .ok (.getfield 28, 3) := by decide +kernel
theorem dX5_payable_15 : decode cX5_payable 15 = .ok (.invokevirtual 102, 3) := by decide +kernel
theorem dX5_payable_18 : decode cX5_payable 18 = .ok (.ireturn, 1) := by decide +kernel
theorem dX5_wouldPay_0 : decode cX5_wouldPay 0 = .ok (.aload_n 0, 1) := by decide +kernel
theorem dX5_wouldPay_1 : decode cX5_wouldPay 1 = .ok (.iload_n 1, 1) := by decide +kernel
theorem dX5_wouldPay_2 : decode cX5_wouldPay 2 = .ok (.invokevirtual 141, 3) := by decide +kernel
theorem dX5_wouldPay_5 : decode cX5_wouldPay 5 = .ok (.astore_n 2, 1) := by decide +kernel
theorem dX5_wouldPay_6 : decode cX5_wouldPay 6 = .ok (.aload_n 0, 1) := by decide +kernel
theorem dX5_wouldPay_7 : decode cX5_wouldPay 7 = .ok (.invokevirtual 90, 3) := by decide +kernel
theorem dX5_wouldPay_10 : decode cX5_wouldPay 10 = .ok (.aload_n 0, 1) := by decide +kernel
theorem dX5_wouldPay_11 : decode cX5_wouldPay 11 = .ok (.getfield 28, 3) := by decide +kernel
theorem dX5_wouldPay_14 : decode cX5_wouldPay 14 = .ok (.invokevirtual 93, 3) := by decide +kernel
theorem dX5_wouldPay_17 : decode cX5_wouldPay 17 = .ok (.aload_n 2, 1) := by decide +kernel
theorem dX5_wouldPay_18 : decode cX5_wouldPay 18 = .ok (.getfield 145, 3) := by decide +kernel
theorem dX5_wouldPay_21 : decode cX5_wouldPay 21 = .ok (.aload_n 0, 1) := by decide +kernel
theorem dX5_wouldPay_22 : decode cX5_wouldPay 22 = .ok (.getfield 28, 3) := by decide +kernel
theorem dX5_wouldPay_25 : decode cX5_wouldPay 25 = .ok (.iload_n 1, 1) := by decide +kernel
theorem dX5_wouldPay_26 : decode cX5_wouldPay 26 = .ok (.invokevirtual 152, 3) := by decide +kernel
theorem dX5_wouldPay_29 : decode cX5_wouldPay 29 = .ok (.isub, 1) := by decide +kernel
theorem dX5_wouldPay_30 : decode cX5_wouldPay 30 = .ok (.ireturn, 1) := by decide +kernel
theorem dX5_wouldTake_0 : decode cX5_wouldTake 0 = .ok (.aload_n 0, 1) := by decide +kernel
theorem dX5_wouldTake_1 : decode cX5_wouldTake 1 = .ok (.iload_n 1, 1) := by decide +kernel
theorem dX5_wouldTake_2 : decode cX5_wouldTake 2 = .ok (.invokevirtual 58, 3) := by decide +kernel
theorem dX5_wouldTake_5 : decode cX5_wouldTake 5 = .ok (.astore_n 2, 1) := by decide +kernel
theorem dX5_wouldTake_6 : decode cX5_wouldTake 6 = .ok (.aload_n 0, 1) := by decide +kernel
theorem dX5_wouldTake_7 : decode cX5_wouldTake 7 = .ok (.invokevirtual 90, 3) := by decide +kernel
theorem dX5_wouldTake_10 : decode cX5_wouldTake 10 = .ok (.aload_n 0, 1) := by decide +kernel
theorem dX5_wouldTake_11 : decode cX5_wouldTake 11 = .ok (.getfield 28, 3) := by decide +kernel
theorem dX5_wouldTake_14 : decode cX5_wouldTake 14 = .ok (.invokevirtual 93, 3) := by decide +kernel
theorem dX5_wouldTake_17 : decode cX5_wouldTake 17 = .ok (.aload_n 0, 1) := by decide +kernel
theorem dX5_wouldTake_18 : decode cX5_wouldTake 18 = .ok (.getfield 28, 3) := by decide +kernel
theorem dX5_wouldTake_21 : decode cX5_wouldTake 21 = .ok (.invokevirtual 96, 3) := by decide +kernel
theorem dX5_wouldTake_24 : decode cX5_wouldTake 24 = .ok (.iconst 0, 1) := by decide +kernel
theorem dX5_wouldTake_25 : decode cX5_wouldTake 25 = .ok (.istore_n 3, 1) := by decide +kernel
theorem dX5_wouldTake_26 : decode cX5_wouldTake 26 = .ok (.iconst 0, 1) := by decide +kernel
theorem dX5_wouldTake_27 : decode cX5_wouldTake 27 = .ok (.istore 4, 2) := by decide +kernel
theorem dX5_wouldTake_29 : decode cX5_wouldTake 29 = .ok (.iload 4, 2) := by decide +kernel
theorem dX5_wouldTake_31 : decode cX5_wouldTake 31 = .ok (.aload_n 0, 1) := by decide +kernel
theorem dX5_wouldTake_32 : decode cX5_wouldTake 32 = .ok (.getfield 22, 3) := by decide +kernel
theorem dX5_wouldTake_35 : decode cX5_wouldTake 35 = .ok (.invokevirtual 41, 3) := by decide +kernel
theorem dX5_wouldTake_38 : decode cX5_wouldTake 38 = .ok (.if_icmp .ge 50, 3) := by decide +kernel
theorem dX5_wouldTake_41 : decode cX5_wouldTake 41 = .ok (.aload_n 0, 1) := by decide +kernel
theorem dX5_wouldTake_42 : decode cX5_wouldTake 42 = .ok (.getfield 22, 3) := by decide +kernel
theorem dX5_wouldTake_45 : decode cX5_wouldTake 45 = .ok (.iload 4, 2) := by decide +kernel
theorem dX5_wouldTake_47 : decode cX5_wouldTake 47 = .ok (.invokevirtual 118, 3) := by decide +kernel
theorem dX5_wouldTake_50 : decode cX5_wouldTake 50 = .ok (.checkcast 155, 3) := by decide +kernel
theorem dX5_wouldTake_53 : decode cX5_wouldTake 53 = .ok (.astore 5, 2) := by decide +kernel
theorem dX5_wouldTake_55 : decode cX5_wouldTake 55 = .ok (.aload 5, 2) := by decide +kernel
theorem dX5_wouldTake_57 : decode cX5_wouldTake 57 = .ok (.invokevirtual 157, 3) := by decide +kernel
theorem dX5_wouldTake_60 : decode cX5_wouldTake 60 = .ok (.aload_n 2, 1) := by decide +kernel
theorem dX5_wouldTake_61 : decode cX5_wouldTake 61 = .ok (.if_acmp .ne 21, 3) := by decide +kernel
theorem dX5_wouldTake_64 : decode cX5_wouldTake 64 = .ok (.iload_n 3, 1) := by decide +kernel
theorem dX5_wouldTake_65 : decode cX5_wouldTake 65 = .ok (.aload 5, 2) := by decide +kernel
theorem dX5_wouldTake_67 : decode cX5_wouldTake 67 = .ok (.getfield 158, 3) := by decide +kernel
theorem dX5_wouldTake_70 : decode cX5_wouldTake 70 = .ok (.aload_n 0, 1) := by decide +kernel
theorem dX5_wouldTake_71 : decode cX5_wouldTake 71 = .ok (.getfield 28, 3) := by decide +kernel
theorem dX5_wouldTake_74 : decode cX5_wouldTake 74 = .ok (.iload 4, 2) := by decide +kernel
theorem dX5_wouldTake_76 : decode cX5_wouldTake 76 = .ok (.invokevirtual 159, 3) := by decide +kernel
theorem dX5_wouldTake_79 : decode cX5_wouldTake 79 = .ok (.isub, 1) := by decide +kernel
theorem dX5_wouldTake_80 : decode cX5_wouldTake 80 = .ok (.iadd, 1) := by decide +kernel
theorem dX5_wouldTake_81 : decode cX5_wouldTake 81 = .ok (.istore_n 3, 1) := by decide +kernel
theorem dX5_wouldTake_82 : decode cX5_wouldTake 82 = .ok (.iinc 4 1, 3) := by decide +kernel
theorem dX5_wouldTake_85 : decode cX5_wouldTake 85 = .ok (.goto (-56), 3) := by decide +kernel
theorem dX5_wouldTake_88 : decode cX5_wouldTake 88 = .ok (.iload_n 3, 1) := by decide +kernel
theorem dX5_wouldTake_89 : decode cX5_wouldTake 89 = .ok (.ireturn, 1) := by decide +kernel
theorem dX5_reason_0 : decode cX5_reason 0 = .ok (.aload_n 0, 1) := by decide +kernel
theorem dX5_reason_1 : decode cX5_reason 1 = .ok (.iload_n 1, 1) := by decide +kernel
theorem dX5_reason_2 : decode cX5_reason 2 = .ok (.invokevirtual 141, 3) := by decide +kernel
theorem dX5_reason_5 : decode cX5_reason 5 = .ok (.astore_n 2, 1) := by decide +kernel
theorem dX5_reason_6 : decode cX5_reason 6 = .ok (.aload_n 2, 1) := by decide +kernel
theorem dX5_reason_7 : decode cX5_reason 7 = .ok (.getfield 145, 3) := by decide +kernel
theorem dX5_reason_10 : decode cX5_reason 10 = .ok (.ifCond .ne 5, 3) := by decide +kernel
theorem dX5_reason_13 : decode cX5_reason 13 = .ok (.iconst 0, 1) := by decide +kernel
theorem dX5_reason_14 : decode cX5_reason 14 = .ok (.ireturn, 1) := by decide +kernel
theorem dX5_reason_15 : decode cX5_reason 15 = .ok (.aload_n 0, 1) := by decide +kernel
theorem dX5_reason_16 : decode cX5_reason 16 = .ok (.aload_n 2, 1) := by decide +kernel
theorem dX5_reason_17 : decode cX5_reason 17 = .ok (.invokevirtual 162, 3) := by decide +kernel
theorem dX5_reason_20 : decode cX5_reason 20 = .ok (.ifCond .ne 5, 3) := by decide +kernel
theorem dX5_reason_23 : decode cX5_reason 23 = .ok (.iconst 1, 1) := by decide +kernel
theorem dX5_reason_24 : decode cX5_reason 24 = .ok (.ireturn, 1) := by decide +kernel
theorem dX5_reason_25 : decode cX5_reason 25 = .ok (.aload_n 0, 1) := by decide +kernel
theorem dX5_reason_26 : decode cX5_reason 26 = .ok (.aload_n 2, 1) := by decide +kernel
theorem dX5_reason_27 : decode cX5_reason 27 = .ok (.invokevirtual 166, 3) := by decide +kernel
theorem dX5_reason_30 : decode cX5_reason 30 = .ok (.ifCond .ne 5, 3) := by decide +kernel
theorem dX5_reason_33 : decode cX5_reason 33 = .ok (.iconst 2, 1) := by decide +kernel
theorem dX5_reason_34 : decode cX5_reason 34 = .ok (.ireturn, 1) := by decide +kernel
theorem dX5_reason_35 : decode cX5_reason 35 = .ok (.aload_n 0, 1) := by decide +kernel
theorem dX5_reason_36 : decode cX5_reason 36 = .ok (.aload_n 2, 1) := by decide +kernel
theorem dX5_reason_37 : decode cX5_reason 37 = .ok (.invokevirtual 169, 3) := by decide +kernel
theorem dX5_reason_40 : decode cX5_reason 40 = .ok (.ifCond .eq 5, 3) := by decide +kernel
theorem dX5_reason_43 : decode cX5_reason 43 = .ok (.iconst 3, 1) := by decide +kernel
theorem dX5_reason_44 : decode cX5_reason 44 = .ok (.ireturn, 1) := by decide +kernel
theorem dX5_reason_45 : decode cX5_reason 45 = .ok (.aload_n 0, 1) := by decide +kernel
theorem dX5_reason_46 : decode cX5_reason 46 = .ok (.aload_n 2, 1) := by decide +kernel
theorem dX5_reason_47 : decode cX5_reason 47 = .ok (.invokevirtual 172, 3) := by decide +kernel
theorem dX5_reason_50 : decode cX5_reason 50 = .ok (.ifCond .eq 7, 3) := by decide +kernel
theorem dX5_reason_53 : decode cX5_reason 53 = .ok (.iconst 4, 1) := by decide +kernel
theorem dX5_reason_54 : decode cX5_reason 54 = .ok (.goto 4, 3) := by decide +kernel
theorem dX5_reason_57 : decode cX5_reason 57 = .ok (.iconst 5, 1) := by decide +kernel
theorem dX5_reason_58 : decode cX5_reason 58 = .ok (.ireturn, 1) := by decide +kernel
theorem dX5_requireRange_0 : decode cX5_requireRange 0 = .ok (.iload_n 0, 1) := by decide +kernel
theorem dX5_requireRange_1 : decode cX5_requireRange 1 = .ok (.iload_n 1, 1) := by decide +kernel
theorem dX5_requireRange_2 : decode cX5_requireRange 2 = .ok (.if_icmp .lt 8, 3) := by decide +kernel
theorem dX5_requireRange_5 : decode cX5_requireRange 5 = .ok (.iload_n 0, 1) := by decide +kernel
theorem dX5_requireRange_6 : decode cX5_requireRange 6 = .ok (.iload_n 2, 1) := by decide +kernel
theorem dX5_requireRange_7 : decode cX5_requireRange 7 = .ok (.if_icmp .le 13, 3) := by decide +kernel
theorem dX5_requireRange_10 : decode cX5_requireRange 10 = .ok (.new 175, 3) := by decide +kernel
theorem dX5_requireRange_13 : decode cX5_requireRange 13 = .ok (.dup, 1) := by decide +kernel
theorem dX5_requireRange_14 : decode cX5_requireRange 14 = .ok (.ldc 177, 2) := by decide +kernel
theorem dX5_requireRange_16 : decode cX5_requireRange 16 = .ok (.invokespecial 179, 3) := by decide +kernel
theorem dX5_requireRange_19 : decode cX5_requireRange 19 = .ok (.athrow, 1) := by decide +kernel
theorem dX5_requireRange_20 : decode cX5_requireRange 20 = .ok (.return_, 1) := by decide +kernel
theorem dX5_requireState_0 : decode cX5_requireState 0 = .ok (.iload_n 0, 1) := by decide +kernel
theorem dX5_requireState_1 : decode cX5_requireState 1 = .ok (.ifCond .ne 13, 3) := by decide +kernel
theorem dX5_requireState_4 : decode cX5_requireState 4 = .ok (.new 182, 3) := by decide +kernel
theorem dX5_requireState_7 : decode cX5_requireState 7 = .ok (.dup, 1) := by decide +kernel
theorem dX5_requireState_8 : decode cX5_requireState 8 = .ok (.ldc 184, 2) := by decide +kernel
theorem dX5_requireState_10 : decode cX5_requireState 10 = .ok (.invokespecial 186, 3) := by decide +kernel
theorem dX5_requireState_13 : decode cX5_requireState 13 = .ok (.athrow, 1) := by decide +kernel
theorem dX5_requireState_14 : decode cX5_requireState 14 = .ok (.return_, 1) := by decide +kernel
theorem dX5_fundAt_0 : decode cX5_fundAt 0 = .ok (.iload_n 1, 1) := by decide +kernel
theorem dX5_fundAt_1 : decode cX5_fundAt 1 = .ok (.ifCond .lt 14, 3) := by decide +kernel
theorem dX5_fundAt_4 : decode cX5_fundAt 4 = .ok (.iload_n 1, 1) := by decide +kernel
theorem dX5_fundAt_5 : decode cX5_fundAt 5 = .ok (.aload_n 0, 1) := by decide +kernel
theorem dX5_fundAt_6 : decode cX5_fundAt 6 = .ok (.getfield 12, 3) := by decide +kernel
theorem dX5_fundAt_9 : decode cX5_fundAt 9 = .ok (.invokevirtual 41, 3) := by decide +kernel
theorem dX5_fundAt_12 : decode cX5_fundAt 12 = .ok (.if_icmp .lt 13, 3) := by decide +kernel
theorem dX5_fundAt_15 : decode cX5_fundAt 15 = .ok (.new 187, 3) := by decide +kernel
theorem dX5_fundAt_18 : decode cX5_fundAt 18 = .ok (.dup, 1) := by decide +kernel
theorem dX5_fundAt_19 : decode cX5_fundAt 19 = .ok (.ldc 189, 2) := by decide +kernel
theorem dX5_fundAt_21 : decode cX5_fundAt 21 = .ok (.invokespecial 191, 3) := by decide +kernel
theorem dX5_fundAt_24 : decode cX5_fundAt 24 = .ok (.athrow, 1) := by decide +kernel
theorem dX5_fundAt_25 : decode cX5_fundAt 25 = .ok (.aload_n 0, 1) := by decide +kernel
theorem dX5_fundAt_26 : decode cX5_fundAt 26 = .ok (.getfield 12, 3) := by decide +kernel
theorem dX5_fundAt_29 : decode cX5_fundAt 29 = .ok (.iload_n 1, 1) := by decide +kernel
theorem dX5_fundAt_30 : decode cX5_fundAt 30 = .ok (.invokevirtual 118, 3) := by decide +kernel
theorem dX5_fundAt_33 : decode cX5_fundAt 33 = .ok (.checkcast 49, 3) := by decide +kernel
theorem dX5_fundAt_36 : decode cX5_fundAt 36 = .ok (.areturn, 1) := by decide +kernel
theorem dX5_commitmentAt_0 : decode cX5_commitmentAt 0 = .ok (.iload_n 1, 1) := by decide +kernel
theorem dX5_commitmentAt_1 : decode cX5_commitmentAt 1 = .ok (.ifCond .lt 14, 3) := by decide +kernel
theorem dX5_commitmentAt_4 : decode cX5_commitmentAt 4 = .ok (.iload_n 1, 1) := by decide +kernel
theorem dX5_commitmentAt_5 : decode cX5_commitmentAt 5 = .ok (.aload_n 0, 1) := by decide +kernel
theorem dX5_commitmentAt_6 : decode cX5_commitmentAt 6 = .ok (.getfield 16, 3) := by decide +kernel
theorem dX5_commitmentAt_9 : decode cX5_commitmentAt 9 = .ok (.invokevirtual 41, 3) := by decide +kernel
theorem dX5_commitmentAt_12 : decode cX5_commitmentAt 12 = .ok (.if_icmp .lt 13, 3) := by decide +kernel
theorem dX5_commitmentAt_15 : decode cX5_commitmentAt 15 = .ok (.new 187, 3) := by decide +kernel
theorem dX5_commitmentAt_18 : decode cX5_commitmentAt 18 = .ok (.dup, 1) := by decide +kernel
theorem dX5_commitmentAt_19 : decode cX5_commitmentAt 19 = .ok (.ldc 192, 2) := by decide +kernel
theorem dX5_commitmentAt_21 : decode cX5_commitmentAt 21 = .ok (.invokespecial 191, 3) := by decide +kernel
theorem dX5_commitmentAt_24 : decode cX5_commitmentAt 24 = .ok (.athrow, 1) := by decide +kernel
theorem dX5_commitmentAt_25 : decode cX5_commitmentAt 25 = .ok (.aload_n 0, 1) := by decide +kernel
theorem dX5_commitmentAt_26 : decode cX5_commitmentAt 26 = .ok (.getfield 16, 3) := by decide +kernel
theorem dX5_commitmentAt_29 : decode cX5_commitmentAt 29 = .ok (.iload_n 1, 1) := by decide +kernel
theorem dX5_commitmentAt_30 : decode cX5_commitmentAt 30 = .ok (.invokevirtual 118, 3) := by decide +kernel
theorem dX5_commitmentAt_33 : decode cX5_commitmentAt 33 = .ok (.checkcast 69, 3) := by decide +kernel
theorem dX5_commitmentAt_36 : decode cX5_commitmentAt 36 = .ok (.areturn, 1) := by decide +kernel
theorem dX5_costAt_0 : decode cX5_costAt 0 = .ok (.iload_n 1, 1) := by decide +kernel
theorem dX5_costAt_1 : decode cX5_costAt 1 = .ok (.ifCond .lt 14, 3) := by decide +kernel
theorem dX5_costAt_4 : decode cX5_costAt 4 = .ok (.iload_n 1, 1) := by decide +kernel
theorem dX5_costAt_5 : decode cX5_costAt 5 = .ok (.aload_n 0, 1) := by decide +kernel
theorem dX5_costAt_6 : decode cX5_costAt 6 = .ok (.getfield 19, 3) := by decide +kernel
theorem dX5_costAt_9 : decode cX5_costAt 9 = .ok (.invokevirtual 41, 3) := by decide +kernel
theorem dX5_costAt_12 : decode cX5_costAt 12 = .ok (.if_icmp .lt 13, 3) := by decide +kernel
theorem dX5_costAt_15 : decode cX5_costAt 15 = .ok (.new 187, 3) := by decide +kernel
theorem dX5_costAt_18 : decode cX5_costAt 18 = .ok (.dup, 1) := by decide +kernel
theorem dX5_costAt_19 : decode cX5_costAt 19 = .ok (.ldc 194, 2) := by decide +kernel
theorem dX5_costAt_21 : decode cX5_costAt 21 = .ok (.invokespecial 191, 3) := by decide +kernel
theorem dX5_costAt_24 : decode cX5_costAt 24 = .ok (.athrow, 1) := by decide +kernel
theorem dX5_costAt_25 : decode cX5_costAt 25 = .ok (.aload_n 0, 1) := by decide +kernel
theorem dX5_costAt_26 : decode cX5_costAt 26 = .ok (.getfield 19, 3) := by decide +kernel
theorem dX5_costAt_29 : decode cX5_costAt 29 = .ok (.iload_n 1, 1) := by decide +kernel
theorem dX5_costAt_30 : decode cX5_costAt 30 = .ok (.invokevirtual 118, 3) := by decide +kernel
theorem dX5_costAt_33 : decode cX5_costAt 33 = .ok (.checkcast 86, 3) := by decide +kernel
theorem dX5_costAt_36 : decode cX5_costAt 36 = .ok (.areturn, 1) := by decide +kernel
theorem dX5_endCommitment_0 : decode cX5_endCommitment 0 = .ok (.iload_n 1, 1) := by decide +kernel
theorem dX5_endCommitment_1 : decode cX5_endCommitment 1 = .ok (.ifCond .lt 14, 3) := by decide +kernel
theorem dX5_endCommitment_4 : decode cX5_endCommitment 4 = .ok (.iload_n 1, 1) := by decide +kernel
theorem dX5_endCommitment_5 : decode cX5_endCommitment 5 = .ok (.aload_n 0, 1) := by decide +kernel
theorem dX5_endCommitment_6 : decode cX5_endCommitment 6 = .ok (.getfield 16, 3) := by decide +kernel
theorem dX5_endCommitment_9 : decode cX5_endCommitment 9 = .ok (.invokevirtual 41, 3) := by decide +kernel
theorem dX5_endCommitment_12 : decode cX5_endCommitment 12 = .ok (.if_icmp .lt 4, 3) := by decide +kernel
theorem dX5_endCommitment_15 : decode cX5_endCommitment 15 = .ok (.return_, 1) := by decide +kernel
theorem dX5_endCommitment_16 : decode cX5_endCommitment 16 = .ok (.aload_n 0, 1) := by decide +kernel
theorem dX5_endCommitment_17 : decode cX5_endCommitment 17 = .ok (.getfield 16, 3) := by decide +kernel
theorem dX5_endCommitment_20 : decode cX5_endCommitment 20 = .ok (.iload_n 1, 1) := by decide +kernel
theorem dX5_endCommitment_21 : decode cX5_endCommitment 21 = .ok (.invokevirtual 118, 3) := by decide +kernel
theorem dX5_endCommitment_24 : decode cX5_endCommitment 24 = .ok (.checkcast 69, 3) := by decide +kernel
theorem dX5_endCommitment_27 : decode cX5_endCommitment 27 = .ok (.astore_n 2, 1) := by decide +kernel
theorem dX5_endCommitment_28 : decode cX5_endCommitment 28 = .ok (.aload_n 2, 1) := by decide +kernel
theorem dX5_endCommitment_29 : decode cX5_endCommitment 29 = .ok (.invokevirtual 122, 3) := by decide +kernel
theorem dX5_endCommitment_32 : decode cX5_endCommitment 32 = .ok (.dup, 1) := by decide +kernel
theorem dX5_endCommitment_33 : decode cX5_endCommitment 33 = .ok (.getfield 62, 3) := by decide +kernel
theorem dX5_endCommitment_36 : decode cX5_endCommitment 36 = .ok (.aload_n 2, 1) := by decide +kernel
theorem dX5_endCommitment_37 : decode cX5_endCommitment 37 = .ok (.getfield 78, 3) := by decide +kernel
theorem dX5_endCommitment_40 : decode cX5_endCommitment 40 = .ok (.iadd, 1) := by decide +kernel
theorem dX5_endCommitment_41 : decode cX5_endCommitment 41 = .ok (.putfield 62, 3) := by decide +kernel
theorem dX5_endCommitment_44 : decode cX5_endCommitment 44 = .ok (.aload_n 0, 1) := by decide +kernel
theorem dX5_endCommitment_45 : decode cX5_endCommitment 45 = .ok (.getfield 16, 3) := by decide +kernel
theorem dX5_endCommitment_48 : decode cX5_endCommitment 48 = .ok (.iload_n 1, 1) := by decide +kernel
theorem dX5_endCommitment_49 : decode cX5_endCommitment 49 = .ok (.invokevirtual 196, 3) := by decide +kernel
theorem dX5_endCommitment_52 : decode cX5_endCommitment 52 = .ok (.pop, 1) := by decide +kernel
theorem dX5_endCommitment_53 : decode cX5_endCommitment 53 = .ok (.return_, 1) := by decide +kernel
theorem dX5_lapseCommitments_0 : decode cX5_lapseCommitments 0 = .ok (.iconst 0, 1) := by decide +kernel
theorem dX5_lapseCommitments_1 : decode cX5_lapseCommitments 1 = .ok (.istore_n 1, 1) := by decide +kernel
theorem dX5_lapseCommitments_2 : decode cX5_lapseCommitments 2 = .ok (.aload_n 0, 1) := by decide +kernel
theorem dX5_lapseCommitments_3 : decode cX5_lapseCommitments 3 = .ok (.getfield 16, 3) := by decide +kernel
theorem dX5_lapseCommitments_6 : decode cX5_lapseCommitments 6 = .ok (.invokevirtual 41, 3) := by decide +kernel
theorem dX5_lapseCommitments_9 : decode cX5_lapseCommitments 9 = .ok (.iconst 1, 1) := by decide +kernel
theorem dX5_lapseCommitments_10 : decode cX5_lapseCommitments 10 = .ok (.isub, 1) := by decide +kernel
theorem dX5_lapseCommitments_11 : decode cX5_lapseCommitments 11 = .ok (.istore_n 2, 1) := by decide +kernel
theorem dX5_lapseCommitments_12 : decode cX5_lapseCommitments 12 = .ok (.iload_n 2, 1) := by decide +kernel
theorem dX5_lapseCommitments_13 : decode cX5_lapseCommitments 13 = .ok (.ifCond .lt 38, 3) := by decide +kernel
theorem dX5_lapseCommitments_16 : decode cX5_lapseCommitments 16 = .ok (.aload_n 0, 1) := by decide +kernel
theorem dX5_lapseCommitments_17 : decode cX5_lapseCommitments 17 = .ok (.getfield 16, 3) := by decide +kernel
theorem dX5_lapseCommitments_20 : decode cX5_lapseCommitments 20 = .ok (.iload_n 2, 1) := by decide +kernel
theorem dX5_lapseCommitments_21 : decode cX5_lapseCommitments 21 = .ok (.invokevirtual 118, 3) := by decide +kernel
theorem dX5_lapseCommitments_24 : decode cX5_lapseCommitments 24 = .ok (.checkcast 69, 3) := by decide +kernel
theorem dX5_lapseCommitments_27 : decode cX5_lapseCommitments 27 = .ok (.invokevirtual 138, 3) := by decide +kernel
theorem dX5_lapseCommitments_30 : decode cX5_lapseCommitments 30 = .ok (.aload_n 0, 1) := by decide +kernel
theorem dX5_lapseCommitments_31 : decode cX5_lapseCommitments 31 = .ok (.getfield 32, 3) := by decide +kernel
theorem dX5_lapseCommitments_34 : decode cX5_lapseCommitments 34 = .ok (.if_icmp .ge 11, 3) := by decide +kernel
theorem dX5_lapseCommitments_37 : decode cX5_lapseCommitments 37 = .ok (.aload_n 0, 1) := by decide +kernel
theorem dX5_lapseCommitments_38 : decode cX5_lapseCommitments 38 = .ok (.iload_n 2, 1) := by decide +kernel
theorem dX5_lapseCommitments_39 : decode cX5_lapseCommitments 39 = .ok (.invokevirtual 79, 3) := by decide +kernel
theorem dX5_lapseCommitments_42 : decode cX5_lapseCommitments 42 = .ok (.iinc 1 1, 3) := by decide +kernel
theorem dX5_lapseCommitments_45 : decode cX5_lapseCommitments 45 = .ok (.iinc 2 (-1), 3) := by decide +kernel
theorem dX5_lapseCommitments_48 : decode cX5_lapseCommitments 48 = .ok (.goto (-36), 3) := by decide +kernel
theorem dX5_lapseCommitments_51 : decode cX5_lapseCommitments 51 = .ok (.iload_n 1, 1) := by decide +kernel
theorem dX5_lapseCommitments_52 : decode cX5_lapseCommitments 52 = .ok (.ireturn, 1) := by decide +kernel
theorem dX5_endEmptyCommitments_0 : decode cX5_endEmptyCommitments 0 = .ok (.aload_n 0, 1) := by decide +kernel
theorem dX5_endEmptyCommitments_1 : decode cX5_endEmptyCommitments 1 = .ok (.getfield 16, 3) := by decide +kernel
theorem dX5_endEmptyCommitments_4 : decode cX5_endEmptyCommitments 4 = .ok (.invokevirtual 41, 3) := by decide +kernel
theorem dX5_endEmptyCommitments_7 : decode cX5_endEmptyCommitments 7 = .ok (.iconst 1, 1) := by decide +kernel
theorem dX5_endEmptyCommitments_8 : decode cX5_endEmptyCommitments 8 = .ok (.isub, 1) := by decide +kernel
theorem dX5_endEmptyCommitments_9 : decode cX5_endEmptyCommitments 9 = .ok (.istore_n 1, 1) := by decide +kernel
theorem dX5_endEmptyCommitments_10 : decode cX5_endEmptyCommitments 10 = .ok (.iload_n 1, 1) := by decide +kernel
theorem dX5_endEmptyCommitments_11 : decode cX5_endEmptyCommitments 11 = .ok (.ifCond .lt 31, 3) := by decide +kernel
theorem dX5_endEmptyCommitments_14 : decode cX5_endEmptyCommitments 14 = .ok (.aload_n 0, 1) := by decide +kernel
theorem dX5_endEmptyCommitments_15 : decode cX5_endEmptyCommitments 15 = .ok (.getfield 16, 3) := by decide +kernel
theorem dX5_endEmptyCommitments_18 : decode cX5_endEmptyCommitments 18 = .ok (.iload_n 1, 1) := by decide +kernel
theorem dX5_endEmptyCommitments_19 : decode cX5_endEmptyCommitments 19 = .ok (.invokevirtual 118, 3) := by decide +kernel
theorem dX5_endEmptyCommitments_22 : decode cX5_endEmptyCommitments 22 = .ok (.checkcast 69, 3) := by decide +kernel
theorem dX5_endEmptyCommitments_25 : decode cX5_endEmptyCommitments 25 = .ok (.getfield 78, 3) := by decide +kernel
theorem dX5_endEmptyCommitments_28 : decode cX5_endEmptyCommitments 28 = .ok (.ifCond .ne 8, 3) := by decide +kernel
theorem dX5_endEmptyCommitments_31 : decode cX5_endEmptyCommitments 31 = .ok (.aload_n 0, 1) := by decide +kernel
theorem dX5_endEmptyCommitments_32 : decode cX5_endEmptyCommitments 32 = .ok (.iload_n 1, 1) := by decide +kernel
theorem dX5_endEmptyCommitments_33 : decode cX5_endEmptyCommitments 33 = .ok (.invokevirtual 79, 3) := by decide +kernel
theorem dX5_endEmptyCommitments_36 : decode cX5_endEmptyCommitments 36 = .ok (.iinc 1 (-1), 3) := by decide +kernel
theorem dX5_endEmptyCommitments_39 : decode cX5_endEmptyCommitments 39 = .ok (.goto (-29), 3) := by decide +kernel
theorem dX5_endEmptyCommitments_42 : decode cX5_endEmptyCommitments 42 = .ok (.return_, 1) := by decide +kernel
theorem dX5_preparePlan_0 : decode cX5_preparePlan 0 = .ok (.aload_n 0, 1) := by decide +kernel
theorem dX5_preparePlan_1 : decode cX5_preparePlan 1 = .ok (.invokevirtual 199, 3) := by decide +kernel
theorem dX5_preparePlan_4 : decode cX5_preparePlan 4 = .ok (.aload_n 0, 1) := by decide +kernel
theorem dX5_preparePlan_5 : decode cX5_preparePlan 5 = .ok (.getfield 28, 3) := by decide +kernel
theorem dX5_preparePlan_8 : decode cX5_preparePlan 8 = .ok (.aload_n 0, 1) := by decide +kernel
theorem dX5_preparePlan_9 : decode cX5_preparePlan 9 = .ok (.getfield 22, 3) := by decide +kernel
theorem dX5_preparePlan_12 : decode cX5_preparePlan 12 = .ok (.invokevirtual 41, 3) := by decide +kernel
theorem dX5_preparePlan_15 : decode cX5_preparePlan 15 = .ok (.aload_n 0, 1) := by decide +kernel
theorem dX5_preparePlan_16 : decode cX5_preparePlan 16 = .ok (.getfield 19, 3) := by decide +kernel
theorem dX5_preparePlan_19 : decode cX5_preparePlan 19 = .ok (.invokevirtual 41, 3) := by decide +kernel
theorem dX5_preparePlan_22 : decode cX5_preparePlan 22 = .ok (.invokevirtual 202, 3) := by decide +kernel
theorem dX5_preparePlan_25 : decode cX5_preparePlan 25 = .ok (.iconst 0, 1) := by decide +kernel
theorem dX5_preparePlan_26 : decode cX5_preparePlan 26 = .ok (.istore_n 1, 1) := by decide +kernel
theorem dX5_preparePlan_27 : decode cX5_preparePlan 27 = .ok (.iload_n 1, 1) := by decide +kernel
theorem dX5_preparePlan_28 : decode cX5_preparePlan 28 = .ok (.aload_n 0, 1) := by decide +kernel
theorem dX5_preparePlan_29 : decode cX5_preparePlan 29 = .ok (.getfield 19, 3) := by decide +kernel
theorem dX5_preparePlan_32 : decode cX5_preparePlan 32 = .ok (.invokevirtual 41, 3) := by decide +kernel
theorem dX5_preparePlan_35 : decode cX5_preparePlan 35 = .ok (.if_icmp .ge 31, 3) := by decide +kernel
theorem dX5_preparePlan_38 : decode cX5_preparePlan 38 = .ok (.aload_n 0, 1) := by decide +kernel
theorem dX5_preparePlan_39 : decode cX5_preparePlan 39 = .ok (.getfield 28, 3) := by decide +kernel
theorem dX5_preparePlan_42 : decode cX5_preparePlan 42 = .ok (.iload_n 1, 1) := by decide +kernel
theorem dX5_preparePlan_43 : decode cX5_preparePlan 43 = .ok (.aload_n 0, 1) := by decide +kernel
theorem dX5_preparePlan_44 : decode cX5_preparePlan 44 = .ok (.getfield 19, 3) := by decide +kernel
theorem dX5_preparePlan_47 : decode cX5_preparePlan 47 = .ok (.iload_n 1, 1) := by decide +kernel
theorem dX5_preparePlan_48 : decode cX5_preparePlan 48 = .ok (.invokevirtual 118, 3) := by decide +kernel
theorem dX5_preparePlan_51 : decode cX5_preparePlan 51 = .ok (.checkcast 86, 3) := by decide +kernel
theorem dX5_preparePlan_54 : decode cX5_preparePlan 54 = .ok (.getfield 145, 3) := by decide +kernel
theorem dX5_preparePlan_57 : decode cX5_preparePlan 57 = .ok (.invokevirtual 206, 3) := by decide +kernel
theorem dX5_preparePlan_60 : decode cX5_preparePlan 60 = .ok (.iinc 1 1, 3) := by decide +kernel
theorem dX5_preparePlan_63 : decode cX5_preparePlan 63 = .ok (.goto (-36), 3) := by decide +kernel
theorem dX5_preparePlan_66 : decode cX5_preparePlan 66 = .ok (.iconst 0, 1) := by decide +kernel
theorem dX5_preparePlan_67 : decode cX5_preparePlan 67 = .ok (.istore_n 1, 1) := by decide +kernel
theorem dX5_preparePlan_68 : decode cX5_preparePlan 68 = .ok (.iload_n 1, 1) := by decide +kernel
theorem dX5_preparePlan_69 : decode cX5_preparePlan 69 = .ok (.aload_n 0, 1) := by decide +kernel
theorem dX5_preparePlan_70 : decode cX5_preparePlan 70 = .ok (.getfield 22, 3) := by decide +kernel
theorem dX5_preparePlan_73 : decode cX5_preparePlan 73 = .ok (.invokevirtual 41, 3) := by decide +kernel
theorem dX5_preparePlan_76 : decode cX5_preparePlan 76 = .ok (.if_icmp .ge 38, 3) := by decide +kernel
theorem dX5_preparePlan_79 : decode cX5_preparePlan 79 = .ok (.aload_n 0, 1) := by decide +kernel
theorem dX5_preparePlan_80 : decode cX5_preparePlan 80 = .ok (.getfield 22, 3) := by decide +kernel
theorem dX5_preparePlan_83 : decode cX5_preparePlan 83 = .ok (.iload_n 1, 1) := by decide +kernel
theorem dX5_preparePlan_84 : decode cX5_preparePlan 84 = .ok (.invokevirtual 118, 3) := by decide +kernel
theorem dX5_preparePlan_87 : decode cX5_preparePlan 87 = .ok (.checkcast 155, 3) := by decide +kernel
theorem dX5_preparePlan_90 : decode cX5_preparePlan 90 = .ok (.astore_n 2, 1) := by decide +kernel
theorem dX5_preparePlan_91 : decode cX5_preparePlan 91 = .ok (.aload_n 0, 1) := by decide +kernel
theorem dX5_preparePlan_92 : decode cX5_preparePlan 92 = .ok (.getfield 28, 3) := by decide +kernel
theorem dX5_preparePlan_95 : decode cX5_preparePlan 95 = .ok (.iload_n 1, 1) := by decide +kernel
theorem dX5_preparePlan_96 : decode cX5_preparePlan 96 = .ok (.aload_n 2, 1) := by decide +kernel
theorem dX5_preparePlan_97 : decode cX5_preparePlan 97 = .ok (.getfield 158, 3) := by decide +kernel
theorem dX5_preparePlan_100 : decode cX5_preparePlan 100 = .ok (.aload_n 0, 1) := by decide +kernel
theorem dX5_preparePlan_101 : decode cX5_preparePlan 101 = .ok (.aload_n 2, 1) := by decide +kernel
theorem dX5_preparePlan_102 : decode cX5_preparePlan 102 = .ok (.invokevirtual 209, 3) := by decide +kernel
theorem dX5_preparePlan_105 : decode cX5_preparePlan 105 = .ok (.invokevirtual 213, 3) := by decide +kernel
theorem dX5_preparePlan_108 : decode cX5_preparePlan 108 = .ok (.iinc 1 1, 3) := by decide +kernel
theorem dX5_preparePlan_111 : decode cX5_preparePlan 111 = .ok (.goto (-43), 3) := by decide +kernel
theorem dX5_preparePlan_114 : decode cX5_preparePlan 114 = .ok (.return_, 1) := by decide +kernel
theorem dX5_lineUpPots_0 : decode cX5_lineUpPots 0 = .ok (.aload_n 0, 1) := by decide +kernel
theorem dX5_lineUpPots_1 : decode cX5_lineUpPots 1 = .ok (.getfield 22, 3) := by decide +kernel
theorem dX5_lineUpPots_4 : decode cX5_lineUpPots 4 = .ok (.invokevirtual 216, 3) := by decide +kernel
theorem dX5_lineUpPots_7 : decode cX5_lineUpPots 7 = .ok (.iconst 0, 1) := by decide +kernel
theorem dX5_lineUpPots_8 : decode cX5_lineUpPots 8 = .ok (.istore_n 1, 1) := by decide +kernel
theorem dX5_lineUpPots_9 : decode cX5_lineUpPots 9 = .ok (.iload_n 1, 1) := by decide +kernel
theorem dX5_lineUpPots_10 : decode cX5_lineUpPots 10 = .ok (.aload_n 0, 1) := by decide +kernel
theorem dX5_lineUpPots_11 : decode cX5_lineUpPots 11 = .ok (.getfield 16, 3) := by decide +kernel
theorem dX5_lineUpPots_14 : decode cX5_lineUpPots 14 = .ok (.invokevirtual 41, 3) := by decide +kernel
theorem dX5_lineUpPots_17 : decode cX5_lineUpPots 17 = .ok (.if_icmp .ge 24, 3) := by decide +kernel
theorem dX5_lineUpPots_20 : decode cX5_lineUpPots 20 = .ok (.aload_n 0, 1) := by decide +kernel
theorem dX5_lineUpPots_21 : decode cX5_lineUpPots 21 = .ok (.aload_n 0, 1) := by decide +kernel
theorem dX5_lineUpPots_22 : decode cX5_lineUpPots 22 = .ok (.getfield 16, 3) := by decide +kernel
theorem dX5_lineUpPots_25 : decode cX5_lineUpPots 25 = .ok (.iload_n 1, 1) := by decide +kernel
theorem dX5_lineUpPots_26 : decode cX5_lineUpPots 26 = .ok (.invokevirtual 118, 3) := by decide +kernel
theorem dX5_lineUpPots_29 : decode cX5_lineUpPots 29 = .ok (.checkcast 155, 3) := by decide +kernel
theorem dX5_lineUpPots_32 : decode cX5_lineUpPots 32 = .ok (.invokevirtual 219, 3) := by decide +kernel
theorem dX5_lineUpPots_35 : decode cX5_lineUpPots 35 = .ok (.iinc 1 1, 3) := by decide +kernel
theorem dX5_lineUpPots_38 : decode cX5_lineUpPots 38 = .ok (.goto (-29), 3) := by decide +kernel
theorem dX5_lineUpPots_41 : decode cX5_lineUpPots 41 = .ok (.iconst 0, 1) := by decide +kernel
theorem dX5_lineUpPots_42 : decode cX5_lineUpPots 42 = .ok (.istore_n 1, 1) := by decide +kernel
theorem dX5_lineUpPots_43 : decode cX5_lineUpPots 43 = .ok (.iload_n 1, 1) := by decide +kernel
theorem dX5_lineUpPots_44 : decode cX5_lineUpPots 44 = .ok (.aload_n 0, 1) := by decide +kernel
theorem dX5_lineUpPots_45 : decode cX5_lineUpPots 45 = .ok (.getfield 12, 3) := by decide +kernel
theorem dX5_lineUpPots_48 : decode cX5_lineUpPots 48 = .ok (.invokevirtual 41, 3) := by decide +kernel
theorem dX5_lineUpPots_51 : decode cX5_lineUpPots 51 = .ok (.if_icmp .ge 24, 3) := by decide +kernel
theorem dX5_lineUpPots_54 : decode cX5_lineUpPots 54 = .ok (.aload_n 0, 1) := by decide +kernel
theorem dX5_lineUpPots_55 : decode cX5_lineUpPots 55 = .ok (.aload_n 0, 1) := by decide +kernel
theorem dX5_lineUpPots_56 : decode cX5_lineUpPots 56 = .ok (.getfield 12, 3) := by decide +kernel
theorem dX5_lineUpPots_59 : decode cX5_lineUpPots 59 = .ok (.iload_n 1, 1) := by decide +kernel
theorem dX5_lineUpPots_60 : decode cX5_lineUpPots 60 = .ok (.invokevirtual 118, 3) := by decide +kernel
theorem dX5_lineUpPots_63 : decode cX5_lineUpPots 63 = .ok (.checkcast 155, 3) := by decide +kernel
theorem dX5_lineUpPots_66 : decode cX5_lineUpPots 66 = .ok (.invokevirtual 219, 3) := by decide +kernel
theorem dX5_lineUpPots_69 : decode cX5_lineUpPots 69 = .ok (.iinc 1 1, 3) := by decide +kernel
theorem dX5_lineUpPots_72 : decode cX5_lineUpPots 72 = .ok (.goto (-29), 3) := by decide +kernel
theorem dX5_lineUpPots_75 : decode cX5_lineUpPots 75 = .ok (.return_, 1) := by decide +kernel
theorem dX5_lineUp_0 : decode cX5_lineUp 0 = .ok (.iconst 0, 1) := by decide +kernel
theorem dX5_lineUp_1 : decode cX5_lineUp 1 = .ok (.istore_n 2, 1) := by decide +kernel
theorem dX5_lineUp_2 : decode cX5_lineUp 2 = .ok (.iload_n 2, 1) := by decide +kernel
theorem dX5_lineUp_3 : decode cX5_lineUp 3 = .ok (.aload_n 0, 1) := by decide +kernel
theorem dX5_lineUp_4 : decode cX5_lineUp 4 = .ok (.getfield 22, 3) := by decide +kernel
theorem dX5_lineUp_7 : decode cX5_lineUp 7 = .ok (.invokevirtual 41, 3) := by decide +kernel
theorem dX5_lineUp_10 : decode cX5_lineUp 10 = .ok (.if_icmp .ge 30, 3) := by decide +kernel
theorem dX5_lineUp_13 : decode cX5_lineUp 13 = .ok (.aload_n 0, 1) := by decide +kernel
theorem dX5_lineUp_14 : decode cX5_lineUp 14 = .ok (.getfield 22, 3) := by decide +kernel
theorem dX5_lineUp_17 : decode cX5_lineUp 17 = .ok (.iload_n 2, 1) := by decide +kernel
theorem dX5_lineUp_18 : decode cX5_lineUp 18 = .ok (.invokevirtual 118, 3) := by decide +kernel
theorem dX5_lineUp_21 : decode cX5_lineUp 21 = .ok (.checkcast 155, 3) := by decide +kernel
theorem dX5_lineUp_24 : decode cX5_lineUp 24 = .ok (.invokevirtual 223, 3) := by decide +kernel
theorem dX5_lineUp_27 : decode cX5_lineUp 27 = .ok (.aload_n 1, 1) := by decide +kernel
theorem dX5_lineUp_28 : decode cX5_lineUp 28 = .ok (.invokevirtual 223, 3) := by decide +kernel
theorem dX5_lineUp_31 : decode cX5_lineUp 31 = .ok (.if_icmp .gt 9, 3) := by decide +kernel
theorem dX5_lineUp_34 : decode cX5_lineUp 34 = .ok (.iinc 2 1, 3) := by decide +kernel
theorem dX5_lineUp_37 : decode cX5_lineUp 37 = .ok (.goto (-35), 3) := by decide +kernel
theorem dX5_lineUp_40 : decode cX5_lineUp 40 = .ok (.aload_n 0, 1) := by decide +kernel
theorem dX5_lineUp_41 : decode cX5_lineUp 41 = .ok (.getfield 22, 3) := by decide +kernel
theorem dX5_lineUp_44 : decode cX5_lineUp 44 = .ok (.iload_n 2, 1) := by decide +kernel
theorem dX5_lineUp_45 : decode cX5_lineUp 45 = .ok (.aload_n 1, 1) := by decide +kernel
theorem dX5_lineUp_46 : decode cX5_lineUp 46 = .ok (.invokevirtual 224, 3) := by decide +kernel
theorem dX5_lineUp_49 : decode cX5_lineUp 49 = .ok (.return_, 1) := by decide +kernel
theorem dX5_costsThatMayBePaidBy_0 : decode cX5_costsThatMayBePaidBy 0 = .ok (.iconst 0, 1) := by decide +kernel
theorem dX5_costsThatMayBePaidBy_1 : decode cX5_costsThatMayBePaidBy 1 = .ok (.istore_n 2, 1) := by decide +kernel
theorem dX5_costsThatMayBePaidBy_2 : decode cX5_costsThatMayBePaidBy 2 = .ok (.iconst 0, 1) := by decide +kernel
theorem dX5_costsThatMayBePaidBy_3 : decode cX5_costsThatMayBePaidBy 3 = .ok (.istore_n 3, 1) := by decide +kernel
theorem dX5_costsThatMayBePaidBy_4 : decode cX5_costsThatMayBePaidBy 4 = .ok (.iload_n 3, 1) := by decide +kernel
theorem dX5_costsThatMayBePaidBy_5 : decode cX5_costsThatMayBePaidBy 5 = .ok (.aload_n 0, 1) := by decide +kernel
theorem dX5_costsThatMayBePaidBy_6 : decode cX5_costsThatMayBePaidBy 6 = .ok (.getfield 19, 3) := by decide +kernel
theorem dX5_costsThatMayBePaidBy_9 : decode cX5_costsThatMayBePaidBy 9 = .ok (.invokevirtual 41, 3) := by decide +kernel
theorem dX5_costsThatMayBePaidBy_12 : decode cX5_costsThatMayBePaidBy 12 = .ok (.if_icmp .ge 33, 3) := by decide +kernel
theorem dX5_costsThatMayBePaidBy_15 : decode cX5_costsThatMayBePaidBy 15 = .ok (.aload_n 1, 1) := by decide +kernel
theorem dX5_costsThatMayBePaidBy_16 : decode cX5_costsThatMayBePaidBy 16 = .ok (.aload_n 0, 1) := by decide +kernel
theorem dX5_costsThatMayBePaidBy_17 : decode cX5_costsThatMayBePaidBy 17 = .ok (.getfield 19, 3) := by decide +kernel
theorem dX5_costsThatMayBePaidBy_20 : decode cX5_costsThatMayBePaidBy 20 = .ok (.iload_n 3, 1) := by decide +kernel
theorem dX5_costsThatMayBePaidBy_21 : decode cX5_costsThatMayBePaidBy 21 = .ok (.invokevirtual 118, 3) := by decide +kernel
theorem dX5_costsThatMayBePaidBy_24 : decode cX5_costsThatMayBePaidBy 24 = .ok (.checkcast 86, 3) := by decide +kernel
theorem dX5_costsThatMayBePaidBy_27 : decode cX5_costsThatMayBePaidBy 27 = .ok (.invokevirtual 227, 3) := by decide +kernel
theorem dX5_costsThatMayBePaidBy_30 : decode cX5_costsThatMayBePaidBy 30 = .ok (.ifCond .eq 9, 3) := by decide +kernel
theorem dX5_costsThatMayBePaidBy_33 : decode cX5_costsThatMayBePaidBy 33 = .ok (.iload_n 2, 1) := by decide +kernel
theorem dX5_costsThatMayBePaidBy_34 : decode cX5_costsThatMayBePaidBy 34 = .ok (.iconst 1, 1) := by decide +kernel
theorem dX5_costsThatMayBePaidBy_35 : decode cX5_costsThatMayBePaidBy 35 = .ok (.iload_n 3, 1) := by decide +kernel
theorem dX5_costsThatMayBePaidBy_36 : decode cX5_costsThatMayBePaidBy 36 = .ok (.ishl, 1) := by decide +kernel
theorem dX5_costsThatMayBePaidBy_37 : decode cX5_costsThatMayBePaidBy 37 = .ok (.ior, 1) := by decide +kernel
theorem dX5_costsThatMayBePaidBy_38 : decode cX5_costsThatMayBePaidBy 38 = .ok (.istore_n 2, 1) := by decide +kernel
theorem dX5_costsThatMayBePaidBy_39 : decode cX5_costsThatMayBePaidBy 39 = .ok (.iinc 3 1, 3) := by decide +kernel
theorem dX5_costsThatMayBePaidBy_42 : decode cX5_costsThatMayBePaidBy 42 = .ok (.goto (-38), 3) := by decide +kernel
theorem dX5_costsThatMayBePaidBy_45 : decode cX5_costsThatMayBePaidBy 45 = .ok (.iload_n 2, 1) := by decide +kernel
theorem dX5_costsThatMayBePaidBy_46 : decode cX5_costsThatMayBePaidBy 46 = .ok (.ireturn, 1) := by decide +kernel
theorem dX5_bookPlan_0 : decode cX5_bookPlan 0 = .ok (.iconst 0, 1) := by decide +kernel
theorem dX5_bookPlan_1 : decode cX5_bookPlan 1 = .ok (.istore_n 1, 1) := by decide +kernel
theorem dX5_bookPlan_2 : decode cX5_bookPlan 2 = .ok (.iload_n 1, 1) := by decide +kernel
theorem dX5_bookPlan_3 : decode cX5_bookPlan 3 = .ok (.aload_n 0, 1) := by decide +kernel
theorem dX5_bookPlan_4 : decode cX5_bookPlan 4 = .ok (.getfield 22, 3) := by decide +kernel
theorem dX5_bookPlan_7 : decode cX5_bookPlan 7 = .ok (.invokevirtual 41, 3) := by decide +kernel
theorem dX5_bookPlan_10 : decode cX5_bookPlan 10 = .ok (.if_icmp .ge 62, 3) := by decide +kernel
theorem dX5_bookPlan_13 : decode cX5_bookPlan 13 = .ok (.iconst 0, 1) := by decide +kernel
theorem dX5_bookPlan_14 : decode cX5_bookPlan 14 = .ok (.istore_n 2, 1) := by decide +kernel
theorem dX5_bookPlan_15 : decode cX5_bookPlan 15 = .ok (.iload_n 2, 1) := by decide +kernel
theorem dX5_bookPlan_16 : decode cX5_bookPlan 16 = .ok (.aload_n 0, 1) := by decide +kernel
theorem dX5_bookPlan_17 : decode cX5_bookPlan 17 = .ok (.getfield 19, 3) := by decide +kernel
theorem dX5_bookPlan_20 : decode cX5_bookPlan 20 = .ok (.invokevirtual 41, 3) := by decide +kernel
theorem dX5_bookPlan_23 : decode cX5_bookPlan 23 = .ok (.if_icmp .ge 43, 3) := by decide +kernel
theorem dX5_bookPlan_26 : decode cX5_bookPlan 26 = .ok (.aload_n 0, 1) := by decide +kernel
theorem dX5_bookPlan_27 : decode cX5_bookPlan 27 = .ok (.getfield 22, 3) := by decide +kernel
theorem dX5_bookPlan_30 : decode cX5_bookPlan 30 = .ok (.iload_n 1, 1) := by decide +kernel
theorem dX5_bookPlan_31 : decode cX5_bookPlan 31 = .ok (.invokevirtual 118, 3) := by decide +kernel
theorem dX5_bookPlan_34 : decode cX5_bookPlan 34 = .ok (.checkcast 155, 3) := by decide +kernel
theorem dX5_bookPlan_37 : decode cX5_bookPlan 37 = .ok (.aload_n 0, 1) := by decide +kernel
theorem dX5_bookPlan_38 : decode cX5_bookPlan 38 = .ok (.getfield 19, 3) := by decide +kernel
theorem dX5_bookPlan_41 : decode cX5_bookPlan 41 = .ok (.iload_n 2, 1) := by decide +kernel
theorem dX5_bookPlan_42 : decode cX5_bookPlan 42 = .ok (.invokevirtual 118, 3) := by decide +kernel
theorem dX5_bookPlan_45 : decode cX5_bookPlan 45 = .ok (.checkcast 86, 3) := by decide +kernel
theorem dX5_bookPlan_48 : decode cX5_bookPlan 48 = .ok (.aload_n 0, 1) := by decide +kernel
theorem dX5_bookPlan_49 : decode cX5_bookPlan 49 = .ok (.getfield 28, 3) := by decide +kernel
theorem dX5_bookPlan_52 : decode cX5_bookPlan 52 = .ok (.iload_n 1, 1) := by decide +kernel
theorem dX5_bookPlan_53 : decode cX5_bookPlan 53 = .ok (.iload_n 2, 1) := by decide +kernel
theorem dX5_bookPlan_54 : decode cX5_bookPlan 54 = .ok (.invokevirtual 230, 3) := by decide +kernel
theorem dX5_bookPlan_57 : decode cX5_bookPlan 57 = .ok (.invokestatic 234, 3) := by decide +kernel
theorem dX5_bookPlan_60 : decode cX5_bookPlan 60 = .ok (.iinc 2 1, 3) := by decide +kernel
theorem dX5_bookPlan_63 : decode cX5_bookPlan 63 = .ok (.goto (-48), 3) := by decide +kernel
theorem dX5_bookPlan_66 : decode cX5_bookPlan 66 = .ok (.iinc 1 1, 3) := by decide +kernel
theorem dX5_bookPlan_69 : decode cX5_bookPlan 69 = .ok (.goto (-67), 3) := by decide +kernel
theorem dX5_bookPlan_72 : decode cX5_bookPlan 72 = .ok (.return_, 1) := by decide +kernel
theorem dX5_book_0 : decode cX5_book 0 = .ok (.aload_n 0, 1) := by decide +kernel
theorem dX5_book_1 : decode cX5_book 1 = .ok (.dup, 1) := by decide +kernel
theorem dX5_book_2 : decode cX5_book 2 = .ok (.getfield 158, 3) := by decide +kernel
theorem dX5_book_5 : decode cX5_book 5 = .ok (.iload_n 2, 1) := by decide +kernel
theorem dX5_book_6 : decode cX5_book 6 = .ok (.isub, 1) := by decide +kernel
theorem dX5_book_7 : decode cX5_book 7 = .ok (.putfield 158, 3) := by decide +kernel
theorem dX5_book_10 : decode cX5_book 10 = .ok (.aload_n 0, 1) := by decide +kernel
theorem dX5_book_11 : decode cX5_book 11 = .ok (.invokevirtual 157, 3) := by decide +kernel
theorem dX5_book_14 : decode cX5_book 14 = .ok (.dup, 1) := by decide +kernel
theorem dX5_book_15 : decode cX5_book 15 = .ok (.getfield 126, 3) := by decide +kernel
theorem dX5_book_18 : decode cX5_book 18 = .ok (.iload_n 2, 1) := by decide +kernel
theorem dX5_book_19 : decode cX5_book 19 = .ok (.iadd, 1) := by decide +kernel
theorem dX5_book_20 : decode cX5_book 20 = .ok (.putfield 126, 3) := by decide +kernel
theorem dX5_book_23 : decode cX5_book 23 = .ok (.aload_n 1, 1) := by decide +kernel
theorem dX5_book_24 : decode cX5_book 24 = .ok (.aload_n 0, 1) := by decide +kernel
theorem dX5_book_25 : decode cX5_book 25 = .ok (.invokevirtual 157, 3) := by decide +kernel
theorem dX5_book_28 : decode cX5_book 28 = .ok (.iload_n 2, 1) := by decide +kernel
theorem dX5_book_29 : decode cX5_book 29 = .ok (.invokevirtual 238, 3) := by decide +kernel
theorem dX5_book_32 : decode cX5_book 32 = .ok (.return_, 1) := by decide +kernel
theorem dX5_shareByDirectCosts_0 : decode cX5_shareByDirectCosts 0 = .ok (.aload_n 0, 1) := by decide +kernel
theorem dX5_shareByDirectCosts_1 : decode cX5_shareByDirectCosts 1 = .ok (.invokevirtual 242, 3) := by decide +kernel
theorem dX5_shareByDirectCosts_4 : decode cX5_shareByDirectCosts 4 = .ok (.lstore_n 2, 1) := by decide +kernel
theorem dX5_shareByDirectCosts_5 : decode cX5_shareByDirectCosts 5 = .ok (.lload_n 2, 1) := by decide +kernel
theorem dX5_shareByDirectCosts_6 : decode cX5_shareByDirectCosts 6 = .ok (.lconst 0, 1) := by decide +kernel
theorem dX5_shareByDirectCosts_7 : decode cX5_shareByDirectCosts 7 = .ok (.lcmp, 1) := by decide +kernel
theorem dX5_shareByDirectCosts_8 : decode cX5_shareByDirectCosts 8 = .ok (.ifCond .gt 5, 3) := by decide +kernel
theorem dX5_shareByDirectCosts_11 : decode cX5_shareByDirectCosts 11 = .ok (.iconst 0, 1) := by decide +kernel
theorem dX5_shareByDirectCosts_12 : decode cX5_shareByDirectCosts 12 = .ok (.ireturn, 1) := by decide +kernel
theorem dX5_shareByDirectCosts_13 : decode cX5_shareByDirectCosts 13 = .ok (.iconst 0, 1) := by decide +kernel
theorem dX5_shareByDirectCosts_14 : decode cX5_shareByDirectCosts 14 = .ok (.istore 4, 2) := by decide +kernel
theorem dX5_shareByDirectCosts_16 : decode cX5_shareByDirectCosts 16 = .ok (.iconst 0, 1) := by decide +kernel
theorem dX5_shareByDirectCosts_17 : decode cX5_shareByDirectCosts 17 = .ok (.istore 5, 2) := by decide +kernel
theorem dX5_shareByDirectCosts_19 : decode cX5_shareByDirectCosts 19 = .ok (.iload 5, 2) := by decide +kernel
theorem dX5_shareByDirectCosts_21 : decode cX5_shareByDirectCosts 21 = .ok (.aload_n 0, 1) := by decide +kernel
theorem dX5_shareByDirectCosts_22 : decode cX5_shareByDirectCosts 22 = .ok (.getfield 12, 3) := by decide +kernel
theorem dX5_shareByDirectCosts_25 : decode cX5_shareByDirectCosts 25 = .ok (.invokevirtual 41, 3) := by decide +kernel
theorem dX5_shareByDirectCosts_28 : decode cX5_shareByDirectCosts 28 = .ok (.if_icmp .ge 73, 3) := by decide +kernel
theorem dX5_shareByDirectCosts_31 : decode cX5_shareByDirectCosts 31 = .ok (.aload_n 0, 1) := by decide +kernel
theorem dX5_shareByDirectCosts_32 : decode cX5_shareByDirectCosts 32 = .ok (.getfield 12, 3) := by decide +kernel
theorem dX5_shareByDirectCosts_35 : decode cX5_shareByDirectCosts 35 = .ok (.iload 5, 2) := by decide +kernel
theorem dX5_shareByDirectCosts_37 : decode cX5_shareByDirectCosts 37 = .ok (.invokevirtual 118, 3) := by decide +kernel
theorem dX5_shareByDirectCosts_40 : decode cX5_shareByDirectCosts 40 = .ok (.checkcast 49, 3) := by decide +kernel
theorem dX5_shareByDirectCosts_43 : decode cX5_shareByDirectCosts 43 = .ok (.astore 6, 2) := by decide +kernel
theorem dX5_shareByDirectCosts_45 : decode cX5_shareByDirectCosts 45 = .ok (.aload 6, 2) := by decide +kernel
theorem dX5_shareByDirectCosts_47 : decode cX5_shareByDirectCosts 47 = .ok (.invokevirtual 132, 3) := by decide +kernel
theorem dX5_shareByDirectCosts_50 : decode cX5_shareByDirectCosts 50 = .ok (.istore 7, 2) := by decide +kernel
theorem dX5_shareByDirectCosts_52 : decode cX5_shareByDirectCosts 52 = .ok (.iload 7, 2) := by decide +kernel
theorem dX5_shareByDirectCosts_54 : decode cX5_shareByDirectCosts 54 = .ok (.ifCond .le 41, 3) := by decide +kernel
theorem dX5_shareByDirectCosts_57 : decode cX5_shareByDirectCosts 57 = .ok (.iload_n 1, 1) := by decide +kernel
theorem dX5_shareByDirectCosts_58 : decode cX5_shareByDirectCosts 58 = .ok (.i2l, 1) := by decide +kernel
theorem dX5_shareByDirectCosts_59 : decode cX5_shareByDirectCosts 59 = .ok (.aload 6, 2) := by decide +kernel
theorem dX5_shareByDirectCosts_61 : decode cX5_shareByDirectCosts 61 = .ok (.getfield 126, 3) := by decide +kernel
theorem dX5_shareByDirectCosts_64 : decode cX5_shareByDirectCosts 64 = .ok (.i2l, 1) := by decide +kernel
theorem dX5_shareByDirectCosts_65 : decode cX5_shareByDirectCosts 65 = .ok (.lmul, 1) := by decide +kernel
theorem dX5_shareByDirectCosts_66 : decode cX5_shareByDirectCosts 66 = .ok (.lload_n 2, 1) := by decide +kernel
theorem dX5_shareByDirectCosts_67 : decode cX5_shareByDirectCosts 67 = .ok (.ldiv, 1) := by decide +kernel
theorem dX5_shareByDirectCosts_68 : decode cX5_shareByDirectCosts 68 = .ok (.lstore 8, 2) := by decide +kernel
theorem dX5_shareByDirectCosts_70 : decode cX5_shareByDirectCosts 70 = .ok (.lload 8, 2) := by decide +kernel
theorem dX5_shareByDirectCosts_72 : decode cX5_shareByDirectCosts 72 = .ok (.iload 7, 2) := by decide +kernel
theorem dX5_shareByDirectCosts_74 : decode cX5_shareByDirectCosts 74 = .ok (.i2l, 1) := by decide +kernel
theorem dX5_shareByDirectCosts_75 : decode cX5_shareByDirectCosts 75 = .ok (.invokestatic 246, 3) := by decide +kernel
theorem dX5_shareByDirectCosts_78 : decode cX5_shareByDirectCosts 78 = .ok (.l2i, 1) := by decide +kernel
theorem dX5_shareByDirectCosts_79 : decode cX5_shareByDirectCosts 79 = .ok (.istore 10, 2) := by decide +kernel
theorem dX5_shareByDirectCosts_81 : decode cX5_shareByDirectCosts 81 = .ok (.aload 6, 2) := by decide +kernel
theorem dX5_shareByDirectCosts_83 : decode cX5_shareByDirectCosts 83 = .ok (.iload 10, 2) := by decide +kernel
theorem dX5_shareByDirectCosts_85 : decode cX5_shareByDirectCosts 85 = .ok (.invokevirtual 252, 3) := by decide +kernel
theorem dX5_shareByDirectCosts_88 : decode cX5_shareByDirectCosts 88 = .ok (.iload 4, 2) := by decide +kernel
theorem dX5_shareByDirectCosts_90 : decode cX5_shareByDirectCosts 90 = .ok (.iload 10, 2) := by decide +kernel
theorem dX5_shareByDirectCosts_92 : decode cX5_shareByDirectCosts 92 = .ok (.iadd, 1) := by decide +kernel
theorem dX5_shareByDirectCosts_93 : decode cX5_shareByDirectCosts 93 = .ok (.istore 4, 2) := by decide +kernel
theorem dX5_shareByDirectCosts_95 : decode cX5_shareByDirectCosts 95 = .ok (.iinc 5 1, 3) := by decide +kernel
theorem dX5_shareByDirectCosts_98 : decode cX5_shareByDirectCosts 98 = .ok (.goto (-79), 3) := by decide +kernel
theorem dX5_shareByDirectCosts_101 : decode cX5_shareByDirectCosts 101 = .ok (.iload 4, 2) := by decide +kernel
theorem dX5_shareByDirectCosts_103 : decode cX5_shareByDirectCosts 103 = .ok (.ireturn, 1) := by decide +kernel
theorem dX5_directCostsWithRoom_0 : decode cX5_directCostsWithRoom 0 = .ok (.lconst 0, 1) := by decide +kernel
theorem dX5_directCostsWithRoom_1 : decode cX5_directCostsWithRoom 1 = .ok (.lstore_n 1, 1) := by decide +kernel
theorem dX5_directCostsWithRoom_2 : decode cX5_directCostsWithRoom 2 = .ok (.iconst 0, 1) := by decide +kernel
theorem dX5_directCostsWithRoom_3 : decode cX5_directCostsWithRoom 3 = .ok (.istore_n 3, 1) := by decide +kernel
theorem dX5_directCostsWithRoom_4 : decode cX5_directCostsWithRoom 4 = .ok (.iload_n 3, 1) := by decide +kernel
theorem dX5_directCostsWithRoom_5 : decode cX5_directCostsWithRoom 5 = .ok (.aload_n 0, 1) := by decide +kernel
theorem dX5_directCostsWithRoom_6 : decode cX5_directCostsWithRoom 6 = .ok (.getfield 12, 3) := by decide +kernel
theorem dX5_directCostsWithRoom_9 : decode cX5_directCostsWithRoom 9 = .ok (.invokevirtual 41, 3) := by decide +kernel
theorem dX5_directCostsWithRoom_12 : decode cX5_directCostsWithRoom 12 = .ok (.if_icmp .ge 39, 3) := by decide +kernel
theorem dX5_directCostsWithRoom_15 : decode cX5_directCostsWithRoom 15 = .ok (.aload_n 0, 1) := by decide +kernel
theorem dX5_directCostsWithRoom_16 : decode cX5_directCostsWithRoom 16 = .ok (.getfield 12, 3) := by decide +kernel
theorem dX5_directCostsWithRoom_19 : decode cX5_directCostsWithRoom 19 = .ok (.iload_n 3, 1) := by decide +kernel
theorem dX5_directCostsWithRoom_20 : decode cX5_directCostsWithRoom 20 = .ok (.invokevirtual 118, 3) := by decide +kernel
theorem dX5_directCostsWithRoom_23 : decode cX5_directCostsWithRoom 23 = .ok (.checkcast 49, 3) := by decide +kernel
theorem dX5_directCostsWithRoom_26 : decode cX5_directCostsWithRoom 26 = .ok (.astore 4, 2) := by decide +kernel
theorem dX5_directCostsWithRoom_28 : decode cX5_directCostsWithRoom 28 = .ok (.aload 4, 2) := by decide +kernel
theorem dX5_directCostsWithRoom_30 : decode cX5_directCostsWithRoom 30 = .ok (.invokevirtual 132, 3) := by decide +kernel
theorem dX5_directCostsWithRoom_33 : decode cX5_directCostsWithRoom 33 = .ok (.ifCond .le 12, 3) := by decide +kernel
theorem dX5_directCostsWithRoom_36 : decode cX5_directCostsWithRoom 36 = .ok (.lload_n 1, 1) := by decide +kernel
theorem dX5_directCostsWithRoom_37 : decode cX5_directCostsWithRoom 37 = .ok (.aload 4, 2) := by decide +kernel
theorem dX5_directCostsWithRoom_39 : decode cX5_directCostsWithRoom 39 = .ok (.getfield 126, 3) := by decide +kernel
theorem dX5_directCostsWithRoom_42 : decode cX5_directCostsWithRoom 42 = .ok (.i2l, 1) := by decide +kernel
theorem dX5_directCostsWithRoom_43 : decode cX5_directCostsWithRoom 43 = .ok (.ladd, 1) := by decide +kernel
theorem dX5_directCostsWithRoom_44 : decode cX5_directCostsWithRoom 44 = .ok (.lstore_n 1, 1) := by decide +kernel
theorem dX5_directCostsWithRoom_45 : decode cX5_directCostsWithRoom 45 = .ok (.iinc 3 1, 3) := by decide +kernel
theorem dX5_directCostsWithRoom_48 : decode cX5_directCostsWithRoom 48 = .ok (.goto (-44), 3) := by decide +kernel
theorem dX5_directCostsWithRoom_51 : decode cX5_directCostsWithRoom 51 = .ok (.lload_n 1, 1) := by decide +kernel
theorem dX5_directCostsWithRoom_52 : decode cX5_directCostsWithRoom 52 = .ok (.lreturn, 1) := by decide +kernel
theorem dX5_shareOnes_0 : decode cX5_shareOnes 0 = .ok (.iconst 0, 1) := by decide +kernel
theorem dX5_shareOnes_1 : decode cX5_shareOnes 1 = .ok (.istore_n 2, 1) := by decide +kernel
theorem dX5_shareOnes_2 : decode cX5_shareOnes 2 = .ok (.iconst 0, 1) := by decide +kernel
theorem dX5_shareOnes_3 : decode cX5_shareOnes 3 = .ok (.istore_n 3, 1) := by decide +kernel
theorem dX5_shareOnes_4 : decode cX5_shareOnes 4 = .ok (.iload_n 3, 1) := by decide +kernel
theorem dX5_shareOnes_5 : decode cX5_shareOnes 5 = .ok (.aload_n 0, 1) := by decide +kernel
theorem dX5_shareOnes_6 : decode cX5_shareOnes 6 = .ok (.getfield 12, 3) := by decide +kernel
theorem dX5_shareOnes_9 : decode cX5_shareOnes 9 = .ok (.invokevirtual 41, 3) := by decide +kernel
theorem dX5_shareOnes_12 : decode cX5_shareOnes 12 = .ok (.if_icmp .ge 44, 3) := by decide +kernel
theorem dX5_shareOnes_15 : decode cX5_shareOnes 15 = .ok (.iload_n 2, 1) := by decide +kernel
theorem dX5_shareOnes_16 : decode cX5_shareOnes 16 = .ok (.iload_n 1, 1) := by decide +kernel
theorem dX5_shareOnes_17 : decode cX5_shareOnes 17 = .ok (.if_icmp .ge 39, 3) := by decide +kernel
theorem dX5_shareOnes_20 : decode cX5_shareOnes 20 = .ok (.aload_n 0, 1) := by decide +kernel
theorem dX5_shareOnes_21 : decode cX5_shareOnes 21 = .ok (.getfield 12, 3) := by decide +kernel
theorem dX5_shareOnes_24 : decode cX5_shareOnes 24 = .ok (.iload_n 3, 1) := by decide +kernel
theorem dX5_shareOnes_25 : decode cX5_shareOnes 25 = .ok (.invokevirtual 118, 3) := by decide +kernel
theorem dX5_shareOnes_28 : decode cX5_shareOnes 28 = .ok (.checkcast 49, 3) := by decide +kernel
theorem dX5_shareOnes_31 : decode cX5_shareOnes 31 = .ok (.astore 4, 2) := by decide +kernel
theorem dX5_shareOnes_33 : decode cX5_shareOnes 33 = .ok (.aload 4, 2) := by decide +kernel
theorem dX5_shareOnes_35 : decode cX5_shareOnes 35 = .ok (.invokevirtual 132, 3) := by decide +kernel
theorem dX5_shareOnes_38 : decode cX5_shareOnes 38 = .ok (.ifCond .le 12, 3) := by decide +kernel
theorem dX5_shareOnes_41 : decode cX5_shareOnes 41 = .ok (.aload 4, 2) := by decide +kernel
theorem dX5_shareOnes_43 : decode cX5_shareOnes 43 = .ok (.iconst 1, 1) := by decide +kernel
theorem dX5_shareOnes_44 : decode cX5_shareOnes 44 = .ok (.invokevirtual 252, 3) := by decide +kernel
theorem dX5_shareOnes_47 : decode cX5_shareOnes 47 = .ok (.iinc 2 1, 3) := by decide +kernel
theorem dX5_shareOnes_50 : decode cX5_shareOnes 50 = .ok (.iinc 3 1, 3) := by decide +kernel
theorem dX5_shareOnes_53 : decode cX5_shareOnes 53 = .ok (.goto (-49), 3) := by decide +kernel
theorem dX5_shareOnes_56 : decode cX5_shareOnes 56 = .ok (.iload_n 2, 1) := by decide +kernel
theorem dX5_shareOnes_57 : decode cX5_shareOnes 57 = .ok (.ireturn, 1) := by decide +kernel
theorem dX5_isAllowedBySomeFund_0 : decode cX5_isAllowedBySomeFund 0 = .ok (.iconst 0, 1) := by decide +kernel
theorem dX5_isAllowedBySomeFund_1 : decode cX5_isAllowedBySomeFund 1 = .ok (.istore_n 2, 1) := by decide +kernel
theorem dX5_isAllowedBySomeFund_2 : decode cX5_isAllowedBySomeFund 2 = .ok (.iload_n 2, 1) := by decide +kernel
theorem dX5_isAllowedBySomeFund_3 : decode cX5_isAllowedBySomeFund 3 = .ok (.aload_n 0, 1) := by decide +kernel
theorem dX5_isAllowedBySomeFund_4 : decode cX5_isAllowedBySomeFund 4 = .ok (.getfield 12, 3) := by decide +kernel
theorem dX5_isAllowedBySomeFund_7 : decode cX5_isAllowedBySomeFund 7 = .ok (.invokevirtual 41, 3) := by decide +kernel
theorem dX5_isAllowedBySomeFund_10 : decode cX5_isAllowedBySomeFund 10 = .ok (.if_icmp .ge 32, 3) := by decide +kernel
theorem dX5_isAllowedBySomeFund_13 : decode cX5_isAllowedBySomeFund 13 = .ok (.aload_n 0, 1) := by decide +kernel
theorem dX5_isAllowedBySomeFund_14 : decode cX5_isAllowedBySomeFund 14 = .ok (.getfield 12, 3) := by decide +kernel
theorem dX5_isAllowedBySomeFund_17 : decode cX5_isAllowedBySomeFund 17 = .ok (.iload_n 2, 1) := by decide +kernel
theorem dX5_isAllowedBySomeFund_18 : decode cX5_isAllowedBySomeFund 18 = .ok (.invokevirtual 118, 3) := by decide +kernel
theorem dX5_isAllowedBySomeFund_21 : decode cX5_isAllowedBySomeFund 21 = .ok (.checkcast 49, 3) := by decide +kernel
theorem dX5_isAllowedBySomeFund_24 : decode cX5_isAllowedBySomeFund 24 = .ok (.aload_n 1, 1) := by decide +kernel
theorem dX5_isAllowedBySomeFund_25 : decode cX5_isAllowedBySomeFund 25 = .ok (.getfield 255, 3) := by decide +kernel
theorem dX5_isAllowedBySomeFund_28 : decode cX5_isAllowedBySomeFund 28 = .ok (.invokevirtual 65, 3) := by decide +kernel
theorem dX5_isAllowedBySomeFund_31 : decode cX5_isAllowedBySomeFund 31 = .ok (.ifCond .eq 5, 3) := by decide +kernel
theorem dX5_isAllowedBySomeFund_34 : decode cX5_isAllowedBySomeFund 34 = .ok (.iconst 1, 1) := by decide +kernel
theorem dX5_isAllowedBySomeFund_35 : decode cX5_isAllowedBySomeFund 35 = .ok (.ireturn, 1) := by decide +kernel
theorem dX5_isAllowedBySomeFund_36 : decode cX5_isAllowedBySomeFund 36 = .ok (.iinc 2 1, 3) := by decide +kernel
theorem dX5_isAllowedBySomeFund_39 : decode cX5_isAllowedBySomeFund 39 = .ok (.goto (-37), 3) := by decide +kernel
theorem dX5_isAllowedBySomeFund_42 : decode cX5_isAllowedBySomeFund 42 = .ok (.iconst 0, 1) := by decide +kernel
theorem dX5_isAllowedBySomeFund_43 : decode cX5_isAllowedBySomeFund 43 = .ok (.ireturn, 1) := by decide +kernel
theorem dX5_isSuitedBySomeFund_0 : decode cX5_isSuitedBySomeFund 0 = .ok (.iconst 0, 1) := by decide +kernel
theorem dX5_isSuitedBySomeFund_1 : decode cX5_isSuitedBySomeFund 1 = .ok (.istore_n 2, 1) := by decide +kernel
theorem dX5_isSuitedBySomeFund_2 : decode cX5_isSuitedBySomeFund 2 = .ok (.iload_n 2, 1) := by decide +kernel
theorem dX5_isSuitedBySomeFund_3 : decode cX5_isSuitedBySomeFund 3 = .ok (.aload_n 0, 1) := by decide +kernel
theorem dX5_isSuitedBySomeFund_4 : decode cX5_isSuitedBySomeFund 4 = .ok (.getfield 12, 3) := by decide +kernel
theorem dX5_isSuitedBySomeFund_7 : decode cX5_isSuitedBySomeFund 7 = .ok (.invokevirtual 41, 3) := by decide +kernel
theorem dX5_isSuitedBySomeFund_10 : decode cX5_isSuitedBySomeFund 10 = .ok (.if_icmp .ge 29, 3) := by decide +kernel
theorem dX5_isSuitedBySomeFund_13 : decode cX5_isSuitedBySomeFund 13 = .ok (.aload_n 0, 1) := by decide +kernel
theorem dX5_isSuitedBySomeFund_14 : decode cX5_isSuitedBySomeFund 14 = .ok (.getfield 12, 3) := by decide +kernel
theorem dX5_isSuitedBySomeFund_17 : decode cX5_isSuitedBySomeFund 17 = .ok (.iload_n 2, 1) := by decide +kernel
theorem dX5_isSuitedBySomeFund_18 : decode cX5_isSuitedBySomeFund 18 = .ok (.invokevirtual 118, 3) := by decide +kernel
theorem dX5_isSuitedBySomeFund_21 : decode cX5_isSuitedBySomeFund 21 = .ok (.checkcast 49, 3) := by decide +kernel
theorem dX5_isSuitedBySomeFund_24 : decode cX5_isSuitedBySomeFund 24 = .ok (.aload_n 1, 1) := by decide +kernel
theorem dX5_isSuitedBySomeFund_25 : decode cX5_isSuitedBySomeFund 25 = .ok (.invokevirtual 258, 3) := by decide +kernel
theorem dX5_isSuitedBySomeFund_28 : decode cX5_isSuitedBySomeFund 28 = .ok (.ifCond .eq 5, 3) := by decide +kernel
theorem dX5_isSuitedBySomeFund_31 : decode cX5_isSuitedBySomeFund 31 = .ok (.iconst 1, 1) := by decide +kernel
theorem dX5_isSuitedBySomeFund_32 : decode cX5_isSuitedBySomeFund 32 = .ok (.ireturn, 1) := by decide +kernel
theorem dX5_isSuitedBySomeFund_33 : decode cX5_isSuitedBySomeFund 33 = .ok (.iinc 2 1, 3) := by decide +kernel
theorem dX5_isSuitedBySomeFund_36 : decode cX5_isSuitedBySomeFund 36 = .ok (.goto (-34), 3) := by decide +kernel
theorem dX5_isSuitedBySomeFund_39 : decode cX5_isSuitedBySomeFund 39 = .ok (.iconst 0, 1) := by decide +kernel
theorem dX5_isSuitedBySomeFund_40 : decode cX5_isSuitedBySomeFund 40 = .ok (.ireturn, 1) := by decide +kernel
theorem dX5_isPayableFromSomePot_0 : decode cX5_isPayableFromSomePot 0 = .ok (.aload_n 0, 1) := by decide +kernel
theorem dX5_isPayableFromSomePot_1 : decode cX5_isPayableFromSomePot 1 = .ok (.invokevirtual 199, 3) := by decide +kernel
theorem dX5_isPayableFromSomePot_4 : decode cX5_isPayableFromSomePot 4 = .ok (.iconst 0, 1) := by decide +kernel
theorem dX5_isPayableFromSomePot_5 : decode cX5_isPayableFromSomePot 5 = .ok (.istore_n 2, 1) := by decide +kernel
theorem dX5_isPayableFromSomePot_6 : decode cX5_isPayableFromSomePot 6 = .ok (.iload_n 2, 1) := by decide +kernel
theorem dX5_isPayableFromSomePot_7 : decode cX5_isPayableFromSomePot 7 = .ok (.aload_n 0, 1) := by decide +kernel
theorem dX5_isPayableFromSomePot_8 : decode cX5_isPayableFromSomePot 8 = .ok (.getfield 22, 3) := by decide +kernel
theorem dX5_isPayableFromSomePot_11 : decode cX5_isPayableFromSomePot 11 = .ok (.invokevirtual 41, 3) := by decide +kernel
theorem dX5_isPayableFromSomePot_14 : decode cX5_isPayableFromSomePot 14 = .ok (.if_icmp .ge 38, 3) := by decide +kernel
theorem dX5_isPayableFromSomePot_17 : decode cX5_isPayableFromSomePot 17 = .ok (.aload_n 0, 1) := by decide +kernel
theorem dX5_isPayableFromSomePot_18 : decode cX5_isPayableFromSomePot 18 = .ok (.getfield 22, 3) := by decide +kernel
theorem dX5_isPayableFromSomePot_21 : decode cX5_isPayableFromSomePot 21 = .ok (.iload_n 2, 1) := by decide +kernel
theorem dX5_isPayableFromSomePot_22 : decode cX5_isPayableFromSomePot 22 = .ok (.invokevirtual 118, 3) := by decide +kernel
theorem dX5_isPayableFromSomePot_25 : decode cX5_isPayableFromSomePot 25 = .ok (.checkcast 155, 3) := by decide +kernel
theorem dX5_isPayableFromSomePot_28 : decode cX5_isPayableFromSomePot 28 = .ok (.astore_n 3, 1) := by decide +kernel
theorem dX5_isPayableFromSomePot_29 : decode cX5_isPayableFromSomePot 29 = .ok (.aload_n 3, 1) := by decide +kernel
theorem dX5_isPayableFromSomePot_30 : decode cX5_isPayableFromSomePot 30 = .ok (.getfield 158, 3) := by decide +kernel
theorem dX5_isPayableFromSomePot_33 : decode cX5_isPayableFromSomePot 33 = .ok (.ifCond .le 13, 3) := by decide +kernel
theorem dX5_isPayableFromSomePot_36 : decode cX5_isPayableFromSomePot 36 = .ok (.aload_n 3, 1) := by decide +kernel
theorem dX5_isPayableFromSomePot_37 : decode cX5_isPayableFromSomePot 37 = .ok (.aload_n 1, 1) := by decide +kernel
theorem dX5_isPayableFromSomePot_38 : decode cX5_isPayableFromSomePot 38 = .ok (.invokevirtual 227, 3) := by decide +kernel
theorem dX5_isPayableFromSomePot_41 : decode cX5_isPayableFromSomePot 41 = .ok (.ifCond .eq 5, 3) := by decide +kernel
theorem dX5_isPayableFromSomePot_44 : decode cX5_isPayableFromSomePot 44 = .ok (.iconst 1, 1) := by decide +kernel
theorem dX5_isPayableFromSomePot_45 : decode cX5_isPayableFromSomePot 45 = .ok (.ireturn, 1) := by decide +kernel
theorem dX5_isPayableFromSomePot_46 : decode cX5_isPayableFromSomePot 46 = .ok (.iinc 2 1, 3) := by decide +kernel
theorem dX5_isPayableFromSomePot_49 : decode cX5_isPayableFromSomePot 49 = .ok (.goto (-43), 3) := by decide +kernel
theorem dX5_isPayableFromSomePot_52 : decode cX5_isPayableFromSomePot 52 = .ok (.iconst 0, 1) := by decide +kernel
theorem dX5_isPayableFromSomePot_53 : decode cX5_isPayableFromSomePot 53 = .ok (.ireturn, 1) := by decide +kernel
theorem dX5_isHeldInCommitment_0 : decode cX5_isHeldInCommitment 0 = .ok (.iconst 0, 1) := by decide +kernel
theorem dX5_isHeldInCommitment_1 : decode cX5_isHeldInCommitment 1 = .ok (.istore_n 2, 1) := by decide +kernel
theorem dX5_isHeldInCommitment_2 : decode cX5_isHeldInCommitment 2 = .ok (.iload_n 2, 1) := by decide +kernel
theorem dX5_isHeldInCommitment_3 : decode cX5_isHeldInCommitment 3 = .ok (.aload_n 0, 1) := by decide +kernel
theorem dX5_isHeldInCommitment_4 : decode cX5_isHeldInCommitment 4 = .ok (.getfield 16, 3) := by decide +kernel
theorem dX5_isHeldInCommitment_7 : decode cX5_isHeldInCommitment 7 = .ok (.invokevirtual 41, 3) := by decide +kernel
theorem dX5_isHeldInCommitment_10 : decode cX5_isHeldInCommitment 10 = .ok (.if_icmp .ge 41, 3) := by decide +kernel
theorem dX5_isHeldInCommitment_13 : decode cX5_isHeldInCommitment 13 = .ok (.aload_n 0, 1) := by decide +kernel
theorem dX5_isHeldInCommitment_14 : decode cX5_isHeldInCommitment 14 = .ok (.getfield 16, 3) := by decide +kernel
theorem dX5_isHeldInCommitment_17 : decode cX5_isHeldInCommitment 17 = .ok (.iload_n 2, 1) := by decide +kernel
theorem dX5_isHeldInCommitment_18 : decode cX5_isHeldInCommitment 18 = .ok (.invokevirtual 118, 3) := by decide +kernel
theorem dX5_isHeldInCommitment_21 : decode cX5_isHeldInCommitment 21 = .ok (.checkcast 69, 3) := by decide +kernel
theorem dX5_isHeldInCommitment_24 : decode cX5_isHeldInCommitment 24 = .ok (.astore_n 3, 1) := by decide +kernel
theorem dX5_isHeldInCommitment_25 : decode cX5_isHeldInCommitment 25 = .ok (.aload_n 3, 1) := by decide +kernel
theorem dX5_isHeldInCommitment_26 : decode cX5_isHeldInCommitment 26 = .ok (.getfield 78, 3) := by decide +kernel
theorem dX5_isHeldInCommitment_29 : decode cX5_isHeldInCommitment 29 = .ok (.ifCond .le 16, 3) := by decide +kernel
theorem dX5_isHeldInCommitment_32 : decode cX5_isHeldInCommitment 32 = .ok (.aload_n 3, 1) := by decide +kernel
theorem dX5_isHeldInCommitment_33 : decode cX5_isHeldInCommitment 33 = .ok (.invokevirtual 122, 3) := by decide +kernel
theorem dX5_isHeldInCommitment_36 : decode cX5_isHeldInCommitment 36 = .ok (.aload_n 1, 1) := by decide +kernel
theorem dX5_isHeldInCommitment_37 : decode cX5_isHeldInCommitment 37 = .ok (.invokevirtual 258, 3) := by decide +kernel
theorem dX5_isHeldInCommitment_40 : decode cX5_isHeldInCommitment 40 = .ok (.ifCond .eq 5, 3) := by decide +kernel
theorem dX5_isHeldInCommitment_43 : decode cX5_isHeldInCommitment 43 = .ok (.iconst 1, 1) := by decide +kernel
theorem dX5_isHeldInCommitment_44 : decode cX5_isHeldInCommitment 44 = .ok (.ireturn, 1) := by decide +kernel
theorem dX5_isHeldInCommitment_45 : decode cX5_isHeldInCommitment 45 = .ok (.iinc 2 1, 3) := by decide +kernel
theorem dX5_isHeldInCommitment_48 : decode cX5_isHeldInCommitment 48 = .ok (.goto (-46), 3) := by decide +kernel
theorem dX5_isHeldInCommitment_51 : decode cX5_isHeldInCommitment 51 = .ok (.iconst 0, 1) := by decide +kernel
theorem dX5_isHeldInCommitment_52 : decode cX5_isHeldInCommitment 52 = .ok (.ireturn, 1) := by decide +kernel
theorem dX5_has_0 : decode cX5_has 0 = .ok (.iload_n 0, 1) := by decide +kernel
theorem dX5_has_1 : decode cX5_has 1 = .ok (.iload_n 1, 1) := by decide +kernel
theorem dX5_has_2 : decode cX5_has 2 = .ok (.ishr, 1) := by decide +kernel
theorem dX5_has_3 : decode cX5_has 3 = .ok (.iconst 1, 1) := by decide +kernel
theorem dX5_has_4 : decode cX5_has 4 = .ok (.iand, 1) := by decide +kernel
theorem dX5_has_5 : decode cX5_has 5 = .ok (.ifCond .eq 7, 3) := by decide +kernel
theorem dX5_has_8 : decode cX5_has 8 = .ok (.iconst 1, 1) := by decide +kernel
theorem dX5_has_9 : decode cX5_has 9 = .ok (.goto 4, 3) := by decide +kernel
theorem dX5_has_12 : decode cX5_has 12 = .ok (.iconst 0, 1) := by decide +kernel
theorem dX5_has_13 : decode cX5_has 13 = .ok (.ireturn, 1) := by decide +kernel
theorem dJ9_max_7cf53_0 : decode cJ9_max_7cf53 0 = .ok (.iload_n 0, 1) := by decide +kernel
theorem dJ9_max_7cf53_1 : decode cJ9_max_7cf53 1 = .ok (.iload_n 1, 1) := by decide +kernel
theorem dJ9_max_7cf53_2 : decode cJ9_max_7cf53 2 = .ok (.if_icmp .lt 7, 3) := by decide +kernel
theorem dJ9_max_7cf53_5 : decode cJ9_max_7cf53 5 = .ok (.iload_n 0, 1) := by decide +kernel
theorem dJ9_max_7cf53_6 : decode cJ9_max_7cf53 6 = .ok (.goto 4, 3) := by decide +kernel
theorem dJ9_max_7cf53_9 : decode cJ9_max_7cf53 9 = .ok (.iload_n 1, 1) := by decide +kernel
theorem dJ9_max_7cf53_10 : decode cJ9_max_7cf53 10 = .ok (.ireturn, 1) := by decide +kernel
theorem dJ9_min_7cf53_0 : decode cJ9_min_7cf53 0 = .ok (.iload_n 0, 1) := by decide +kernel
theorem dJ9_min_7cf53_1 : decode cJ9_min_7cf53 1 = .ok (.iload_n 1, 1) := by decide +kernel
theorem dJ9_min_7cf53_2 : decode cJ9_min_7cf53 2 = .ok (.if_icmp .gt 7, 3) := by decide +kernel
theorem dJ9_min_7cf53_5 : decode cJ9_min_7cf53 5 = .ok (.iload_n 0, 1) := by decide +kernel
theorem dJ9_min_7cf53_6 : decode cJ9_min_7cf53 6 = .ok (.goto 4, 3) := by decide +kernel
theorem dJ9_min_7cf53_9 : decode cJ9_min_7cf53 9 = .ok (.iload_n 1, 1) := by decide +kernel
theorem dJ9_min_7cf53_10 : decode cJ9_min_7cf53 10 = .ok (.ireturn, 1) := by decide +kernel
theorem dJ9_min_f86c9_0 : decode cJ9_min_f86c9 0 = .ok (.lload_n 0, 1) := by decide +kernel
theorem dJ9_min_f86c9_1 : decode cJ9_min_f86c9 1 = .ok (.lload_n 2, 1) := by decide +kernel
theorem dJ9_min_f86c9_2 : decode cJ9_min_f86c9 2 = .ok (.lcmp, 1) := by decide +kernel
theorem dJ9_min_f86c9_3 : decode cJ9_min_f86c9 3 = .ok (.ifCond .gt 7, 3) := by decide +kernel
theorem dJ9_min_f86c9_6 : decode cJ9_min_f86c9 6 = .ok (.lload_n 0, 1) := by decide +kernel
theorem dJ9_min_f86c9_7 : decode cJ9_min_f86c9 7 = .ok (.goto 4, 3) := by decide +kernel
theorem dJ9_min_f86c9_10 : decode cJ9_min_f86c9 10 = .ok (.lload_n 2, 1) := by decide +kernel
theorem dJ9_min_f86c9_11 : decode cJ9_min_f86c9 11 = .ok (.lreturn, 1) := by decide +kernel
theorem dJxa1e45_init_da8c8_0 : decode cJxa1e45_init_da8c8 0 = .ok (.aload_n 0, 1) := by decide +kernel
theorem dJxa1e45_init_da8c8_1 : decode cJxa1e45_init_da8c8 1 = .ok (.invokespecial 1, 3) := by decide +kernel
theorem dJxa1e45_init_da8c8_4 : decode cJxa1e45_init_da8c8 4 = .ok (.return_, 1) := by decide +kernel
theorem dJxc12de_init_da8c8_0 : decode cJxc12de_init_da8c8 0 = .ok (.aload_n 0, 1) := by decide +kernel
theorem dJxc12de_init_da8c8_1 : decode cJxc12de_init_da8c8 1 = .ok (.invokespecial 1, 3) := by decide +kernel
theorem dJxc12de_init_da8c8_4 : decode cJxc12de_init_da8c8 4 = .ok (.aload_n 0, 1) := by decide +kernel
theorem dJxc12de_init_da8c8_5 : decode cJxc12de_init_da8c8 5 = .ok (.iconst 0, 1) := by decide +kernel
theorem dJxc12de_init_da8c8_6 : decode cJxc12de_init_da8c8 6 = .ok (.putfield 7, 3) := by decide +kernel
theorem dJxc12de_init_da8c8_9 : decode cJxc12de_init_da8c8 9 = .ok (.return_, 1) := by decide +kernel
theorem dJx4a65c_init_da8c8_0 : decode cJx4a65c_init_da8c8 0 = .ok (.aload_n 0, 1) := by decide +kernel
theorem dJx4a65c_init_da8c8_1 : decode cJx4a65c_init_da8c8 1 = .ok (.invokespecial 1, 3) := by decide +kernel
theorem dJx4a65c_init_da8c8_4 : decode cJx4a65c_init_da8c8 4 = .ok (.aload_n 0, 1) := by decide +kernel
theorem dJx4a65c_init_da8c8_5 : decode cJx4a65c_init_da8c8 5 = .ok (.getstatic 39, 3) := by decide +kernel
theorem dJx4a65c_init_da8c8_8 : decode cJx4a65c_init_da8c8 8 = .ok (.putfield 9, 3) := by decide +kernel
theorem dJx4a65c_init_da8c8_11 : decode cJx4a65c_init_da8c8 11 = .ok (.return_, 1) := by decide +kernel
theorem dJx4a65c_grow_92f84_0 : decode cJx4a65c_grow_92f84 0 = .ok (.aload_n 0, 1) := by decide +kernel
theorem dJx4a65c_grow_92f84_1 : decode cJx4a65c_grow_92f84 1 = .ok (.getfield 9, 3) := by decide +kernel
theorem dJx4a65c_grow_92f84_4 : decode cJx4a65c_grow_92f84 4 = .ok (.arraylength, 1) := by decide +kernel
theorem dJx4a65c_grow_92f84_5 : decode cJx4a65c_grow_92f84 5 = .ok (.istore_n 2, 1) := by decide +kernel
theorem dJx4a65c_grow_92f84_6 : decode cJx4a65c_grow_92f84 6 = .ok (.iload_n 2, 1) := by decide +kernel
theorem dJx4a65c_grow_92f84_7 : decode cJx4a65c_grow_92f84 7 = .ok (.ifCond .gt 13, 3) := by decide +kernel
theorem dJx4a65c_grow_92f84_10 : decode cJx4a65c_grow_92f84 10 = .ok (.aload_n 0, 1) := by decide +kernel
theorem dJx4a65c_grow_92f84_11 : decode cJx4a65c_grow_92f84 11 = .ok (.getfield 9, 3) := by decide +kernel
theorem dJx4a65c_grow_92f84_14 : decode cJx4a65c_grow_92f84 14 = .ok (.getstatic 39, 3) := by decide +kernel
theorem dJx4a65c_grow_92f84_17 : decode cJx4a65c_grow_92f84 17 = .ok (.if_acmp .eq 28, 3) := by decide +kernel
theorem dJx4a65c_grow_92f84_20 : decode cJx4a65c_grow_92f84 20 = .ok (.iload_n 2, 1) := by decide +kernel
theorem dJx4a65c_grow_92f84_21 : decode cJx4a65c_grow_92f84 21 = .ok (.iload_n 1, 1) := by decide +kernel
theorem dJx4a65c_grow_92f84_22 : decode cJx4a65c_grow_92f84 22 = .ok (.iload_n 2, 1) := by decide +kernel
theorem dJx4a65c_grow_92f84_23 : decode cJx4a65c_grow_92f84 23 = .ok (.isub, 1) := by decide +kernel
theorem dJx4a65c_grow_92f84_24 : decode cJx4a65c_grow_92f84 24 = .ok (.iload_n 2, 1) := by decide +kernel
theorem dJx4a65c_grow_92f84_25 : decode cJx4a65c_grow_92f84 25 = .ok (.iconst 1, 1) := by decide +kernel
theorem dJx4a65c_grow_92f84_26 : decode cJx4a65c_grow_92f84 26 = .ok (.ishr, 1) := by decide +kernel
theorem dJx4a65c_grow_92f84_27 : decode cJx4a65c_grow_92f84 27 = .ok (.invokestatic 73, 3) := by decide +kernel
theorem dJx4a65c_grow_92f84_30 : decode cJx4a65c_grow_92f84 30 = .ok (.istore_n 3, 1) := by decide +kernel
theorem dJx4a65c_grow_92f84_31 : decode cJx4a65c_grow_92f84 31 = .ok (.aload_n 0, 1) := by decide +kernel
theorem dJx4a65c_grow_92f84_32 : decode cJx4a65c_grow_92f84 32 = .ok (.aload_n 0, 1) := by decide +kernel
theorem dJx4a65c_grow_92f84_33 : decode cJx4a65c_grow_92f84 33 = .ok (.getfield 9, 3) := by decide +kernel
theorem dJx4a65c_grow_92f84_36 : decode cJx4a65c_grow_92f84 36 = .ok (.iload_n 3, 1) := by decide +kernel
theorem dJx4a65c_grow_92f84_37 : decode cJx4a65c_grow_92f84 37 = .ok (.invokestatic 66, 3) := by decide +kernel
theorem dJx4a65c_grow_92f84_40 : decode cJx4a65c_grow_92f84 40 = .ok (.dup_x1, 1) := by decide +kernel
theorem dJx4a65c_grow_92f84_41 : decode cJx4a65c_grow_92f84 41 = .ok (.putfield 9, 3) := by decide +kernel
theorem dJx4a65c_grow_92f84_44 : decode cJx4a65c_grow_92f84 44 = .ok (.areturn, 1) := by decide +kernel
theorem dJx4a65c_grow_92f84_45 : decode cJx4a65c_grow_92f84 45 = .ok (.aload_n 0, 1) := by decide +kernel
theorem dJx4a65c_grow_92f84_46 : decode cJx4a65c_grow_92f84 46 = .ok (.bipush 10, 2) := by decide +kernel
theorem dJx4a65c_grow_92f84_48 : decode cJx4a65c_grow_92f84 48 = .ok (.iload_n 1, 1) := by decide +kernel
theorem dJx4a65c_grow_92f84_49 : decode cJx4a65c_grow_92f84 49 = .ok (.invokestatic 79, 3) := by decide +kernel
theorem dJx4a65c_grow_92f84_52 : decode cJx4a65c_grow_92f84 52 = .ok (.anewarray 7, 3) := by decide +kernel
theorem dJx4a65c_grow_92f84_55 : decode cJx4a65c_grow_92f84 55 = .ok (.dup_x1, 1) := by decide +kernel
theorem dJx4a65c_grow_92f84_56 : decode cJx4a65c_grow_92f84 56 = .ok (.putfield 9, 3) := by decide +kernel
theorem dJx4a65c_grow_92f84_59 : decode cJx4a65c_grow_92f84 59 = .ok (.areturn, 1) := by decide +kernel
theorem dJx4a65c_grow_d5877_0 : decode cJx4a65c_grow_d5877 0 = .ok (.aload_n 0, 1) := by decide +kernel
theorem dJx4a65c_grow_d5877_1 : decode cJx4a65c_grow_d5877 1 = .ok (.aload_n 0, 1) := by decide +kernel
theorem dJx4a65c_grow_d5877_2 : decode cJx4a65c_grow_d5877 2 = .ok (.getfield 48, 3) := by decide +kernel
theorem dJx4a65c_grow_d5877_5 : decode cJx4a65c_grow_d5877 5 = .ok (.iconst 1, 1) := by decide +kernel
theorem dJx4a65c_grow_d5877_6 : decode cJx4a65c_grow_d5877 6 = .ok (.iadd, 1) := by decide +kernel
theorem dJx4a65c_grow_d5877_7 : decode cJx4a65c_grow_d5877 7 = .ok (.invokevirtual 69, 3) := by decide +kernel
theorem dJx4a65c_grow_d5877_10 : decode cJx4a65c_grow_d5877 10 = .ok (.areturn, 1) := by decide +kernel
theorem dJx4a65c_size_8abf5_0 : decode cJx4a65c_size_8abf5 0 = .ok (.aload_n 0, 1) := by decide +kernel
theorem dJx4a65c_size_8abf5_1 : decode cJx4a65c_size_8abf5 1 = .ok (.getfield 48, 3) := by decide +kernel
theorem dJx4a65c_size_8abf5_4 : decode cJx4a65c_size_8abf5 4 = .ok (.ireturn, 1) := by decide +kernel
theorem dJx4a65c_elementData_915e3_0 : decode cJx4a65c_elementData_915e3 0 = .ok (.aload_n 0, 1) := by decide +kernel
theorem dJx4a65c_elementData_915e3_1 : decode cJx4a65c_elementData_915e3 1 = .ok (.getfield 9, 3) := by decide +kernel
theorem dJx4a65c_elementData_915e3_4 : decode cJx4a65c_elementData_915e3 4 = .ok (.iload_n 1, 1) := by decide +kernel
theorem dJx4a65c_elementData_915e3_5 : decode cJx4a65c_elementData_915e3 5 = .ok (.aaload, 1) := by decide +kernel
theorem dJx4a65c_elementData_915e3_6 : decode cJx4a65c_elementData_915e3 6 = .ok (.areturn, 1) := by decide +kernel
theorem dJx4a65c_get_915e3_0 : decode cJx4a65c_get_915e3 0 = .ok (.iload_n 1, 1) := by decide +kernel
theorem dJx4a65c_get_915e3_1 : decode cJx4a65c_get_915e3 1 = .ok (.aload_n 0, 1) := by decide +kernel
theorem dJx4a65c_get_915e3_2 : decode cJx4a65c_get_915e3 2 = .ok (.getfield 48, 3) := by decide +kernel
theorem dJx4a65c_get_915e3_5 : decode cJx4a65c_get_915e3 5 = .ok (.invokestatic 118, 3) := by decide +kernel
theorem dJx4a65c_get_915e3_8 : decode cJx4a65c_get_915e3 8 = .ok (.pop, 1) := by decide +kernel
theorem dJx4a65c_get_915e3_9 : decode cJx4a65c_get_915e3 9 = .ok (.aload_n 0, 1) := by decide +kernel
theorem dJx4a65c_get_915e3_10 : decode cJx4a65c_get_915e3 10 = .ok (.iload_n 1, 1) := by decide +kernel
theorem dJx4a65c_get_915e3_11 : decode cJx4a65c_get_915e3 11 = .ok (.invokevirtual 123, 3) := by decide +kernel
theorem dJx4a65c_get_915e3_14 : decode cJx4a65c_get_915e3 14 = .ok (.areturn, 1) := by decide +kernel
theorem dJx4a65c_add_72be8_0 : decode cJx4a65c_add_72be8 0 = .ok (.iload_n 3, 1) := by decide +kernel
theorem dJx4a65c_add_72be8_1 : decode cJx4a65c_add_72be8 1 = .ok (.aload_n 2, 1) := by decide +kernel
theorem dJx4a65c_add_72be8_2 : decode cJx4a65c_add_72be8 2 = .ok (.arraylength, 1) := by decide +kernel
theorem dJx4a65c_add_72be8_3 : decode cJx4a65c_add_72be8 3 = .ok (.if_icmp .ne 8, 3) := by decide +kernel
theorem dJx4a65c_add_72be8_6 : decode cJx4a65c_add_72be8 6 = .ok (.aload_n 0, 1) := by decide +kernel
theorem dJx4a65c_add_72be8_7 : decode cJx4a65c_add_72be8 7 = .ok (.invokevirtual 129, 3) := by decide +kernel
theorem dJx4a65c_add_72be8_10 : decode cJx4a65c_add_72be8 10 = .ok (.astore_n 2, 1) := by decide +kernel
theorem dJx4a65c_add_72be8_11 : decode cJx4a65c_add_72be8 11 = .ok (.aload_n 2, 1) := by decide +kernel
theorem dJx4a65c_add_72be8_12 : decode cJx4a65c_add_72be8 12 = .ok (.iload_n 3, 1) := by decide +kernel
theorem dJx4a65c_add_72be8_13 : decode cJx4a65c_add_72be8 13 = .ok (.aload_n 1, 1) := by decide +kernel
theorem dJx4a65c_add_72be8_14 : decode cJx4a65c_add_72be8 14 = .ok (.aastore, 1) := by decide +kernel
theorem dJx4a65c_add_72be8_15 : decode cJx4a65c_add_72be8 15 = .ok (.aload_n 0, 1) := by decide +kernel
theorem dJx4a65c_add_72be8_16 : decode cJx4a65c_add_72be8 16 = .ok (.iload_n 3, 1) := by decide +kernel
theorem dJx4a65c_add_72be8_17 : decode cJx4a65c_add_72be8 17 = .ok (.iconst 1, 1) := by decide +kernel
theorem dJx4a65c_add_72be8_18 : decode cJx4a65c_add_72be8 18 = .ok (.iadd, 1) := by decide +kernel
theorem dJx4a65c_add_72be8_19 : decode cJx4a65c_add_72be8 19 = .ok (.putfield 48, 3) := by decide +kernel
theorem dJx4a65c_add_72be8_22 : decode cJx4a65c_add_72be8 22 = .ok (.return_, 1) := by decide +kernel
theorem dJx4a65c_add_9ea2d_0 : decode cJx4a65c_add_9ea2d 0 = .ok (.aload_n 0, 1) := by decide +kernel
theorem dJx4a65c_add_9ea2d_1 : decode cJx4a65c_add_9ea2d 1 = .ok (.dup, 1) := by decide +kernel
theorem dJx4a65c_add_9ea2d_2 : decode cJx4a65c_add_9ea2d 2 = .ok (.getfield 63, 3) := by decide +kernel
theorem dJx4a65c_add_9ea2d_5 : decode cJx4a65c_add_9ea2d 5 = .ok (.iconst 1, 1) := by decide +kernel
theorem dJx4a65c_add_9ea2d_6 : decode cJx4a65c_add_9ea2d 6 = .ok (.iadd, 1) := by decide +kernel
theorem dJx4a65c_add_9ea2d_7 : decode cJx4a65c_add_9ea2d 7 = .ok (.putfield 63, 3) := by decide +kernel
theorem dJx4a65c_add_9ea2d_10 : decode cJx4a65c_add_9ea2d 10 = .ok (.aload_n 0, 1) := by decide +kernel
theorem dJx4a65c_add_9ea2d_11 : decode cJx4a65c_add_9ea2d 11 = .ok (.aload_n 1, 1) := by decide +kernel
theorem dJx4a65c_add_9ea2d_12 : decode cJx4a65c_add_9ea2d 12 = .ok (.aload_n 0, 1) := by decide +kernel
theorem dJx4a65c_add_9ea2d_13 : decode cJx4a65c_add_9ea2d 13 = .ok (.getfield 9, 3) := by decide +kernel
theorem dJx4a65c_add_9ea2d_16 : decode cJx4a65c_add_9ea2d 16 = .ok (.aload_n 0, 1) := by decide +kernel
theorem dJx4a65c_add_9ea2d_17 : decode cJx4a65c_add_9ea2d 17 = .ok (.getfield 48, 3) := by decide +kernel
theorem dJx4a65c_add_9ea2d_20 : decode cJx4a65c_add_9ea2d 20 = .ok (.invokevirtual 131, 3) := by decide +kernel
theorem dJx4a65c_add_9ea2d_23 : decode cJx4a65c_add_9ea2d 23 = .ok (.iconst 1, 1) := by decide +kernel
theorem dJx4a65c_add_9ea2d_24 : decode cJx4a65c_add_9ea2d 24 = .ok (.ireturn, 1) := by decide +kernel
theorem dJx4a65c_add_7a177_0 : decode cJx4a65c_add_7a177 0 = .ok (.aload_n 0, 1) := by decide +kernel
theorem dJx4a65c_add_7a177_1 : decode cJx4a65c_add_7a177 1 = .ok (.iload_n 1, 1) := by decide +kernel
theorem dJx4a65c_add_7a177_2 : decode cJx4a65c_add_7a177 2 = .ok (.invokevirtual 135, 3) := by decide +kernel
theorem dJx4a65c_add_7a177_5 : decode cJx4a65c_add_7a177 5 = .ok (.aload_n 0, 1) := by decide +kernel
theorem dJx4a65c_add_7a177_6 : decode cJx4a65c_add_7a177 6 = .ok (.dup, 1) := by decide +kernel
theorem dJx4a65c_add_7a177_7 : decode cJx4a65c_add_7a177 7 = .ok (.getfield 63, 3) := by decide +kernel
theorem dJx4a65c_add_7a177_10 : decode cJx4a65c_add_7a177 10 = .ok (.iconst 1, 1) := by decide +kernel
theorem dJx4a65c_add_7a177_11 : decode cJx4a65c_add_7a177 11 = .ok (.iadd, 1) := by decide +kernel
theorem dJx4a65c_add_7a177_12 : decode cJx4a65c_add_7a177 12 = .ok (.putfield 63, 3) := by decide +kernel
theorem dJx4a65c_add_7a177_15 : decode cJx4a65c_add_7a177 15 = .ok (.aload_n 0, 1) := by decide +kernel
theorem dJx4a65c_add_7a177_16 : decode cJx4a65c_add_7a177 16 = .ok (.getfield 48, 3) := by decide +kernel
theorem dJx4a65c_add_7a177_19 : decode cJx4a65c_add_7a177 19 = .ok (.dup, 1) := by decide +kernel
theorem dJx4a65c_add_7a177_20 : decode cJx4a65c_add_7a177 20 = .ok (.istore_n 3, 1) := by decide +kernel
theorem dJx4a65c_add_7a177_21 : decode cJx4a65c_add_7a177 21 = .ok (.aload_n 0, 1) := by decide +kernel
theorem dJx4a65c_add_7a177_22 : decode cJx4a65c_add_7a177 22 = .ok (.getfield 9, 3) := by decide +kernel
theorem dJx4a65c_add_7a177_25 : decode cJx4a65c_add_7a177 25 = .ok (.dup, 1) := by decide +kernel
theorem dJx4a65c_add_7a177_26 : decode cJx4a65c_add_7a177 26 = .ok (.astore 4, 2) := by decide +kernel
theorem dJx4a65c_add_7a177_28 : decode cJx4a65c_add_7a177 28 = .ok (.arraylength, 1) := by decide +kernel
theorem dJx4a65c_add_7a177_29 : decode cJx4a65c_add_7a177 29 = .ok (.if_icmp .ne 9, 3) := by decide +kernel
theorem dJx4a65c_add_7a177_32 : decode cJx4a65c_add_7a177 32 = .ok (.aload_n 0, 1) := by decide +kernel
theorem dJx4a65c_add_7a177_33 : decode cJx4a65c_add_7a177 33 = .ok (.invokevirtual 129, 3) := by decide +kernel
theorem dJx4a65c_add_7a177_36 : decode cJx4a65c_add_7a177 36 = .ok (.astore 4, 2) := by decide +kernel
theorem dJx4a65c_add_7a177_38 : decode cJx4a65c_add_7a177 38 = .ok (.aload 4, 2) := by decide +kernel
theorem dJx4a65c_add_7a177_40 : decode cJx4a65c_add_7a177 40 = .ok (.iload_n 1, 1) := by decide +kernel
theorem dJx4a65c_add_7a177_41 : decode cJx4a65c_add_7a177 41 = .ok (.aload 4, 2) := by decide +kernel
theorem dJx4a65c_add_7a177_43 : decode cJx4a65c_add_7a177 43 = .ok (.iload_n 1, 1) := by decide +kernel
theorem dJx4a65c_add_7a177_44 : decode cJx4a65c_add_7a177 44 = .ok (.iconst 1, 1) := by decide +kernel
theorem dJx4a65c_add_7a177_45 : decode cJx4a65c_add_7a177 45 = .ok (.iadd, 1) := by decide +kernel
theorem dJx4a65c_add_7a177_46 : decode cJx4a65c_add_7a177 46 = .ok (.iload_n 3, 1) := by decide +kernel
theorem dJx4a65c_add_7a177_47 : decode cJx4a65c_add_7a177 47 = .ok (.iload_n 1, 1) := by decide +kernel
theorem dJx4a65c_add_7a177_48 : decode cJx4a65c_add_7a177 48 = .ok (.isub, 1) := by decide +kernel
theorem dJx4a65c_add_7a177_49 : decode cJx4a65c_add_7a177 49 = .ok (.invokestatic 112, 3) := by decide +kernel
theorem dJx4a65c_add_7a177_52 : decode cJx4a65c_add_7a177 52 = .ok (.aload 4, 2) := by decide +kernel
theorem dJx4a65c_add_7a177_54 : decode cJx4a65c_add_7a177 54 = .ok (.iload_n 1, 1) := by decide +kernel
theorem dJx4a65c_add_7a177_55 : decode cJx4a65c_add_7a177 55 = .ok (.aload_n 2, 1) := by decide +kernel
theorem dJx4a65c_add_7a177_56 : decode cJx4a65c_add_7a177 56 = .ok (.aastore, 1) := by decide +kernel
theorem dJx4a65c_add_7a177_57 : decode cJx4a65c_add_7a177 57 = .ok (.aload_n 0, 1) := by decide +kernel
theorem dJx4a65c_add_7a177_58 : decode cJx4a65c_add_7a177 58 = .ok (.iload_n 3, 1) := by decide +kernel
theorem dJx4a65c_add_7a177_59 : decode cJx4a65c_add_7a177 59 = .ok (.iconst 1, 1) := by decide +kernel
theorem dJx4a65c_add_7a177_60 : decode cJx4a65c_add_7a177 60 = .ok (.iadd, 1) := by decide +kernel
theorem dJx4a65c_add_7a177_61 : decode cJx4a65c_add_7a177 61 = .ok (.putfield 48, 3) := by decide +kernel
theorem dJx4a65c_add_7a177_64 : decode cJx4a65c_add_7a177 64 = .ok (.return_, 1) := by decide +kernel
theorem dJx4a65c_remove_915e3_0 : decode cJx4a65c_remove_915e3 0 = .ok (.iload_n 1, 1) := by decide +kernel
theorem dJx4a65c_remove_915e3_1 : decode cJx4a65c_remove_915e3 1 = .ok (.aload_n 0, 1) := by decide +kernel
theorem dJx4a65c_remove_915e3_2 : decode cJx4a65c_remove_915e3 2 = .ok (.getfield 48, 3) := by decide +kernel
theorem dJx4a65c_remove_915e3_5 : decode cJx4a65c_remove_915e3 5 = .ok (.invokestatic 118, 3) := by decide +kernel
theorem dJx4a65c_remove_915e3_8 : decode cJx4a65c_remove_915e3 8 = .ok (.pop, 1) := by decide +kernel
theorem dJx4a65c_remove_915e3_9 : decode cJx4a65c_remove_915e3 9 = .ok (.aload_n 0, 1) := by decide +kernel
theorem dJx4a65c_remove_915e3_10 : decode cJx4a65c_remove_915e3 10 = .ok (.getfield 9, 3) := by decide +kernel
theorem dJx4a65c_remove_915e3_13 : decode cJx4a65c_remove_915e3 13 = .ok (.astore_n 2, 1) := by decide +kernel
theorem dJx4a65c_remove_915e3_14 : decode cJx4a65c_remove_915e3 14 = .ok (.aload_n 2, 1) := by decide +kernel
theorem dJx4a65c_remove_915e3_15 : decode cJx4a65c_remove_915e3 15 = .ok (.iload_n 1, 1) := by decide +kernel
theorem dJx4a65c_remove_915e3_16 : decode cJx4a65c_remove_915e3 16 = .ok (.aaload, 1) := by decide +kernel
theorem dJx4a65c_remove_915e3_17 : decode cJx4a65c_remove_915e3 17 = .ok (.astore_n 3, 1) := by decide +kernel
theorem dJx4a65c_remove_915e3_18 : decode cJx4a65c_remove_915e3 18 = .ok (.aload_n 0, 1) := by decide +kernel
theorem dJx4a65c_remove_915e3_19 : decode cJx4a65c_remove_915e3 19 = .ok (.aload_n 2, 1) := by decide +kernel
theorem dJx4a65c_remove_915e3_20 : decode cJx4a65c_remove_915e3 20 = .ok (.iload_n 1, 1) := by decide +kernel
theorem dJx4a65c_remove_915e3_21 : decode cJx4a65c_remove_915e3 21 = .ok (.invokevirtual 144, 3) := by decide +kernel
theorem dJx4a65c_remove_915e3_24 : decode cJx4a65c_remove_915e3 24 = .ok (.aload_n 3, 1) := by decide +kernel
theorem dJx4a65c_remove_915e3_25 : decode cJx4a65c_remove_915e3 25 = .ok (.areturn, 1) := by decide +kernel
theorem dJx4a65c_fastRemove_b59b0_0 : decode cJx4a65c_fastRemove_b59b0 0 = .ok (.aload_n 0, 1) := by decide +kernel
theorem dJx4a65c_fastRemove_b59b0_1 : decode cJx4a65c_fastRemove_b59b0 1 = .ok (.dup, 1) := by decide +kernel
theorem dJx4a65c_fastRemove_b59b0_2 : decode cJx4a65c_fastRemove_b59b0 2 = .ok (.getfield 63, 3) := by decide +kernel
theorem dJx4a65c_fastRemove_b59b0_5 : decode cJx4a65c_fastRemove_b59b0 5 = .ok (.iconst 1, 1) := by decide +kernel
theorem dJx4a65c_fastRemove_b59b0_6 : decode cJx4a65c_fastRemove_b59b0 6 = .ok (.iadd, 1) := by decide +kernel
theorem dJx4a65c_fastRemove_b59b0_7 : decode cJx4a65c_fastRemove_b59b0 7 = .ok (.putfield 63, 3) := by decide +kernel
theorem dJx4a65c_fastRemove_b59b0_10 : decode cJx4a65c_fastRemove_b59b0 10 = .ok (.aload_n 0, 1) := by decide +kernel
theorem dJx4a65c_fastRemove_b59b0_11 : decode cJx4a65c_fastRemove_b59b0 11 = .ok (.getfield 48, 3) := by decide +kernel
theorem dJx4a65c_fastRemove_b59b0_14 : decode cJx4a65c_fastRemove_b59b0 14 = .ok (.iconst 1, 1) := by decide +kernel
theorem dJx4a65c_fastRemove_b59b0_15 : decode cJx4a65c_fastRemove_b59b0 15 = .ok (.isub, 1) := by decide +kernel
theorem dJx4a65c_fastRemove_b59b0_16 : decode cJx4a65c_fastRemove_b59b0 16 = .ok (.dup, 1) := by decide +kernel
theorem dJx4a65c_fastRemove_b59b0_17 : decode cJx4a65c_fastRemove_b59b0 17 = .ok (.istore_n 3, 1) := by decide +kernel
theorem dJx4a65c_fastRemove_b59b0_18 : decode cJx4a65c_fastRemove_b59b0 18 = .ok (.iload_n 2, 1) := by decide +kernel
theorem dJx4a65c_fastRemove_b59b0_19 : decode cJx4a65c_fastRemove_b59b0 19 = .ok (.if_icmp .le 15, 3) := by decide +kernel
theorem dJx4a65c_fastRemove_b59b0_22 : decode cJx4a65c_fastRemove_b59b0 22 = .ok (.aload_n 1, 1) := by decide +kernel
theorem dJx4a65c_fastRemove_b59b0_23 : decode cJx4a65c_fastRemove_b59b0 23 = .ok (.iload_n 2, 1) := by decide +kernel
theorem dJx4a65c_fastRemove_b59b0_24 : decode cJx4a65c_fastRemove_b59b0 24 = .ok (.iconst 1, 1) := by decide +kernel
theorem dJx4a65c_fastRemove_b59b0_25 : decode cJx4a65c_fastRemove_b59b0 25 = .ok (.iadd, 1) := by decide +kernel
theorem dJx4a65c_fastRemove_b59b0_26 : decode cJx4a65c_fastRemove_b59b0 26 = .ok (.aload_n 1, 1) := by decide +kernel
theorem dJx4a65c_fastRemove_b59b0_27 : decode cJx4a65c_fastRemove_b59b0 27 = .ok (.iload_n 2, 1) := by decide +kernel
theorem dJx4a65c_fastRemove_b59b0_28 : decode cJx4a65c_fastRemove_b59b0 28 = .ok (.iload_n 3, 1) := by decide +kernel
theorem dJx4a65c_fastRemove_b59b0_29 : decode cJx4a65c_fastRemove_b59b0 29 = .ok (.iload_n 2, 1) := by decide +kernel
theorem dJx4a65c_fastRemove_b59b0_30 : decode cJx4a65c_fastRemove_b59b0 30 = .ok (.isub, 1) := by decide +kernel
theorem dJx4a65c_fastRemove_b59b0_31 : decode cJx4a65c_fastRemove_b59b0 31 = .ok (.invokestatic 112, 3) := by decide +kernel
theorem dJx4a65c_fastRemove_b59b0_34 : decode cJx4a65c_fastRemove_b59b0 34 = .ok (.aload_n 1, 1) := by decide +kernel
theorem dJx4a65c_fastRemove_b59b0_35 : decode cJx4a65c_fastRemove_b59b0 35 = .ok (.aload_n 0, 1) := by decide +kernel
theorem dJx4a65c_fastRemove_b59b0_36 : decode cJx4a65c_fastRemove_b59b0 36 = .ok (.iload_n 3, 1) := by decide +kernel
theorem dJx4a65c_fastRemove_b59b0_37 : decode cJx4a65c_fastRemove_b59b0 37 = .ok (.dup_x1, 1) := by decide +kernel
theorem dJx4a65c_fastRemove_b59b0_38 : decode cJx4a65c_fastRemove_b59b0 38 = .ok (.putfield 48, 3) := by decide +kernel
theorem dJx4a65c_fastRemove_b59b0_41 : decode cJx4a65c_fastRemove_b59b0 41 = .ok (.aconst_null, 1) := by decide +kernel
theorem dJx4a65c_fastRemove_b59b0_42 : decode cJx4a65c_fastRemove_b59b0 42 = .ok (.aastore, 1) := by decide +kernel
theorem dJx4a65c_fastRemove_b59b0_43 : decode cJx4a65c_fastRemove_b59b0 43 = .ok (.return_, 1) := by decide +kernel
theorem dJx4a65c_clear_da8c8_0 : decode cJx4a65c_clear_da8c8 0 = .ok (.aload_n 0, 1) := by decide +kernel
theorem dJx4a65c_clear_da8c8_1 : decode cJx4a65c_clear_da8c8 1 = .ok (.dup, 1) := by decide +kernel
theorem dJx4a65c_clear_da8c8_2 : decode cJx4a65c_clear_da8c8 2 = .ok (.getfield 63, 3) := by decide +kernel
theorem dJx4a65c_clear_da8c8_5 : decode cJx4a65c_clear_da8c8 5 = .ok (.iconst 1, 1) := by decide +kernel
theorem dJx4a65c_clear_da8c8_6 : decode cJx4a65c_clear_da8c8 6 = .ok (.iadd, 1) := by decide +kernel
theorem dJx4a65c_clear_da8c8_7 : decode cJx4a65c_clear_da8c8 7 = .ok (.putfield 63, 3) := by decide +kernel
theorem dJx4a65c_clear_da8c8_10 : decode cJx4a65c_clear_da8c8 10 = .ok (.aload_n 0, 1) := by decide +kernel
theorem dJx4a65c_clear_da8c8_11 : decode cJx4a65c_clear_da8c8 11 = .ok (.getfield 9, 3) := by decide +kernel
theorem dJx4a65c_clear_da8c8_14 : decode cJx4a65c_clear_da8c8 14 = .ok (.astore_n 1, 1) := by decide +kernel
theorem dJx4a65c_clear_da8c8_15 : decode cJx4a65c_clear_da8c8 15 = .ok (.aload_n 0, 1) := by decide +kernel
theorem dJx4a65c_clear_da8c8_16 : decode cJx4a65c_clear_da8c8 16 = .ok (.getfield 48, 3) := by decide +kernel
theorem dJx4a65c_clear_da8c8_19 : decode cJx4a65c_clear_da8c8 19 = .ok (.istore_n 2, 1) := by decide +kernel
theorem dJx4a65c_clear_da8c8_20 : decode cJx4a65c_clear_da8c8 20 = .ok (.aload_n 0, 1) := by decide +kernel
theorem dJx4a65c_clear_da8c8_21 : decode cJx4a65c_clear_da8c8 21 = .ok (.iconst 0, 1) := by decide +kernel
theorem dJx4a65c_clear_da8c8_22 : decode cJx4a65c_clear_da8c8 22 = .ok (.dup_x1, 1) := by decide +kernel
theorem dJx4a65c_clear_da8c8_23 : decode cJx4a65c_clear_da8c8 23 = .ok (.putfield 48, 3) := by decide +kernel
theorem dJx4a65c_clear_da8c8_26 : decode cJx4a65c_clear_da8c8 26 = .ok (.istore_n 3, 1) := by decide +kernel
theorem dJx4a65c_clear_da8c8_27 : decode cJx4a65c_clear_da8c8 27 = .ok (.iload_n 3, 1) := by decide +kernel
theorem dJx4a65c_clear_da8c8_28 : decode cJx4a65c_clear_da8c8 28 = .ok (.iload_n 2, 1) := by decide +kernel
theorem dJx4a65c_clear_da8c8_29 : decode cJx4a65c_clear_da8c8 29 = .ok (.if_icmp .ge 13, 3) := by decide +kernel
theorem dJx4a65c_clear_da8c8_32 : decode cJx4a65c_clear_da8c8 32 = .ok (.aload_n 1, 1) := by decide +kernel
theorem dJx4a65c_clear_da8c8_33 : decode cJx4a65c_clear_da8c8 33 = .ok (.iload_n 3, 1) := by decide +kernel
theorem dJx4a65c_clear_da8c8_34 : decode cJx4a65c_clear_da8c8 34 = .ok (.aconst_null, 1) := by decide +kernel
theorem dJx4a65c_clear_da8c8_35 : decode cJx4a65c_clear_da8c8 35 = .ok (.aastore, 1) := by decide +kernel
theorem dJx4a65c_clear_da8c8_36 : decode cJx4a65c_clear_da8c8 36 = .ok (.iinc 3 1, 3) := by decide +kernel
theorem dJx4a65c_clear_da8c8_39 : decode cJx4a65c_clear_da8c8 39 = .ok (.goto (-12), 3) := by decide +kernel
theorem dJx4a65c_clear_da8c8_42 : decode cJx4a65c_clear_da8c8 42 = .ok (.return_, 1) := by decide +kernel
theorem dJx4a65c_rangeCheckForAdd_d00df_0 : decode cJx4a65c_rangeCheckForAdd_d00df 0 = .ok (.iload_n 1, 1) := by decide +kernel
theorem dJx4a65c_rangeCheckForAdd_d00df_1 : decode cJx4a65c_rangeCheckForAdd_d00df 1 = .ok (.aload_n 0, 1) := by decide +kernel
theorem dJx4a65c_rangeCheckForAdd_d00df_2 : decode cJx4a65c_rangeCheckForAdd_d00df 2 = .ok (.getfield 48, 3) := by decide +kernel
theorem dJx4a65c_rangeCheckForAdd_d00df_5 : decode cJx4a65c_rangeCheckForAdd_d00df 5 = .ok (.if_icmp .gt 7, 3) := by decide +kernel
theorem dJx4a65c_rangeCheckForAdd_d00df_8 : decode cJx4a65c_rangeCheckForAdd_d00df 8 = .ok (.iload_n 1, 1) := by decide +kernel
theorem dJx4a65c_rangeCheckForAdd_d00df_9 : decode cJx4a65c_rangeCheckForAdd_d00df 9 = .ok (.ifCond .ge 16, 3) := by decide +kernel
theorem dJx4a65c_rangeCheckForAdd_d00df_12 : decode cJx4a65c_rangeCheckForAdd_d00df 12 = .ok (.new 187, 3) := by decide +kernel
theorem dJx4a65c_rangeCheckForAdd_d00df_15 : decode cJx4a65c_rangeCheckForAdd_d00df 15 = .ok (.dup, 1) := by decide +kernel
theorem dJx4a65c_rangeCheckForAdd_d00df_16 : decode cJx4a65c_rangeCheckForAdd_d00df 16 = .ok (.aload_n 0, 1) := by decide +kernel
theorem dJx4a65c_rangeCheckForAdd_d00df_17 : decode cJx4a65c_rangeCheckForAdd_d00df 17 = .ok (.iload_n 1, 1) := by decide +kernel
theorem dJx4a65c_rangeCheckForAdd_d00df_18 : decode cJx4a65c_rangeCheckForAdd_d00df 18 = .ok (.invokevirtual 198, 3) := by decide +kernel
theorem dJx4a65c_rangeCheckForAdd_d00df_21 : decode cJx4a65c_rangeCheckForAdd_d00df 21 = .ok (.invokespecial 193, 3) := by decide +kernel
theorem dJx4a65c_rangeCheckForAdd_d00df_24 : decode cJx4a65c_rangeCheckForAdd_d00df 24 = .ok (.athrow, 1) := by decide +kernel
theorem dJx4a65c_rangeCheckForAdd_d00df_25 : decode cJx4a65c_rangeCheckForAdd_d00df 25 = .ok (.return_, 1) := by decide +kernel
theorem dJ7_copyOf_1904c_0 : decode cJ7_copyOf_1904c 0 = .ok (.aload_n 0, 1) := by decide +kernel
theorem dJ7_copyOf_1904c_1 : decode cJ7_copyOf_1904c 1 = .ok (.iload_n 1, 1) := by decide +kernel
theorem dJ7_copyOf_1904c_2 : decode cJ7_copyOf_1904c 2 = .ok (.aload_n 0, 1) := by decide +kernel
theorem dJ7_copyOf_1904c_3 : decode cJ7_copyOf_1904c 3 = .ok (.invokevirtual 86, 3) := by decide +kernel
theorem dJ7_copyOf_1904c_6 : decode cJ7_copyOf_1904c 6 = .ok (.invokestatic 300, 3) := by decide +kernel
theorem dJ7_copyOf_1904c_9 : decode cJ7_copyOf_1904c 9 = .ok (.areturn, 1) := by decide +kernel
theorem dJ7_copyOf_6403c_0 : decode cJ7_copyOf_6403c 0 = .ok (.aload_n 2, 1) := by decide +kernel
theorem dJ7_copyOf_6403c_1 : decode cJ7_copyOf_6403c 1 = .ok (.ldc 110, 2) := by decide +kernel
theorem dJ7_copyOf_6403c_3 : decode cJ7_copyOf_6403c 3 = .ok (.if_acmp .ne 10, 3) := by decide +kernel
theorem dJ7_copyOf_6403c_6 : decode cJ7_copyOf_6403c 6 = .ok (.iload_n 1, 1) := by decide +kernel
theorem dJ7_copyOf_6403c_7 : decode cJ7_copyOf_6403c 7 = .ok (.anewarray 2, 3) := by decide +kernel
theorem dJ7_copyOf_6403c_10 : decode cJ7_copyOf_6403c 10 = .ok (.goto 14, 3) := by decide +kernel
theorem dJ7_copyOf_6403c_13 : decode cJ7_copyOf_6403c 13 = .ok (.aload_n 2, 1) := by decide +kernel
theorem dJ7_copyOf_6403c_14 : decode cJ7_copyOf_6403c 14 = .ok (.invokevirtual 90, 3) := by decide +kernel
theorem dJ7_copyOf_6403c_17 : decode cJ7_copyOf_6403c 17 = .ok (.iload_n 1, 1) := by decide +kernel
theorem dJ7_copyOf_6403c_18 : decode cJ7_copyOf_6403c 18 = .ok (.invokestatic 95, 3) := by decide +kernel
theorem dJ7_copyOf_6403c_21 : decode cJ7_copyOf_6403c 21 = .ok (.checkcast 110, 3) := by decide +kernel
theorem dJ7_copyOf_6403c_24 : decode cJ7_copyOf_6403c 24 = .ok (.astore_n 3, 1) := by decide +kernel
theorem dJ7_copyOf_6403c_25 : decode cJ7_copyOf_6403c 25 = .ok (.aload_n 0, 1) := by decide +kernel
theorem dJ7_copyOf_6403c_26 : decode cJ7_copyOf_6403c 26 = .ok (.iconst 0, 1) := by decide +kernel
theorem dJ7_copyOf_6403c_27 : decode cJ7_copyOf_6403c 27 = .ok (.aload_n 3, 1) := by decide +kernel
theorem dJ7_copyOf_6403c_28 : decode cJ7_copyOf_6403c 28 = .ok (.iconst 0, 1) := by decide +kernel
theorem dJ7_copyOf_6403c_29 : decode cJ7_copyOf_6403c 29 = .ok (.aload_n 0, 1) := by decide +kernel
theorem dJ7_copyOf_6403c_30 : decode cJ7_copyOf_6403c 30 = .ok (.arraylength, 1) := by decide +kernel
theorem dJ7_copyOf_6403c_31 : decode cJ7_copyOf_6403c 31 = .ok (.iload_n 1, 1) := by decide +kernel
theorem dJ7_copyOf_6403c_32 : decode cJ7_copyOf_6403c 32 = .ok (.invokestatic 304, 3) := by decide +kernel
theorem dJ7_copyOf_6403c_35 : decode cJ7_copyOf_6403c 35 = .ok (.invokestatic 150, 3) := by decide +kernel
theorem dJ7_copyOf_6403c_38 : decode cJ7_copyOf_6403c 38 = .ok (.aload_n 3, 1) := by decide +kernel
theorem dJ7_copyOf_6403c_39 : decode cJ7_copyOf_6403c 39 = .ok (.areturn, 1) := by decide +kernel
theorem dJ15_checkIndex_7cf53_0 : decode cJ15_checkIndex_7cf53 0 = .ok (.iload_n 0, 1) := by decide +kernel
theorem dJ15_checkIndex_7cf53_1 : decode cJ15_checkIndex_7cf53 1 = .ok (.iload_n 1, 1) := by decide +kernel
theorem dJ15_checkIndex_7cf53_2 : decode cJ15_checkIndex_7cf53 2 = .ok (.aconst_null, 1) := by decide +kernel
theorem dJ15_checkIndex_7cf53_3 : decode cJ15_checkIndex_7cf53 3 = .ok (.invokestatic 105, 3) := by decide +kernel
theorem dJ15_checkIndex_7cf53_6 : decode cJ15_checkIndex_7cf53 6 = .ok (.ireturn, 1) := by decide +kernel
theorem dJ8_newLength_cabcc_0 : decode cJ8_newLength_cabcc 0 = .ok (.iload_n 0, 1) := by decide +kernel
theorem dJ8_newLength_cabcc_1 : decode cJ8_newLength_cabcc 1 = .ok (.iload_n 1, 1) := by decide +kernel
theorem dJ8_newLength_cabcc_2 : decode cJ8_newLength_cabcc 2 = .ok (.iload_n 2, 1) := by decide +kernel
theorem dJ8_newLength_cabcc_3 : decode cJ8_newLength_cabcc 3 = .ok (.invokestatic 194, 3) := by decide +kernel
theorem dJ8_newLength_cabcc_6 : decode cJ8_newLength_cabcc 6 = .ok (.iadd, 1) := by decide +kernel
theorem dJ8_newLength_cabcc_7 : decode cJ8_newLength_cabcc 7 = .ok (.istore_n 3, 1) := by decide +kernel
theorem dJ8_newLength_cabcc_8 : decode cJ8_newLength_cabcc 8 = .ok (.iconst 0, 1) := by decide +kernel
theorem dJ8_newLength_cabcc_9 : decode cJ8_newLength_cabcc 9 = .ok (.iload_n 3, 1) := by decide +kernel
theorem dJ8_newLength_cabcc_10 : decode cJ8_newLength_cabcc 10 = .ok (.if_icmp .ge 11, 3) := by decide +kernel
theorem dJ8_newLength_cabcc_13 : decode cJ8_newLength_cabcc 13 = .ok (.iload_n 3, 1) := by decide +kernel
theorem dJ8_newLength_cabcc_14 : decode cJ8_newLength_cabcc 14 = .ok (.ldc 200, 2) := by decide +kernel
theorem dJ8_newLength_cabcc_16 : decode cJ8_newLength_cabcc 16 = .ok (.if_icmp .gt 5, 3) := by decide +kernel
theorem dJ8_newLength_cabcc_19 : decode cJ8_newLength_cabcc 19 = .ok (.iload_n 3, 1) := by decide +kernel
theorem dJ8_newLength_cabcc_20 : decode cJ8_newLength_cabcc 20 = .ok (.ireturn, 1) := by decide +kernel
theorem dJ8_newLength_cabcc_21 : decode cJ8_newLength_cabcc 21 = .ok (.iload_n 0, 1) := by decide +kernel
theorem dJ8_newLength_cabcc_22 : decode cJ8_newLength_cabcc 22 = .ok (.iload_n 1, 1) := by decide +kernel
theorem dJ8_newLength_cabcc_23 : decode cJ8_newLength_cabcc 23 = .ok (.invokestatic 201, 3) := by decide +kernel
theorem dJ8_newLength_cabcc_26 : decode cJ8_newLength_cabcc 26 = .ok (.ireturn, 1) := by decide +kernel
theorem dJ3_checkIndex_8e157_0 : decode cJ3_checkIndex_8e157 0 = .ok (.iload_n 0, 1) := by decide +kernel
theorem dJ3_checkIndex_8e157_1 : decode cJ3_checkIndex_8e157 1 = .ok (.ifCond .lt 8, 3) := by decide +kernel
theorem dJ3_checkIndex_8e157_4 : decode cJ3_checkIndex_8e157 4 = .ok (.iload_n 0, 1) := by decide +kernel
theorem dJ3_checkIndex_8e157_5 : decode cJ3_checkIndex_8e157 5 = .ok (.iload_n 1, 1) := by decide +kernel
theorem dJ3_checkIndex_8e157_6 : decode cJ3_checkIndex_8e157 6 = .ok (.if_icmp .lt 10, 3) := by decide +kernel
theorem dJ3_checkIndex_8e157_9 : decode cJ3_checkIndex_8e157 9 = .ok (.aload_n 2, 1) := by decide +kernel
theorem dJ3_checkIndex_8e157_10 : decode cJ3_checkIndex_8e157 10 = .ok (.iload_n 0, 1) := by decide +kernel
theorem dJ3_checkIndex_8e157_11 : decode cJ3_checkIndex_8e157 11 = .ok (.iload_n 1, 1) := by decide +kernel
theorem dJ3_checkIndex_8e157_12 : decode cJ3_checkIndex_8e157 12 = .ok (.invokestatic 95, 3) := by decide +kernel
theorem dJ3_checkIndex_8e157_15 : decode cJ3_checkIndex_8e157 15 = .ok (.athrow, 1) := by decide +kernel
theorem dJ3_checkIndex_8e157_16 : decode cJ3_checkIndex_8e157 16 = .ok (.iload_n 0, 1) := by decide +kernel
theorem dJ3_checkIndex_8e157_17 : decode cJ3_checkIndex_8e157 17 = .ok (.ireturn, 1) := by decide +kernel
