theorem dX1_init_0 : decode cX1_init 0 = .ok (.aload_n 0, 1) := by decide +kernel
theorem dX1_init_1 : decode cX1_init 1 = .ok (.invokespecial 3, 3) := by decide +kernel
theorem dX1_init_4 : decode cX1_init 4 = .ok (.aload_n 0, 1) := by decide +kernel
theorem dX1_init_5 : decode cX1_init 5 = .ok (.sipush 300, 3) := by decide +kernel
theorem dX1_init_8 : decode cX1_init 8 = .ok (.newarray .int, 2) := by decide +kernel
theorem dX1_init_10 : decode cX1_init 10 = .ok (.putfield 9, 3) := by decide +kernel
theorem dX1_init_13 : decode cX1_init 13 = .ok (.aload_n 0, 1) := by decide +kernel
theorem dX1_init_14 : decode cX1_init 14 = .ok (.sipush 300, 3) := by decide +kernel
theorem dX1_init_17 : decode cX1_init 17 = .ok (.newarray .int, 2) := by decide +kernel
theorem dX1_init_19 : decode cX1_init 19 = .ok (.putfield 15, 3) := by decide +kernel
theorem dX1_init_22 : decode cX1_init 22 = .ok (.aload_n 0, 1) := by decide +kernel
theorem dX1_init_23 : decode cX1_init 23 = .ok (.sipush 300, 3) := by decide +kernel
theorem dX1_init_26 : decode cX1_init 26 = .ok (.newarray .int, 2) := by decide +kernel
theorem dX1_init_28 : decode cX1_init 28 = .ok (.putfield 18, 3) := by decide +kernel
theorem dX1_init_31 : decode cX1_init 31 = .ok (.aload_n 0, 1) := by decide +kernel
theorem dX1_init_32 : decode cX1_init 32 = .ok (.sipush 300, 3) := by decide +kernel
theorem dX1_init_35 : decode cX1_init 35 = .ok (.newarray .int, 2) := by decide +kernel
theorem dX1_init_37 : decode cX1_init 37 = .ok (.putfield 21, 3) := by decide +kernel
theorem dX1_init_40 : decode cX1_init 40 = .ok (.aload_n 0, 1) := by decide +kernel
theorem dX1_init_41 : decode cX1_init 41 = .ok (.bipush 60, 2) := by decide +kernel
theorem dX1_init_43 : decode cX1_init 43 = .ok (.newarray .int, 2) := by decide +kernel
theorem dX1_init_45 : decode cX1_init 45 = .ok (.putfield 24, 3) := by decide +kernel
theorem dX1_init_48 : decode cX1_init 48 = .ok (.aload_n 0, 1) := by decide +kernel
theorem dX1_init_49 : decode cX1_init 49 = .ok (.bipush 60, 2) := by decide +kernel
theorem dX1_init_51 : decode cX1_init 51 = .ok (.newarray .int, 2) := by decide +kernel
theorem dX1_init_53 : decode cX1_init 53 = .ok (.putfield 27, 3) := by decide +kernel
theorem dX1_init_56 : decode cX1_init 56 = .ok (.aload_n 0, 1) := by decide +kernel
theorem dX1_init_57 : decode cX1_init 57 = .ok (.bipush 60, 2) := by decide +kernel
theorem dX1_init_59 : decode cX1_init 59 = .ok (.newarray .int, 2) := by decide +kernel
theorem dX1_init_61 : decode cX1_init 61 = .ok (.putfield 30, 3) := by decide +kernel
theorem dX1_init_64 : decode cX1_init 64 = .ok (.return_, 1) := by decide +kernel
theorem dX1_payments_0 : decode cX1_payments 0 = .ok (.aload_n 0, 1) := by decide +kernel
theorem dX1_payments_1 : decode cX1_payments 1 = .ok (.getfield 33, 3) := by decide +kernel
theorem dX1_payments_4 : decode cX1_payments 4 = .ok (.ireturn, 1) := by decide +kernel
theorem dX1_mendings_0 : decode cX1_mendings 0 = .ok (.aload_n 0, 1) := by decide +kernel
theorem dX1_mendings_1 : decode cX1_mendings 1 = .ok (.getfield 37, 3) := by decide +kernel
theorem dX1_mendings_4 : decode cX1_mendings 4 = .ok (.ireturn, 1) := by decide +kernel
theorem dX1_isFull_0 : decode cX1_isFull 0 = .ok (.aload_n 0, 1) := by decide +kernel
theorem dX1_isFull_1 : decode cX1_isFull 1 = .ok (.getfield 33, 3) := by decide +kernel
theorem dX1_isFull_4 : decode cX1_isFull 4 = .ok (.sipush 300, 3) := by decide +kernel
theorem dX1_isFull_7 : decode cX1_isFull 7 = .ok (.if_icmp .lt 7, 3) := by decide +kernel
theorem dX1_isFull_10 : decode cX1_isFull 10 = .ok (.iconst 1, 1) := by decide +kernel
theorem dX1_isFull_11 : decode cX1_isFull 11 = .ok (.goto 4, 3) := by decide +kernel
theorem dX1_isFull_14 : decode cX1_isFull 14 = .ok (.iconst 0, 1) := by decide +kernel
theorem dX1_isFull_15 : decode cX1_isFull 15 = .ok (.ireturn, 1) := by decide +kernel
theorem dX1_write_0 : decode cX1_write 0 = .ok (.aload_n 0, 1) := by decide +kernel
theorem dX1_write_1 : decode cX1_write 1 = .ok (.getfield 33, 3) := by decide +kernel
theorem dX1_write_4 : decode cX1_write 4 = .ok (.sipush 300, 3) := by decide +kernel
theorem dX1_write_7 : decode cX1_write 7 = .ok (.if_icmp .lt 4, 3) := by decide +kernel
theorem dX1_write_10 : decode cX1_write 10 = .ok (.return_, 1) := by decide +kernel
theorem dX1_write_11 : decode cX1_write 11 = .ok (.aload_n 0, 1) := by decide +kernel
theorem dX1_write_12 : decode cX1_write 12 = .ok (.getfield 9, 3) := by decide +kernel
theorem dX1_write_15 : decode cX1_write 15 = .ok (.aload_n 0, 1) := by decide +kernel
theorem dX1_write_16 : decode cX1_write 16 = .ok (.getfield 33, 3) := by decide +kernel
theorem dX1_write_19 : decode cX1_write 19 = .ok (.iload_n 1, 1) := by decide +kernel
theorem dX1_write_20 : decode cX1_write 20 = .ok (.iastore, 1) := by decide +kernel
theorem dX1_write_21 : decode cX1_write 21 = .ok (.aload_n 0, 1) := by decide +kernel
theorem dX1_write_22 : decode cX1_write 22 = .ok (.getfield 15, 3) := by decide +kernel
theorem dX1_write_25 : decode cX1_write 25 = .ok (.aload_n 0, 1) := by decide +kernel
theorem dX1_write_26 : decode cX1_write 26 = .ok (.getfield 33, 3) := by decide +kernel
theorem dX1_write_29 : decode cX1_write 29 = .ok (.iload_n 2, 1) := by decide +kernel
theorem dX1_write_30 : decode cX1_write 30 = .ok (.iastore, 1) := by decide +kernel
theorem dX1_write_31 : decode cX1_write 31 = .ok (.aload_n 0, 1) := by decide +kernel
theorem dX1_write_32 : decode cX1_write 32 = .ok (.getfield 18, 3) := by decide +kernel
theorem dX1_write_35 : decode cX1_write 35 = .ok (.aload_n 0, 1) := by decide +kernel
theorem dX1_write_36 : decode cX1_write 36 = .ok (.getfield 33, 3) := by decide +kernel
theorem dX1_write_39 : decode cX1_write 39 = .ok (.iload_n 3, 1) := by decide +kernel
theorem dX1_write_40 : decode cX1_write 40 = .ok (.iastore, 1) := by decide +kernel
theorem dX1_write_41 : decode cX1_write 41 = .ok (.aload_n 0, 1) := by decide +kernel
theorem dX1_write_42 : decode cX1_write 42 = .ok (.getfield 21, 3) := by decide +kernel
theorem dX1_write_45 : decode cX1_write 45 = .ok (.aload_n 0, 1) := by decide +kernel
theorem dX1_write_46 : decode cX1_write 46 = .ok (.getfield 33, 3) := by decide +kernel
theorem dX1_write_49 : decode cX1_write 49 = .ok (.iload 4, 2) := by decide +kernel
theorem dX1_write_51 : decode cX1_write 51 = .ok (.iastore, 1) := by decide +kernel
theorem dX1_write_52 : decode cX1_write 52 = .ok (.aload_n 0, 1) := by decide +kernel
theorem dX1_write_53 : decode cX1_write 53 = .ok (.dup, 1) := by decide +kernel
theorem dX1_write_54 : decode cX1_write 54 = .ok (.getfield 33, 3) := by decide +kernel
theorem dX1_write_57 : decode cX1_write 57 = .ok (.iconst 1, 1) := by decide +kernel
theorem dX1_write_58 : decode cX1_write 58 = .ok (.iadd, 1) := by decide +kernel
theorem dX1_write_59 : decode cX1_write 59 = .ok (.putfield 33, 3) := by decide +kernel
theorem dX1_write_62 : decode cX1_write 62 = .ok (.return_, 1) := by decide +kernel
theorem dX1_mendSum_0 : decode cX1_mendSum 0 = .ok (.aload_n 0, 1) := by decide +kernel
theorem dX1_mendSum_1 : decode cX1_mendSum 1 = .ok (.getfield 37, 3) := by decide +kernel
theorem dX1_mendSum_4 : decode cX1_mendSum 4 = .ok (.bipush 60, 2) := by decide +kernel
theorem dX1_mendSum_6 : decode cX1_mendSum 6 = .ok (.if_icmp .lt 4, 3) := by decide +kernel
theorem dX1_mendSum_9 : decode cX1_mendSum 9 = .ok (.return_, 1) := by decide +kernel
theorem dX1_mendSum_10 : decode cX1_mendSum 10 = .ok (.aload_n 0, 1) := by decide +kernel
theorem dX1_mendSum_11 : decode cX1_mendSum 11 = .ok (.getfield 24, 3) := by decide +kernel
theorem dX1_mendSum_14 : decode cX1_mendSum 14 = .ok (.aload_n 0, 1) := by decide +kernel
theorem dX1_mendSum_15 : decode cX1_mendSum 15 = .ok (.getfield 37, 3) := by decide +kernel
theorem dX1_mendSum_18 : decode cX1_mendSum 18 = .ok (.iload_n 1, 1) := by decide +kernel
theorem dX1_mendSum_19 : decode cX1_mendSum 19 = .ok (.iastore, 1) := by decide +kernel
theorem dX1_mendSum_20 : decode cX1_mendSum 20 = .ok (.aload_n 0, 1) := by decide +kernel
theorem dX1_mendSum_21 : decode cX1_mendSum 21 = .ok (.getfield 27, 3) := by decide +kernel
theorem dX1_mendSum_24 : decode cX1_mendSum 24 = .ok (.aload_n 0, 1) := by decide +kernel
theorem dX1_mendSum_25 : decode cX1_mendSum 25 = .ok (.getfield 37, 3) := by decide +kernel
theorem dX1_mendSum_28 : decode cX1_mendSum 28 = .ok (.iload_n 2, 1) := by decide +kernel
theorem dX1_mendSum_29 : decode cX1_mendSum 29 = .ok (.iastore, 1) := by decide +kernel
theorem dX1_mendSum_30 : decode cX1_mendSum 30 = .ok (.aload_n 0, 1) := by decide +kernel
theorem dX1_mendSum_31 : decode cX1_mendSum 31 = .ok (.getfield 30, 3) := by decide +kernel
theorem dX1_mendSum_34 : decode cX1_mendSum 34 = .ok (.aload_n 0, 1) := by decide +kernel
theorem dX1_mendSum_35 : decode cX1_mendSum 35 = .ok (.getfield 37, 3) := by decide +kernel
theorem dX1_mendSum_38 : decode cX1_mendSum 38 = .ok (.iload_n 3, 1) := by decide +kernel
theorem dX1_mendSum_39 : decode cX1_mendSum 39 = .ok (.iastore, 1) := by decide +kernel
theorem dX1_mendSum_40 : decode cX1_mendSum 40 = .ok (.aload_n 0, 1) := by decide +kernel
theorem dX1_mendSum_41 : decode cX1_mendSum 41 = .ok (.dup, 1) := by decide +kernel
theorem dX1_mendSum_42 : decode cX1_mendSum 42 = .ok (.getfield 37, 3) := by decide +kernel
theorem dX1_mendSum_45 : decode cX1_mendSum 45 = .ok (.iconst 1, 1) := by decide +kernel
theorem dX1_mendSum_46 : decode cX1_mendSum 46 = .ok (.iadd, 1) := by decide +kernel
theorem dX1_mendSum_47 : decode cX1_mendSum 47 = .ok (.putfield 37, 3) := by decide +kernel
theorem dX1_mendSum_50 : decode cX1_mendSum 50 = .ok (.return_, 1) := by decide +kernel
theorem dX1_payerOf_0 : decode cX1_payerOf 0 = .ok (.aload_n 0, 1) := by decide +kernel
theorem dX1_payerOf_1 : decode cX1_payerOf 1 = .ok (.getfield 9, 3) := by decide +kernel
theorem dX1_payerOf_4 : decode cX1_payerOf 4 = .ok (.iload_n 1, 1) := by decide +kernel
theorem dX1_payerOf_5 : decode cX1_payerOf 5 = .ok (.iaload, 1) := by decide +kernel
theorem dX1_payerOf_6 : decode cX1_payerOf 6 = .ok (.ireturn, 1) := by decide +kernel
theorem dX1_receiverOf_0 : decode cX1_receiverOf 0 = .ok (.aload_n 0, 1) := by decide +kernel
theorem dX1_receiverOf_1 : decode cX1_receiverOf 1 = .ok (.getfield 15, 3) := by decide +kernel
theorem dX1_receiverOf_4 : decode cX1_receiverOf 4 = .ok (.iload_n 1, 1) := by decide +kernel
theorem dX1_receiverOf_5 : decode cX1_receiverOf 5 = .ok (.iaload, 1) := by decide +kernel
theorem dX1_receiverOf_6 : decode cX1_receiverOf 6 = .ok (.ireturn, 1) := by decide +kernel
theorem dX1_dayOf_0 : decode cX1_dayOf 0 = .ok (.aload_n 0, 1) := by decide +kernel
theorem dX1_dayOf_1 : decode cX1_dayOf 1 = .ok (.getfield 21, 3) := by decide +kernel
theorem dX1_dayOf_4 : decode cX1_dayOf 4 = .ok (.iload_n 1, 1) := by decide +kernel
theorem dX1_dayOf_5 : decode cX1_dayOf 5 = .ok (.iaload, 1) := by decide +kernel
theorem dX1_dayOf_6 : decode cX1_dayOf 6 = .ok (.ireturn, 1) := by decide +kernel
theorem dX1_sumKnown_0 : decode cX1_sumKnown 0 = .ok (.aload_n 0, 1) := by decide +kernel
theorem dX1_sumKnown_1 : decode cX1_sumKnown 1 = .ok (.getfield 18, 3) := by decide +kernel
theorem dX1_sumKnown_4 : decode cX1_sumKnown 4 = .ok (.iload_n 1, 1) := by decide +kernel
theorem dX1_sumKnown_5 : decode cX1_sumKnown 5 = .ok (.iaload, 1) := by decide +kernel
theorem dX1_sumKnown_6 : decode cX1_sumKnown 6 = .ok (.istore_n 3, 1) := by decide +kernel
theorem dX1_sumKnown_7 : decode cX1_sumKnown 7 = .ok (.iconst 0, 1) := by decide +kernel
theorem dX1_sumKnown_8 : decode cX1_sumKnown 8 = .ok (.istore 4, 2) := by decide +kernel
theorem dX1_sumKnown_10 : decode cX1_sumKnown 10 = .ok (.iload 4, 2) := by decide +kernel
theorem dX1_sumKnown_12 : decode cX1_sumKnown 12 = .ok (.aload_n 0, 1) := by decide +kernel
theorem dX1_sumKnown_13 : decode cX1_sumKnown 13 = .ok (.getfield 37, 3) := by decide +kernel
theorem dX1_sumKnown_16 : decode cX1_sumKnown 16 = .ok (.if_icmp .ge 39, 3) := by decide +kernel
theorem dX1_sumKnown_19 : decode cX1_sumKnown 19 = .ok (.aload_n 0, 1) := by decide +kernel
theorem dX1_sumKnown_20 : decode cX1_sumKnown 20 = .ok (.getfield 24, 3) := by decide +kernel
theorem dX1_sumKnown_23 : decode cX1_sumKnown 23 = .ok (.iload 4, 2) := by decide +kernel
theorem dX1_sumKnown_25 : decode cX1_sumKnown 25 = .ok (.iaload, 1) := by decide +kernel
theorem dX1_sumKnown_26 : decode cX1_sumKnown 26 = .ok (.iload_n 1, 1) := by decide +kernel
theorem dX1_sumKnown_27 : decode cX1_sumKnown 27 = .ok (.if_icmp .ne 22, 3) := by decide +kernel
theorem dX1_sumKnown_30 : decode cX1_sumKnown 30 = .ok (.aload_n 0, 1) := by decide +kernel
theorem dX1_sumKnown_31 : decode cX1_sumKnown 31 = .ok (.getfield 30, 3) := by decide +kernel
theorem dX1_sumKnown_34 : decode cX1_sumKnown 34 = .ok (.iload 4, 2) := by decide +kernel
theorem dX1_sumKnown_36 : decode cX1_sumKnown 36 = .ok (.iaload, 1) := by decide +kernel
theorem dX1_sumKnown_37 : decode cX1_sumKnown 37 = .ok (.iload_n 2, 1) := by decide +kernel
theorem dX1_sumKnown_38 : decode cX1_sumKnown 38 = .ok (.if_icmp .gt 11, 3) := by decide +kernel
theorem dX1_sumKnown_41 : decode cX1_sumKnown 41 = .ok (.aload_n 0, 1) := by decide +kernel
theorem dX1_sumKnown_42 : decode cX1_sumKnown 42 = .ok (.getfield 27, 3) := by decide +kernel
theorem dX1_sumKnown_45 : decode cX1_sumKnown 45 = .ok (.iload 4, 2) := by decide +kernel
theorem dX1_sumKnown_47 : decode cX1_sumKnown 47 = .ok (.iaload, 1) := by decide +kernel
theorem dX1_sumKnown_48 : decode cX1_sumKnown 48 = .ok (.istore_n 3, 1) := by decide +kernel
theorem dX1_sumKnown_49 : decode cX1_sumKnown 49 = .ok (.iinc 4 1, 3) := by decide +kernel
theorem dX1_sumKnown_52 : decode cX1_sumKnown 52 = .ok (.goto (-42), 3) := by decide +kernel
theorem dX1_sumKnown_55 : decode cX1_sumKnown 55 = .ok (.iload_n 3, 1) := by decide +kernel
theorem dX1_sumKnown_56 : decode cX1_sumKnown 56 = .ok (.ireturn, 1) := by decide +kernel
theorem dX1_balanceOf_0 : decode cX1_balanceOf 0 = .ok (.lconst 0, 1) := by decide +kernel
theorem dX1_balanceOf_1 : decode cX1_balanceOf 1 = .ok (.lstore 4, 2) := by decide +kernel
theorem dX1_balanceOf_3 : decode cX1_balanceOf 3 = .ok (.iconst 0, 1) := by decide +kernel
theorem dX1_balanceOf_4 : decode cX1_balanceOf 4 = .ok (.istore 6, 2) := by decide +kernel
theorem dX1_balanceOf_6 : decode cX1_balanceOf 6 = .ok (.iload 6, 2) := by decide +kernel
theorem dX1_balanceOf_8 : decode cX1_balanceOf 8 = .ok (.aload_n 0, 1) := by decide +kernel
theorem dX1_balanceOf_9 : decode cX1_balanceOf 9 = .ok (.getfield 33, 3) := by decide +kernel
theorem dX1_balanceOf_12 : decode cX1_balanceOf 12 = .ok (.if_icmp .ge 82, 3) := by decide +kernel
theorem dX1_balanceOf_15 : decode cX1_balanceOf 15 = .ok (.aload_n 0, 1) := by decide +kernel
theorem dX1_balanceOf_16 : decode cX1_balanceOf 16 = .ok (.getfield 21, 3) := by decide +kernel
theorem dX1_balanceOf_19 : decode cX1_balanceOf 19 = .ok (.iload 6, 2) := by decide +kernel
theorem dX1_balanceOf_21 : decode cX1_balanceOf 21 = .ok (.iaload, 1) := by decide +kernel
theorem dX1_balanceOf_22 : decode cX1_balanceOf 22 = .ok (.iload_n 2, 1) := by decide +kernel
theorem dX1_balanceOf_23 : decode cX1_balanceOf 23 = .ok (.if_icmp .gt 65, 3) := by decide +kernel
theorem dX1_balanceOf_26 : decode cX1_balanceOf 26 = .ok (.aload_n 0, 1) := by decide +kernel
theorem dX1_balanceOf_27 : decode cX1_balanceOf 27 = .ok (.getfield 21, 3) := by decide +kernel
theorem dX1_balanceOf_30 : decode cX1_balanceOf 30 = .ok (.iload 6, 2) := by decide +kernel
theorem dX1_balanceOf_32 : decode cX1_balanceOf 32 = .ok (.iaload, 1) := by decide +kernel
theorem dX1_balanceOf_33 : decode cX1_balanceOf 33 = .ok (.iload_n 3, 1) := by decide +kernel
theorem dX1_balanceOf_34 : decode cX1_balanceOf 34 = .ok (.if_icmp .le 6, 3) := by decide +kernel
theorem dX1_balanceOf_37 : decode cX1_balanceOf 37 = .ok (.goto 51, 3) := by decide +kernel
theorem dX1_balanceOf_40 : decode cX1_balanceOf 40 = .ok (.aload_n 0, 1) := by decide +kernel
theorem dX1_balanceOf_41 : decode cX1_balanceOf 41 = .ok (.getfield 15, 3) := by decide +kernel
theorem dX1_balanceOf_44 : decode cX1_balanceOf 44 = .ok (.iload 6, 2) := by decide +kernel
theorem dX1_balanceOf_46 : decode cX1_balanceOf 46 = .ok (.iaload, 1) := by decide +kernel
theorem dX1_balanceOf_47 : decode cX1_balanceOf 47 = .ok (.iload_n 1, 1) := by decide +kernel
theorem dX1_balanceOf_48 : decode cX1_balanceOf 48 = .ok (.if_icmp .ne 16, 3) := by decide +kernel
theorem dX1_balanceOf_51 : decode cX1_balanceOf 51 = .ok (.lload 4, 2) := by decide +kernel
theorem dX1_balanceOf_53 : decode cX1_balanceOf 53 = .ok (.aload_n 0, 1) := by decide +kernel
theorem dX1_balanceOf_54 : decode cX1_balanceOf 54 = .ok (.iload 6, 2) := by decide +kernel
theorem dX1_balanceOf_56 : decode cX1_balanceOf 56 = .ok (.iload_n 3, 1) := by decide +kernel
theorem dX1_balanceOf_57 : decode cX1_balanceOf 57 = .ok (.invokevirtual 40, 3) := by decide +kernel
theorem dX1_balanceOf_60 : decode cX1_balanceOf 60 = .ok (.i2l, 1) := by decide +kernel
theorem dX1_balanceOf_61 : decode cX1_balanceOf 61 = .ok (.ladd, 1) := by decide +kernel
theorem dX1_balanceOf_62 : decode cX1_balanceOf 62 = .ok (.lstore 4, 2) := by decide +kernel
theorem dX1_balanceOf_64 : decode cX1_balanceOf 64 = .ok (.aload_n 0, 1) := by decide +kernel
theorem dX1_balanceOf_65 : decode cX1_balanceOf 65 = .ok (.getfield 9, 3) := by decide +kernel
theorem dX1_balanceOf_68 : decode cX1_balanceOf 68 = .ok (.iload 6, 2) := by decide +kernel
theorem dX1_balanceOf_70 : decode cX1_balanceOf 70 = .ok (.iaload, 1) := by decide +kernel
theorem dX1_balanceOf_71 : decode cX1_balanceOf 71 = .ok (.iload_n 1, 1) := by decide +kernel
theorem dX1_balanceOf_72 : decode cX1_balanceOf 72 = .ok (.if_icmp .ne 16, 3) := by decide +kernel
theorem dX1_balanceOf_75 : decode cX1_balanceOf 75 = .ok (.lload 4, 2) := by decide +kernel
theorem dX1_balanceOf_77 : decode cX1_balanceOf 77 = .ok (.aload_n 0, 1) := by decide +kernel
theorem dX1_balanceOf_78 : decode cX1_balanceOf 78 = .ok (.iload 6, 2) := by decide +kernel
theorem dX1_balanceOf_80 : decode cX1_balanceOf 80 = .ok (.iload_n 3, 1) := by decide +kernel
theorem dX1_balanceOf_81 : decode cX1_balanceOf 81 = .ok (.invokevirtual 40, 3) := by decide +kernel
theorem dX1_balanceOf_84 : decode cX1_balanceOf 84 = .ok (.i2l, 1) := by decide +kernel
theorem dX1_balanceOf_85 : decode cX1_balanceOf 85 = .ok (.lsub, 1) := by decide +kernel
theorem dX1_balanceOf_86 : decode cX1_balanceOf 86 = .ok (.lstore 4, 2) := by decide +kernel
theorem dX1_balanceOf_88 : decode cX1_balanceOf 88 = .ok (.iinc 6 1, 3) := by decide +kernel
theorem dX1_balanceOf_91 : decode cX1_balanceOf 91 = .ok (.goto (-85), 3) := by decide +kernel
theorem dX1_balanceOf_94 : decode cX1_balanceOf 94 = .ok (.lload 4, 2) := by decide +kernel
theorem dX1_balanceOf_96 : decode cX1_balanceOf 96 = .ok (.lreturn, 1) := by decide +kernel
theorem dX2_init_0 : decode cX2_init 0 = .ok (.aload_n 0, 1) := by decide +kernel
theorem dX2_init_1 : decode cX2_init 1 = .ok (.invokespecial 3, 3) := by decide +kernel
theorem dX2_init_4 : decode cX2_init 4 = .ok (.aload_n 0, 1) := by decide +kernel
theorem dX2_init_5 : decode cX2_init 5 = .ok (.bipush 40, 2) := by decide +kernel
theorem dX2_init_7 : decode cX2_init 7 = .ok (.newarray .int, 2) := by decide +kernel
theorem dX2_init_9 : decode cX2_init 9 = .ok (.putfield 9, 3) := by decide +kernel
theorem dX2_init_12 : decode cX2_init 12 = .ok (.aload_n 0, 1) := by decide +kernel
theorem dX2_init_13 : decode cX2_init 13 = .ok (.bipush 40, 2) := by decide +kernel
theorem dX2_init_15 : decode cX2_init 15 = .ok (.newarray .int, 2) := by decide +kernel
theorem dX2_init_17 : decode cX2_init 17 = .ok (.putfield 15, 3) := by decide +kernel
theorem dX2_init_20 : decode cX2_init 20 = .ok (.return_, 1) := by decide +kernel
theorem dX2_readings_0 : decode cX2_readings 0 = .ok (.aload_n 0, 1) := by decide +kernel
theorem dX2_readings_1 : decode cX2_readings 1 = .ok (.getfield 18, 3) := by decide +kernel
theorem dX2_readings_4 : decode cX2_readings 4 = .ok (.ireturn, 1) := by decide +kernel
theorem dX2_isBehindLast_0 : decode cX2_isBehindLast 0 = .ok (.aload_n 0, 1) := by decide +kernel
theorem dX2_isBehindLast_1 : decode cX2_isBehindLast 1 = .ok (.getfield 18, 3) := by decide +kernel
theorem dX2_isBehindLast_4 : decode cX2_isBehindLast 4 = .ok (.ifCond .eq 18, 3) := by decide +kernel
theorem dX2_isBehindLast_7 : decode cX2_isBehindLast 7 = .ok (.iload_n 1, 1) := by decide +kernel
theorem dX2_isBehindLast_8 : decode cX2_isBehindLast 8 = .ok (.aload_n 0, 1) := by decide +kernel
theorem dX2_isBehindLast_9 : decode cX2_isBehindLast 9 = .ok (.getfield 9, 3) := by decide +kernel
theorem dX2_isBehindLast_12 : decode cX2_isBehindLast 12 = .ok (.aload_n 0, 1) := by decide +kernel
theorem dX2_isBehindLast_13 : decode cX2_isBehindLast 13 = .ok (.getfield 18, 3) := by decide +kernel
theorem dX2_isBehindLast_16 : decode cX2_isBehindLast 16 = .ok (.iconst 1, 1) := by decide +kernel
theorem dX2_isBehindLast_17 : decode cX2_isBehindLast 17 = .ok (.isub, 1) := by decide +kernel
theorem dX2_isBehindLast_18 : decode cX2_isBehindLast 18 = .ok (.iaload, 1) := by decide +kernel
theorem dX2_isBehindLast_19 : decode cX2_isBehindLast 19 = .ok (.if_icmp .le 7, 3) := by decide +kernel
theorem dX2_isBehindLast_22 : decode cX2_isBehindLast 22 = .ok (.iconst 1, 1) := by decide +kernel
theorem dX2_isBehindLast_23 : decode cX2_isBehindLast 23 = .ok (.goto 4, 3) := by decide +kernel
theorem dX2_isBehindLast_26 : decode cX2_isBehindLast 26 = .ok (.iconst 0, 1) := by decide +kernel
theorem dX2_isBehindLast_27 : decode cX2_isBehindLast 27 = .ok (.ireturn, 1) := by decide +kernel
theorem dX2_addReading_0 : decode cX2_addReading 0 = .ok (.aload_n 0, 1) := by decide +kernel
theorem dX2_addReading_1 : decode cX2_addReading 1 = .ok (.getfield 18, 3) := by decide +kernel
theorem dX2_addReading_4 : decode cX2_addReading 4 = .ok (.bipush 40, 2) := by decide +kernel
theorem dX2_addReading_6 : decode cX2_addReading 6 = .ok (.if_icmp .lt 4, 3) := by decide +kernel
theorem dX2_addReading_9 : decode cX2_addReading 9 = .ok (.return_, 1) := by decide +kernel
theorem dX2_addReading_10 : decode cX2_addReading 10 = .ok (.aload_n 0, 1) := by decide +kernel
theorem dX2_addReading_11 : decode cX2_addReading 11 = .ok (.getfield 9, 3) := by decide +kernel
theorem dX2_addReading_14 : decode cX2_addReading 14 = .ok (.aload_n 0, 1) := by decide +kernel
theorem dX2_addReading_15 : decode cX2_addReading 15 = .ok (.getfield 18, 3) := by decide +kernel
theorem dX2_addReading_18 : decode cX2_addReading 18 = .ok (.iload_n 1, 1) := by decide +kernel
theorem dX2_addReading_19 : decode cX2_addReading 19 = .ok (.iastore, 1) := by decide +kernel
theorem dX2_addReading_20 : decode cX2_addReading 20 = .ok (.aload_n 0, 1) := by decide +kernel
theorem dX2_addReading_21 : decode cX2_addReading 21 = .ok (.getfield 15, 3) := by decide +kernel
theorem dX2_addReading_24 : decode cX2_addReading 24 = .ok (.aload_n 0, 1) := by decide +kernel
theorem dX2_addReading_25 : decode cX2_addReading 25 = .ok (.getfield 18, 3) := by decide +kernel
theorem dX2_addReading_28 : decode cX2_addReading 28 = .ok (.iload_n 2, 1) := by decide +kernel
theorem dX2_addReading_29 : decode cX2_addReading 29 = .ok (.iastore, 1) := by decide +kernel
theorem dX2_addReading_30 : decode cX2_addReading 30 = .ok (.aload_n 0, 1) := by decide +kernel
theorem dX2_addReading_31 : decode cX2_addReading 31 = .ok (.dup, 1) := by decide +kernel
theorem dX2_addReading_32 : decode cX2_addReading 32 = .ok (.getfield 18, 3) := by decide +kernel
theorem dX2_addReading_35 : decode cX2_addReading 35 = .ok (.iconst 1, 1) := by decide +kernel
theorem dX2_addReading_36 : decode cX2_addReading 36 = .ok (.iadd, 1) := by decide +kernel
theorem dX2_addReading_37 : decode cX2_addReading 37 = .ok (.putfield 18, 3) := by decide +kernel
theorem dX2_addReading_40 : decode cX2_addReading 40 = .ok (.return_, 1) := by decide +kernel
theorem dX2_covers_0 : decode cX2_covers 0 = .ok (.aload_n 0, 1) := by decide +kernel
theorem dX2_covers_1 : decode cX2_covers 1 = .ok (.getfield 18, 3) := by decide +kernel
theorem dX2_covers_4 : decode cX2_covers 4 = .ok (.ifCond .le 32, 3) := by decide +kernel
theorem dX2_covers_7 : decode cX2_covers 7 = .ok (.iload_n 1, 1) := by decide +kernel
theorem dX2_covers_8 : decode cX2_covers 8 = .ok (.aload_n 0, 1) := by decide +kernel
theorem dX2_covers_9 : decode cX2_covers 9 = .ok (.getfield 9, 3) := by decide +kernel
theorem dX2_covers_12 : decode cX2_covers 12 = .ok (.iconst 0, 1) := by decide +kernel
theorem dX2_covers_13 : decode cX2_covers 13 = .ok (.iaload, 1) := by decide +kernel
theorem dX2_covers_14 : decode cX2_covers 14 = .ok (.if_icmp .lt 22, 3) := by decide +kernel
theorem dX2_covers_17 : decode cX2_covers 17 = .ok (.iload_n 1, 1) := by decide +kernel
theorem dX2_covers_18 : decode cX2_covers 18 = .ok (.aload_n 0, 1) := by decide +kernel
theorem dX2_covers_19 : decode cX2_covers 19 = .ok (.getfield 9, 3) := by decide +kernel
theorem dX2_covers_22 : decode cX2_covers 22 = .ok (.aload_n 0, 1) := by decide +kernel
theorem dX2_covers_23 : decode cX2_covers 23 = .ok (.getfield 18, 3) := by decide +kernel
theorem dX2_covers_26 : decode cX2_covers 26 = .ok (.iconst 1, 1) := by decide +kernel
theorem dX2_covers_27 : decode cX2_covers 27 = .ok (.isub, 1) := by decide +kernel
theorem dX2_covers_28 : decode cX2_covers 28 = .ok (.iaload, 1) := by decide +kernel
theorem dX2_covers_29 : decode cX2_covers 29 = .ok (.if_icmp .gt 7, 3) := by decide +kernel
theorem dX2_covers_32 : decode cX2_covers 32 = .ok (.iconst 1, 1) := by decide +kernel
theorem dX2_covers_33 : decode cX2_covers 33 = .ok (.goto 4, 3) := by decide +kernel
theorem dX2_covers_36 : decode cX2_covers 36 = .ok (.iconst 0, 1) := by decide +kernel
theorem dX2_covers_37 : decode cX2_covers 37 = .ok (.ireturn, 1) := by decide +kernel
theorem dX2_valueOn_0 : decode cX2_valueOn 0 = .ok (.iconst 0, 1) := by decide +kernel
theorem dX2_valueOn_1 : decode cX2_valueOn 1 = .ok (.istore_n 2, 1) := by decide +kernel
theorem dX2_valueOn_2 : decode cX2_valueOn 2 = .ok (.iconst 0, 1) := by decide +kernel
theorem dX2_valueOn_3 : decode cX2_valueOn 3 = .ok (.istore_n 3, 1) := by decide +kernel
theorem dX2_valueOn_4 : decode cX2_valueOn 4 = .ok (.iload_n 3, 1) := by decide +kernel
theorem dX2_valueOn_5 : decode cX2_valueOn 5 = .ok (.aload_n 0, 1) := by decide +kernel
theorem dX2_valueOn_6 : decode cX2_valueOn 6 = .ok (.getfield 18, 3) := by decide +kernel
theorem dX2_valueOn_9 : decode cX2_valueOn 9 = .ok (.if_icmp .ge 21, 3) := by decide +kernel
theorem dX2_valueOn_12 : decode cX2_valueOn 12 = .ok (.aload_n 0, 1) := by decide +kernel
theorem dX2_valueOn_13 : decode cX2_valueOn 13 = .ok (.getfield 9, 3) := by decide +kernel
theorem dX2_valueOn_16 : decode cX2_valueOn 16 = .ok (.iload_n 3, 1) := by decide +kernel
theorem dX2_valueOn_17 : decode cX2_valueOn 17 = .ok (.iaload, 1) := by decide +kernel
theorem dX2_valueOn_18 : decode cX2_valueOn 18 = .ok (.iload_n 1, 1) := by decide +kernel
theorem dX2_valueOn_19 : decode cX2_valueOn 19 = .ok (.if_icmp .gt 11, 3) := by decide +kernel
theorem dX2_valueOn_22 : decode cX2_valueOn 22 = .ok (.iload_n 3, 1) := by decide +kernel
theorem dX2_valueOn_23 : decode cX2_valueOn 23 = .ok (.istore_n 2, 1) := by decide +kernel
theorem dX2_valueOn_24 : decode cX2_valueOn 24 = .ok (.iinc 3 1, 3) := by decide +kernel
theorem dX2_valueOn_27 : decode cX2_valueOn 27 = .ok (.goto (-23), 3) := by decide +kernel
theorem dX2_valueOn_30 : decode cX2_valueOn 30 = .ok (.iload_n 2, 1) := by decide +kernel
theorem dX2_valueOn_31 : decode cX2_valueOn 31 = .ok (.iconst 1, 1) := by decide +kernel
theorem dX2_valueOn_32 : decode cX2_valueOn 32 = .ok (.iadd, 1) := by decide +kernel
theorem dX2_valueOn_33 : decode cX2_valueOn 33 = .ok (.aload_n 0, 1) := by decide +kernel
theorem dX2_valueOn_34 : decode cX2_valueOn 34 = .ok (.getfield 18, 3) := by decide +kernel
theorem dX2_valueOn_37 : decode cX2_valueOn 37 = .ok (.if_icmp .lt 10, 3) := by decide +kernel
theorem dX2_valueOn_40 : decode cX2_valueOn 40 = .ok (.aload_n 0, 1) := by decide +kernel
theorem dX2_valueOn_41 : decode cX2_valueOn 41 = .ok (.getfield 15, 3) := by decide +kernel
theorem dX2_valueOn_44 : decode cX2_valueOn 44 = .ok (.iload_n 2, 1) := by decide +kernel
theorem dX2_valueOn_45 : decode cX2_valueOn 45 = .ok (.iaload, 1) := by decide +kernel
theorem dX2_valueOn_46 : decode cX2_valueOn 46 = .ok (.ireturn, 1) := by decide +kernel
theorem dX2_valueOn_47 : decode cX2_valueOn 47 = .ok (.aload_n 0, 1) := by decide +kernel
theorem dX2_valueOn_48 : decode cX2_valueOn 48 = .ok (.getfield 9, 3) := by decide +kernel
theorem dX2_valueOn_51 : decode cX2_valueOn 51 = .ok (.iload_n 2, 1) := by decide +kernel
theorem dX2_valueOn_52 : decode cX2_valueOn 52 = .ok (.iconst 1, 1) := by decide +kernel
theorem dX2_valueOn_53 : decode cX2_valueOn 53 = .ok (.iadd, 1) := by decide +kernel
theorem dX2_valueOn_54 : decode cX2_valueOn 54 = .ok (.iaload, 1) := by decide +kernel
theorem dX2_valueOn_55 : decode cX2_valueOn 55 = .ok (.aload_n 0, 1) := by decide +kernel
theorem dX2_valueOn_56 : decode cX2_valueOn 56 = .ok (.getfield 9, 3) := by decide +kernel
theorem dX2_valueOn_59 : decode cX2_valueOn 59 = .ok (.iload_n 2, 1) := by decide +kernel
theorem dX2_valueOn_60 : decode cX2_valueOn 60 = .ok (.iaload, 1) := by decide +kernel
theorem dX2_valueOn_61 : decode cX2_valueOn 61 = .ok (.isub, 1) := by decide +kernel
theorem dX2_valueOn_62 : decode cX2_valueOn 62 = .ok (.istore_n 3, 1) := by decide +kernel
theorem dX2_valueOn_63 : decode cX2_valueOn 63 = .ok (.aload_n 0, 1) := by decide +kernel
theorem dX2_valueOn_64 : decode cX2_valueOn 64 = .ok (.getfield 15, 3) := by decide +kernel
theorem dX2_valueOn_67 : decode cX2_valueOn 67 = .ok (.iload_n 2, 1) := by decide +kernel
theorem dX2_valueOn_68 : decode cX2_valueOn 68 = .ok (.iconst 1, 1) := by decide +kernel
theorem dX2_valueOn_69 : decode cX2_valueOn 69 = .ok (.iadd, 1) := by decide +kernel
theorem dX2_valueOn_70 : decode cX2_valueOn 70 = .ok (.iaload, 1) := by decide +kernel
theorem dX2_valueOn_71 : decode cX2_valueOn 71 = .ok (.aload_n 0, 1) := by decide +kernel
theorem dX2_valueOn_72 : decode cX2_valueOn 72 = .ok (.getfield 15, 3) := by decide +kernel
theorem dX2_valueOn_75 : decode cX2_valueOn 75 = .ok (.iload_n 2, 1) := by decide +kernel
theorem dX2_valueOn_76 : decode cX2_valueOn 76 = .ok (.iaload, 1) := by decide +kernel
theorem dX2_valueOn_77 : decode cX2_valueOn 77 = .ok (.isub, 1) := by decide +kernel
theorem dX2_valueOn_78 : decode cX2_valueOn 78 = .ok (.i2l, 1) := by decide +kernel
theorem dX2_valueOn_79 : decode cX2_valueOn 79 = .ok (.lstore 4, 2) := by decide +kernel
theorem dX2_valueOn_81 : decode cX2_valueOn 81 = .ok (.aload_n 0, 1) := by decide +kernel
theorem dX2_valueOn_82 : decode cX2_valueOn 82 = .ok (.getfield 15, 3) := by decide +kernel
theorem dX2_valueOn_85 : decode cX2_valueOn 85 = .ok (.iload_n 2, 1) := by decide +kernel
theorem dX2_valueOn_86 : decode cX2_valueOn 86 = .ok (.iaload, 1) := by decide +kernel
theorem dX2_valueOn_87 : decode cX2_valueOn 87 = .ok (.lload 4, 2) := by decide +kernel
theorem dX2_valueOn_89 : decode cX2_valueOn 89 = .ok (.iload_n 1, 1) := by decide +kernel
theorem dX2_valueOn_90 : decode cX2_valueOn 90 = .ok (.aload_n 0, 1) := by decide +kernel
theorem dX2_valueOn_91 : decode cX2_valueOn 91 = .ok (.getfield 9, 3) := by decide +kernel
theorem dX2_valueOn_94 : decode cX2_valueOn 94 = .ok (.iload_n 2, 1) := by decide +kernel
theorem dX2_valueOn_95 : decode cX2_valueOn 95 = .ok (.iaload, 1) := by decide +kernel
theorem dX2_valueOn_96 : decode cX2_valueOn 96 = .ok (.isub, 1) := by decide +kernel
theorem dX2_valueOn_97 : decode cX2_valueOn 97 = .ok (.iload_n 3, 1) := by decide +kernel
theorem dX2_valueOn_98 : decode cX2_valueOn 98 = .ok (.invokestatic 22, 3) := by decide +kernel
theorem dX2_valueOn_101 : decode cX2_valueOn 101 = .ok (.l2i, 1) := by decide +kernel
theorem dX2_valueOn_102 : decode cX2_valueOn 102 = .ok (.iadd, 1) := by decide +kernel
theorem dX2_valueOn_103 : decode cX2_valueOn 103 = .ok (.ireturn, 1) := by decide +kernel
theorem dX2_change_0 : decode cX2_change 0 = .ok (.aload_n 0, 1) := by decide +kernel
theorem dX2_change_1 : decode cX2_change 1 = .ok (.iload_n 2, 1) := by decide +kernel
theorem dX2_change_2 : decode cX2_change 2 = .ok (.invokevirtual 26, 3) := by decide +kernel
theorem dX2_change_5 : decode cX2_change 5 = .ok (.aload_n 0, 1) := by decide +kernel
theorem dX2_change_6 : decode cX2_change 6 = .ok (.iload_n 1, 1) := by decide +kernel
theorem dX2_change_7 : decode cX2_change 7 = .ok (.invokevirtual 26, 3) := by decide +kernel
theorem dX2_change_10 : decode cX2_change 10 = .ok (.isub, 1) := by decide +kernel
theorem dX2_change_11 : decode cX2_change 11 = .ok (.i2l, 1) := by decide +kernel
theorem dX2_change_12 : decode cX2_change 12 = .ok (.lreturn, 1) := by decide +kernel
theorem dX2_ageing_0 : decode cX2_ageing 0 = .ok (.aload_n 0, 1) := by decide +kernel
theorem dX2_ageing_1 : decode cX2_ageing 1 = .ok (.iload_n 1, 1) := by decide +kernel
theorem dX2_ageing_2 : decode cX2_ageing 2 = .ok (.invokevirtual 26, 3) := by decide +kernel
theorem dX2_ageing_5 : decode cX2_ageing 5 = .ok (.aload_n 0, 1) := by decide +kernel
theorem dX2_ageing_6 : decode cX2_ageing 6 = .ok (.getfield 15, 3) := by decide +kernel
theorem dX2_ageing_9 : decode cX2_ageing 9 = .ok (.iconst 0, 1) := by decide +kernel
theorem dX2_ageing_10 : decode cX2_ageing 10 = .ok (.iaload, 1) := by decide +kernel
theorem dX2_ageing_11 : decode cX2_ageing 11 = .ok (.isub, 1) := by decide +kernel
theorem dX2_ageing_12 : decode cX2_ageing 12 = .ok (.i2l, 1) := by decide +kernel
theorem dX2_ageing_13 : decode cX2_ageing 13 = .ok (.iload_n 2, 1) := by decide +kernel
theorem dX2_ageing_14 : decode cX2_ageing 14 = .ok (.iload_n 1, 1) := by decide +kernel
theorem dX2_ageing_15 : decode cX2_ageing 15 = .ok (.isub, 1) := by decide +kernel
theorem dX2_ageing_16 : decode cX2_ageing 16 = .ok (.iload_n 1, 1) := by decide +kernel
theorem dX2_ageing_17 : decode cX2_ageing 17 = .ok (.aload_n 0, 1) := by decide +kernel
theorem dX2_ageing_18 : decode cX2_ageing 18 = .ok (.getfield 9, 3) := by decide +kernel
theorem dX2_ageing_21 : decode cX2_ageing 21 = .ok (.iconst 0, 1) := by decide +kernel
theorem dX2_ageing_22 : decode cX2_ageing 22 = .ok (.iaload, 1) := by decide +kernel
theorem dX2_ageing_23 : decode cX2_ageing 23 = .ok (.isub, 1) := by decide +kernel
theorem dX2_ageing_24 : decode cX2_ageing 24 = .ok (.invokestatic 22, 3) := by decide +kernel
theorem dX2_ageing_27 : decode cX2_ageing 27 = .ok (.lreturn, 1) := by decide +kernel
theorem dX2_portion_0 : decode cX2_portion 0 = .ok (.iload_n 3, 1) := by decide +kernel
theorem dX2_portion_1 : decode cX2_portion 1 = .ok (.ifCond .ne 7, 3) := by decide +kernel
theorem dX2_portion_4 : decode cX2_portion 4 = .ok (.lconst 0, 1) := by decide +kernel
theorem dX2_portion_5 : decode cX2_portion 5 = .ok (.goto 12, 3) := by decide +kernel
theorem dX2_portion_8 : decode cX2_portion 8 = .ok (.lload_n 0, 1) := by decide +kernel
theorem dX2_portion_9 : decode cX2_portion 9 = .ok (.iload_n 2, 1) := by decide +kernel
theorem dX2_portion_10 : decode cX2_portion 10 = .ok (.i2l, 1) := by decide +kernel
theorem dX2_portion_11 : decode cX2_portion 11 = .ok (.lmul, 1) := by decide +kernel
theorem dX2_portion_12 : decode cX2_portion 12 = .ok (.iload_n 3, 1) := by decide +kernel
theorem dX2_portion_13 : decode cX2_portion 13 = .ok (.i2l, 1) := by decide +kernel
theorem dX2_portion_14 : decode cX2_portion 14 = .ok (.invokestatic 30, 3) := by decide +kernel
theorem dX2_portion_17 : decode cX2_portion 17 = .ok (.lreturn, 1) := by decide +kernel
theorem dX3_init_0 : decode cX3_init 0 = .ok (.aload_n 0, 1) := by decide +kernel
theorem dX3_init_1 : decode cX3_init 1 = .ok (.invokespecial 3, 3) := by decide +kernel
theorem dX3_init_4 : decode cX3_init 4 = .ok (.aload_n 0, 1) := by decide +kernel
theorem dX3_init_5 : decode cX3_init 5 = .ok (.sipush 441, 3) := by decide +kernel
theorem dX3_init_8 : decode cX3_init 8 = .ok (.newarray .int, 2) := by decide +kernel
theorem dX3_init_10 : decode cX3_init 10 = .ok (.putfield 11, 3) := by decide +kernel
theorem dX3_init_13 : decode cX3_init 13 = .ok (.aload_n 0, 1) := by decide +kernel
theorem dX3_init_14 : decode cX3_init 14 = .ok (.sipush 441, 3) := by decide +kernel
theorem dX3_init_17 : decode cX3_init 17 = .ok (.newarray .int, 2) := by decide +kernel
theorem dX3_init_19 : decode cX3_init 19 = .ok (.putfield 15, 3) := by decide +kernel
theorem dX3_init_22 : decode cX3_init 22 = .ok (.aload_n 0, 1) := by decide +kernel
theorem dX3_init_23 : decode cX3_init 23 = .ok (.bipush 20, 2) := by decide +kernel
theorem dX3_init_25 : decode cX3_init 25 = .ok (.newarray .int, 2) := by decide +kernel
theorem dX3_init_27 : decode cX3_init 27 = .ok (.putfield 18, 3) := by decide +kernel
theorem dX3_init_30 : decode cX3_init 30 = .ok (.return_, 1) := by decide +kernel
theorem dX3_join_0 : decode cX3_join 0 = .ok (.aload_n 0, 1) := by decide +kernel
theorem dX3_join_1 : decode cX3_join 1 = .ok (.aload_n 1, 1) := by decide +kernel
theorem dX3_join_2 : decode cX3_join 2 = .ok (.invokevirtual 21, 3) := by decide +kernel
theorem dX3_join_5 : decode cX3_join 5 = .ok (.putfield 27, 3) := by decide +kernel
theorem dX3_join_8 : decode cX3_join 8 = .ok (.aload_n 0, 1) := by decide +kernel
theorem dX3_join_9 : decode cX3_join 9 = .ok (.aload_n 1, 1) := by decide +kernel
theorem dX3_join_10 : decode cX3_join 10 = .ok (.aload_n 2, 1) := by decide +kernel
theorem dX3_join_11 : decode cX3_join 11 = .ok (.iload_n 3, 1) := by decide +kernel
theorem dX3_join_12 : decode cX3_join 12 = .ok (.invokevirtual 31, 3) := by decide +kernel
theorem dX3_join_15 : decode cX3_join 15 = .ok (.aload_n 0, 1) := by decide +kernel
theorem dX3_join_16 : decode cX3_join 16 = .ok (.aload_n 1, 1) := by decide +kernel
theorem dX3_join_17 : decode cX3_join 17 = .ok (.aload_n 2, 1) := by decide +kernel
theorem dX3_join_18 : decode cX3_join 18 = .ok (.iload_n 3, 1) := by decide +kernel
theorem dX3_join_19 : decode cX3_join 19 = .ok (.invokevirtual 35, 3) := by decide +kernel
theorem dX3_join_22 : decode cX3_join 22 = .ok (.return_, 1) := by decide +kernel
theorem dX3_fillFromTheEnd_0 : decode cX3_fillFromTheEnd 0 = .ok (.aload_n 1, 1) := by decide +kernel
theorem dX3_fillFromTheEnd_1 : decode cX3_fillFromTheEnd 1 = .ok (.invokevirtual 21, 3) := by decide +kernel
theorem dX3_fillFromTheEnd_4 : decode cX3_fillFromTheEnd 4 = .ok (.istore 4, 2) := by decide +kernel
theorem dX3_fillFromTheEnd_6 : decode cX3_fillFromTheEnd 6 = .ok (.iload 4, 2) := by decide +kernel
theorem dX3_fillFromTheEnd_8 : decode cX3_fillFromTheEnd 8 = .ok (.ifCond .lt 181, 3) := by decide +kernel
theorem dX3_fillFromTheEnd_11 : decode cX3_fillFromTheEnd 11 = .ok (.aload_n 2, 1) := by decide +kernel
theorem dX3_fillFromTheEnd_12 : decode cX3_fillFromTheEnd 12 = .ok (.invokevirtual 21, 3) := by decide +kernel
theorem dX3_fillFromTheEnd_15 : decode cX3_fillFromTheEnd 15 = .ok (.istore 5, 2) := by decide +kernel
theorem dX3_fillFromTheEnd_17 : decode cX3_fillFromTheEnd 17 = .ok (.iload 5, 2) := by decide +kernel
theorem dX3_fillFromTheEnd_19 : decode cX3_fillFromTheEnd 19 = .ok (.ifCond .lt 164, 3) := by decide +kernel
theorem dX3_fillFromTheEnd_22 : decode cX3_fillFromTheEnd 22 = .ok (.bipush 21, 2) := by decide +kernel
theorem dX3_fillFromTheEnd_24 : decode cX3_fillFromTheEnd 24 = .ok (.iload 4, 2) := by decide +kernel
theorem dX3_fillFromTheEnd_26 : decode cX3_fillFromTheEnd 26 = .ok (.imul, 1) := by decide +kernel
theorem dX3_fillFromTheEnd_27 : decode cX3_fillFromTheEnd 27 = .ok (.iload 5, 2) := by decide +kernel
theorem dX3_fillFromTheEnd_29 : decode cX3_fillFromTheEnd 29 = .ok (.iadd, 1) := by decide +kernel
theorem dX3_fillFromTheEnd_30 : decode cX3_fillFromTheEnd 30 = .ok (.istore 6, 2) := by decide +kernel
theorem dX3_fillFromTheEnd_32 : decode cX3_fillFromTheEnd 32 = .ok (.aload_n 0, 1) := by decide +kernel
theorem dX3_fillFromTheEnd_33 : decode cX3_fillFromTheEnd 33 = .ok (.getfield 11, 3) := by decide +kernel
theorem dX3_fillFromTheEnd_36 : decode cX3_fillFromTheEnd 36 = .ok (.iload 6, 2) := by decide +kernel
theorem dX3_fillFromTheEnd_38 : decode cX3_fillFromTheEnd 38 = .ok (.iconst 0, 1) := by decide +kernel
theorem dX3_fillFromTheEnd_39 : decode cX3_fillFromTheEnd 39 = .ok (.iastore, 1) := by decide +kernel
theorem dX3_fillFromTheEnd_40 : decode cX3_fillFromTheEnd 40 = .ok (.aload_n 0, 1) := by decide +kernel
theorem dX3_fillFromTheEnd_41 : decode cX3_fillFromTheEnd 41 = .ok (.getfield 15, 3) := by decide +kernel
theorem dX3_fillFromTheEnd_44 : decode cX3_fillFromTheEnd 44 = .ok (.iload 6, 2) := by decide +kernel
theorem dX3_fillFromTheEnd_46 : decode cX3_fillFromTheEnd 46 = .ok (.iconst 0, 1) := by decide +kernel
theorem dX3_fillFromTheEnd_47 : decode cX3_fillFromTheEnd 47 = .ok (.iastore, 1) := by decide +kernel
theorem dX3_fillFromTheEnd_48 : decode cX3_fillFromTheEnd 48 = .ok (.iload 4, 2) := by decide +kernel
theorem dX3_fillFromTheEnd_50 : decode cX3_fillFromTheEnd 50 = .ok (.aload_n 1, 1) := by decide +kernel
theorem dX3_fillFromTheEnd_51 : decode cX3_fillFromTheEnd 51 = .ok (.invokevirtual 21, 3) := by decide +kernel
theorem dX3_fillFromTheEnd_54 : decode cX3_fillFromTheEnd 54 = .ok (.if_icmp .eq 123, 3) := by decide +kernel
theorem dX3_fillFromTheEnd_57 : decode cX3_fillFromTheEnd 57 = .ok (.iload 5, 2) := by decide +kernel
theorem dX3_fillFromTheEnd_59 : decode cX3_fillFromTheEnd 59 = .ok (.aload_n 2, 1) := by decide +kernel
theorem dX3_fillFromTheEnd_60 : decode cX3_fillFromTheEnd 60 = .ok (.invokevirtual 21, 3) := by decide +kernel
theorem dX3_fillFromTheEnd_63 : decode cX3_fillFromTheEnd 63 = .ok (.if_icmp .ne 6, 3) := by decide +kernel
theorem dX3_fillFromTheEnd_66 : decode cX3_fillFromTheEnd 66 = .ok (.goto 111, 3) := by decide +kernel
theorem dX3_fillFromTheEnd_69 : decode cX3_fillFromTheEnd 69 = .ok (.aload_n 0, 1) := by decide +kernel
theorem dX3_fillFromTheEnd_70 : decode cX3_fillFromTheEnd 70 = .ok (.iload 6, 2) := by decide +kernel
theorem dX3_fillFromTheEnd_72 : decode cX3_fillFromTheEnd 72 = .ok (.aload_n 0, 1) := by decide +kernel
theorem dX3_fillFromTheEnd_73 : decode cX3_fillFromTheEnd 73 = .ok (.getfield 11, 3) := by decide +kernel
theorem dX3_fillFromTheEnd_76 : decode cX3_fillFromTheEnd 76 = .ok (.iload 6, 2) := by decide +kernel
theorem dX3_fillFromTheEnd_78 : decode cX3_fillFromTheEnd 78 = .ok (.bipush 21, 2) := by decide +kernel
theorem dX3_fillFromTheEnd_80 : decode cX3_fillFromTheEnd 80 = .ok (.iadd, 1) := by decide +kernel
theorem dX3_fillFromTheEnd_81 : decode cX3_fillFromTheEnd 81 = .ok (.iaload, 1) := by decide +kernel
theorem dX3_fillFromTheEnd_82 : decode cX3_fillFromTheEnd 82 = .ok (.aload_n 0, 1) := by decide +kernel
theorem dX3_fillFromTheEnd_83 : decode cX3_fillFromTheEnd 83 = .ok (.getfield 15, 3) := by decide +kernel
theorem dX3_fillFromTheEnd_86 : decode cX3_fillFromTheEnd 86 = .ok (.iload 6, 2) := by decide +kernel
theorem dX3_fillFromTheEnd_88 : decode cX3_fillFromTheEnd 88 = .ok (.bipush 21, 2) := by decide +kernel
theorem dX3_fillFromTheEnd_90 : decode cX3_fillFromTheEnd 90 = .ok (.iadd, 1) := by decide +kernel
theorem dX3_fillFromTheEnd_91 : decode cX3_fillFromTheEnd 91 = .ok (.iaload, 1) := by decide +kernel
theorem dX3_fillFromTheEnd_92 : decode cX3_fillFromTheEnd 92 = .ok (.invokevirtual 38, 3) := by decide +kernel
theorem dX3_fillFromTheEnd_95 : decode cX3_fillFromTheEnd 95 = .ok (.aload_n 0, 1) := by decide +kernel
theorem dX3_fillFromTheEnd_96 : decode cX3_fillFromTheEnd 96 = .ok (.iload 6, 2) := by decide +kernel
theorem dX3_fillFromTheEnd_98 : decode cX3_fillFromTheEnd 98 = .ok (.aload_n 0, 1) := by decide +kernel
theorem dX3_fillFromTheEnd_99 : decode cX3_fillFromTheEnd 99 = .ok (.getfield 11, 3) := by decide +kernel
theorem dX3_fillFromTheEnd_102 : decode cX3_fillFromTheEnd 102 = .ok (.iload 6, 2) := by decide +kernel
theorem dX3_fillFromTheEnd_104 : decode cX3_fillFromTheEnd 104 = .ok (.iconst 1, 1) := by decide +kernel
theorem dX3_fillFromTheEnd_105 : decode cX3_fillFromTheEnd 105 = .ok (.iadd, 1) := by decide +kernel
theorem dX3_fillFromTheEnd_106 : decode cX3_fillFromTheEnd 106 = .ok (.iaload, 1) := by decide +kernel
theorem dX3_fillFromTheEnd_107 : decode cX3_fillFromTheEnd 107 = .ok (.aload_n 0, 1) := by decide +kernel
theorem dX3_fillFromTheEnd_108 : decode cX3_fillFromTheEnd 108 = .ok (.getfield 15, 3) := by decide +kernel
theorem dX3_fillFromTheEnd_111 : decode cX3_fillFromTheEnd 111 = .ok (.iload 6, 2) := by decide +kernel
theorem dX3_fillFromTheEnd_113 : decode cX3_fillFromTheEnd 113 = .ok (.iconst 1, 1) := by decide +kernel
theorem dX3_fillFromTheEnd_114 : decode cX3_fillFromTheEnd 114 = .ok (.iadd, 1) := by decide +kernel
theorem dX3_fillFromTheEnd_115 : decode cX3_fillFromTheEnd 115 = .ok (.iaload, 1) := by decide +kernel
theorem dX3_fillFromTheEnd_116 : decode cX3_fillFromTheEnd 116 = .ok (.invokevirtual 38, 3) := by decide +kernel
theorem dX3_fillFromTheEnd_119 : decode cX3_fillFromTheEnd 119 = .ok (.aload_n 1, 1) := by decide +kernel
theorem dX3_fillFromTheEnd_120 : decode cX3_fillFromTheEnd 120 = .ok (.iload 4, 2) := by decide +kernel
theorem dX3_fillFromTheEnd_122 : decode cX3_fillFromTheEnd 122 = .ok (.invokevirtual 42, 3) := by decide +kernel
theorem dX3_fillFromTheEnd_125 : decode cX3_fillFromTheEnd 125 = .ok (.aload_n 2, 1) := by decide +kernel
theorem dX3_fillFromTheEnd_126 : decode cX3_fillFromTheEnd 126 = .ok (.iload 5, 2) := by decide +kernel
theorem dX3_fillFromTheEnd_128 : decode cX3_fillFromTheEnd 128 = .ok (.invokevirtual 42, 3) := by decide +kernel
theorem dX3_fillFromTheEnd_131 : decode cX3_fillFromTheEnd 131 = .ok (.isub, 1) := by decide +kernel
theorem dX3_fillFromTheEnd_132 : decode cX3_fillFromTheEnd 132 = .ok (.invokestatic 46, 3) := by decide +kernel
theorem dX3_fillFromTheEnd_135 : decode cX3_fillFromTheEnd 135 = .ok (.istore 7, 2) := by decide +kernel
theorem dX3_fillFromTheEnd_137 : decode cX3_fillFromTheEnd 137 = .ok (.iload 7, 2) := by decide +kernel
theorem dX3_fillFromTheEnd_139 : decode cX3_fillFromTheEnd 139 = .ok (.iload_n 3, 1) := by decide +kernel
theorem dX3_fillFromTheEnd_140 : decode cX3_fillFromTheEnd 140 = .ok (.if_icmp .gt 37, 3) := by decide +kernel
theorem dX3_fillFromTheEnd_143 : decode cX3_fillFromTheEnd 143 = .ok (.iload 6, 2) := by decide +kernel
theorem dX3_fillFromTheEnd_145 : decode cX3_fillFromTheEnd 145 = .ok (.bipush 21, 2) := by decide +kernel
theorem dX3_fillFromTheEnd_147 : decode cX3_fillFromTheEnd 147 = .ok (.iadd, 1) := by decide +kernel
theorem dX3_fillFromTheEnd_148 : decode cX3_fillFromTheEnd 148 = .ok (.iconst 1, 1) := by decide +kernel
theorem dX3_fillFromTheEnd_149 : decode cX3_fillFromTheEnd 149 = .ok (.iadd, 1) := by decide +kernel
theorem dX3_fillFromTheEnd_150 : decode cX3_fillFromTheEnd 150 = .ok (.istore 8, 2) := by decide +kernel
theorem dX3_fillFromTheEnd_152 : decode cX3_fillFromTheEnd 152 = .ok (.aload_n 0, 1) := by decide +kernel
theorem dX3_fillFromTheEnd_153 : decode cX3_fillFromTheEnd 153 = .ok (.iload 6, 2) := by decide +kernel
theorem dX3_fillFromTheEnd_155 : decode cX3_fillFromTheEnd 155 = .ok (.aload_n 0, 1) := by decide +kernel
theorem dX3_fillFromTheEnd_156 : decode cX3_fillFromTheEnd 156 = .ok (.getfield 11, 3) := by decide +kernel
theorem dX3_fillFromTheEnd_159 : decode cX3_fillFromTheEnd 159 = .ok (.iload 8, 2) := by decide +kernel
theorem dX3_fillFromTheEnd_161 : decode cX3_fillFromTheEnd 161 = .ok (.iaload, 1) := by decide +kernel
theorem dX3_fillFromTheEnd_162 : decode cX3_fillFromTheEnd 162 = .ok (.iconst 1, 1) := by decide +kernel
theorem dX3_fillFromTheEnd_163 : decode cX3_fillFromTheEnd 163 = .ok (.iadd, 1) := by decide +kernel
theorem dX3_fillFromTheEnd_164 : decode cX3_fillFromTheEnd 164 = .ok (.aload_n 0, 1) := by decide +kernel
theorem dX3_fillFromTheEnd_165 : decode cX3_fillFromTheEnd 165 = .ok (.getfield 15, 3) := by decide +kernel
theorem dX3_fillFromTheEnd_168 : decode cX3_fillFromTheEnd 168 = .ok (.iload 8, 2) := by decide +kernel
theorem dX3_fillFromTheEnd_170 : decode cX3_fillFromTheEnd 170 = .ok (.iaload, 1) := by decide +kernel
theorem dX3_fillFromTheEnd_171 : decode cX3_fillFromTheEnd 171 = .ok (.iload 7, 2) := by decide +kernel
theorem dX3_fillFromTheEnd_173 : decode cX3_fillFromTheEnd 173 = .ok (.iadd, 1) := by decide +kernel
theorem dX3_fillFromTheEnd_174 : decode cX3_fillFromTheEnd 174 = .ok (.invokevirtual 38, 3) := by decide +kernel
theorem dX3_fillFromTheEnd_177 : decode cX3_fillFromTheEnd 177 = .ok (.iinc 5 (-1), 3) := by decide +kernel
theorem dX3_fillFromTheEnd_180 : decode cX3_fillFromTheEnd 180 = .ok (.goto (-163), 3) := by decide +kernel
theorem dX3_fillFromTheEnd_183 : decode cX3_fillFromTheEnd 183 = .ok (.iinc 4 (-1), 3) := by decide +kernel
theorem dX3_fillFromTheEnd_186 : decode cX3_fillFromTheEnd 186 = .ok (.goto (-180), 3) := by decide +kernel
theorem dX3_fillFromTheEnd_189 : decode cX3_fillFromTheEnd 189 = .ok (.return_, 1) := by decide +kernel
theorem dX3_offer_0 : decode cX3_offer 0 = .ok (.iload_n 2, 1) := by decide +kernel
theorem dX3_offer_1 : decode cX3_offer 1 = .ok (.aload_n 0, 1) := by decide +kernel
theorem dX3_offer_2 : decode cX3_offer 2 = .ok (.getfield 11, 3) := by decide +kernel
theorem dX3_offer_5 : decode cX3_offer 5 = .ok (.iload_n 1, 1) := by decide +kernel
theorem dX3_offer_6 : decode cX3_offer 6 = .ok (.iaload, 1) := by decide +kernel
theorem dX3_offer_7 : decode cX3_offer 7 = .ok (.if_icmp .gt 23, 3) := by decide +kernel
theorem dX3_offer_10 : decode cX3_offer 10 = .ok (.iload_n 2, 1) := by decide +kernel
theorem dX3_offer_11 : decode cX3_offer 11 = .ok (.aload_n 0, 1) := by decide +kernel
theorem dX3_offer_12 : decode cX3_offer 12 = .ok (.getfield 11, 3) := by decide +kernel
theorem dX3_offer_15 : decode cX3_offer 15 = .ok (.iload_n 1, 1) := by decide +kernel
theorem dX3_offer_16 : decode cX3_offer 16 = .ok (.iaload, 1) := by decide +kernel
theorem dX3_offer_17 : decode cX3_offer 17 = .ok (.if_icmp .ne 27, 3) := by decide +kernel
theorem dX3_offer_20 : decode cX3_offer 20 = .ok (.iload_n 3, 1) := by decide +kernel
theorem dX3_offer_21 : decode cX3_offer 21 = .ok (.aload_n 0, 1) := by decide +kernel
theorem dX3_offer_22 : decode cX3_offer 22 = .ok (.getfield 15, 3) := by decide +kernel
theorem dX3_offer_25 : decode cX3_offer 25 = .ok (.iload_n 1, 1) := by decide +kernel
theorem dX3_offer_26 : decode cX3_offer 26 = .ok (.iaload, 1) := by decide +kernel
theorem dX3_offer_27 : decode cX3_offer 27 = .ok (.if_icmp .ge 17, 3) := by decide +kernel
theorem dX3_offer_30 : decode cX3_offer 30 = .ok (.aload_n 0, 1) := by decide +kernel
theorem dX3_offer_31 : decode cX3_offer 31 = .ok (.getfield 11, 3) := by decide +kernel
theorem dX3_offer_34 : decode cX3_offer 34 = .ok (.iload_n 1, 1) := by decide +kernel
theorem dX3_offer_35 : decode cX3_offer 35 = .ok (.iload_n 2, 1) := by decide +kernel
theorem dX3_offer_36 : decode cX3_offer 36 = .ok (.iastore, 1) := by decide +kernel
theorem dX3_offer_37 : decode cX3_offer 37 = .ok (.aload_n 0, 1) := by decide +kernel
theorem dX3_offer_38 : decode cX3_offer 38 = .ok (.getfield 15, 3) := by decide +kernel
theorem dX3_offer_41 : decode cX3_offer 41 = .ok (.iload_n 1, 1) := by decide +kernel
theorem dX3_offer_42 : decode cX3_offer 42 = .ok (.iload_n 3, 1) := by decide +kernel
theorem dX3_offer_43 : decode cX3_offer 43 = .ok (.iastore, 1) := by decide +kernel
theorem dX3_offer_44 : decode cX3_offer 44 = .ok (.return_, 1) := by decide +kernel
theorem dX3_choosePairs_0 : decode cX3_choosePairs 0 = .ok (.iconst 0, 1) := by decide +kernel
theorem dX3_choosePairs_1 : decode cX3_choosePairs 1 = .ok (.istore 4, 2) := by decide +kernel
theorem dX3_choosePairs_3 : decode cX3_choosePairs 3 = .ok (.iconst 0, 1) := by decide +kernel
theorem dX3_choosePairs_4 : decode cX3_choosePairs 4 = .ok (.istore 5, 2) := by decide +kernel
theorem dX3_choosePairs_6 : decode cX3_choosePairs 6 = .ok (.iload 5, 2) := by decide +kernel
theorem dX3_choosePairs_8 : decode cX3_choosePairs 8 = .ok (.aload_n 1, 1) := by decide +kernel
theorem dX3_choosePairs_9 : decode cX3_choosePairs 9 = .ok (.invokevirtual 21, 3) := by decide +kernel
theorem dX3_choosePairs_12 : decode cX3_choosePairs 12 = .ok (.if_icmp .ge 149, 3) := by decide +kernel
theorem dX3_choosePairs_15 : decode cX3_choosePairs 15 = .ok (.aload_n 0, 1) := by decide +kernel
theorem dX3_choosePairs_16 : decode cX3_choosePairs 16 = .ok (.getfield 18, 3) := by decide +kernel
theorem dX3_choosePairs_19 : decode cX3_choosePairs 19 = .ok (.iload 5, 2) := by decide +kernel
theorem dX3_choosePairs_21 : decode cX3_choosePairs 21 = .ok (.iconst (-1), 1) := by decide +kernel
theorem dX3_choosePairs_22 : decode cX3_choosePairs 22 = .ok (.iastore, 1) := by decide +kernel
theorem dX3_choosePairs_23 : decode cX3_choosePairs 23 = .ok (.bipush 21, 2) := by decide +kernel
theorem dX3_choosePairs_25 : decode cX3_choosePairs 25 = .ok (.iload 5, 2) := by decide +kernel
theorem dX3_choosePairs_27 : decode cX3_choosePairs 27 = .ok (.imul, 1) := by decide +kernel
theorem dX3_choosePairs_28 : decode cX3_choosePairs 28 = .ok (.iload 4, 2) := by decide +kernel
theorem dX3_choosePairs_30 : decode cX3_choosePairs 30 = .ok (.iadd, 1) := by decide +kernel
theorem dX3_choosePairs_31 : decode cX3_choosePairs 31 = .ok (.istore 6, 2) := by decide +kernel
theorem dX3_choosePairs_33 : decode cX3_choosePairs 33 = .ok (.iload 4, 2) := by decide +kernel
theorem dX3_choosePairs_35 : decode cX3_choosePairs 35 = .ok (.istore 7, 2) := by decide +kernel
theorem dX3_choosePairs_37 : decode cX3_choosePairs 37 = .ok (.iload 7, 2) := by decide +kernel
theorem dX3_choosePairs_39 : decode cX3_choosePairs 39 = .ok (.aload_n 2, 1) := by decide +kernel
theorem dX3_choosePairs_40 : decode cX3_choosePairs 40 = .ok (.invokevirtual 21, 3) := by decide +kernel
theorem dX3_choosePairs_43 : decode cX3_choosePairs 43 = .ok (.if_icmp .ge 112, 3) := by decide +kernel
theorem dX3_choosePairs_46 : decode cX3_choosePairs 46 = .ok (.aload_n 0, 1) := by decide +kernel
theorem dX3_choosePairs_47 : decode cX3_choosePairs 47 = .ok (.getfield 18, 3) := by decide +kernel
theorem dX3_choosePairs_50 : decode cX3_choosePairs 50 = .ok (.iload 5, 2) := by decide +kernel
theorem dX3_choosePairs_52 : decode cX3_choosePairs 52 = .ok (.iaload, 1) := by decide +kernel
theorem dX3_choosePairs_53 : decode cX3_choosePairs 53 = .ok (.iconst (-1), 1) := by decide +kernel
theorem dX3_choosePairs_54 : decode cX3_choosePairs 54 = .ok (.if_icmp .ne 101, 3) := by decide +kernel
theorem dX3_choosePairs_57 : decode cX3_choosePairs 57 = .ok (.aload_n 1, 1) := by decide +kernel
theorem dX3_choosePairs_58 : decode cX3_choosePairs 58 = .ok (.iload 5, 2) := by decide +kernel
theorem dX3_choosePairs_60 : decode cX3_choosePairs 60 = .ok (.invokevirtual 42, 3) := by decide +kernel
theorem dX3_choosePairs_63 : decode cX3_choosePairs 63 = .ok (.aload_n 2, 1) := by decide +kernel
theorem dX3_choosePairs_64 : decode cX3_choosePairs 64 = .ok (.iload 7, 2) := by decide +kernel
theorem dX3_choosePairs_66 : decode cX3_choosePairs 66 = .ok (.invokevirtual 42, 3) := by decide +kernel
theorem dX3_choosePairs_69 : decode cX3_choosePairs 69 = .ok (.isub, 1) := by decide +kernel
theorem dX3_choosePairs_70 : decode cX3_choosePairs 70 = .ok (.invokestatic 46, 3) := by decide +kernel
theorem dX3_choosePairs_73 : decode cX3_choosePairs 73 = .ok (.istore 8, 2) := by decide +kernel
theorem dX3_choosePairs_75 : decode cX3_choosePairs 75 = .ok (.bipush 21, 2) := by decide +kernel
theorem dX3_choosePairs_77 : decode cX3_choosePairs 77 = .ok (.iload 5, 2) := by decide +kernel
theorem dX3_choosePairs_79 : decode cX3_choosePairs 79 = .ok (.iconst 1, 1) := by decide +kernel
theorem dX3_choosePairs_80 : decode cX3_choosePairs 80 = .ok (.iadd, 1) := by decide +kernel
theorem dX3_choosePairs_81 : decode cX3_choosePairs 81 = .ok (.imul, 1) := by decide +kernel
theorem dX3_choosePairs_82 : decode cX3_choosePairs 82 = .ok (.iload 7, 2) := by decide +kernel
theorem dX3_choosePairs_84 : decode cX3_choosePairs 84 = .ok (.iadd, 1) := by decide +kernel
theorem dX3_choosePairs_85 : decode cX3_choosePairs 85 = .ok (.iconst 1, 1) := by decide +kernel
theorem dX3_choosePairs_86 : decode cX3_choosePairs 86 = .ok (.iadd, 1) := by decide +kernel
theorem dX3_choosePairs_87 : decode cX3_choosePairs 87 = .ok (.istore 9, 2) := by decide +kernel
theorem dX3_choosePairs_89 : decode cX3_choosePairs 89 = .ok (.iload 8, 2) := by decide +kernel
theorem dX3_choosePairs_91 : decode cX3_choosePairs 91 = .ok (.iload_n 3, 1) := by decide +kernel
theorem dX3_choosePairs_92 : decode cX3_choosePairs 92 = .ok (.if_icmp .gt 57, 3) := by decide +kernel
theorem dX3_choosePairs_95 : decode cX3_choosePairs 95 = .ok (.aload_n 0, 1) := by decide +kernel
theorem dX3_choosePairs_96 : decode cX3_choosePairs 96 = .ok (.getfield 11, 3) := by decide +kernel
theorem dX3_choosePairs_99 : decode cX3_choosePairs 99 = .ok (.iload 9, 2) := by decide +kernel
theorem dX3_choosePairs_101 : decode cX3_choosePairs 101 = .ok (.iaload, 1) := by decide +kernel
theorem dX3_choosePairs_102 : decode cX3_choosePairs 102 = .ok (.iconst 1, 1) := by decide +kernel
theorem dX3_choosePairs_103 : decode cX3_choosePairs 103 = .ok (.iadd, 1) := by decide +kernel
theorem dX3_choosePairs_104 : decode cX3_choosePairs 104 = .ok (.aload_n 0, 1) := by decide +kernel
theorem dX3_choosePairs_105 : decode cX3_choosePairs 105 = .ok (.getfield 11, 3) := by decide +kernel
theorem dX3_choosePairs_108 : decode cX3_choosePairs 108 = .ok (.iload 6, 2) := by decide +kernel
theorem dX3_choosePairs_110 : decode cX3_choosePairs 110 = .ok (.iaload, 1) := by decide +kernel
theorem dX3_choosePairs_111 : decode cX3_choosePairs 111 = .ok (.if_icmp .ne 38, 3) := by decide +kernel
theorem dX3_choosePairs_114 : decode cX3_choosePairs 114 = .ok (.aload_n 0, 1) := by decide +kernel
theorem dX3_choosePairs_115 : decode cX3_choosePairs 115 = .ok (.getfield 15, 3) := by decide +kernel
theorem dX3_choosePairs_118 : decode cX3_choosePairs 118 = .ok (.iload 9, 2) := by decide +kernel
theorem dX3_choosePairs_120 : decode cX3_choosePairs 120 = .ok (.iaload, 1) := by decide +kernel
theorem dX3_choosePairs_121 : decode cX3_choosePairs 121 = .ok (.iload 8, 2) := by decide +kernel
theorem dX3_choosePairs_123 : decode cX3_choosePairs 123 = .ok (.iadd, 1) := by decide +kernel
theorem dX3_choosePairs_124 : decode cX3_choosePairs 124 = .ok (.aload_n 0, 1) := by decide +kernel
theorem dX3_choosePairs_125 : decode cX3_choosePairs 125 = .ok (.getfield 15, 3) := by decide +kernel
theorem dX3_choosePairs_128 : decode cX3_choosePairs 128 = .ok (.iload 6, 2) := by decide +kernel
theorem dX3_choosePairs_130 : decode cX3_choosePairs 130 = .ok (.iaload, 1) := by decide +kernel
theorem dX3_choosePairs_131 : decode cX3_choosePairs 131 = .ok (.if_icmp .ne 18, 3) := by decide +kernel
theorem dX3_choosePairs_134 : decode cX3_choosePairs 134 = .ok (.aload_n 0, 1) := by decide +kernel
theorem dX3_choosePairs_135 : decode cX3_choosePairs 135 = .ok (.getfield 18, 3) := by decide +kernel
theorem dX3_choosePairs_138 : decode cX3_choosePairs 138 = .ok (.iload 5, 2) := by decide +kernel
theorem dX3_choosePairs_140 : decode cX3_choosePairs 140 = .ok (.iload 7, 2) := by decide +kernel
theorem dX3_choosePairs_142 : decode cX3_choosePairs 142 = .ok (.iastore, 1) := by decide +kernel
theorem dX3_choosePairs_143 : decode cX3_choosePairs 143 = .ok (.iload 7, 2) := by decide +kernel
theorem dX3_choosePairs_145 : decode cX3_choosePairs 145 = .ok (.iconst 1, 1) := by decide +kernel
theorem dX3_choosePairs_146 : decode cX3_choosePairs 146 = .ok (.iadd, 1) := by decide +kernel
theorem dX3_choosePairs_147 : decode cX3_choosePairs 147 = .ok (.istore 4, 2) := by decide +kernel
theorem dX3_choosePairs_149 : decode cX3_choosePairs 149 = .ok (.iinc 7 1, 3) := by decide +kernel
theorem dX3_choosePairs_152 : decode cX3_choosePairs 152 = .ok (.goto (-115), 3) := by decide +kernel
theorem dX3_choosePairs_155 : decode cX3_choosePairs 155 = .ok (.iinc 5 1, 3) := by decide +kernel
theorem dX3_choosePairs_158 : decode cX3_choosePairs 158 = .ok (.goto (-152), 3) := by decide +kernel
theorem dX3_choosePairs_161 : decode cX3_choosePairs 161 = .ok (.return_, 1) := by decide +kernel
theorem dX3_partnerOf_0 : decode cX3_partnerOf 0 = .ok (.iload_n 1, 1) := by decide +kernel
theorem dX3_partnerOf_1 : decode cX3_partnerOf 1 = .ok (.ifCond .lt 20, 3) := by decide +kernel
theorem dX3_partnerOf_4 : decode cX3_partnerOf 4 = .ok (.iload_n 1, 1) := by decide +kernel
theorem dX3_partnerOf_5 : decode cX3_partnerOf 5 = .ok (.aload_n 0, 1) := by decide +kernel
theorem dX3_partnerOf_6 : decode cX3_partnerOf 6 = .ok (.getfield 27, 3) := by decide +kernel
theorem dX3_partnerOf_9 : decode cX3_partnerOf 9 = .ok (.if_icmp .ge 12, 3) := by decide +kernel
theorem dX3_partnerOf_12 : decode cX3_partnerOf 12 = .ok (.aload_n 0, 1) := by decide +kernel
theorem dX3_partnerOf_13 : decode cX3_partnerOf 13 = .ok (.getfield 18, 3) := by decide +kernel
theorem dX3_partnerOf_16 : decode cX3_partnerOf 16 = .ok (.iload_n 1, 1) := by decide +kernel
theorem dX3_partnerOf_17 : decode cX3_partnerOf 17 = .ok (.iaload, 1) := by decide +kernel
theorem dX3_partnerOf_18 : decode cX3_partnerOf 18 = .ok (.goto 4, 3) := by decide +kernel
theorem dX3_partnerOf_21 : decode cX3_partnerOf 21 = .ok (.iconst (-1), 1) := by decide +kernel
theorem dX3_partnerOf_22 : decode cX3_partnerOf 22 = .ok (.ireturn, 1) := by decide +kernel
theorem dX3_pairs_0 : decode cX3_pairs 0 = .ok (.aload_n 0, 1) := by decide +kernel
theorem dX3_pairs_1 : decode cX3_pairs 1 = .ok (.getfield 11, 3) := by decide +kernel
theorem dX3_pairs_4 : decode cX3_pairs 4 = .ok (.iconst 0, 1) := by decide +kernel
theorem dX3_pairs_5 : decode cX3_pairs 5 = .ok (.iaload, 1) := by decide +kernel
theorem dX3_pairs_6 : decode cX3_pairs 6 = .ok (.ireturn, 1) := by decide +kernel
theorem dX3_apart_0 : decode cX3_apart 0 = .ok (.aload_n 0, 1) := by decide +kernel
theorem dX3_apart_1 : decode cX3_apart 1 = .ok (.getfield 15, 3) := by decide +kernel
theorem dX3_apart_4 : decode cX3_apart 4 = .ok (.iconst 0, 1) := by decide +kernel
theorem dX3_apart_5 : decode cX3_apart 5 = .ok (.iaload, 1) := by decide +kernel
theorem dX3_apart_6 : decode cX3_apart 6 = .ok (.ireturn, 1) := by decide +kernel
theorem dX3_grownByMoreThan_0 : decode cX3_grownByMoreThan 0 = .ok (.iconst 0, 1) := by decide +kernel
theorem dX3_grownByMoreThan_1 : decode cX3_grownByMoreThan 1 = .ok (.istore 4, 2) := by decide +kernel
theorem dX3_grownByMoreThan_3 : decode cX3_grownByMoreThan 3 = .ok (.iconst 0, 1) := by decide +kernel
theorem dX3_grownByMoreThan_4 : decode cX3_grownByMoreThan 4 = .ok (.istore 5, 2) := by decide +kernel
theorem dX3_grownByMoreThan_6 : decode cX3_grownByMoreThan 6 = .ok (.iload 5, 2) := by decide +kernel
theorem dX3_grownByMoreThan_8 : decode cX3_grownByMoreThan 8 = .ok (.aload_n 0, 1) := by decide +kernel
theorem dX3_grownByMoreThan_9 : decode cX3_grownByMoreThan 9 = .ok (.getfield 27, 3) := by decide +kernel
theorem dX3_grownByMoreThan_12 : decode cX3_grownByMoreThan 12 = .ok (.if_icmp .ge 44, 3) := by decide +kernel
theorem dX3_grownByMoreThan_15 : decode cX3_grownByMoreThan 15 = .ok (.aload_n 0, 1) := by decide +kernel
theorem dX3_grownByMoreThan_16 : decode cX3_grownByMoreThan 16 = .ok (.getfield 18, 3) := by decide +kernel
theorem dX3_grownByMoreThan_19 : decode cX3_grownByMoreThan 19 = .ok (.iload 5, 2) := by decide +kernel
theorem dX3_grownByMoreThan_21 : decode cX3_grownByMoreThan 21 = .ok (.iaload, 1) := by decide +kernel
theorem dX3_grownByMoreThan_22 : decode cX3_grownByMoreThan 22 = .ok (.istore 6, 2) := by decide +kernel
theorem dX3_grownByMoreThan_24 : decode cX3_grownByMoreThan 24 = .ok (.iload 6, 2) := by decide +kernel
theorem dX3_grownByMoreThan_26 : decode cX3_grownByMoreThan 26 = .ok (.iconst (-1), 1) := by decide +kernel
theorem dX3_grownByMoreThan_27 : decode cX3_grownByMoreThan 27 = .ok (.if_icmp .eq 23, 3) := by decide +kernel
theorem dX3_grownByMoreThan_30 : decode cX3_grownByMoreThan 30 = .ok (.aload_n 3, 1) := by decide +kernel
theorem dX3_grownByMoreThan_31 : decode cX3_grownByMoreThan 31 = .ok (.iload 6, 2) := by decide +kernel
theorem dX3_grownByMoreThan_33 : decode cX3_grownByMoreThan 33 = .ok (.invokevirtual 51, 3) := by decide +kernel
theorem dX3_grownByMoreThan_36 : decode cX3_grownByMoreThan 36 = .ok (.aload_n 2, 1) := by decide +kernel
theorem dX3_grownByMoreThan_37 : decode cX3_grownByMoreThan 37 = .ok (.iload 5, 2) := by decide +kernel
theorem dX3_grownByMoreThan_39 : decode cX3_grownByMoreThan 39 = .ok (.invokevirtual 51, 3) := by decide +kernel
theorem dX3_grownByMoreThan_42 : decode cX3_grownByMoreThan 42 = .ok (.isub, 1) := by decide +kernel
theorem dX3_grownByMoreThan_43 : decode cX3_grownByMoreThan 43 = .ok (.iload_n 1, 1) := by decide +kernel
theorem dX3_grownByMoreThan_44 : decode cX3_grownByMoreThan 44 = .ok (.if_icmp .le 6, 3) := by decide +kernel
theorem dX3_grownByMoreThan_47 : decode cX3_grownByMoreThan 47 = .ok (.iinc 4 1, 3) := by decide +kernel
theorem dX3_grownByMoreThan_50 : decode cX3_grownByMoreThan 50 = .ok (.iinc 5 1, 3) := by decide +kernel
theorem dX3_grownByMoreThan_53 : decode cX3_grownByMoreThan 53 = .ok (.goto (-47), 3) := by decide +kernel
theorem dX3_grownByMoreThan_56 : decode cX3_grownByMoreThan 56 = .ok (.iload 4, 2) := by decide +kernel
theorem dX3_grownByMoreThan_58 : decode cX3_grownByMoreThan 58 = .ok (.ireturn, 1) := by decide +kernel
theorem dX4_init_0 : decode cX4_init 0 = .ok (.aload_n 0, 1) := by decide +kernel
theorem dX4_init_1 : decode cX4_init 1 = .ok (.invokespecial 1, 3) := by decide +kernel
theorem dX4_init_4 : decode cX4_init 4 = .ok (.aload_n 0, 1) := by decide +kernel
theorem dX4_init_5 : decode cX4_init 5 = .ok (.iload_n 1, 1) := by decide +kernel
theorem dX4_init_6 : decode cX4_init 6 = .ok (.putfield 7, 3) := by decide +kernel
theorem dX4_init_9 : decode cX4_init 9 = .ok (.aload_n 0, 1) := by decide +kernel
theorem dX4_init_10 : decode cX4_init 10 = .ok (.iload_n 2, 1) := by decide +kernel
theorem dX4_init_11 : decode cX4_init 11 = .ok (.putfield 13, 3) := by decide +kernel
theorem dX4_init_14 : decode cX4_init 14 = .ok (.aload_n 0, 1) := by decide +kernel
theorem dX4_init_15 : decode cX4_init 15 = .ok (.iload_n 3, 1) := by decide +kernel
theorem dX4_init_16 : decode cX4_init 16 = .ok (.putfield 16, 3) := by decide +kernel
theorem dX4_init_19 : decode cX4_init 19 = .ok (.return_, 1) := by decide +kernel
theorem dX4_isLike_0 : decode cX4_isLike 0 = .ok (.aload_n 0, 1) := by decide +kernel
theorem dX4_isLike_1 : decode cX4_isLike 1 = .ok (.getfield 7, 3) := by decide +kernel
theorem dX4_isLike_4 : decode cX4_isLike 4 = .ok (.aload_n 1, 1) := by decide +kernel
theorem dX4_isLike_5 : decode cX4_isLike 5 = .ok (.getfield 7, 3) := by decide +kernel
theorem dX4_isLike_8 : decode cX4_isLike 8 = .ok (.if_icmp .ne 29, 3) := by decide +kernel
theorem dX4_isLike_11 : decode cX4_isLike 11 = .ok (.aload_n 0, 1) := by decide +kernel
theorem dX4_isLike_12 : decode cX4_isLike 12 = .ok (.getfield 13, 3) := by decide +kernel
theorem dX4_isLike_15 : decode cX4_isLike 15 = .ok (.aload_n 1, 1) := by decide +kernel
theorem dX4_isLike_16 : decode cX4_isLike 16 = .ok (.getfield 13, 3) := by decide +kernel
theorem dX4_isLike_19 : decode cX4_isLike 19 = .ok (.if_icmp .ne 18, 3) := by decide +kernel
theorem dX4_isLike_22 : decode cX4_isLike 22 = .ok (.aload_n 0, 1) := by decide +kernel
theorem dX4_isLike_23 : decode cX4_isLike 23 = .ok (.getfield 16, 3) := by decide +kernel
theorem dX4_isLike_26 : decode cX4_isLike 26 = .ok (.aload_n 1, 1) := by decide +kernel
theorem dX4_isLike_27 : decode cX4_isLike 27 = .ok (.getfield 16, 3) := by decide +kernel
theorem dX4_isLike_30 : decode cX4_isLike 30 = .ok (.if_icmp .ne 7, 3) := by decide +kernel
theorem dX4_isLike_33 : decode cX4_isLike 33 = .ok (.iconst 1, 1) := by decide +kernel
theorem dX4_isLike_34 : decode cX4_isLike 34 = .ok (.goto 4, 3) := by decide +kernel
theorem dX4_isLike_37 : decode cX4_isLike 37 = .ok (.iconst 0, 1) := by decide +kernel
theorem dX4_isLike_38 : decode cX4_isLike 38 = .ok (.ireturn, 1) := by decide +kernel
theorem dX5_init_0 : decode cX5_init 0 = .ok (.aload_n 0, 1) := by decide +kernel
theorem dX5_init_1 : decode cX5_init 1 = .ok (.invokespecial 3, 3) := by decide +kernel
theorem dX5_init_4 : decode cX5_init 4 = .ok (.aload_n 0, 1) := by decide +kernel
theorem dX5_init_5 : decode cX5_init 5 = .ok (.iconst 4, 1) := by decide +kernel
theorem dX5_init_6 : decode cX5_init 6 = .ok (.newarray .int, 2) := by decide +kernel
theorem dX5_init_8 : decode cX5_init 8 = .ok (.dup, 1) := by decide +kernel
theorem dX5_init_9 : decode cX5_init 9 = .ok (.iconst 0, 1) := by decide +kernel
theorem dX5_init_10 : decode cX5_init 10 = .ok (.bipush 30, 2) := by decide +kernel
theorem dX5_init_12 : decode cX5_init 12 = .ok (.iastore, 1) := by decide +kernel
theorem dX5_init_13 : decode cX5_init 13 = .ok (.dup, 1) := by decide +kernel
theorem dX5_init_14 : decode cX5_init 14 = .ok (.iconst 1, 1) := by decide +kernel
theorem dX5_init_15 : decode cX5_init 15 = .ok (.bipush 30, 2) := by decide +kernel
theorem dX5_init_17 : decode cX5_init 17 = .ok (.iastore, 1) := by decide +kernel
theorem dX5_init_18 : decode cX5_init 18 = .ok (.dup, 1) := by decide +kernel
theorem dX5_init_19 : decode cX5_init 19 = .ok (.iconst 2, 1) := by decide +kernel
theorem dX5_init_20 : decode cX5_init 20 = .ok (.bipush 30, 2) := by decide +kernel
theorem dX5_init_22 : decode cX5_init 22 = .ok (.iastore, 1) := by decide +kernel
theorem dX5_init_23 : decode cX5_init 23 = .ok (.dup, 1) := by decide +kernel
theorem dX5_init_24 : decode cX5_init 24 = .ok (.iconst 3, 1) := by decide +kernel
theorem dX5_init_25 : decode cX5_init 25 = .ok (.bipush 30, 2) := by decide +kernel
theorem dX5_init_27 : decode cX5_init 27 = .ok (.iastore, 1) := by decide +kernel
theorem dX5_init_28 : decode cX5_init 28 = .ok (.putfield 9, 3) := by decide +kernel
theorem dX5_init_31 : decode cX5_init 31 = .ok (.aload_n 0, 1) := by decide +kernel
theorem dX5_init_32 : decode cX5_init 32 = .ok (.iconst 4, 1) := by decide +kernel
theorem dX5_init_33 : decode cX5_init 33 = .ok (.iconst 0, 1) := by decide +kernel
theorem dX5_init_34 : decode cX5_init 34 = .ok (.multianewarray 15 2, 4) := by decide +kernel
theorem dX5_init_38 : decode cX5_init 38 = .ok (.putfield 17, 3) := by decide +kernel
theorem dX5_init_41 : decode cX5_init 41 = .ok (.aload_n 0, 1) := by decide +kernel
theorem dX5_init_42 : decode cX5_init 42 = .ok (.bipush 14, 2) := by decide +kernel
theorem dX5_init_44 : decode cX5_init 44 = .ok (.putfield 20, 3) := by decide +kernel
theorem dX5_init_47 : decode cX5_init 47 = .ok (.aload_n 0, 1) := by decide +kernel
theorem dX5_init_48 : decode cX5_init 48 = .ok (.bipush 10, 2) := by decide +kernel
theorem dX5_init_50 : decode cX5_init 50 = .ok (.putfield 24, 3) := by decide +kernel
theorem dX5_init_53 : decode cX5_init 53 = .ok (.aload_n 0, 1) := by decide +kernel
theorem dX5_init_54 : decode cX5_init 54 = .ok (.bipush 14, 2) := by decide +kernel
theorem dX5_init_56 : decode cX5_init 56 = .ok (.putfield 27, 3) := by decide +kernel
theorem dX5_init_59 : decode cX5_init 59 = .ok (.aload_n 0, 1) := by decide +kernel
theorem dX5_init_60 : decode cX5_init 60 = .ok (.bipush 10, 2) := by decide +kernel
theorem dX5_init_62 : decode cX5_init 62 = .ok (.putfield 30, 3) := by decide +kernel
theorem dX5_init_65 : decode cX5_init 65 = .ok (.aload_n 0, 1) := by decide +kernel
theorem dX5_init_66 : decode cX5_init 66 = .ok (.bipush 50, 2) := by decide +kernel
theorem dX5_init_68 : decode cX5_init 68 = .ok (.putfield 33, 3) := by decide +kernel
theorem dX5_init_71 : decode cX5_init 71 = .ok (.aload_n 0, 1) := by decide +kernel
theorem dX5_init_72 : decode cX5_init 72 = .ok (.bipush 8, 2) := by decide +kernel
theorem dX5_init_74 : decode cX5_init 74 = .ok (.putfield 36, 3) := by decide +kernel
theorem dX5_init_77 : decode cX5_init 77 = .ok (.aload_n 0, 1) := by decide +kernel
theorem dX5_init_78 : decode cX5_init 78 = .ok (.bipush 17, 2) := by decide +kernel
theorem dX5_init_80 : decode cX5_init 80 = .ok (.putfield 39, 3) := by decide +kernel
theorem dX5_init_83 : decode cX5_init 83 = .ok (.return_, 1) := by decide +kernel
theorem dX5_restsOn_0 : decode cX5_restsOn 0 = .ok (.aload_n 0, 1) := by decide +kernel
theorem dX5_restsOn_1 : decode cX5_restsOn 1 = .ok (.getfield 42, 3) := by decide +kernel
theorem dX5_restsOn_4 : decode cX5_restsOn 4 = .ok (.iload_n 1, 1) := by decide +kernel
theorem dX5_restsOn_5 : decode cX5_restsOn 5 = .ok (.bipush 7, 2) := by decide +kernel
theorem dX5_restsOn_7 : decode cX5_restsOn 7 = .ok (.irem, 1) := by decide +kernel
theorem dX5_restsOn_8 : decode cX5_restsOn 8 = .ok (.ishr, 1) := by decide +kernel
theorem dX5_restsOn_9 : decode cX5_restsOn 9 = .ok (.iconst 1, 1) := by decide +kernel
theorem dX5_restsOn_10 : decode cX5_restsOn 10 = .ok (.iand, 1) := by decide +kernel
theorem dX5_restsOn_11 : decode cX5_restsOn 11 = .ok (.iconst 1, 1) := by decide +kernel
theorem dX5_restsOn_12 : decode cX5_restsOn 12 = .ok (.if_icmp .ne 7, 3) := by decide +kernel
theorem dX5_restsOn_15 : decode cX5_restsOn 15 = .ok (.iconst 1, 1) := by decide +kernel
theorem dX5_restsOn_16 : decode cX5_restsOn 16 = .ok (.goto 4, 3) := by decide +kernel
theorem dX5_restsOn_19 : decode cX5_restsOn 19 = .ok (.iconst 0, 1) := by decide +kernel
theorem dX5_restsOn_20 : decode cX5_restsOn 20 = .ok (.ireturn, 1) := by decide +kernel
theorem dX5_restsAlways_0 : decode cX5_restsAlways 0 = .ok (.aload_n 0, 1) := by decide +kernel
theorem dX5_restsAlways_1 : decode cX5_restsAlways 1 = .ok (.getfield 42, 3) := by decide +kernel
theorem dX5_restsAlways_4 : decode cX5_restsAlways 4 = .ok (.bipush 127, 2) := by decide +kernel
theorem dX5_restsAlways_6 : decode cX5_restsAlways 6 = .ok (.if_icmp .ne 7, 3) := by decide +kernel
theorem dX5_restsAlways_9 : decode cX5_restsAlways 9 = .ok (.iconst 1, 1) := by decide +kernel
theorem dX5_restsAlways_10 : decode cX5_restsAlways 10 = .ok (.goto 4, 3) := by decide +kernel
theorem dX5_restsAlways_13 : decode cX5_restsAlways 13 = .ok (.iconst 0, 1) := by decide +kernel
theorem dX5_restsAlways_14 : decode cX5_restsAlways 14 = .ok (.ireturn, 1) := by decide +kernel
theorem dX5_countFrom_0 : decode cX5_countFrom 0 = .ok (.iload_n 1, 1) := by decide +kernel
theorem dX5_countFrom_1 : decode cX5_countFrom 1 = .ok (.istore_n 3, 1) := by decide +kernel
theorem dX5_countFrom_2 : decode cX5_countFrom 2 = .ok (.iload_n 2, 1) := by decide +kernel
theorem dX5_countFrom_3 : decode cX5_countFrom 3 = .ok (.istore 4, 2) := by decide +kernel
theorem dX5_countFrom_5 : decode cX5_countFrom 5 = .ok (.iconst 0, 1) := by decide +kernel
theorem dX5_countFrom_6 : decode cX5_countFrom 6 = .ok (.istore 5, 2) := by decide +kernel
theorem dX5_countFrom_8 : decode cX5_countFrom 8 = .ok (.iload 5, 2) := by decide +kernel
theorem dX5_countFrom_10 : decode cX5_countFrom 10 = .ok (.bipush 7, 2) := by decide +kernel
theorem dX5_countFrom_12 : decode cX5_countFrom 12 = .ok (.iload_n 2, 1) := by decide +kernel
theorem dX5_countFrom_13 : decode cX5_countFrom 13 = .ok (.imul, 1) := by decide +kernel
theorem dX5_countFrom_14 : decode cX5_countFrom 14 = .ok (.if_icmp .ge 28, 3) := by decide +kernel
theorem dX5_countFrom_17 : decode cX5_countFrom 17 = .ok (.iload 4, 2) := by decide +kernel
theorem dX5_countFrom_19 : decode cX5_countFrom 19 = .ok (.ifCond .le 23, 3) := by decide +kernel
theorem dX5_countFrom_22 : decode cX5_countFrom 22 = .ok (.iinc 3 1, 3) := by decide +kernel
theorem dX5_countFrom_25 : decode cX5_countFrom 25 = .ok (.aload_n 0, 1) := by decide +kernel
theorem dX5_countFrom_26 : decode cX5_countFrom 26 = .ok (.iload_n 3, 1) := by decide +kernel
theorem dX5_countFrom_27 : decode cX5_countFrom 27 = .ok (.invokevirtual 45, 3) := by decide +kernel
theorem dX5_countFrom_30 : decode cX5_countFrom 30 = .ok (.ifCond .ne 6, 3) := by decide +kernel
theorem dX5_countFrom_33 : decode cX5_countFrom 33 = .ok (.iinc 4 (-1), 3) := by decide +kernel
theorem dX5_countFrom_36 : decode cX5_countFrom 36 = .ok (.iinc 5 1, 3) := by decide +kernel
theorem dX5_countFrom_39 : decode cX5_countFrom 39 = .ok (.goto (-31), 3) := by decide +kernel
theorem dX5_countFrom_42 : decode cX5_countFrom 42 = .ok (.iload_n 3, 1) := by decide +kernel
theorem dX5_countFrom_43 : decode cX5_countFrom 43 = .ok (.ireturn, 1) := by decide +kernel
theorem dX5_needsNotice_0 : decode cX5_needsNotice 0 = .ok (.aload_n 0, 1) := by decide +kernel
theorem dX5_needsNotice_1 : decode cX5_needsNotice 1 = .ok (.getfield 17, 3) := by decide +kernel
theorem dX5_needsNotice_4 : decode cX5_needsNotice 4 = .ok (.iload_n 1, 1) := by decide +kernel
theorem dX5_needsNotice_5 : decode cX5_needsNotice 5 = .ok (.aaload, 1) := by decide +kernel
theorem dX5_needsNotice_6 : decode cX5_needsNotice 6 = .ok (.astore 5, 2) := by decide +kernel
theorem dX5_needsNotice_8 : decode cX5_needsNotice 8 = .ok (.aload 5, 2) := by decide +kernel
theorem dX5_needsNotice_10 : decode cX5_needsNotice 10 = .ok (.arraylength, 1) := by decide +kernel
theorem dX5_needsNotice_11 : decode cX5_needsNotice 11 = .ok (.ifCond .ne 5, 3) := by decide +kernel
theorem dX5_needsNotice_14 : decode cX5_needsNotice 14 = .ok (.iconst 1, 1) := by decide +kernel
theorem dX5_needsNotice_15 : decode cX5_needsNotice 15 = .ok (.ireturn, 1) := by decide +kernel
theorem dX5_needsNotice_16 : decode cX5_needsNotice 16 = .ok (.lconst 0, 1) := by decide +kernel
theorem dX5_needsNotice_17 : decode cX5_needsNotice 17 = .ok (.lstore 6, 2) := by decide +kernel
theorem dX5_needsNotice_19 : decode cX5_needsNotice 19 = .ok (.iconst 0, 1) := by decide +kernel
theorem dX5_needsNotice_20 : decode cX5_needsNotice 20 = .ok (.istore 8, 2) := by decide +kernel
theorem dX5_needsNotice_22 : decode cX5_needsNotice 22 = .ok (.iload 8, 2) := by decide +kernel
theorem dX5_needsNotice_24 : decode cX5_needsNotice 24 = .ok (.aload 5, 2) := by decide +kernel
theorem dX5_needsNotice_26 : decode cX5_needsNotice 26 = .ok (.arraylength, 1) := by decide +kernel
theorem dX5_needsNotice_27 : decode cX5_needsNotice 27 = .ok (.if_icmp .ge 109, 3) := by decide +kernel
theorem dX5_needsNotice_30 : decode cX5_needsNotice 30 = .ok (.lload 6, 2) := by decide +kernel
theorem dX5_needsNotice_32 : decode cX5_needsNotice 32 = .ok (.lconst 1, 1) := by decide +kernel
theorem dX5_needsNotice_33 : decode cX5_needsNotice 33 = .ok (.land, 1) := by decide +kernel
theorem dX5_needsNotice_34 : decode cX5_needsNotice 34 = .ok (.lstore 9, 2) := by decide +kernel
theorem dX5_needsNotice_36 : decode cX5_needsNotice 36 = .ok (.aload 5, 2) := by decide +kernel
theorem dX5_needsNotice_38 : decode cX5_needsNotice 38 = .ok (.iload 8, 2) := by decide +kernel
theorem dX5_needsNotice_40 : decode cX5_needsNotice 40 = .ok (.iaload, 1) := by decide +kernel
theorem dX5_needsNotice_41 : decode cX5_needsNotice 41 = .ok (.iconst (-1), 1) := by decide +kernel
theorem dX5_needsNotice_42 : decode cX5_needsNotice 42 = .ok (.if_icmp .ne 12, 3) := by decide +kernel
theorem dX5_needsNotice_45 : decode cX5_needsNotice 45 = .ok (.lload 6, 2) := by decide +kernel
theorem dX5_needsNotice_47 : decode cX5_needsNotice 47 = .ok (.lconst 1, 1) := by decide +kernel
theorem dX5_needsNotice_48 : decode cX5_needsNotice 48 = .ok (.lxor, 1) := by decide +kernel
theorem dX5_needsNotice_49 : decode cX5_needsNotice 49 = .ok (.lstore 6, 2) := by decide +kernel
theorem dX5_needsNotice_51 : decode cX5_needsNotice 51 = .ok (.goto 79, 3) := by decide +kernel
theorem dX5_needsNotice_54 : decode cX5_needsNotice 54 = .ok (.aload 5, 2) := by decide +kernel
theorem dX5_needsNotice_56 : decode cX5_needsNotice 56 = .ok (.iload 8, 2) := by decide +kernel
theorem dX5_needsNotice_58 : decode cX5_needsNotice 58 = .ok (.iaload, 1) := by decide +kernel
theorem dX5_needsNotice_59 : decode cX5_needsNotice 59 = .ok (.bipush (-2), 2) := by decide +kernel
theorem dX5_needsNotice_61 : decode cX5_needsNotice 61 = .ok (.if_icmp .ne 19, 3) := by decide +kernel
theorem dX5_needsNotice_64 : decode cX5_needsNotice 64 = .ok (.lload 6, 2) := by decide +kernel
theorem dX5_needsNotice_66 : decode cX5_needsNotice 66 = .ok (.iconst 1, 1) := by decide +kernel
theorem dX5_needsNotice_67 : decode cX5_needsNotice 67 = .ok (.lshr, 1) := by decide +kernel
theorem dX5_needsNotice_68 : decode cX5_needsNotice 68 = .ok (.lload 9, 2) := by decide +kernel
theorem dX5_needsNotice_70 : decode cX5_needsNotice 70 = .ok (.ldc2_w 49, 3) := by decide +kernel
theorem dX5_needsNotice_73 : decode cX5_needsNotice 73 = .ok (.lor, 1) := by decide +kernel
theorem dX5_needsNotice_74 : decode cX5_needsNotice 74 = .ok (.land, 1) := by decide +kernel
theorem dX5_needsNotice_75 : decode cX5_needsNotice 75 = .ok (.lstore 6, 2) := by decide +kernel
theorem dX5_needsNotice_77 : decode cX5_needsNotice 77 = .ok (.goto 53, 3) := by decide +kernel
theorem dX5_needsNotice_80 : decode cX5_needsNotice 80 = .ok (.aload 5, 2) := by decide +kernel
theorem dX5_needsNotice_82 : decode cX5_needsNotice 82 = .ok (.iload 8, 2) := by decide +kernel
theorem dX5_needsNotice_84 : decode cX5_needsNotice 84 = .ok (.iaload, 1) := by decide +kernel
theorem dX5_needsNotice_85 : decode cX5_needsNotice 85 = .ok (.bipush (-3), 2) := by decide +kernel
theorem dX5_needsNotice_87 : decode cX5_needsNotice 87 = .ok (.if_icmp .ne 15, 3) := by decide +kernel
theorem dX5_needsNotice_90 : decode cX5_needsNotice 90 = .ok (.lload 6, 2) := by decide +kernel
theorem dX5_needsNotice_92 : decode cX5_needsNotice 92 = .ok (.iconst 1, 1) := by decide +kernel
theorem dX5_needsNotice_93 : decode cX5_needsNotice 93 = .ok (.lshr, 1) := by decide +kernel
theorem dX5_needsNotice_94 : decode cX5_needsNotice 94 = .ok (.lload 9, 2) := by decide +kernel
theorem dX5_needsNotice_96 : decode cX5_needsNotice 96 = .ok (.lor, 1) := by decide +kernel
theorem dX5_needsNotice_97 : decode cX5_needsNotice 97 = .ok (.lstore 6, 2) := by decide +kernel
theorem dX5_needsNotice_99 : decode cX5_needsNotice 99 = .ok (.goto 31, 3) := by decide +kernel
theorem dX5_needsNotice_102 : decode cX5_needsNotice 102 = .ok (.lload 6, 2) := by decide +kernel
theorem dX5_needsNotice_104 : decode cX5_needsNotice 104 = .ok (.iconst 1, 1) := by decide +kernel
theorem dX5_needsNotice_105 : decode cX5_needsNotice 105 = .ok (.lshl, 1) := by decide +kernel
theorem dX5_needsNotice_106 : decode cX5_needsNotice 106 = .ok (.aload 5, 2) := by decide +kernel
theorem dX5_needsNotice_108 : decode cX5_needsNotice 108 = .ok (.iload 8, 2) := by decide +kernel
theorem dX5_needsNotice_110 : decode cX5_needsNotice 110 = .ok (.iaload, 1) := by decide +kernel
theorem dX5_needsNotice_111 : decode cX5_needsNotice 111 = .ok (.iload_n 2, 1) := by decide +kernel
theorem dX5_needsNotice_112 : decode cX5_needsNotice 112 = .ok (.iload_n 3, 1) := by decide +kernel
theorem dX5_needsNotice_113 : decode cX5_needsNotice 113 = .ok (.iload 4, 2) := by decide +kernel
theorem dX5_needsNotice_115 : decode cX5_needsNotice 115 = .ok (.invokestatic 51, 3) := by decide +kernel
theorem dX5_needsNotice_118 : decode cX5_needsNotice 118 = .ok (.ifCond .eq 7, 3) := by decide +kernel
theorem dX5_needsNotice_121 : decode cX5_needsNotice 121 = .ok (.iconst 1, 1) := by decide +kernel
theorem dX5_needsNotice_122 : decode cX5_needsNotice 122 = .ok (.goto 4, 3) := by decide +kernel
theorem dX5_needsNotice_125 : decode cX5_needsNotice 125 = .ok (.iconst 0, 1) := by decide +kernel
theorem dX5_needsNotice_126 : decode cX5_needsNotice 126 = .ok (.i2l, 1) := by decide +kernel
theorem dX5_needsNotice_127 : decode cX5_needsNotice 127 = .ok (.lor, 1) := by decide +kernel
theorem dX5_needsNotice_128 : decode cX5_needsNotice 128 = .ok (.lstore 6, 2) := by decide +kernel
theorem dX5_needsNotice_130 : decode cX5_needsNotice 130 = .ok (.iinc 8 1, 3) := by decide +kernel
theorem dX5_needsNotice_133 : decode cX5_needsNotice 133 = .ok (.goto (-111), 3) := by decide +kernel
theorem dX5_needsNotice_136 : decode cX5_needsNotice 136 = .ok (.lload 6, 2) := by decide +kernel
theorem dX5_needsNotice_138 : decode cX5_needsNotice 138 = .ok (.lconst 1, 1) := by decide +kernel
theorem dX5_needsNotice_139 : decode cX5_needsNotice 139 = .ok (.land, 1) := by decide +kernel
theorem dX5_needsNotice_140 : decode cX5_needsNotice 140 = .ok (.lconst 1, 1) := by decide +kernel
theorem dX5_needsNotice_141 : decode cX5_needsNotice 141 = .ok (.lcmp, 1) := by decide +kernel
theorem dX5_needsNotice_142 : decode cX5_needsNotice 142 = .ok (.ifCond .ne 7, 3) := by decide +kernel
theorem dX5_needsNotice_145 : decode cX5_needsNotice 145 = .ok (.iconst 1, 1) := by decide +kernel
theorem dX5_needsNotice_146 : decode cX5_needsNotice 146 = .ok (.goto 4, 3) := by decide +kernel
theorem dX5_needsNotice_149 : decode cX5_needsNotice 149 = .ok (.iconst 0, 1) := by decide +kernel
theorem dX5_needsNotice_150 : decode cX5_needsNotice 150 = .ok (.ireturn, 1) := by decide +kernel
theorem dX5_compares_0 : decode cX5_compares 0 = .ok (.iload_n 0, 1) := by decide +kernel
theorem dX5_compares_1 : decode cX5_compares 1 = .ok (.sipush 10000, 3) := by decide +kernel
theorem dX5_compares_4 : decode cX5_compares 4 = .ok (.idiv, 1) := by decide +kernel
theorem dX5_compares_5 : decode cX5_compares 5 = .ok (.istore 4, 2) := by decide +kernel
theorem dX5_compares_7 : decode cX5_compares 7 = .ok (.iload_n 0, 1) := by decide +kernel
theorem dX5_compares_8 : decode cX5_compares 8 = .ok (.sipush 10000, 3) := by decide +kernel
theorem dX5_compares_11 : decode cX5_compares 11 = .ok (.irem, 1) := by decide +kernel
theorem dX5_compares_12 : decode cX5_compares 12 = .ok (.istore 5, 2) := by decide +kernel
theorem dX5_compares_14 : decode cX5_compares 14 = .ok (.iload 4, 2) := by decide +kernel
theorem dX5_compares_16 : decode cX5_compares 16 = .ok (.iconst 2, 1) := by decide +kernel
theorem dX5_compares_17 : decode cX5_compares 17 = .ok (.idiv, 1) := by decide +kernel
theorem dX5_compares_18 : decode cX5_compares 18 = .ok (.ifCond .ne 7, 3) := by decide +kernel
theorem dX5_compares_21 : decode cX5_compares 21 = .ok (.iload_n 1, 1) := by decide +kernel
theorem dX5_compares_22 : decode cX5_compares 22 = .ok (.goto 16, 3) := by decide +kernel
theorem dX5_compares_25 : decode cX5_compares 25 = .ok (.iload 4, 2) := by decide +kernel
theorem dX5_compares_27 : decode cX5_compares 27 = .ok (.iconst 2, 1) := by decide +kernel
theorem dX5_compares_28 : decode cX5_compares 28 = .ok (.idiv, 1) := by decide +kernel
theorem dX5_compares_29 : decode cX5_compares 29 = .ok (.iconst 1, 1) := by decide +kernel
theorem dX5_compares_30 : decode cX5_compares 30 = .ok (.if_icmp .ne 7, 3) := by decide +kernel
theorem dX5_compares_33 : decode cX5_compares 33 = .ok (.iload_n 2, 1) := by decide +kernel
theorem dX5_compares_34 : decode cX5_compares 34 = .ok (.goto 4, 3) := by decide +kernel
theorem dX5_compares_37 : decode cX5_compares 37 = .ok (.iload_n 3, 1) := by decide +kernel
theorem dX5_compares_38 : decode cX5_compares 38 = .ok (.istore 6, 2) := by decide +kernel
theorem dX5_compares_40 : decode cX5_compares 40 = .ok (.iload 4, 2) := by decide +kernel
theorem dX5_compares_42 : decode cX5_compares 42 = .ok (.iconst 2, 1) := by decide +kernel
theorem dX5_compares_43 : decode cX5_compares 43 = .ok (.irem, 1) := by decide +kernel
theorem dX5_compares_44 : decode cX5_compares 44 = .ok (.ifCond .ne 18, 3) := by decide +kernel
theorem dX5_compares_47 : decode cX5_compares 47 = .ok (.iload 6, 2) := by decide +kernel
theorem dX5_compares_49 : decode cX5_compares 49 = .ok (.iload 5, 2) := by decide +kernel
theorem dX5_compares_51 : decode cX5_compares 51 = .ok (.if_icmp .ge 7, 3) := by decide +kernel
theorem dX5_compares_54 : decode cX5_compares 54 = .ok (.iconst 1, 1) := by decide +kernel
theorem dX5_compares_55 : decode cX5_compares 55 = .ok (.goto 19, 3) := by decide +kernel
theorem dX5_compares_58 : decode cX5_compares 58 = .ok (.iconst 0, 1) := by decide +kernel
theorem dX5_compares_59 : decode cX5_compares 59 = .ok (.goto 15, 3) := by decide +kernel
theorem dX5_compares_62 : decode cX5_compares 62 = .ok (.iload 6, 2) := by decide +kernel
theorem dX5_compares_64 : decode cX5_compares 64 = .ok (.iload 5, 2) := by decide +kernel
theorem dX5_compares_66 : decode cX5_compares 66 = .ok (.if_icmp .le 7, 3) := by decide +kernel
theorem dX5_compares_69 : decode cX5_compares 69 = .ok (.iconst 1, 1) := by decide +kernel
theorem dX5_compares_70 : decode cX5_compares 70 = .ok (.goto 4, 3) := by decide +kernel
theorem dX5_compares_73 : decode cX5_compares 73 = .ok (.iconst 0, 1) := by decide +kernel
theorem dX5_compares_74 : decode cX5_compares 74 = .ok (.ireturn, 1) := by decide +kernel
theorem dX6_init_0 : decode cX6_init 0 = .ok (.aload_n 0, 1) := by decide +kernel
theorem dX6_init_1 : decode cX6_init 1 = .ok (.invokespecial 3, 3) := by decide +kernel
theorem dX6_init_4 : decode cX6_init 4 = .ok (.aload_n 0, 1) := by decide +kernel
theorem dX6_init_5 : decode cX6_init 5 = .ok (.sipush 400, 3) := by decide +kernel
theorem dX6_init_8 : decode cX6_init 8 = .ok (.newarray .int, 2) := by decide +kernel
theorem dX6_init_10 : decode cX6_init 10 = .ok (.putfield 9, 3) := by decide +kernel
theorem dX6_init_13 : decode cX6_init 13 = .ok (.aload_n 0, 1) := by decide +kernel
theorem dX6_init_14 : decode cX6_init 14 = .ok (.getstatic 15, 3) := by decide +kernel
theorem dX6_init_17 : decode cX6_init 17 = .ok (.putfield 21, 3) := by decide +kernel
theorem dX6_init_20 : decode cX6_init 20 = .ok (.aload_n 0, 1) := by decide +kernel
theorem dX6_init_21 : decode cX6_init 21 = .ok (.iconst (-1), 1) := by decide +kernel
theorem dX6_init_22 : decode cX6_init 22 = .ok (.putfield 24, 3) := by decide +kernel
theorem dX6_init_25 : decode cX6_init 25 = .ok (.aload_n 0, 1) := by decide +kernel
theorem dX6_init_26 : decode cX6_init 26 = .ok (.iconst 0, 1) := by decide +kernel
theorem dX6_init_27 : decode cX6_init 27 = .ok (.putfield 28, 3) := by decide +kernel
theorem dX6_init_30 : decode cX6_init 30 = .ok (.aload_n 0, 1) := by decide +kernel
theorem dX6_init_31 : decode cX6_init 31 = .ok (.new 32, 3) := by decide +kernel
theorem dX6_init_34 : decode cX6_init 34 = .ok (.dup, 1) := by decide +kernel
theorem dX6_init_35 : decode cX6_init 35 = .ok (.invokespecial 34, 3) := by decide +kernel
theorem dX6_init_38 : decode cX6_init 38 = .ok (.putfield 35, 3) := by decide +kernel
theorem dX6_init_41 : decode cX6_init 41 = .ok (.aload_n 0, 1) := by decide +kernel
theorem dX6_init_42 : decode cX6_init 42 = .ok (.iconst (-1), 1) := by decide +kernel
theorem dX6_init_43 : decode cX6_init 43 = .ok (.putfield 39, 3) := by decide +kernel
theorem dX6_init_46 : decode cX6_init 46 = .ok (.aload_n 0, 1) := by decide +kernel
theorem dX6_init_47 : decode cX6_init 47 = .ok (.aload_n 1, 1) := by decide +kernel
theorem dX6_init_48 : decode cX6_init 48 = .ok (.putfield 42, 3) := by decide +kernel
theorem dX6_init_51 : decode cX6_init 51 = .ok (.return_, 1) := by decide +kernel
theorem dX6_faultKind_0 : decode cX6_faultKind 0 = .ok (.aload_n 0, 1) := by decide +kernel
theorem dX6_faultKind_1 : decode cX6_faultKind 1 = .ok (.getfield 46, 3) := by decide +kernel
theorem dX6_faultKind_4 : decode cX6_faultKind 4 = .ok (.ireturn, 1) := by decide +kernel
theorem dX6_faultPlace_0 : decode cX6_faultPlace 0 = .ok (.aload_n 0, 1) := by decide +kernel
theorem dX6_faultPlace_1 : decode cX6_faultPlace 1 = .ok (.getfield 39, 3) := by decide +kernel
theorem dX6_faultPlace_4 : decode cX6_faultPlace 4 = .ok (.ireturn, 1) := by decide +kernel
theorem dX6_readRule_0 : decode cX6_readRule 0 = .ok (.aload_n 0, 1) := by decide +kernel
theorem dX6_readRule_1 : decode cX6_readRule 1 = .ok (.new 32, 3) := by decide +kernel
theorem dX6_readRule_4 : decode cX6_readRule 4 = .ok (.dup, 1) := by decide +kernel
theorem dX6_readRule_5 : decode cX6_readRule 5 = .ok (.invokespecial 34, 3) := by decide +kernel
theorem dX6_readRule_8 : decode cX6_readRule 8 = .ok (.putfield 35, 3) := by decide +kernel
theorem dX6_readRule_11 : decode cX6_readRule 11 = .ok (.aload_n 0, 1) := by decide +kernel
theorem dX6_readRule_12 : decode cX6_readRule 12 = .ok (.iload_n 1, 1) := by decide +kernel
theorem dX6_readRule_13 : decode cX6_readRule 13 = .ok (.aload_n 0, 1) := by decide +kernel
theorem dX6_readRule_14 : decode cX6_readRule 14 = .ok (.getfield 42, 3) := by decide +kernel
theorem dX6_readRule_17 : decode cX6_readRule 17 = .ok (.arraylength, 1) := by decide +kernel
theorem dX6_readRule_18 : decode cX6_readRule 18 = .ok (.invokestatic 49, 3) := by decide +kernel
theorem dX6_readRule_21 : decode cX6_readRule 21 = .ok (.putfield 55, 3) := by decide +kernel
theorem dX6_readRule_24 : decode cX6_readRule 24 = .ok (.aload_n 0, 1) := by decide +kernel
theorem dX6_readRule_25 : decode cX6_readRule 25 = .ok (.iconst 0, 1) := by decide +kernel
theorem dX6_readRule_26 : decode cX6_readRule 26 = .ok (.putfield 58, 3) := by decide +kernel
theorem dX6_readRule_29 : decode cX6_readRule 29 = .ok (.aload_n 0, 1) := by decide +kernel
theorem dX6_readRule_30 : decode cX6_readRule 30 = .ok (.iconst 0, 1) := by decide +kernel
theorem dX6_readRule_31 : decode cX6_readRule 31 = .ok (.putfield 46, 3) := by decide +kernel
theorem dX6_readRule_34 : decode cX6_readRule 34 = .ok (.aload_n 0, 1) := by decide +kernel
theorem dX6_readRule_35 : decode cX6_readRule 35 = .ok (.iconst (-1), 1) := by decide +kernel
theorem dX6_readRule_36 : decode cX6_readRule 36 = .ok (.putfield 39, 3) := by decide +kernel
theorem dX6_readRule_39 : decode cX6_readRule 39 = .ok (.iconst 1, 1) := by decide +kernel
theorem dX6_readRule_40 : decode cX6_readRule 40 = .ok (.istore_n 2, 1) := by decide +kernel
theorem dX6_readRule_41 : decode cX6_readRule 41 = .ok (.aload_n 0, 1) := by decide +kernel
theorem dX6_readRule_42 : decode cX6_readRule 42 = .ok (.invokevirtual 61, 3) := by decide +kernel
theorem dX6_readRule_45 : decode cX6_readRule 45 = .ok (.iconst 0, 1) := by decide +kernel
theorem dX6_readRule_46 : decode cX6_readRule 46 = .ok (.istore_n 3, 1) := by decide +kernel
theorem dX6_readRule_47 : decode cX6_readRule 47 = .ok (.iload_n 3, 1) := by decide +kernel
theorem dX6_readRule_48 : decode cX6_readRule 48 = .ok (.aload_n 0, 1) := by decide +kernel
theorem dX6_readRule_49 : decode cX6_readRule 49 = .ok (.getfield 55, 3) := by decide +kernel
theorem dX6_readRule_52 : decode cX6_readRule 52 = .ok (.if_icmp .ge 29, 3) := by decide +kernel
theorem dX6_readRule_55 : decode cX6_readRule 55 = .ok (.iload_n 2, 1) := by decide +kernel
theorem dX6_readRule_56 : decode cX6_readRule 56 = .ok (.ifCond .eq 25, 3) := by decide +kernel
theorem dX6_readRule_59 : decode cX6_readRule 59 = .ok (.aload_n 0, 1) := by decide +kernel
theorem dX6_readRule_60 : decode cX6_readRule 60 = .ok (.getfield 64, 3) := by decide +kernel
theorem dX6_readRule_63 : decode cX6_readRule 63 = .ok (.aload_n 0, 1) := by decide +kernel
theorem dX6_readRule_64 : decode cX6_readRule 64 = .ok (.getfield 55, 3) := by decide +kernel
theorem dX6_readRule_67 : decode cX6_readRule 67 = .ok (.if_icmp .ge 14, 3) := by decide +kernel
theorem dX6_readRule_70 : decode cX6_readRule 70 = .ok (.aload_n 0, 1) := by decide +kernel
theorem dX6_readRule_71 : decode cX6_readRule 71 = .ok (.invokevirtual 67, 3) := by decide +kernel
theorem dX6_readRule_74 : decode cX6_readRule 74 = .ok (.istore_n 2, 1) := by decide +kernel
theorem dX6_readRule_75 : decode cX6_readRule 75 = .ok (.iinc 3 1, 3) := by decide +kernel
theorem dX6_readRule_78 : decode cX6_readRule 78 = .ok (.goto (-31), 3) := by decide +kernel
theorem dX6_readRule_81 : decode cX6_readRule 81 = .ok (.iload_n 2, 1) := by decide +kernel
theorem dX6_readRule_82 : decode cX6_readRule 82 = .ok (.ifCond .eq 10, 3) := by decide +kernel
theorem dX6_readRule_85 : decode cX6_readRule 85 = .ok (.aload_n 0, 1) := by decide +kernel
theorem dX6_readRule_86 : decode cX6_readRule 86 = .ok (.getfield 35, 3) := by decide +kernel
theorem dX6_readRule_89 : decode cX6_readRule 89 = .ok (.goto 4, 3) := by decide +kernel
theorem dX6_readRule_92 : decode cX6_readRule 92 = .ok (.aconst_null, 1) := by decide +kernel
theorem dX6_readRule_93 : decode cX6_readRule 93 = .ok (.areturn, 1) := by decide +kernel
theorem dX6_advance_0 : decode cX6_advance 0 = .ok (.aload_n 0, 1) := by decide +kernel
theorem dX6_advance_1 : decode cX6_advance 1 = .ok (.getstatic 15, 3) := by decide +kernel
theorem dX6_advance_4 : decode cX6_advance 4 = .ok (.putfield 21, 3) := by decide +kernel
theorem dX6_advance_7 : decode cX6_advance 7 = .ok (.aload_n 0, 1) := by decide +kernel
theorem dX6_advance_8 : decode cX6_advance 8 = .ok (.iconst (-1), 1) := by decide +kernel
theorem dX6_advance_9 : decode cX6_advance 9 = .ok (.putfield 24, 3) := by decide +kernel
theorem dX6_advance_12 : decode cX6_advance 12 = .ok (.aload_n 0, 1) := by decide +kernel
theorem dX6_advance_13 : decode cX6_advance 13 = .ok (.iconst 0, 1) := by decide +kernel
theorem dX6_advance_14 : decode cX6_advance 14 = .ok (.putfield 28, 3) := by decide +kernel
theorem dX6_advance_17 : decode cX6_advance 17 = .ok (.aload_n 0, 1) := by decide +kernel
theorem dX6_advance_18 : decode cX6_advance 18 = .ok (.getfield 58, 3) := by decide +kernel
theorem dX6_advance_21 : decode cX6_advance 21 = .ok (.aload_n 0, 1) := by decide +kernel
theorem dX6_advance_22 : decode cX6_advance 22 = .ok (.getfield 55, 3) := by decide +kernel
theorem dX6_advance_25 : decode cX6_advance 25 = .ok (.if_icmp .ge 30, 3) := by decide +kernel
theorem dX6_advance_28 : decode cX6_advance 28 = .ok (.aload_n 0, 1) := by decide +kernel
theorem dX6_advance_29 : decode cX6_advance 29 = .ok (.getfield 42, 3) := by decide +kernel
theorem dX6_advance_32 : decode cX6_advance 32 = .ok (.aload_n 0, 1) := by decide +kernel
theorem dX6_advance_33 : decode cX6_advance 33 = .ok (.getfield 58, 3) := by decide +kernel
theorem dX6_advance_36 : decode cX6_advance 36 = .ok (.baload, 1) := by decide +kernel
theorem dX6_advance_37 : decode cX6_advance 37 = .ok (.bipush 32, 2) := by decide +kernel
theorem dX6_advance_39 : decode cX6_advance 39 = .ok (.if_icmp .ne 16, 3) := by decide +kernel
theorem dX6_advance_42 : decode cX6_advance 42 = .ok (.aload_n 0, 1) := by decide +kernel
theorem dX6_advance_43 : decode cX6_advance 43 = .ok (.dup, 1) := by decide +kernel
theorem dX6_advance_44 : decode cX6_advance 44 = .ok (.getfield 58, 3) := by decide +kernel
theorem dX6_advance_47 : decode cX6_advance 47 = .ok (.iconst 1, 1) := by decide +kernel
theorem dX6_advance_48 : decode cX6_advance 48 = .ok (.iadd, 1) := by decide +kernel
theorem dX6_advance_49 : decode cX6_advance 49 = .ok (.putfield 58, 3) := by decide +kernel
theorem dX6_advance_52 : decode cX6_advance 52 = .ok (.goto (-35), 3) := by decide +kernel
theorem dX6_advance_55 : decode cX6_advance 55 = .ok (.aload_n 0, 1) := by decide +kernel
theorem dX6_advance_56 : decode cX6_advance 56 = .ok (.aload_n 0, 1) := by decide +kernel
theorem dX6_advance_57 : decode cX6_advance 57 = .ok (.getfield 58, 3) := by decide +kernel
theorem dX6_advance_60 : decode cX6_advance 60 = .ok (.putfield 64, 3) := by decide +kernel
theorem dX6_advance_63 : decode cX6_advance 63 = .ok (.aload_n 0, 1) := by decide +kernel
theorem dX6_advance_64 : decode cX6_advance 64 = .ok (.bipush 97, 2) := by decide +kernel
theorem dX6_advance_66 : decode cX6_advance 66 = .ok (.bipush 122, 2) := by decide +kernel
theorem dX6_advance_68 : decode cX6_advance 68 = .ok (.invokevirtual 71, 3) := by decide +kernel
theorem dX6_advance_71 : decode cX6_advance 71 = .ok (.ifCond .eq 49, 3) := by decide +kernel
theorem dX6_advance_74 : decode cX6_advance 74 = .ok (.aload_n 0, 1) := by decide +kernel
theorem dX6_advance_75 : decode cX6_advance 75 = .ok (.bipush 97, 2) := by decide +kernel
theorem dX6_advance_77 : decode cX6_advance 77 = .ok (.bipush 122, 2) := by decide +kernel
theorem dX6_advance_79 : decode cX6_advance 79 = .ok (.invokevirtual 71, 3) := by decide +kernel
theorem dX6_advance_82 : decode cX6_advance 82 = .ok (.ifCond .eq 16, 3) := by decide +kernel
theorem dX6_advance_85 : decode cX6_advance 85 = .ok (.aload_n 0, 1) := by decide +kernel
theorem dX6_advance_86 : decode cX6_advance 86 = .ok (.dup, 1) := by decide +kernel
theorem dX6_advance_87 : decode cX6_advance 87 = .ok (.getfield 58, 3) := by decide +kernel
theorem dX6_advance_90 : decode cX6_advance 90 = .ok (.iconst 1, 1) := by decide +kernel
theorem dX6_advance_91 : decode cX6_advance 91 = .ok (.iadd, 1) := by decide +kernel
theorem dX6_advance_92 : decode cX6_advance 92 = .ok (.putfield 58, 3) := by decide +kernel
theorem dX6_advance_95 : decode cX6_advance 95 = .ok (.goto (-21), 3) := by decide +kernel
theorem dX6_advance_98 : decode cX6_advance 98 = .ok (.aload_n 0, 1) := by decide +kernel
theorem dX6_advance_99 : decode cX6_advance 99 = .ok (.aload_n 0, 1) := by decide +kernel
theorem dX6_advance_100 : decode cX6_advance 100 = .ok (.getfield 42, 3) := by decide +kernel
theorem dX6_advance_103 : decode cX6_advance 103 = .ok (.aload_n 0, 1) := by decide +kernel
theorem dX6_advance_104 : decode cX6_advance 104 = .ok (.getfield 64, 3) := by decide +kernel
theorem dX6_advance_107 : decode cX6_advance 107 = .ok (.aload_n 0, 1) := by decide +kernel
theorem dX6_advance_108 : decode cX6_advance 108 = .ok (.getfield 58, 3) := by decide +kernel
theorem dX6_advance_111 : decode cX6_advance 111 = .ok (.invokestatic 75, 3) := by decide +kernel
theorem dX6_advance_114 : decode cX6_advance 114 = .ok (.putfield 21, 3) := by decide +kernel
theorem dX6_advance_117 : decode cX6_advance 117 = .ok (.goto 112, 3) := by decide +kernel
theorem dX6_advance_120 : decode cX6_advance 120 = .ok (.aload_n 0, 1) := by decide +kernel
theorem dX6_advance_121 : decode cX6_advance 121 = .ok (.bipush 48, 2) := by decide +kernel
theorem dX6_advance_123 : decode cX6_advance 123 = .ok (.bipush 57, 2) := by decide +kernel
theorem dX6_advance_125 : decode cX6_advance 125 = .ok (.invokevirtual 71, 3) := by decide +kernel
theorem dX6_advance_128 : decode cX6_advance 128 = .ok (.ifCond .eq 62, 3) := by decide +kernel
theorem dX6_advance_131 : decode cX6_advance 131 = .ok (.aload_n 0, 1) := by decide +kernel
theorem dX6_advance_132 : decode cX6_advance 132 = .ok (.iconst 0, 1) := by decide +kernel
theorem dX6_advance_133 : decode cX6_advance 133 = .ok (.putfield 24, 3) := by decide +kernel
theorem dX6_advance_136 : decode cX6_advance 136 = .ok (.aload_n 0, 1) := by decide +kernel
theorem dX6_advance_137 : decode cX6_advance 137 = .ok (.bipush 48, 2) := by decide +kernel
theorem dX6_advance_139 : decode cX6_advance 139 = .ok (.bipush 57, 2) := by decide +kernel
theorem dX6_advance_141 : decode cX6_advance 141 = .ok (.invokevirtual 71, 3) := by decide +kernel
theorem dX6_advance_144 : decode cX6_advance 144 = .ok (.ifCond .eq 85, 3) := by decide +kernel
theorem dX6_advance_147 : decode cX6_advance 147 = .ok (.aload_n 0, 1) := by decide +kernel
theorem dX6_advance_148 : decode cX6_advance 148 = .ok (.bipush 10, 2) := by decide +kernel
theorem dX6_advance_150 : decode cX6_advance 150 = .ok (.aload_n 0, 1) := by decide +kernel
theorem dX6_advance_151 : decode cX6_advance 151 = .ok (.getfield 24, 3) := by decide +kernel
theorem dX6_advance_154 : decode cX6_advance 154 = .ok (.imul, 1) := by decide +kernel
theorem dX6_advance_155 : decode cX6_advance 155 = .ok (.aload_n 0, 1) := by decide +kernel
theorem dX6_advance_156 : decode cX6_advance 156 = .ok (.getfield 42, 3) := by decide +kernel
theorem dX6_advance_159 : decode cX6_advance 159 = .ok (.aload_n 0, 1) := by decide +kernel
theorem dX6_advance_160 : decode cX6_advance 160 = .ok (.getfield 58, 3) := by decide +kernel
theorem dX6_advance_163 : decode cX6_advance 163 = .ok (.baload, 1) := by decide +kernel
theorem dX6_advance_164 : decode cX6_advance 164 = .ok (.iadd, 1) := by decide +kernel
theorem dX6_advance_165 : decode cX6_advance 165 = .ok (.bipush 48, 2) := by decide +kernel
theorem dX6_advance_167 : decode cX6_advance 167 = .ok (.isub, 1) := by decide +kernel
theorem dX6_advance_168 : decode cX6_advance 168 = .ok (.sipush 10000, 3) := by decide +kernel
theorem dX6_advance_171 : decode cX6_advance 171 = .ok (.invokestatic 49, 3) := by decide +kernel
theorem dX6_advance_174 : decode cX6_advance 174 = .ok (.putfield 24, 3) := by decide +kernel
theorem dX6_advance_177 : decode cX6_advance 177 = .ok (.aload_n 0, 1) := by decide +kernel
theorem dX6_advance_178 : decode cX6_advance 178 = .ok (.dup, 1) := by decide +kernel
theorem dX6_advance_179 : decode cX6_advance 179 = .ok (.getfield 58, 3) := by decide +kernel
theorem dX6_advance_182 : decode cX6_advance 182 = .ok (.iconst 1, 1) := by decide +kernel
theorem dX6_advance_183 : decode cX6_advance 183 = .ok (.iadd, 1) := by decide +kernel
theorem dX6_advance_184 : decode cX6_advance 184 = .ok (.putfield 58, 3) := by decide +kernel
theorem dX6_advance_187 : decode cX6_advance 187 = .ok (.goto (-51), 3) := by decide +kernel
theorem dX6_advance_190 : decode cX6_advance 190 = .ok (.aload_n 0, 1) := by decide +kernel
theorem dX6_advance_191 : decode cX6_advance 191 = .ok (.getfield 58, 3) := by decide +kernel
theorem dX6_advance_194 : decode cX6_advance 194 = .ok (.aload_n 0, 1) := by decide +kernel
theorem dX6_advance_195 : decode cX6_advance 195 = .ok (.getfield 55, 3) := by decide +kernel
theorem dX6_advance_198 : decode cX6_advance 198 = .ok (.if_icmp .ge 31, 3) := by decide +kernel
theorem dX6_advance_201 : decode cX6_advance 201 = .ok (.aload_n 0, 1) := by decide +kernel
theorem dX6_advance_202 : decode cX6_advance 202 = .ok (.aload_n 0, 1) := by decide +kernel
theorem dX6_advance_203 : decode cX6_advance 203 = .ok (.getfield 42, 3) := by decide +kernel
theorem dX6_advance_206 : decode cX6_advance 206 = .ok (.aload_n 0, 1) := by decide +kernel
theorem dX6_advance_207 : decode cX6_advance 207 = .ok (.getfield 58, 3) := by decide +kernel
theorem dX6_advance_210 : decode cX6_advance 210 = .ok (.baload, 1) := by decide +kernel
theorem dX6_advance_211 : decode cX6_advance 211 = .ok (.sipush 255, 3) := by decide +kernel
theorem dX6_advance_214 : decode cX6_advance 214 = .ok (.iand, 1) := by decide +kernel
theorem dX6_advance_215 : decode cX6_advance 215 = .ok (.i2c, 1) := by decide +kernel
theorem dX6_advance_216 : decode cX6_advance 216 = .ok (.putfield 28, 3) := by decide +kernel
theorem dX6_advance_219 : decode cX6_advance 219 = .ok (.aload_n 0, 1) := by decide +kernel
theorem dX6_advance_220 : decode cX6_advance 220 = .ok (.dup, 1) := by decide +kernel
theorem dX6_advance_221 : decode cX6_advance 221 = .ok (.getfield 58, 3) := by decide +kernel
theorem dX6_advance_224 : decode cX6_advance 224 = .ok (.iconst 1, 1) := by decide +kernel
theorem dX6_advance_225 : decode cX6_advance 225 = .ok (.iadd, 1) := by decide +kernel
theorem dX6_advance_226 : decode cX6_advance 226 = .ok (.putfield 58, 3) := by decide +kernel
theorem dX6_advance_229 : decode cX6_advance 229 = .ok (.return_, 1) := by decide +kernel
theorem dX6_isWithin_0 : decode cX6_isWithin 0 = .ok (.aload_n 0, 1) := by decide +kernel
theorem dX6_isWithin_1 : decode cX6_isWithin 1 = .ok (.getfield 58, 3) := by decide +kernel
theorem dX6_isWithin_4 : decode cX6_isWithin 4 = .ok (.aload_n 0, 1) := by decide +kernel
theorem dX6_isWithin_5 : decode cX6_isWithin 5 = .ok (.getfield 55, 3) := by decide +kernel
theorem dX6_isWithin_8 : decode cX6_isWithin 8 = .ok (.if_icmp .ge 33, 3) := by decide +kernel
theorem dX6_isWithin_11 : decode cX6_isWithin 11 = .ok (.aload_n 0, 1) := by decide +kernel
theorem dX6_isWithin_12 : decode cX6_isWithin 12 = .ok (.getfield 42, 3) := by decide +kernel
theorem dX6_isWithin_15 : decode cX6_isWithin 15 = .ok (.aload_n 0, 1) := by decide +kernel
theorem dX6_isWithin_16 : decode cX6_isWithin 16 = .ok (.getfield 58, 3) := by decide +kernel
theorem dX6_isWithin_19 : decode cX6_isWithin 19 = .ok (.baload, 1) := by decide +kernel
theorem dX6_isWithin_20 : decode cX6_isWithin 20 = .ok (.iload_n 1, 1) := by decide +kernel
theorem dX6_isWithin_21 : decode cX6_isWithin 21 = .ok (.if_icmp .lt 20, 3) := by decide +kernel
theorem dX6_isWithin_24 : decode cX6_isWithin 24 = .ok (.aload_n 0, 1) := by decide +kernel
theorem dX6_isWithin_25 : decode cX6_isWithin 25 = .ok (.getfield 42, 3) := by decide +kernel
theorem dX6_isWithin_28 : decode cX6_isWithin 28 = .ok (.aload_n 0, 1) := by decide +kernel
theorem dX6_isWithin_29 : decode cX6_isWithin 29 = .ok (.getfield 58, 3) := by decide +kernel
theorem dX6_isWithin_32 : decode cX6_isWithin 32 = .ok (.baload, 1) := by decide +kernel
theorem dX6_isWithin_33 : decode cX6_isWithin 33 = .ok (.iload_n 2, 1) := by decide +kernel
theorem dX6_isWithin_34 : decode cX6_isWithin 34 = .ok (.if_icmp .gt 7, 3) := by decide +kernel
theorem dX6_isWithin_37 : decode cX6_isWithin 37 = .ok (.iconst 1, 1) := by decide +kernel
theorem dX6_isWithin_38 : decode cX6_isWithin 38 = .ok (.goto 4, 3) := by decide +kernel
theorem dX6_isWithin_41 : decode cX6_isWithin 41 = .ok (.iconst 0, 1) := by decide +kernel
theorem dX6_isWithin_42 : decode cX6_isWithin 42 = .ok (.ireturn, 1) := by decide +kernel
theorem dX6_fail_0 : decode cX6_fail 0 = .ok (.aload_n 0, 1) := by decide +kernel
theorem dX6_fail_1 : decode cX6_fail 1 = .ok (.iload_n 1, 1) := by decide +kernel
theorem dX6_fail_2 : decode cX6_fail 2 = .ok (.putfield 46, 3) := by decide +kernel
theorem dX6_fail_5 : decode cX6_fail 5 = .ok (.aload_n 0, 1) := by decide +kernel
theorem dX6_fail_6 : decode cX6_fail 6 = .ok (.aload_n 0, 1) := by decide +kernel
theorem dX6_fail_7 : decode cX6_fail 7 = .ok (.getfield 64, 3) := by decide +kernel
theorem dX6_fail_10 : decode cX6_fail 10 = .ok (.putfield 39, 3) := by decide +kernel
theorem dX6_fail_13 : decode cX6_fail 13 = .ok (.iconst 0, 1) := by decide +kernel
theorem dX6_fail_14 : decode cX6_fail 14 = .ok (.ireturn, 1) := by decide +kernel
theorem dX6_takeSign_0 : decode cX6_takeSign 0 = .ok (.aload_n 0, 1) := by decide +kernel
theorem dX6_takeSign_1 : decode cX6_takeSign 1 = .ok (.getfield 28, 3) := by decide +kernel
theorem dX6_takeSign_4 : decode cX6_takeSign 4 = .ok (.iload_n 1, 1) := by decide +kernel
theorem dX6_takeSign_5 : decode cX6_takeSign 5 = .ok (.if_icmp .eq 9, 3) := by decide +kernel
theorem dX6_takeSign_8 : decode cX6_takeSign 8 = .ok (.aload_n 0, 1) := by decide +kernel
theorem dX6_takeSign_9 : decode cX6_takeSign 9 = .ok (.iconst 1, 1) := by decide +kernel
theorem dX6_takeSign_10 : decode cX6_takeSign 10 = .ok (.invokevirtual 79, 3) := by decide +kernel
theorem dX6_takeSign_13 : decode cX6_takeSign 13 = .ok (.ireturn, 1) := by decide +kernel
theorem dX6_takeSign_14 : decode cX6_takeSign 14 = .ok (.aload_n 0, 1) := by decide +kernel
theorem dX6_takeSign_15 : decode cX6_takeSign 15 = .ok (.invokevirtual 61, 3) := by decide +kernel
theorem dX6_takeSign_18 : decode cX6_takeSign 18 = .ok (.iconst 1, 1) := by decide +kernel
theorem dX6_takeSign_19 : decode cX6_takeSign 19 = .ok (.ireturn, 1) := by decide +kernel
theorem dX6_takeNumber_0 : decode cX6_takeNumber 0 = .ok (.aload_n 0, 1) := by decide +kernel
theorem dX6_takeNumber_1 : decode cX6_takeNumber 1 = .ok (.getfield 24, 3) := by decide +kernel
theorem dX6_takeNumber_4 : decode cX6_takeNumber 4 = .ok (.iconst (-1), 1) := by decide +kernel
theorem dX6_takeNumber_5 : decode cX6_takeNumber 5 = .ok (.if_icmp .ne 9, 3) := by decide +kernel
theorem dX6_takeNumber_8 : decode cX6_takeNumber 8 = .ok (.aload_n 0, 1) := by decide +kernel
theorem dX6_takeNumber_9 : decode cX6_takeNumber 9 = .ok (.iconst 1, 1) := by decide +kernel
theorem dX6_takeNumber_10 : decode cX6_takeNumber 10 = .ok (.invokevirtual 79, 3) := by decide +kernel
theorem dX6_takeNumber_13 : decode cX6_takeNumber 13 = .ok (.ireturn, 1) := by decide +kernel
theorem dX6_takeNumber_14 : decode cX6_takeNumber 14 = .ok (.aload_n 0, 1) := by decide +kernel
theorem dX6_takeNumber_15 : decode cX6_takeNumber 15 = .ok (.getfield 24, 3) := by decide +kernel
theorem dX6_takeNumber_18 : decode cX6_takeNumber 18 = .ok (.iload_n 1, 1) := by decide +kernel
theorem dX6_takeNumber_19 : decode cX6_takeNumber 19 = .ok (.if_icmp .lt 11, 3) := by decide +kernel
theorem dX6_takeNumber_22 : decode cX6_takeNumber 22 = .ok (.aload_n 0, 1) := by decide +kernel
theorem dX6_takeNumber_23 : decode cX6_takeNumber 23 = .ok (.getfield 24, 3) := by decide +kernel
theorem dX6_takeNumber_26 : decode cX6_takeNumber 26 = .ok (.iload_n 2, 1) := by decide +kernel
theorem dX6_takeNumber_27 : decode cX6_takeNumber 27 = .ok (.if_icmp .le 9, 3) := by decide +kernel
theorem dX6_takeNumber_30 : decode cX6_takeNumber 30 = .ok (.aload_n 0, 1) := by decide +kernel
theorem dX6_takeNumber_31 : decode cX6_takeNumber 31 = .ok (.iconst 2, 1) := by decide +kernel
theorem dX6_takeNumber_32 : decode cX6_takeNumber 32 = .ok (.invokevirtual 79, 3) := by decide +kernel
theorem dX6_takeNumber_35 : decode cX6_takeNumber 35 = .ok (.ireturn, 1) := by decide +kernel
theorem dX6_takeNumber_36 : decode cX6_takeNumber 36 = .ok (.aload_n 0, 1) := by decide +kernel
theorem dX6_takeNumber_37 : decode cX6_takeNumber 37 = .ok (.aload_n 0, 1) := by decide +kernel
theorem dX6_takeNumber_38 : decode cX6_takeNumber 38 = .ok (.getfield 24, 3) := by decide +kernel
theorem dX6_takeNumber_41 : decode cX6_takeNumber 41 = .ok (.putfield 83, 3) := by decide +kernel
theorem dX6_takeNumber_44 : decode cX6_takeNumber 44 = .ok (.aload_n 0, 1) := by decide +kernel
theorem dX6_takeNumber_45 : decode cX6_takeNumber 45 = .ok (.invokevirtual 61, 3) := by decide +kernel
theorem dX6_takeNumber_48 : decode cX6_takeNumber 48 = .ok (.iconst 1, 1) := by decide +kernel
theorem dX6_takeNumber_49 : decode cX6_takeNumber 49 = .ok (.ireturn, 1) := by decide +kernel
theorem dX6_readClause_0 : decode cX6_readClause 0 = .ok (.aload_n 0, 1) := by decide +kernel
theorem dX6_readClause_1 : decode cX6_readClause 1 = .ok (.getfield 21, 3) := by decide +kernel
theorem dX6_readClause_4 : decode cX6_readClause 4 = .ok (.astore_n 1, 1) := by decide +kernel
theorem dX6_readClause_5 : decode cX6_readClause 5 = .ok (.aload_n 1, 1) := by decide +kernel
theorem dX6_readClause_6 : decode cX6_readClause 6 = .ok (.getfield 86, 3) := by decide +kernel
theorem dX6_readClause_9 : decode cX6_readClause 9 = .ok (.ifCond .ne 9, 3) := by decide +kernel
theorem dX6_readClause_12 : decode cX6_readClause 12 = .ok (.aload_n 0, 1) := by decide +kernel
theorem dX6_readClause_13 : decode cX6_readClause 13 = .ok (.iconst 1, 1) := by decide +kernel
theorem dX6_readClause_14 : decode cX6_readClause 14 = .ok (.invokevirtual 79, 3) := by decide +kernel
theorem dX6_readClause_17 : decode cX6_readClause 17 = .ok (.ireturn, 1) := by decide +kernel
theorem dX6_readClause_18 : decode cX6_readClause 18 = .ok (.aload_n 0, 1) := by decide +kernel
theorem dX6_readClause_19 : decode cX6_readClause 19 = .ok (.getfield 35, 3) := by decide +kernel
theorem dX6_readClause_22 : decode cX6_readClause 22 = .ok (.getfield 90, 3) := by decide +kernel
theorem dX6_readClause_25 : decode cX6_readClause 25 = .ok (.bipush 20, 2) := by decide +kernel
theorem dX6_readClause_27 : decode cX6_readClause 27 = .ok (.if_icmp .lt 9, 3) := by decide +kernel
theorem dX6_readClause_30 : decode cX6_readClause 30 = .ok (.aload_n 0, 1) := by decide +kernel
theorem dX6_readClause_31 : decode cX6_readClause 31 = .ok (.iconst 3, 1) := by decide +kernel
theorem dX6_readClause_32 : decode cX6_readClause 32 = .ok (.invokevirtual 79, 3) := by decide +kernel
theorem dX6_readClause_35 : decode cX6_readClause 35 = .ok (.ireturn, 1) := by decide +kernel
theorem dX6_readClause_36 : decode cX6_readClause 36 = .ok (.aload_n 0, 1) := by decide +kernel
theorem dX6_readClause_37 : decode cX6_readClause 37 = .ok (.getfield 35, 3) := by decide +kernel
theorem dX6_readClause_40 : decode cX6_readClause 40 = .ok (.dup, 1) := by decide +kernel
theorem dX6_readClause_41 : decode cX6_readClause 41 = .ok (.getfield 90, 3) := by decide +kernel
theorem dX6_readClause_44 : decode cX6_readClause 44 = .ok (.iconst 1, 1) := by decide +kernel
theorem dX6_readClause_45 : decode cX6_readClause 45 = .ok (.iadd, 1) := by decide +kernel
theorem dX6_readClause_46 : decode cX6_readClause 46 = .ok (.putfield 90, 3) := by decide +kernel
theorem dX6_readClause_49 : decode cX6_readClause 49 = .ok (.aload_n 0, 1) := by decide +kernel
theorem dX6_readClause_50 : decode cX6_readClause 50 = .ok (.invokevirtual 61, 3) := by decide +kernel
theorem dX6_readClause_53 : decode cX6_readClause 53 = .ok (.getstatic 93, 3) := by decide +kernel
theorem dX6_readClause_56 : decode cX6_readClause 56 = .ok (.aload_n 1, 1) := by decide +kernel
theorem dX6_readClause_57 : decode cX6_readClause 57 = .ok (.invokevirtual 98, 3) := by decide +kernel
theorem dX6_readClause_60 : decode cX6_readClause 60 = .ok (.iaload, 1) := by decide +kernel
theorem dX6_readClause_61 : decode cX6_readClause 61 = .ok (.tableswitch 103 1 7 #[43, 52, 61, 70, 79, 87, 95], 43) := by decide +kernel
theorem dX6_readClause_104 : decode cX6_readClause 104 = .ok (.aload_n 0, 1) := by decide +kernel
theorem dX6_readClause_105 : decode cX6_readClause 105 = .ok (.iconst 0, 1) := by decide +kernel
theorem dX6_readClause_106 : decode cX6_readClause 106 = .ok (.invokevirtual 102, 3) := by decide +kernel
theorem dX6_readClause_109 : decode cX6_readClause 109 = .ok (.istore_n 2, 1) := by decide +kernel
theorem dX6_readClause_110 : decode cX6_readClause 110 = .ok (.goto 60, 3) := by decide +kernel
theorem dX6_readClause_113 : decode cX6_readClause 113 = .ok (.aload_n 0, 1) := by decide +kernel
theorem dX6_readClause_114 : decode cX6_readClause 114 = .ok (.iconst 1, 1) := by decide +kernel
theorem dX6_readClause_115 : decode cX6_readClause 115 = .ok (.invokevirtual 102, 3) := by decide +kernel
theorem dX6_readClause_118 : decode cX6_readClause 118 = .ok (.istore_n 2, 1) := by decide +kernel
theorem dX6_readClause_119 : decode cX6_readClause 119 = .ok (.goto 51, 3) := by decide +kernel
theorem dX6_readClause_122 : decode cX6_readClause 122 = .ok (.aload_n 0, 1) := by decide +kernel
theorem dX6_readClause_123 : decode cX6_readClause 123 = .ok (.iconst 2, 1) := by decide +kernel
theorem dX6_readClause_124 : decode cX6_readClause 124 = .ok (.invokevirtual 102, 3) := by decide +kernel
theorem dX6_readClause_127 : decode cX6_readClause 127 = .ok (.istore_n 2, 1) := by decide +kernel
theorem dX6_readClause_128 : decode cX6_readClause 128 = .ok (.goto 42, 3) := by decide +kernel
theorem dX6_readClause_131 : decode cX6_readClause 131 = .ok (.aload_n 0, 1) := by decide +kernel
theorem dX6_readClause_132 : decode cX6_readClause 132 = .ok (.iconst 3, 1) := by decide +kernel
theorem dX6_readClause_133 : decode cX6_readClause 133 = .ok (.invokevirtual 102, 3) := by decide +kernel
theorem dX6_readClause_136 : decode cX6_readClause 136 = .ok (.istore_n 2, 1) := by decide +kernel
theorem dX6_readClause_137 : decode cX6_readClause 137 = .ok (.goto 33, 3) := by decide +kernel
theorem dX6_readClause_140 : decode cX6_readClause 140 = .ok (.aload_n 0, 1) := by decide +kernel
theorem dX6_readClause_141 : decode cX6_readClause 141 = .ok (.invokevirtual 105, 3) := by decide +kernel
theorem dX6_readClause_144 : decode cX6_readClause 144 = .ok (.istore_n 2, 1) := by decide +kernel
theorem dX6_readClause_145 : decode cX6_readClause 145 = .ok (.goto 25, 3) := by decide +kernel
theorem dX6_readClause_148 : decode cX6_readClause 148 = .ok (.aload_n 0, 1) := by decide +kernel
theorem dX6_readClause_149 : decode cX6_readClause 149 = .ok (.invokevirtual 108, 3) := by decide +kernel
theorem dX6_readClause_152 : decode cX6_readClause 152 = .ok (.istore_n 2, 1) := by decide +kernel
theorem dX6_readClause_153 : decode cX6_readClause 153 = .ok (.goto 17, 3) := by decide +kernel
theorem dX6_readClause_156 : decode cX6_readClause 156 = .ok (.aload_n 0, 1) := by decide +kernel
theorem dX6_readClause_157 : decode cX6_readClause 157 = .ok (.invokevirtual 111, 3) := by decide +kernel
theorem dX6_readClause_160 : decode cX6_readClause 160 = .ok (.istore_n 2, 1) := by decide +kernel
theorem dX6_readClause_161 : decode cX6_readClause 161 = .ok (.goto 9, 3) := by decide +kernel
theorem dX6_readClause_164 : decode cX6_readClause 164 = .ok (.aload_n 0, 1) := by decide +kernel
theorem dX6_readClause_165 : decode cX6_readClause 165 = .ok (.aload_n 1, 1) := by decide +kernel
theorem dX6_readClause_166 : decode cX6_readClause 166 = .ok (.invokevirtual 114, 3) := by decide +kernel
theorem dX6_readClause_169 : decode cX6_readClause 169 = .ok (.istore_n 2, 1) := by decide +kernel
theorem dX6_readClause_170 : decode cX6_readClause 170 = .ok (.iload_n 2, 1) := by decide +kernel
theorem dX6_readClause_171 : decode cX6_readClause 171 = .ok (.ifCond .eq 16, 3) := by decide +kernel
theorem dX6_readClause_174 : decode cX6_readClause 174 = .ok (.aload_n 0, 1) := by decide +kernel
theorem dX6_readClause_175 : decode cX6_readClause 175 = .ok (.bipush 59, 2) := by decide +kernel
theorem dX6_readClause_177 : decode cX6_readClause 177 = .ok (.invokevirtual 118, 3) := by decide +kernel
theorem dX6_readClause_180 : decode cX6_readClause 180 = .ok (.ifCond .eq 7, 3) := by decide +kernel
theorem dX6_readClause_183 : decode cX6_readClause 183 = .ok (.iconst 1, 1) := by decide +kernel
theorem dX6_readClause_184 : decode cX6_readClause 184 = .ok (.goto 4, 3) := by decide +kernel
theorem dX6_readClause_187 : decode cX6_readClause 187 = .ok (.iconst 0, 1) := by decide +kernel
theorem dX6_readClause_188 : decode cX6_readClause 188 = .ok (.ireturn, 1) := by decide +kernel
theorem dX6_readSetting_0 : decode cX6_readSetting 0 = .ok (.aload_n 0, 1) := by decide +kernel
theorem dX6_readSetting_1 : decode cX6_readSetting 1 = .ok (.iconst 0, 1) := by decide +kernel
theorem dX6_readSetting_2 : decode cX6_readSetting 2 = .ok (.aload_n 1, 1) := by decide +kernel
theorem dX6_readSetting_3 : decode cX6_readSetting 3 = .ok (.getstatic 122, 3) := by decide +kernel
theorem dX6_readSetting_6 : decode cX6_readSetting 6 = .ok (.if_acmp .ne 8, 3) := by decide +kernel
theorem dX6_readSetting_9 : decode cX6_readSetting 9 = .ok (.bipush 100, 2) := by decide +kernel
theorem dX6_readSetting_11 : decode cX6_readSetting 11 = .ok (.goto 6, 3) := by decide +kernel
theorem dX6_readSetting_14 : decode cX6_readSetting 14 = .ok (.sipush 400, 3) := by decide +kernel
theorem dX6_readSetting_17 : decode cX6_readSetting 17 = .ok (.invokevirtual 125, 3) := by decide +kernel
theorem dX6_readSetting_20 : decode cX6_readSetting 20 = .ok (.ifCond .ne 5, 3) := by decide +kernel
theorem dX6_readSetting_23 : decode cX6_readSetting 23 = .ok (.iconst 0, 1) := by decide +kernel
theorem dX6_readSetting_24 : decode cX6_readSetting 24 = .ok (.ireturn, 1) := by decide +kernel
theorem dX6_readSetting_25 : decode cX6_readSetting 25 = .ok (.getstatic 93, 3) := by decide +kernel
theorem dX6_readSetting_28 : decode cX6_readSetting 28 = .ok (.aload_n 1, 1) := by decide +kernel
theorem dX6_readSetting_29 : decode cX6_readSetting 29 = .ok (.invokevirtual 98, 3) := by decide +kernel
theorem dX6_readSetting_32 : decode cX6_readSetting 32 = .ok (.iaload, 1) := by decide +kernel
theorem dX6_readSetting_33 : decode cX6_readSetting 33 = .ok (.tableswitch 117 8 13 #[39, 52, 65, 78, 91, 104], 39) := by decide +kernel
theorem dX6_readSetting_72 : decode cX6_readSetting 72 = .ok (.aload_n 0, 1) := by decide +kernel
theorem dX6_readSetting_73 : decode cX6_readSetting 73 = .ok (.getfield 35, 3) := by decide +kernel
theorem dX6_readSetting_76 : decode cX6_readSetting 76 = .ok (.aload_n 0, 1) := by decide +kernel
theorem dX6_readSetting_77 : decode cX6_readSetting 77 = .ok (.getfield 83, 3) := by decide +kernel
theorem dX6_readSetting_80 : decode cX6_readSetting 80 = .ok (.putfield 129, 3) := by decide +kernel
theorem dX6_readSetting_83 : decode cX6_readSetting 83 = .ok (.iconst 1, 1) := by decide +kernel
theorem dX6_readSetting_84 : decode cX6_readSetting 84 = .ok (.ireturn, 1) := by decide +kernel
theorem dX6_readSetting_85 : decode cX6_readSetting 85 = .ok (.aload_n 0, 1) := by decide +kernel
theorem dX6_readSetting_86 : decode cX6_readSetting 86 = .ok (.getfield 35, 3) := by decide +kernel
theorem dX6_readSetting_89 : decode cX6_readSetting 89 = .ok (.aload_n 0, 1) := by decide +kernel
theorem dX6_readSetting_90 : decode cX6_readSetting 90 = .ok (.getfield 83, 3) := by decide +kernel
theorem dX6_readSetting_93 : decode cX6_readSetting 93 = .ok (.putfield 132, 3) := by decide +kernel
theorem dX6_readSetting_96 : decode cX6_readSetting 96 = .ok (.iconst 1, 1) := by decide +kernel
theorem dX6_readSetting_97 : decode cX6_readSetting 97 = .ok (.ireturn, 1) := by decide +kernel
theorem dX6_readSetting_98 : decode cX6_readSetting 98 = .ok (.aload_n 0, 1) := by decide +kernel
theorem dX6_readSetting_99 : decode cX6_readSetting 99 = .ok (.getfield 35, 3) := by decide +kernel
theorem dX6_readSetting_102 : decode cX6_readSetting 102 = .ok (.aload_n 0, 1) := by decide +kernel
theorem dX6_readSetting_103 : decode cX6_readSetting 103 = .ok (.getfield 83, 3) := by decide +kernel
theorem dX6_readSetting_106 : decode cX6_readSetting 106 = .ok (.putfield 135, 3) := by decide +kernel
theorem dX6_readSetting_109 : decode cX6_readSetting 109 = .ok (.iconst 1, 1) := by decide +kernel
theorem dX6_readSetting_110 : decode cX6_readSetting 110 = .ok (.ireturn, 1) := by decide +kernel
theorem dX6_readSetting_111 : decode cX6_readSetting 111 = .ok (.aload_n 0, 1) := by decide +kernel
theorem dX6_readSetting_112 : decode cX6_readSetting 112 = .ok (.getfield 35, 3) := by decide +kernel
theorem dX6_readSetting_115 : decode cX6_readSetting 115 = .ok (.aload_n 0, 1) := by decide +kernel
theorem dX6_readSetting_116 : decode cX6_readSetting 116 = .ok (.getfield 83, 3) := by decide +kernel
theorem dX6_readSetting_119 : decode cX6_readSetting 119 = .ok (.putfield 138, 3) := by decide +kernel
theorem dX6_readSetting_122 : decode cX6_readSetting 122 = .ok (.iconst 1, 1) := by decide +kernel
theorem dX6_readSetting_123 : decode cX6_readSetting 123 = .ok (.ireturn, 1) := by decide +kernel
theorem dX6_readSetting_124 : decode cX6_readSetting 124 = .ok (.aload_n 0, 1) := by decide +kernel
theorem dX6_readSetting_125 : decode cX6_readSetting 125 = .ok (.getfield 35, 3) := by decide +kernel
theorem dX6_readSetting_128 : decode cX6_readSetting 128 = .ok (.aload_n 0, 1) := by decide +kernel
theorem dX6_readSetting_129 : decode cX6_readSetting 129 = .ok (.getfield 83, 3) := by decide +kernel
theorem dX6_readSetting_132 : decode cX6_readSetting 132 = .ok (.putfield 141, 3) := by decide +kernel
theorem dX6_readSetting_135 : decode cX6_readSetting 135 = .ok (.iconst 1, 1) := by decide +kernel
theorem dX6_readSetting_136 : decode cX6_readSetting 136 = .ok (.ireturn, 1) := by decide +kernel
theorem dX6_readSetting_137 : decode cX6_readSetting 137 = .ok (.aload_n 0, 1) := by decide +kernel
theorem dX6_readSetting_138 : decode cX6_readSetting 138 = .ok (.getfield 35, 3) := by decide +kernel
theorem dX6_readSetting_141 : decode cX6_readSetting 141 = .ok (.aload_n 0, 1) := by decide +kernel
theorem dX6_readSetting_142 : decode cX6_readSetting 142 = .ok (.getfield 83, 3) := by decide +kernel
theorem dX6_readSetting_145 : decode cX6_readSetting 145 = .ok (.putfield 144, 3) := by decide +kernel
theorem dX6_readSetting_148 : decode cX6_readSetting 148 = .ok (.iconst 1, 1) := by decide +kernel
theorem dX6_readSetting_149 : decode cX6_readSetting 149 = .ok (.ireturn, 1) := by decide +kernel
theorem dX6_readSetting_150 : decode cX6_readSetting 150 = .ok (.aload_n 0, 1) := by decide +kernel
theorem dX6_readSetting_151 : decode cX6_readSetting 151 = .ok (.getfield 35, 3) := by decide +kernel
theorem dX6_readSetting_154 : decode cX6_readSetting 154 = .ok (.aload_n 0, 1) := by decide +kernel
theorem dX6_readSetting_155 : decode cX6_readSetting 155 = .ok (.getfield 83, 3) := by decide +kernel
theorem dX6_readSetting_158 : decode cX6_readSetting 158 = .ok (.putfield 147, 3) := by decide +kernel
theorem dX6_readSetting_161 : decode cX6_readSetting 161 = .ok (.iconst 1, 1) := by decide +kernel
theorem dX6_readSetting_162 : decode cX6_readSetting 162 = .ok (.ireturn, 1) := by decide +kernel
theorem dX6_readRestDays_0 : decode cX6_readRestDays 0 = .ok (.aload_n 0, 1) := by decide +kernel
theorem dX6_readRestDays_1 : decode cX6_readRestDays 1 = .ok (.getfield 35, 3) := by decide +kernel
theorem dX6_readRestDays_4 : decode cX6_readRestDays 4 = .ok (.iconst 0, 1) := by decide +kernel
theorem dX6_readRestDays_5 : decode cX6_readRestDays 5 = .ok (.putfield 150, 3) := by decide +kernel
theorem dX6_readRestDays_8 : decode cX6_readRestDays 8 = .ok (.iconst 1, 1) := by decide +kernel
theorem dX6_readRestDays_9 : decode cX6_readRestDays 9 = .ok (.istore_n 1, 1) := by decide +kernel
theorem dX6_readRestDays_10 : decode cX6_readRestDays 10 = .ok (.iconst 1, 1) := by decide +kernel
theorem dX6_readRestDays_11 : decode cX6_readRestDays 11 = .ok (.istore_n 2, 1) := by decide +kernel
theorem dX6_readRestDays_12 : decode cX6_readRestDays 12 = .ok (.iconst 0, 1) := by decide +kernel
theorem dX6_readRestDays_13 : decode cX6_readRestDays 13 = .ok (.istore_n 3, 1) := by decide +kernel
theorem dX6_readRestDays_14 : decode cX6_readRestDays 14 = .ok (.iload_n 3, 1) := by decide +kernel
theorem dX6_readRestDays_15 : decode cX6_readRestDays 15 = .ok (.aload_n 0, 1) := by decide +kernel
theorem dX6_readRestDays_16 : decode cX6_readRestDays 16 = .ok (.getfield 55, 3) := by decide +kernel
theorem dX6_readRestDays_19 : decode cX6_readRestDays 19 = .ok (.if_icmp .ge 57, 3) := by decide +kernel
theorem dX6_readRestDays_22 : decode cX6_readRestDays 22 = .ok (.iload_n 1, 1) := by decide +kernel
theorem dX6_readRestDays_23 : decode cX6_readRestDays 23 = .ok (.ifCond .eq 53, 3) := by decide +kernel
theorem dX6_readRestDays_26 : decode cX6_readRestDays 26 = .ok (.iload_n 2, 1) := by decide +kernel
theorem dX6_readRestDays_27 : decode cX6_readRestDays 27 = .ok (.ifCond .eq 49, 3) := by decide +kernel
theorem dX6_readRestDays_30 : decode cX6_readRestDays 30 = .ok (.aload_n 0, 1) := by decide +kernel
theorem dX6_readRestDays_31 : decode cX6_readRestDays 31 = .ok (.iconst 0, 1) := by decide +kernel
theorem dX6_readRestDays_32 : decode cX6_readRestDays 32 = .ok (.bipush 6, 2) := by decide +kernel
theorem dX6_readRestDays_34 : decode cX6_readRestDays 34 = .ok (.invokevirtual 125, 3) := by decide +kernel
theorem dX6_readRestDays_37 : decode cX6_readRestDays 37 = .ok (.istore_n 1, 1) := by decide +kernel
theorem dX6_readRestDays_38 : decode cX6_readRestDays 38 = .ok (.aload_n 0, 1) := by decide +kernel
theorem dX6_readRestDays_39 : decode cX6_readRestDays 39 = .ok (.getfield 35, 3) := by decide +kernel
theorem dX6_readRestDays_42 : decode cX6_readRestDays 42 = .ok (.dup, 1) := by decide +kernel
theorem dX6_readRestDays_43 : decode cX6_readRestDays 43 = .ok (.getfield 150, 3) := by decide +kernel
theorem dX6_readRestDays_46 : decode cX6_readRestDays 46 = .ok (.iconst 1, 1) := by decide +kernel
theorem dX6_readRestDays_47 : decode cX6_readRestDays 47 = .ok (.aload_n 0, 1) := by decide +kernel
theorem dX6_readRestDays_48 : decode cX6_readRestDays 48 = .ok (.getfield 83, 3) := by decide +kernel
theorem dX6_readRestDays_51 : decode cX6_readRestDays 51 = .ok (.ishl, 1) := by decide +kernel
theorem dX6_readRestDays_52 : decode cX6_readRestDays 52 = .ok (.ior, 1) := by decide +kernel
theorem dX6_readRestDays_53 : decode cX6_readRestDays 53 = .ok (.putfield 150, 3) := by decide +kernel
theorem dX6_readRestDays_56 : decode cX6_readRestDays 56 = .ok (.aload_n 0, 1) := by decide +kernel
theorem dX6_readRestDays_57 : decode cX6_readRestDays 57 = .ok (.getfield 24, 3) := by decide +kernel
theorem dX6_readRestDays_60 : decode cX6_readRestDays 60 = .ok (.iconst (-1), 1) := by decide +kernel
theorem dX6_readRestDays_61 : decode cX6_readRestDays 61 = .ok (.if_icmp .eq 7, 3) := by decide +kernel
theorem dX6_readRestDays_64 : decode cX6_readRestDays 64 = .ok (.iconst 1, 1) := by decide +kernel
theorem dX6_readRestDays_65 : decode cX6_readRestDays 65 = .ok (.goto 4, 3) := by decide +kernel
theorem dX6_readRestDays_68 : decode cX6_readRestDays 68 = .ok (.iconst 0, 1) := by decide +kernel
theorem dX6_readRestDays_69 : decode cX6_readRestDays 69 = .ok (.istore_n 2, 1) := by decide +kernel
theorem dX6_readRestDays_70 : decode cX6_readRestDays 70 = .ok (.iinc 3 1, 3) := by decide +kernel
theorem dX6_readRestDays_73 : decode cX6_readRestDays 73 = .ok (.goto (-59), 3) := by decide +kernel
theorem dX6_readRestDays_76 : decode cX6_readRestDays 76 = .ok (.iload_n 1, 1) := by decide +kernel
theorem dX6_readRestDays_77 : decode cX6_readRestDays 77 = .ok (.ireturn, 1) := by decide +kernel
theorem dX6_readSilence_0 : decode cX6_readSilence 0 = .ok (.aload_n 0, 1) := by decide +kernel
theorem dX6_readSilence_1 : decode cX6_readSilence 1 = .ok (.getfield 21, 3) := by decide +kernel
theorem dX6_readSilence_4 : decode cX6_readSilence 4 = .ok (.getstatic 153, 3) := by decide +kernel
theorem dX6_readSilence_7 : decode cX6_readSilence 7 = .ok (.if_acmp .eq 19, 3) := by decide +kernel
theorem dX6_readSilence_10 : decode cX6_readSilence 10 = .ok (.aload_n 0, 1) := by decide +kernel
theorem dX6_readSilence_11 : decode cX6_readSilence 11 = .ok (.getfield 21, 3) := by decide +kernel
theorem dX6_readSilence_14 : decode cX6_readSilence 14 = .ok (.getstatic 156, 3) := by decide +kernel
theorem dX6_readSilence_17 : decode cX6_readSilence 17 = .ok (.if_acmp .eq 9, 3) := by decide +kernel
theorem dX6_readSilence_20 : decode cX6_readSilence 20 = .ok (.aload_n 0, 1) := by decide +kernel
theorem dX6_readSilence_21 : decode cX6_readSilence 21 = .ok (.iconst 1, 1) := by decide +kernel
theorem dX6_readSilence_22 : decode cX6_readSilence 22 = .ok (.invokevirtual 79, 3) := by decide +kernel
theorem dX6_readSilence_25 : decode cX6_readSilence 25 = .ok (.ireturn, 1) := by decide +kernel
theorem dX6_readSilence_26 : decode cX6_readSilence 26 = .ok (.aload_n 0, 1) := by decide +kernel
theorem dX6_readSilence_27 : decode cX6_readSilence 27 = .ok (.getfield 35, 3) := by decide +kernel
theorem dX6_readSilence_30 : decode cX6_readSilence 30 = .ok (.aload_n 0, 1) := by decide +kernel
theorem dX6_readSilence_31 : decode cX6_readSilence 31 = .ok (.getfield 21, 3) := by decide +kernel
theorem dX6_readSilence_34 : decode cX6_readSilence 34 = .ok (.getstatic 153, 3) := by decide +kernel
theorem dX6_readSilence_37 : decode cX6_readSilence 37 = .ok (.if_acmp .ne 7, 3) := by decide +kernel
theorem dX6_readSilence_40 : decode cX6_readSilence 40 = .ok (.iconst 1, 1) := by decide +kernel
theorem dX6_readSilence_41 : decode cX6_readSilence 41 = .ok (.goto 4, 3) := by decide +kernel
theorem dX6_readSilence_44 : decode cX6_readSilence 44 = .ok (.iconst 0, 1) := by decide +kernel
theorem dX6_readSilence_45 : decode cX6_readSilence 45 = .ok (.putfield 159, 3) := by decide +kernel
theorem dX6_readSilence_48 : decode cX6_readSilence 48 = .ok (.aload_n 0, 1) := by decide +kernel
theorem dX6_readSilence_49 : decode cX6_readSilence 49 = .ok (.invokevirtual 61, 3) := by decide +kernel
theorem dX6_readSilence_52 : decode cX6_readSilence 52 = .ok (.iconst 1, 1) := by decide +kernel
theorem dX6_readSilence_53 : decode cX6_readSilence 53 = .ok (.ireturn, 1) := by decide +kernel
theorem dX6_readHours_0 : decode cX6_readHours 0 = .ok (.aload_n 0, 1) := by decide +kernel
theorem dX6_readHours_1 : decode cX6_readHours 1 = .ok (.iconst 0, 1) := by decide +kernel
theorem dX6_readHours_2 : decode cX6_readHours 2 = .ok (.bipush 24, 2) := by decide +kernel
theorem dX6_readHours_4 : decode cX6_readHours 4 = .ok (.invokevirtual 125, 3) := by decide +kernel
theorem dX6_readHours_7 : decode cX6_readHours 7 = .ok (.ifCond .ne 5, 3) := by decide +kernel
theorem dX6_readHours_10 : decode cX6_readHours 10 = .ok (.iconst 0, 1) := by decide +kernel
theorem dX6_readHours_11 : decode cX6_readHours 11 = .ok (.ireturn, 1) := by decide +kernel
theorem dX6_readHours_12 : decode cX6_readHours 12 = .ok (.aload_n 0, 1) := by decide +kernel
theorem dX6_readHours_13 : decode cX6_readHours 13 = .ok (.getfield 35, 3) := by decide +kernel
theorem dX6_readHours_16 : decode cX6_readHours 16 = .ok (.aload_n 0, 1) := by decide +kernel
theorem dX6_readHours_17 : decode cX6_readHours 17 = .ok (.getfield 83, 3) := by decide +kernel
theorem dX6_readHours_20 : decode cX6_readHours 20 = .ok (.putfield 162, 3) := by decide +kernel
theorem dX6_readHours_23 : decode cX6_readHours 23 = .ok (.aload_n 0, 1) := by decide +kernel
theorem dX6_readHours_24 : decode cX6_readHours 24 = .ok (.bipush 45, 2) := by decide +kernel
theorem dX6_readHours_26 : decode cX6_readHours 26 = .ok (.invokevirtual 118, 3) := by decide +kernel
theorem dX6_readHours_29 : decode cX6_readHours 29 = .ok (.ifCond .eq 21, 3) := by decide +kernel
theorem dX6_readHours_32 : decode cX6_readHours 32 = .ok (.aload_n 0, 1) := by decide +kernel
theorem dX6_readHours_33 : decode cX6_readHours 33 = .ok (.aload_n 0, 1) := by decide +kernel
theorem dX6_readHours_34 : decode cX6_readHours 34 = .ok (.getfield 35, 3) := by decide +kernel
theorem dX6_readHours_37 : decode cX6_readHours 37 = .ok (.getfield 162, 3) := by decide +kernel
theorem dX6_readHours_40 : decode cX6_readHours 40 = .ok (.iconst 1, 1) := by decide +kernel
theorem dX6_readHours_41 : decode cX6_readHours 41 = .ok (.iadd, 1) := by decide +kernel
theorem dX6_readHours_42 : decode cX6_readHours 42 = .ok (.bipush 24, 2) := by decide +kernel
theorem dX6_readHours_44 : decode cX6_readHours 44 = .ok (.invokevirtual 125, 3) := by decide +kernel
theorem dX6_readHours_47 : decode cX6_readHours 47 = .ok (.ifCond .ne 5, 3) := by decide +kernel
theorem dX6_readHours_50 : decode cX6_readHours 50 = .ok (.iconst 0, 1) := by decide +kernel
theorem dX6_readHours_51 : decode cX6_readHours 51 = .ok (.ireturn, 1) := by decide +kernel
theorem dX6_readHours_52 : decode cX6_readHours 52 = .ok (.aload_n 0, 1) := by decide +kernel
theorem dX6_readHours_53 : decode cX6_readHours 53 = .ok (.getfield 35, 3) := by decide +kernel
theorem dX6_readHours_56 : decode cX6_readHours 56 = .ok (.aload_n 0, 1) := by decide +kernel
theorem dX6_readHours_57 : decode cX6_readHours 57 = .ok (.getfield 83, 3) := by decide +kernel
theorem dX6_readHours_60 : decode cX6_readHours 60 = .ok (.putfield 165, 3) := by decide +kernel
theorem dX6_readHours_63 : decode cX6_readHours 63 = .ok (.iconst 1, 1) := by decide +kernel
theorem dX6_readHours_64 : decode cX6_readHours 64 = .ok (.ireturn, 1) := by decide +kernel
theorem dX6_readNotice_0 : decode cX6_readNotice 0 = .ok (.aload_n 0, 1) := by decide +kernel
theorem dX6_readNotice_1 : decode cX6_readNotice 1 = .ok (.iconst 0, 1) := by decide +kernel
theorem dX6_readNotice_2 : decode cX6_readNotice 2 = .ok (.sipush 400, 3) := by decide +kernel
theorem dX6_readNotice_5 : decode cX6_readNotice 5 = .ok (.invokevirtual 125, 3) := by decide +kernel
theorem dX6_readNotice_8 : decode cX6_readNotice 8 = .ok (.ifCond .ne 5, 3) := by decide +kernel
theorem dX6_readNotice_11 : decode cX6_readNotice 11 = .ok (.iconst 0, 1) := by decide +kernel
theorem dX6_readNotice_12 : decode cX6_readNotice 12 = .ok (.ireturn, 1) := by decide +kernel
theorem dX6_readNotice_13 : decode cX6_readNotice 13 = .ok (.aload_n 0, 1) := by decide +kernel
theorem dX6_readNotice_14 : decode cX6_readNotice 14 = .ok (.getfield 35, 3) := by decide +kernel
theorem dX6_readNotice_17 : decode cX6_readNotice 17 = .ok (.getfield 168, 3) := by decide +kernel
theorem dX6_readNotice_20 : decode cX6_readNotice 20 = .ok (.iload_n 1, 1) := by decide +kernel
theorem dX6_readNotice_21 : decode cX6_readNotice 21 = .ok (.aload_n 0, 1) := by decide +kernel
theorem dX6_readNotice_22 : decode cX6_readNotice 22 = .ok (.getfield 83, 3) := by decide +kernel
theorem dX6_readNotice_25 : decode cX6_readNotice 25 = .ok (.iastore, 1) := by decide +kernel
theorem dX6_readNotice_26 : decode cX6_readNotice 26 = .ok (.aload_n 0, 1) := by decide +kernel
theorem dX6_readNotice_27 : decode cX6_readNotice 27 = .ok (.iconst 0, 1) := by decide +kernel
theorem dX6_readNotice_28 : decode cX6_readNotice 28 = .ok (.putfield 171, 3) := by decide +kernel
theorem dX6_readNotice_31 : decode cX6_readNotice 31 = .ok (.iconst 1, 1) := by decide +kernel
theorem dX6_readNotice_32 : decode cX6_readNotice 32 = .ok (.istore_n 2, 1) := by decide +kernel
theorem dX6_readNotice_33 : decode cX6_readNotice 33 = .ok (.aload_n 0, 1) := by decide +kernel
theorem dX6_readNotice_34 : decode cX6_readNotice 34 = .ok (.getfield 21, 3) := by decide +kernel
theorem dX6_readNotice_37 : decode cX6_readNotice 37 = .ok (.getstatic 174, 3) := by decide +kernel
theorem dX6_readNotice_40 : decode cX6_readNotice 40 = .ok (.if_acmp .ne 13, 3) := by decide +kernel
theorem dX6_readNotice_43 : decode cX6_readNotice 43 = .ok (.aload_n 0, 1) := by decide +kernel
theorem dX6_readNotice_44 : decode cX6_readNotice 44 = .ok (.invokevirtual 61, 3) := by decide +kernel
theorem dX6_readNotice_47 : decode cX6_readNotice 47 = .ok (.aload_n 0, 1) := by decide +kernel
theorem dX6_readNotice_48 : decode cX6_readNotice 48 = .ok (.iconst 0, 1) := by decide +kernel
theorem dX6_readNotice_49 : decode cX6_readNotice 49 = .ok (.invokevirtual 177, 3) := by decide +kernel
theorem dX6_readNotice_52 : decode cX6_readNotice 52 = .ok (.istore_n 2, 1) := by decide +kernel
theorem dX6_readNotice_53 : decode cX6_readNotice 53 = .ok (.aload_n 0, 1) := by decide +kernel
theorem dX6_readNotice_54 : decode cX6_readNotice 54 = .ok (.getfield 35, 3) := by decide +kernel
theorem dX6_readNotice_57 : decode cX6_readNotice 57 = .ok (.getfield 180, 3) := by decide +kernel
theorem dX6_readNotice_60 : decode cX6_readNotice 60 = .ok (.iload_n 1, 1) := by decide +kernel
theorem dX6_readNotice_61 : decode cX6_readNotice 61 = .ok (.aload_n 0, 1) := by decide +kernel
theorem dX6_readNotice_62 : decode cX6_readNotice 62 = .ok (.getfield 9, 3) := by decide +kernel
theorem dX6_readNotice_65 : decode cX6_readNotice 65 = .ok (.aload_n 0, 1) := by decide +kernel
theorem dX6_readNotice_66 : decode cX6_readNotice 66 = .ok (.getfield 171, 3) := by decide +kernel
theorem dX6_readNotice_69 : decode cX6_readNotice 69 = .ok (.invokestatic 184, 3) := by decide +kernel
theorem dX6_readNotice_72 : decode cX6_readNotice 72 = .ok (.aastore, 1) := by decide +kernel
theorem dX6_readNotice_73 : decode cX6_readNotice 73 = .ok (.iload_n 2, 1) := by decide +kernel
theorem dX6_readNotice_74 : decode cX6_readNotice 74 = .ok (.ireturn, 1) := by decide +kernel
theorem dX6_readAnyOf_0 : decode cX6_readAnyOf 0 = .ok (.aload_n 0, 1) := by decide +kernel
theorem dX6_readAnyOf_1 : decode cX6_readAnyOf 1 = .ok (.iload_n 1, 1) := by decide +kernel
theorem dX6_readAnyOf_2 : decode cX6_readAnyOf 2 = .ok (.invokevirtual 190, 3) := by decide +kernel
theorem dX6_readAnyOf_5 : decode cX6_readAnyOf 5 = .ok (.istore_n 2, 1) := by decide +kernel
theorem dX6_readAnyOf_6 : decode cX6_readAnyOf 6 = .ok (.iconst 0, 1) := by decide +kernel
theorem dX6_readAnyOf_7 : decode cX6_readAnyOf 7 = .ok (.istore_n 3, 1) := by decide +kernel
theorem dX6_readAnyOf_8 : decode cX6_readAnyOf 8 = .ok (.iload_n 3, 1) := by decide +kernel
theorem dX6_readAnyOf_9 : decode cX6_readAnyOf 9 = .ok (.aload_n 0, 1) := by decide +kernel
theorem dX6_readAnyOf_10 : decode cX6_readAnyOf 10 = .ok (.getfield 55, 3) := by decide +kernel
theorem dX6_readAnyOf_13 : decode cX6_readAnyOf 13 = .ok (.if_icmp .ge 50, 3) := by decide +kernel
theorem dX6_readAnyOf_16 : decode cX6_readAnyOf 16 = .ok (.iload_n 2, 1) := by decide +kernel
theorem dX6_readAnyOf_17 : decode cX6_readAnyOf 17 = .ok (.ifCond .eq 46, 3) := by decide +kernel
theorem dX6_readAnyOf_20 : decode cX6_readAnyOf 20 = .ok (.aload_n 0, 1) := by decide +kernel
theorem dX6_readAnyOf_21 : decode cX6_readAnyOf 21 = .ok (.getfield 21, 3) := by decide +kernel
theorem dX6_readAnyOf_24 : decode cX6_readAnyOf 24 = .ok (.getstatic 193, 3) := by decide +kernel
theorem dX6_readAnyOf_27 : decode cX6_readAnyOf 27 = .ok (.if_acmp .ne 36, 3) := by decide +kernel
theorem dX6_readAnyOf_30 : decode cX6_readAnyOf 30 = .ok (.aload_n 0, 1) := by decide +kernel
theorem dX6_readAnyOf_31 : decode cX6_readAnyOf 31 = .ok (.invokevirtual 61, 3) := by decide +kernel
theorem dX6_readAnyOf_34 : decode cX6_readAnyOf 34 = .ok (.aload_n 0, 1) := by decide +kernel
theorem dX6_readAnyOf_35 : decode cX6_readAnyOf 35 = .ok (.iload_n 1, 1) := by decide +kernel
theorem dX6_readAnyOf_36 : decode cX6_readAnyOf 36 = .ok (.invokevirtual 190, 3) := by decide +kernel
theorem dX6_readAnyOf_39 : decode cX6_readAnyOf 39 = .ok (.ifCond .eq 16, 3) := by decide +kernel
theorem dX6_readAnyOf_42 : decode cX6_readAnyOf 42 = .ok (.aload_n 0, 1) := by decide +kernel
theorem dX6_readAnyOf_43 : decode cX6_readAnyOf 43 = .ok (.bipush (-3), 2) := by decide +kernel
theorem dX6_readAnyOf_45 : decode cX6_readAnyOf 45 = .ok (.invokevirtual 196, 3) := by decide +kernel
theorem dX6_readAnyOf_48 : decode cX6_readAnyOf 48 = .ok (.ifCond .eq 7, 3) := by decide +kernel
theorem dX6_readAnyOf_51 : decode cX6_readAnyOf 51 = .ok (.iconst 1, 1) := by decide +kernel
theorem dX6_readAnyOf_52 : decode cX6_readAnyOf 52 = .ok (.goto 4, 3) := by decide +kernel
theorem dX6_readAnyOf_55 : decode cX6_readAnyOf 55 = .ok (.iconst 0, 1) := by decide +kernel
theorem dX6_readAnyOf_56 : decode cX6_readAnyOf 56 = .ok (.istore_n 2, 1) := by decide +kernel
theorem dX6_readAnyOf_57 : decode cX6_readAnyOf 57 = .ok (.iinc 3 1, 3) := by decide +kernel
theorem dX6_readAnyOf_60 : decode cX6_readAnyOf 60 = .ok (.goto (-52), 3) := by decide +kernel
theorem dX6_readAnyOf_63 : decode cX6_readAnyOf 63 = .ok (.iload_n 2, 1) := by decide +kernel
theorem dX6_readAnyOf_64 : decode cX6_readAnyOf 64 = .ok (.ireturn, 1) := by decide +kernel
theorem dX6_readAllOf_0 : decode cX6_readAllOf 0 = .ok (.aload_n 0, 1) := by decide +kernel
theorem dX6_readAllOf_1 : decode cX6_readAllOf 1 = .ok (.iload_n 1, 1) := by decide +kernel
theorem dX6_readAllOf_2 : decode cX6_readAllOf 2 = .ok (.invokevirtual 199, 3) := by decide +kernel
theorem dX6_readAllOf_5 : decode cX6_readAllOf 5 = .ok (.istore_n 2, 1) := by decide +kernel
theorem dX6_readAllOf_6 : decode cX6_readAllOf 6 = .ok (.iconst 0, 1) := by decide +kernel
theorem dX6_readAllOf_7 : decode cX6_readAllOf 7 = .ok (.istore_n 3, 1) := by decide +kernel
theorem dX6_readAllOf_8 : decode cX6_readAllOf 8 = .ok (.iload_n 3, 1) := by decide +kernel
theorem dX6_readAllOf_9 : decode cX6_readAllOf 9 = .ok (.aload_n 0, 1) := by decide +kernel
theorem dX6_readAllOf_10 : decode cX6_readAllOf 10 = .ok (.getfield 55, 3) := by decide +kernel
theorem dX6_readAllOf_13 : decode cX6_readAllOf 13 = .ok (.if_icmp .ge 50, 3) := by decide +kernel
theorem dX6_readAllOf_16 : decode cX6_readAllOf 16 = .ok (.iload_n 2, 1) := by decide +kernel
theorem dX6_readAllOf_17 : decode cX6_readAllOf 17 = .ok (.ifCond .eq 46, 3) := by decide +kernel
theorem dX6_readAllOf_20 : decode cX6_readAllOf 20 = .ok (.aload_n 0, 1) := by decide +kernel
theorem dX6_readAllOf_21 : decode cX6_readAllOf 21 = .ok (.getfield 21, 3) := by decide +kernel
theorem dX6_readAllOf_24 : decode cX6_readAllOf 24 = .ok (.getstatic 202, 3) := by decide +kernel
theorem dX6_readAllOf_27 : decode cX6_readAllOf 27 = .ok (.if_acmp .ne 36, 3) := by decide +kernel
theorem dX6_readAllOf_30 : decode cX6_readAllOf 30 = .ok (.aload_n 0, 1) := by decide +kernel
theorem dX6_readAllOf_31 : decode cX6_readAllOf 31 = .ok (.invokevirtual 61, 3) := by decide +kernel
theorem dX6_readAllOf_34 : decode cX6_readAllOf 34 = .ok (.aload_n 0, 1) := by decide +kernel
theorem dX6_readAllOf_35 : decode cX6_readAllOf 35 = .ok (.iload_n 1, 1) := by decide +kernel
theorem dX6_readAllOf_36 : decode cX6_readAllOf 36 = .ok (.invokevirtual 199, 3) := by decide +kernel
theorem dX6_readAllOf_39 : decode cX6_readAllOf 39 = .ok (.ifCond .eq 16, 3) := by decide +kernel
theorem dX6_readAllOf_42 : decode cX6_readAllOf 42 = .ok (.aload_n 0, 1) := by decide +kernel
theorem dX6_readAllOf_43 : decode cX6_readAllOf 43 = .ok (.bipush (-2), 2) := by decide +kernel
theorem dX6_readAllOf_45 : decode cX6_readAllOf 45 = .ok (.invokevirtual 196, 3) := by decide +kernel
theorem dX6_readAllOf_48 : decode cX6_readAllOf 48 = .ok (.ifCond .eq 7, 3) := by decide +kernel
theorem dX6_readAllOf_51 : decode cX6_readAllOf 51 = .ok (.iconst 1, 1) := by decide +kernel
theorem dX6_readAllOf_52 : decode cX6_readAllOf 52 = .ok (.goto 4, 3) := by decide +kernel
theorem dX6_readAllOf_55 : decode cX6_readAllOf 55 = .ok (.iconst 0, 1) := by decide +kernel
theorem dX6_readAllOf_56 : decode cX6_readAllOf 56 = .ok (.istore_n 2, 1) := by decide +kernel
theorem dX6_readAllOf_57 : decode cX6_readAllOf 57 = .ok (.iinc 3 1, 3) := by decide +kernel
theorem dX6_readAllOf_60 : decode cX6_readAllOf 60 = .ok (.goto (-52), 3) := by decide +kernel
theorem dX6_readAllOf_63 : decode cX6_readAllOf 63 = .ok (.iload_n 2, 1) := by decide +kernel
theorem dX6_readAllOf_64 : decode cX6_readAllOf 64 = .ok (.ireturn, 1) := by decide +kernel
theorem dX6_readOne_0 : decode cX6_readOne 0 = .ok (.aload_n 0, 1) := by decide +kernel
theorem dX6_readOne_1 : decode cX6_readOne 1 = .ok (.getfield 21, 3) := by decide +kernel
theorem dX6_readOne_4 : decode cX6_readOne 4 = .ok (.getstatic 205, 3) := by decide +kernel
theorem dX6_readOne_7 : decode cX6_readOne 7 = .ok (.if_acmp .ne 7, 3) := by decide +kernel
theorem dX6_readOne_10 : decode cX6_readOne 10 = .ok (.iconst 1, 1) := by decide +kernel
theorem dX6_readOne_11 : decode cX6_readOne 11 = .ok (.goto 4, 3) := by decide +kernel
theorem dX6_readOne_14 : decode cX6_readOne 14 = .ok (.iconst 0, 1) := by decide +kernel
theorem dX6_readOne_15 : decode cX6_readOne 15 = .ok (.istore_n 2, 1) := by decide +kernel
theorem dX6_readOne_16 : decode cX6_readOne 16 = .ok (.iload_n 2, 1) := by decide +kernel
theorem dX6_readOne_17 : decode cX6_readOne 17 = .ok (.ifCond .ne 12, 3) := by decide +kernel
theorem dX6_readOne_20 : decode cX6_readOne 20 = .ok (.aload_n 0, 1) := by decide +kernel
theorem dX6_readOne_21 : decode cX6_readOne 21 = .ok (.getfield 28, 3) := by decide +kernel
theorem dX6_readOne_24 : decode cX6_readOne 24 = .ok (.bipush 40, 2) := by decide +kernel
theorem dX6_readOne_26 : decode cX6_readOne 26 = .ok (.if_icmp .ne 74, 3) := by decide +kernel
theorem dX6_readOne_29 : decode cX6_readOne 29 = .ok (.iload_n 1, 1) := by decide +kernel
theorem dX6_readOne_30 : decode cX6_readOne 30 = .ok (.bipush 8, 2) := by decide +kernel
theorem dX6_readOne_32 : decode cX6_readOne 32 = .ok (.if_icmp .lt 9, 3) := by decide +kernel
theorem dX6_readOne_35 : decode cX6_readOne 35 = .ok (.aload_n 0, 1) := by decide +kernel
theorem dX6_readOne_36 : decode cX6_readOne 36 = .ok (.iconst 3, 1) := by decide +kernel
theorem dX6_readOne_37 : decode cX6_readOne 37 = .ok (.invokevirtual 79, 3) := by decide +kernel
theorem dX6_readOne_40 : decode cX6_readOne 40 = .ok (.ireturn, 1) := by decide +kernel
theorem dX6_readOne_41 : decode cX6_readOne 41 = .ok (.aload_n 0, 1) := by decide +kernel
theorem dX6_readOne_42 : decode cX6_readOne 42 = .ok (.invokevirtual 61, 3) := by decide +kernel
theorem dX6_readOne_45 : decode cX6_readOne 45 = .ok (.iload_n 2, 1) := by decide +kernel
theorem dX6_readOne_46 : decode cX6_readOne 46 = .ok (.ifCond .eq 29, 3) := by decide +kernel
theorem dX6_readOne_49 : decode cX6_readOne 49 = .ok (.aload_n 0, 1) := by decide +kernel
theorem dX6_readOne_50 : decode cX6_readOne 50 = .ok (.iload_n 1, 1) := by decide +kernel
theorem dX6_readOne_51 : decode cX6_readOne 51 = .ok (.iconst 1, 1) := by decide +kernel
theorem dX6_readOne_52 : decode cX6_readOne 52 = .ok (.iadd, 1) := by decide +kernel
theorem dX6_readOne_53 : decode cX6_readOne 53 = .ok (.invokevirtual 199, 3) := by decide +kernel
theorem dX6_readOne_56 : decode cX6_readOne 56 = .ok (.ifCond .eq 15, 3) := by decide +kernel
theorem dX6_readOne_59 : decode cX6_readOne 59 = .ok (.aload_n 0, 1) := by decide +kernel
theorem dX6_readOne_60 : decode cX6_readOne 60 = .ok (.iconst (-1), 1) := by decide +kernel
theorem dX6_readOne_61 : decode cX6_readOne 61 = .ok (.invokevirtual 196, 3) := by decide +kernel
theorem dX6_readOne_64 : decode cX6_readOne 64 = .ok (.ifCond .eq 7, 3) := by decide +kernel
theorem dX6_readOne_67 : decode cX6_readOne 67 = .ok (.iconst 1, 1) := by decide +kernel
theorem dX6_readOne_68 : decode cX6_readOne 68 = .ok (.goto 31, 3) := by decide +kernel
theorem dX6_readOne_71 : decode cX6_readOne 71 = .ok (.iconst 0, 1) := by decide +kernel
theorem dX6_readOne_72 : decode cX6_readOne 72 = .ok (.goto 27, 3) := by decide +kernel
theorem dX6_readOne_75 : decode cX6_readOne 75 = .ok (.aload_n 0, 1) := by decide +kernel
theorem dX6_readOne_76 : decode cX6_readOne 76 = .ok (.iload_n 1, 1) := by decide +kernel
theorem dX6_readOne_77 : decode cX6_readOne 77 = .ok (.iconst 1, 1) := by decide +kernel
theorem dX6_readOne_78 : decode cX6_readOne 78 = .ok (.iadd, 1) := by decide +kernel
theorem dX6_readOne_79 : decode cX6_readOne 79 = .ok (.invokevirtual 177, 3) := by decide +kernel
theorem dX6_readOne_82 : decode cX6_readOne 82 = .ok (.ifCond .eq 16, 3) := by decide +kernel
theorem dX6_readOne_85 : decode cX6_readOne 85 = .ok (.aload_n 0, 1) := by decide +kernel
theorem dX6_readOne_86 : decode cX6_readOne 86 = .ok (.bipush 41, 2) := by decide +kernel
theorem dX6_readOne_88 : decode cX6_readOne 88 = .ok (.invokevirtual 118, 3) := by decide +kernel
theorem dX6_readOne_91 : decode cX6_readOne 91 = .ok (.ifCond .eq 7, 3) := by decide +kernel
theorem dX6_readOne_94 : decode cX6_readOne 94 = .ok (.iconst 1, 1) := by decide +kernel
theorem dX6_readOne_95 : decode cX6_readOne 95 = .ok (.goto 4, 3) := by decide +kernel
theorem dX6_readOne_98 : decode cX6_readOne 98 = .ok (.iconst 0, 1) := by decide +kernel
theorem dX6_readOne_99 : decode cX6_readOne 99 = .ok (.ireturn, 1) := by decide +kernel
theorem dX6_readOne_100 : decode cX6_readOne 100 = .ok (.aload_n 0, 1) := by decide +kernel
theorem dX6_readOne_101 : decode cX6_readOne 101 = .ok (.getfield 21, 3) := by decide +kernel
theorem dX6_readOne_104 : decode cX6_readOne 104 = .ok (.invokestatic 208, 3) := by decide +kernel
theorem dX6_readOne_107 : decode cX6_readOne 107 = .ok (.istore_n 3, 1) := by decide +kernel
theorem dX6_readOne_108 : decode cX6_readOne 108 = .ok (.iload_n 3, 1) := by decide +kernel
theorem dX6_readOne_109 : decode cX6_readOne 109 = .ok (.iconst (-1), 1) := by decide +kernel
theorem dX6_readOne_110 : decode cX6_readOne 110 = .ok (.if_icmp .ne 9, 3) := by decide +kernel
theorem dX6_readOne_113 : decode cX6_readOne 113 = .ok (.aload_n 0, 1) := by decide +kernel
theorem dX6_readOne_114 : decode cX6_readOne 114 = .ok (.iconst 1, 1) := by decide +kernel
theorem dX6_readOne_115 : decode cX6_readOne 115 = .ok (.invokevirtual 79, 3) := by decide +kernel
theorem dX6_readOne_118 : decode cX6_readOne 118 = .ok (.ireturn, 1) := by decide +kernel
theorem dX6_readOne_119 : decode cX6_readOne 119 = .ok (.aload_n 0, 1) := by decide +kernel
theorem dX6_readOne_120 : decode cX6_readOne 120 = .ok (.invokevirtual 61, 3) := by decide +kernel
theorem dX6_readOne_123 : decode cX6_readOne 123 = .ok (.aload_n 0, 1) := by decide +kernel
theorem dX6_readOne_124 : decode cX6_readOne 124 = .ok (.getfield 28, 3) := by decide +kernel
theorem dX6_readOne_127 : decode cX6_readOne 127 = .ok (.bipush 62, 2) := by decide +kernel
theorem dX6_readOne_129 : decode cX6_readOne 129 = .ok (.if_icmp .ne 7, 3) := by decide +kernel
theorem dX6_readOne_132 : decode cX6_readOne 132 = .ok (.iconst 1, 1) := by decide +kernel
theorem dX6_readOne_133 : decode cX6_readOne 133 = .ok (.goto 4, 3) := by decide +kernel
theorem dX6_readOne_136 : decode cX6_readOne 136 = .ok (.iconst 0, 1) := by decide +kernel
theorem dX6_readOne_137 : decode cX6_readOne 137 = .ok (.istore 4, 2) := by decide +kernel
theorem dX6_readOne_139 : decode cX6_readOne 139 = .ok (.iload 4, 2) := by decide +kernel
theorem dX6_readOne_141 : decode cX6_readOne 141 = .ok (.ifCond .ne 18, 3) := by decide +kernel
theorem dX6_readOne_144 : decode cX6_readOne 144 = .ok (.aload_n 0, 1) := by decide +kernel
theorem dX6_readOne_145 : decode cX6_readOne 145 = .ok (.getfield 28, 3) := by decide +kernel
theorem dX6_readOne_148 : decode cX6_readOne 148 = .ok (.bipush 60, 2) := by decide +kernel
theorem dX6_readOne_150 : decode cX6_readOne 150 = .ok (.if_icmp .eq 9, 3) := by decide +kernel
theorem dX6_readOne_153 : decode cX6_readOne 153 = .ok (.aload_n 0, 1) := by decide +kernel
theorem dX6_readOne_154 : decode cX6_readOne 154 = .ok (.iconst 1, 1) := by decide +kernel
theorem dX6_readOne_155 : decode cX6_readOne 155 = .ok (.invokevirtual 79, 3) := by decide +kernel
theorem dX6_readOne_158 : decode cX6_readOne 158 = .ok (.ireturn, 1) := by decide +kernel
theorem dX6_readOne_159 : decode cX6_readOne 159 = .ok (.aload_n 0, 1) := by decide +kernel
theorem dX6_readOne_160 : decode cX6_readOne 160 = .ok (.invokevirtual 61, 3) := by decide +kernel
theorem dX6_readOne_163 : decode cX6_readOne 163 = .ok (.aload_n 0, 1) := by decide +kernel
theorem dX6_readOne_164 : decode cX6_readOne 164 = .ok (.iconst 0, 1) := by decide +kernel
theorem dX6_readOne_165 : decode cX6_readOne 165 = .ok (.sipush 9999, 3) := by decide +kernel
theorem dX6_readOne_168 : decode cX6_readOne 168 = .ok (.invokevirtual 125, 3) := by decide +kernel
theorem dX6_readOne_171 : decode cX6_readOne 171 = .ok (.ifCond .eq 37, 3) := by decide +kernel
theorem dX6_readOne_174 : decode cX6_readOne 174 = .ok (.aload_n 0, 1) := by decide +kernel
theorem dX6_readOne_175 : decode cX6_readOne 175 = .ok (.iconst 2, 1) := by decide +kernel
theorem dX6_readOne_176 : decode cX6_readOne 176 = .ok (.iload_n 3, 1) := by decide +kernel
theorem dX6_readOne_177 : decode cX6_readOne 177 = .ok (.imul, 1) := by decide +kernel
theorem dX6_readOne_178 : decode cX6_readOne 178 = .ok (.iload 4, 2) := by decide +kernel
theorem dX6_readOne_180 : decode cX6_readOne 180 = .ok (.ifCond .eq 7, 3) := by decide +kernel
theorem dX6_readOne_183 : decode cX6_readOne 183 = .ok (.iconst 1, 1) := by decide +kernel
theorem dX6_readOne_184 : decode cX6_readOne 184 = .ok (.goto 4, 3) := by decide +kernel
theorem dX6_readOne_187 : decode cX6_readOne 187 = .ok (.iconst 0, 1) := by decide +kernel
theorem dX6_readOne_188 : decode cX6_readOne 188 = .ok (.iadd, 1) := by decide +kernel
theorem dX6_readOne_189 : decode cX6_readOne 189 = .ok (.sipush 10000, 3) := by decide +kernel
theorem dX6_readOne_192 : decode cX6_readOne 192 = .ok (.imul, 1) := by decide +kernel
theorem dX6_readOne_193 : decode cX6_readOne 193 = .ok (.aload_n 0, 1) := by decide +kernel
theorem dX6_readOne_194 : decode cX6_readOne 194 = .ok (.getfield 83, 3) := by decide +kernel
theorem dX6_readOne_197 : decode cX6_readOne 197 = .ok (.iadd, 1) := by decide +kernel
theorem dX6_readOne_198 : decode cX6_readOne 198 = .ok (.invokevirtual 196, 3) := by decide +kernel
theorem dX6_readOne_201 : decode cX6_readOne 201 = .ok (.ifCond .eq 7, 3) := by decide +kernel
theorem dX6_readOne_204 : decode cX6_readOne 204 = .ok (.iconst 1, 1) := by decide +kernel
theorem dX6_readOne_205 : decode cX6_readOne 205 = .ok (.goto 4, 3) := by decide +kernel
theorem dX6_readOne_208 : decode cX6_readOne 208 = .ok (.iconst 0, 1) := by decide +kernel
theorem dX6_readOne_209 : decode cX6_readOne 209 = .ok (.ireturn, 1) := by decide +kernel
theorem dX6_measureOf_0 : decode cX6_measureOf 0 = .ok (.getstatic 93, 3) := by decide +kernel
theorem dX6_measureOf_3 : decode cX6_measureOf 3 = .ok (.aload_n 0, 1) := by decide +kernel
theorem dX6_measureOf_4 : decode cX6_measureOf 4 = .ok (.invokevirtual 98, 3) := by decide +kernel
theorem dX6_measureOf_7 : decode cX6_measureOf 7 = .ok (.iaload, 1) := by decide +kernel
theorem dX6_measureOf_8 : decode cX6_measureOf 8 = .ok (.tableswitch 34 14 16 #[28, 30, 32], 28) := by decide +kernel
theorem dX6_measureOf_36 : decode cX6_measureOf 36 = .ok (.iconst 0, 1) := by decide +kernel
theorem dX6_measureOf_37 : decode cX6_measureOf 37 = .ok (.ireturn, 1) := by decide +kernel
theorem dX6_measureOf_38 : decode cX6_measureOf 38 = .ok (.iconst 1, 1) := by decide +kernel
theorem dX6_measureOf_39 : decode cX6_measureOf 39 = .ok (.ireturn, 1) := by decide +kernel
theorem dX6_measureOf_40 : decode cX6_measureOf 40 = .ok (.iconst 2, 1) := by decide +kernel
theorem dX6_measureOf_41 : decode cX6_measureOf 41 = .ok (.ireturn, 1) := by decide +kernel
theorem dX6_measureOf_42 : decode cX6_measureOf 42 = .ok (.iconst (-1), 1) := by decide +kernel
theorem dX6_measureOf_43 : decode cX6_measureOf 43 = .ok (.ireturn, 1) := by decide +kernel
theorem dX6_addStep_0 : decode cX6_addStep 0 = .ok (.aload_n 0, 1) := by decide +kernel
theorem dX6_addStep_1 : decode cX6_addStep 1 = .ok (.getfield 171, 3) := by decide +kernel
theorem dX6_addStep_4 : decode cX6_addStep 4 = .ok (.aload_n 0, 1) := by decide +kernel
theorem dX6_addStep_5 : decode cX6_addStep 5 = .ok (.getfield 9, 3) := by decide +kernel
theorem dX6_addStep_8 : decode cX6_addStep 8 = .ok (.arraylength, 1) := by decide +kernel
theorem dX6_addStep_9 : decode cX6_addStep 9 = .ok (.if_icmp .ge 23, 3) := by decide +kernel
theorem dX6_addStep_12 : decode cX6_addStep 12 = .ok (.aload_n 0, 1) := by decide +kernel
theorem dX6_addStep_13 : decode cX6_addStep 13 = .ok (.getfield 9, 3) := by decide +kernel
theorem dX6_addStep_16 : decode cX6_addStep 16 = .ok (.aload_n 0, 1) := by decide +kernel
theorem dX6_addStep_17 : decode cX6_addStep 17 = .ok (.getfield 171, 3) := by decide +kernel
theorem dX6_addStep_20 : decode cX6_addStep 20 = .ok (.iload_n 1, 1) := by decide +kernel
theorem dX6_addStep_21 : decode cX6_addStep 21 = .ok (.iastore, 1) := by decide +kernel
theorem dX6_addStep_22 : decode cX6_addStep 22 = .ok (.aload_n 0, 1) := by decide +kernel
theorem dX6_addStep_23 : decode cX6_addStep 23 = .ok (.dup, 1) := by decide +kernel
theorem dX6_addStep_24 : decode cX6_addStep 24 = .ok (.getfield 171, 3) := by decide +kernel
theorem dX6_addStep_27 : decode cX6_addStep 27 = .ok (.iconst 1, 1) := by decide +kernel
theorem dX6_addStep_28 : decode cX6_addStep 28 = .ok (.iadd, 1) := by decide +kernel
theorem dX6_addStep_29 : decode cX6_addStep 29 = .ok (.putfield 171, 3) := by decide +kernel
theorem dX6_addStep_32 : decode cX6_addStep 32 = .ok (.iconst 1, 1) := by decide +kernel
theorem dX6_addStep_33 : decode cX6_addStep 33 = .ok (.ireturn, 1) := by decide +kernel
theorem dX7_init_0 : decode cX7_init 0 = .ok (.aload_n 0, 1) := by decide +kernel
theorem dX7_init_1 : decode cX7_init 1 = .ok (.invokespecial 3, 3) := by decide +kernel
theorem dX7_init_4 : decode cX7_init 4 = .ok (.aload_n 0, 1) := by decide +kernel
theorem dX7_init_5 : decode cX7_init 5 = .ok (.bipush 20, 2) := by decide +kernel
theorem dX7_init_7 : decode cX7_init 7 = .ok (.newarray .int, 2) := by decide +kernel
theorem dX7_init_9 : decode cX7_init 9 = .ok (.putfield 9, 3) := by decide +kernel
theorem dX7_init_12 : decode cX7_init 12 = .ok (.aload_n 0, 1) := by decide +kernel
theorem dX7_init_13 : decode cX7_init 13 = .ok (.bipush 20, 2) := by decide +kernel
theorem dX7_init_15 : decode cX7_init 15 = .ok (.newarray .int, 2) := by decide +kernel
theorem dX7_init_17 : decode cX7_init 17 = .ok (.putfield 15, 3) := by decide +kernel
theorem dX7_init_20 : decode cX7_init 20 = .ok (.aload_n 0, 1) := by decide +kernel
theorem dX7_init_21 : decode cX7_init 21 = .ok (.iload_n 1, 1) := by decide +kernel
theorem dX7_init_22 : decode cX7_init 22 = .ok (.putfield 18, 3) := by decide +kernel
theorem dX7_init_25 : decode cX7_init 25 = .ok (.return_, 1) := by decide +kernel
theorem dX7_cracks_0 : decode cX7_cracks 0 = .ok (.aload_n 0, 1) := by decide +kernel
theorem dX7_cracks_1 : decode cX7_cracks 1 = .ok (.getfield 22, 3) := by decide +kernel
theorem dX7_cracks_4 : decode cX7_cracks 4 = .ok (.ireturn, 1) := by decide +kernel
theorem dX7_placeOf_0 : decode cX7_placeOf 0 = .ok (.aload_n 0, 1) := by decide +kernel
theorem dX7_placeOf_1 : decode cX7_placeOf 1 = .ok (.getfield 9, 3) := by decide +kernel
theorem dX7_placeOf_4 : decode cX7_placeOf 4 = .ok (.iload_n 1, 1) := by decide +kernel
theorem dX7_placeOf_5 : decode cX7_placeOf 5 = .ok (.iaload, 1) := by decide +kernel
theorem dX7_placeOf_6 : decode cX7_placeOf 6 = .ok (.ireturn, 1) := by decide +kernel
theorem dX7_trueWidthOf_0 : decode cX7_trueWidthOf 0 = .ok (.aload_n 0, 1) := by decide +kernel
theorem dX7_trueWidthOf_1 : decode cX7_trueWidthOf 1 = .ok (.getfield 15, 3) := by decide +kernel
theorem dX7_trueWidthOf_4 : decode cX7_trueWidthOf 4 = .ok (.iload_n 1, 1) := by decide +kernel
theorem dX7_trueWidthOf_5 : decode cX7_trueWidthOf 5 = .ok (.iaload, 1) := by decide +kernel
theorem dX7_trueWidthOf_6 : decode cX7_trueWidthOf 6 = .ok (.ireturn, 1) := by decide +kernel
theorem dX7_isBehind_0 : decode cX7_isBehind 0 = .ok (.aload_n 0, 1) := by decide +kernel
theorem dX7_isBehind_1 : decode cX7_isBehind 1 = .ok (.getfield 22, 3) := by decide +kernel
theorem dX7_isBehind_4 : decode cX7_isBehind 4 = .ok (.ifCond .le 22, 3) := by decide +kernel
theorem dX7_isBehind_7 : decode cX7_isBehind 7 = .ok (.iload_n 1, 1) := by decide +kernel
theorem dX7_isBehind_8 : decode cX7_isBehind 8 = .ok (.aload_n 0, 1) := by decide +kernel
theorem dX7_isBehind_9 : decode cX7_isBehind 9 = .ok (.getfield 9, 3) := by decide +kernel
theorem dX7_isBehind_12 : decode cX7_isBehind 12 = .ok (.aload_n 0, 1) := by decide +kernel
theorem dX7_isBehind_13 : decode cX7_isBehind 13 = .ok (.getfield 22, 3) := by decide +kernel
theorem dX7_isBehind_16 : decode cX7_isBehind 16 = .ok (.iconst 1, 1) := by decide +kernel
theorem dX7_isBehind_17 : decode cX7_isBehind 17 = .ok (.isub, 1) := by decide +kernel
theorem dX7_isBehind_18 : decode cX7_isBehind 18 = .ok (.iaload, 1) := by decide +kernel
theorem dX7_isBehind_19 : decode cX7_isBehind 19 = .ok (.if_icmp .ge 7, 3) := by decide +kernel
theorem dX7_isBehind_22 : decode cX7_isBehind 22 = .ok (.iconst 1, 1) := by decide +kernel
theorem dX7_isBehind_23 : decode cX7_isBehind 23 = .ok (.goto 4, 3) := by decide +kernel
theorem dX7_isBehind_26 : decode cX7_isBehind 26 = .ok (.iconst 0, 1) := by decide +kernel
theorem dX7_isBehind_27 : decode cX7_isBehind 27 = .ok (.ireturn, 1) := by decide +kernel
theorem dX7_addCrack_0 : decode cX7_addCrack 0 = .ok (.aload_n 0, 1) := by decide +kernel
theorem dX7_addCrack_1 : decode cX7_addCrack 1 = .ok (.getfield 22, 3) := by decide +kernel
theorem dX7_addCrack_4 : decode cX7_addCrack 4 = .ok (.bipush 20, 2) := by decide +kernel
theorem dX7_addCrack_6 : decode cX7_addCrack 6 = .ok (.if_icmp .lt 4, 3) := by decide +kernel
theorem dX7_addCrack_9 : decode cX7_addCrack 9 = .ok (.return_, 1) := by decide +kernel
theorem dX7_addCrack_10 : decode cX7_addCrack 10 = .ok (.aload_n 0, 1) := by decide +kernel
theorem dX7_addCrack_11 : decode cX7_addCrack 11 = .ok (.getfield 9, 3) := by decide +kernel
theorem dX7_addCrack_14 : decode cX7_addCrack 14 = .ok (.aload_n 0, 1) := by decide +kernel
theorem dX7_addCrack_15 : decode cX7_addCrack 15 = .ok (.getfield 22, 3) := by decide +kernel
theorem dX7_addCrack_18 : decode cX7_addCrack 18 = .ok (.iload_n 1, 1) := by decide +kernel
theorem dX7_addCrack_19 : decode cX7_addCrack 19 = .ok (.iastore, 1) := by decide +kernel
theorem dX7_addCrack_20 : decode cX7_addCrack 20 = .ok (.aload_n 0, 1) := by decide +kernel
theorem dX7_addCrack_21 : decode cX7_addCrack 21 = .ok (.getfield 15, 3) := by decide +kernel
theorem dX7_addCrack_24 : decode cX7_addCrack 24 = .ok (.aload_n 0, 1) := by decide +kernel
theorem dX7_addCrack_25 : decode cX7_addCrack 25 = .ok (.getfield 22, 3) := by decide +kernel
theorem dX7_addCrack_28 : decode cX7_addCrack 28 = .ok (.iload_n 2, 1) := by decide +kernel
theorem dX7_addCrack_29 : decode cX7_addCrack 29 = .ok (.aload_n 0, 1) := by decide +kernel
theorem dX7_addCrack_30 : decode cX7_addCrack 30 = .ok (.getfield 18, 3) := by decide +kernel
theorem dX7_addCrack_33 : decode cX7_addCrack 33 = .ok (.isub, 1) := by decide +kernel
theorem dX7_addCrack_34 : decode cX7_addCrack 34 = .ok (.iastore, 1) := by decide +kernel
theorem dX7_addCrack_35 : decode cX7_addCrack 35 = .ok (.aload_n 0, 1) := by decide +kernel
theorem dX7_addCrack_36 : decode cX7_addCrack 36 = .ok (.dup, 1) := by decide +kernel
theorem dX7_addCrack_37 : decode cX7_addCrack 37 = .ok (.getfield 22, 3) := by decide +kernel
theorem dX7_addCrack_40 : decode cX7_addCrack 40 = .ok (.iconst 1, 1) := by decide +kernel
theorem dX7_addCrack_41 : decode cX7_addCrack 41 = .ok (.iadd, 1) := by decide +kernel
theorem dX7_addCrack_42 : decode cX7_addCrack 42 = .ok (.putfield 22, 3) := by decide +kernel
theorem dX7_addCrack_45 : decode cX7_addCrack 45 = .ok (.return_, 1) := by decide +kernel
theorem dX8_init_0 : decode cX8_init 0 = .ok (.aload_n 0, 1) := by decide +kernel
theorem dX8_init_1 : decode cX8_init 1 = .ok (.invokespecial 3, 3) := by decide +kernel
theorem dX8_init_4 : decode cX8_init 4 = .ok (.aload_n 0, 1) := by decide +kernel
theorem dX8_init_5 : decode cX8_init 5 = .ok (.iconst 2, 1) := by decide +kernel
theorem dX8_init_6 : decode cX8_init 6 = .ok (.newarray .int, 2) := by decide +kernel
theorem dX8_init_8 : decode cX8_init 8 = .ok (.putfield 9, 3) := by decide +kernel
theorem dX8_init_11 : decode cX8_init 11 = .ok (.aload_n 0, 1) := by decide +kernel
theorem dX8_init_12 : decode cX8_init 12 = .ok (.bipush 12, 2) := by decide +kernel
theorem dX8_init_14 : decode cX8_init 14 = .ok (.newarray .int, 2) := by decide +kernel
theorem dX8_init_16 : decode cX8_init 16 = .ok (.putfield 15, 3) := by decide +kernel
theorem dX8_init_19 : decode cX8_init 19 = .ok (.aload_n 0, 1) := by decide +kernel
theorem dX8_init_20 : decode cX8_init 20 = .ok (.sipush 240, 3) := by decide +kernel
theorem dX8_init_23 : decode cX8_init 23 = .ok (.newarray .int, 2) := by decide +kernel
theorem dX8_init_25 : decode cX8_init 25 = .ok (.putfield 18, 3) := by decide +kernel
theorem dX8_init_28 : decode cX8_init 28 = .ok (.aload_n 0, 1) := by decide +kernel
theorem dX8_init_29 : decode cX8_init 29 = .ok (.sipush 240, 3) := by decide +kernel
theorem dX8_init_32 : decode cX8_init 32 = .ok (.newarray .int, 2) := by decide +kernel
theorem dX8_init_34 : decode cX8_init 34 = .ok (.putfield 21, 3) := by decide +kernel
theorem dX8_init_37 : decode cX8_init 37 = .ok (.aload_n 0, 1) := by decide +kernel
theorem dX8_init_38 : decode cX8_init 38 = .ok (.sipush 240, 3) := by decide +kernel
theorem dX8_init_41 : decode cX8_init 41 = .ok (.newarray .int, 2) := by decide +kernel
theorem dX8_init_43 : decode cX8_init 43 = .ok (.putfield 24, 3) := by decide +kernel
theorem dX8_init_46 : decode cX8_init 46 = .ok (.aload_n 0, 1) := by decide +kernel
theorem dX8_init_47 : decode cX8_init 47 = .ok (.sipush 240, 3) := by decide +kernel
theorem dX8_init_50 : decode cX8_init 50 = .ok (.newarray .int, 2) := by decide +kernel
theorem dX8_init_52 : decode cX8_init 52 = .ok (.putfield 27, 3) := by decide +kernel
theorem dX8_init_55 : decode cX8_init 55 = .ok (.aload_n 0, 1) := by decide +kernel
theorem dX8_init_56 : decode cX8_init 56 = .ok (.getfield 9, 3) := by decide +kernel
theorem dX8_init_59 : decode cX8_init 59 = .ok (.iconst 0, 1) := by decide +kernel
theorem dX8_init_60 : decode cX8_init 60 = .ok (.iload_n 1, 1) := by decide +kernel
theorem dX8_init_61 : decode cX8_init 61 = .ok (.iastore, 1) := by decide +kernel
theorem dX8_init_62 : decode cX8_init 62 = .ok (.aload_n 0, 1) := by decide +kernel
theorem dX8_init_63 : decode cX8_init 63 = .ok (.getfield 9, 3) := by decide +kernel
theorem dX8_init_66 : decode cX8_init 66 = .ok (.iconst 1, 1) := by decide +kernel
theorem dX8_init_67 : decode cX8_init 67 = .ok (.iload_n 2, 1) := by decide +kernel
theorem dX8_init_68 : decode cX8_init 68 = .ok (.iastore, 1) := by decide +kernel
theorem dX8_init_69 : decode cX8_init 69 = .ok (.return_, 1) := by decide +kernel
theorem dX8_ownerOf_0 : decode cX8_ownerOf 0 = .ok (.aload_n 0, 1) := by decide +kernel
theorem dX8_ownerOf_1 : decode cX8_ownerOf 1 = .ok (.getfield 9, 3) := by decide +kernel
theorem dX8_ownerOf_4 : decode cX8_ownerOf 4 = .ok (.iload_n 1, 1) := by decide +kernel
theorem dX8_ownerOf_5 : decode cX8_ownerOf 5 = .ok (.iaload, 1) := by decide +kernel
theorem dX8_ownerOf_6 : decode cX8_ownerOf 6 = .ok (.ireturn, 1) := by decide +kernel
theorem dX8_giveTo_0 : decode cX8_giveTo 0 = .ok (.aload_n 0, 1) := by decide +kernel
theorem dX8_giveTo_1 : decode cX8_giveTo 1 = .ok (.getfield 9, 3) := by decide +kernel
theorem dX8_giveTo_4 : decode cX8_giveTo 4 = .ok (.iload_n 1, 1) := by decide +kernel
theorem dX8_giveTo_5 : decode cX8_giveTo 5 = .ok (.iload_n 2, 1) := by decide +kernel
theorem dX8_giveTo_6 : decode cX8_giveTo 6 = .ok (.iastore, 1) := by decide +kernel
theorem dX8_giveTo_7 : decode cX8_giveTo 7 = .ok (.return_, 1) := by decide +kernel
theorem dX8_hasCell_0 : decode cX8_hasCell 0 = .ok (.iload_n 1, 1) := by decide +kernel
theorem dX8_hasCell_1 : decode cX8_hasCell 1 = .ok (.ifCond .lt 27, 3) := by decide +kernel
theorem dX8_hasCell_4 : decode cX8_hasCell 4 = .ok (.iload_n 1, 1) := by decide +kernel
theorem dX8_hasCell_5 : decode cX8_hasCell 5 = .ok (.bipush 12, 2) := by decide +kernel
theorem dX8_hasCell_7 : decode cX8_hasCell 7 = .ok (.if_icmp .ge 21, 3) := by decide +kernel
theorem dX8_hasCell_10 : decode cX8_hasCell 10 = .ok (.iload_n 2, 1) := by decide +kernel
theorem dX8_hasCell_11 : decode cX8_hasCell 11 = .ok (.ifCond .lt 17, 3) := by decide +kernel
theorem dX8_hasCell_14 : decode cX8_hasCell 14 = .ok (.iload_n 2, 1) := by decide +kernel
theorem dX8_hasCell_15 : decode cX8_hasCell 15 = .ok (.aload_n 0, 1) := by decide +kernel
theorem dX8_hasCell_16 : decode cX8_hasCell 16 = .ok (.getfield 15, 3) := by decide +kernel
theorem dX8_hasCell_19 : decode cX8_hasCell 19 = .ok (.iload_n 1, 1) := by decide +kernel
theorem dX8_hasCell_20 : decode cX8_hasCell 20 = .ok (.iaload, 1) := by decide +kernel
theorem dX8_hasCell_21 : decode cX8_hasCell 21 = .ok (.if_icmp .ge 7, 3) := by decide +kernel
theorem dX8_hasCell_24 : decode cX8_hasCell 24 = .ok (.iconst 1, 1) := by decide +kernel
theorem dX8_hasCell_25 : decode cX8_hasCell 25 = .ok (.goto 4, 3) := by decide +kernel
theorem dX8_hasCell_28 : decode cX8_hasCell 28 = .ok (.iconst 0, 1) := by decide +kernel
theorem dX8_hasCell_29 : decode cX8_hasCell 29 = .ok (.ireturn, 1) := by decide +kernel
theorem dX8_builderOf_0 : decode cX8_builderOf 0 = .ok (.aload_n 0, 1) := by decide +kernel
theorem dX8_builderOf_1 : decode cX8_builderOf 1 = .ok (.getfield 18, 3) := by decide +kernel
theorem dX8_builderOf_4 : decode cX8_builderOf 4 = .ok (.iload_n 1, 1) := by decide +kernel
theorem dX8_builderOf_5 : decode cX8_builderOf 5 = .ok (.bipush 20, 2) := by decide +kernel
theorem dX8_builderOf_7 : decode cX8_builderOf 7 = .ok (.imul, 1) := by decide +kernel
theorem dX8_builderOf_8 : decode cX8_builderOf 8 = .ok (.iload_n 2, 1) := by decide +kernel
theorem dX8_builderOf_9 : decode cX8_builderOf 9 = .ok (.iadd, 1) := by decide +kernel
theorem dX8_builderOf_10 : decode cX8_builderOf 10 = .ok (.iaload, 1) := by decide +kernel
theorem dX8_builderOf_11 : decode cX8_builderOf 11 = .ok (.ireturn, 1) := by decide +kernel
theorem dX8_usersOf_0 : decode cX8_usersOf 0 = .ok (.aload_n 0, 1) := by decide +kernel
theorem dX8_usersOf_1 : decode cX8_usersOf 1 = .ok (.getfield 27, 3) := by decide +kernel
theorem dX8_usersOf_4 : decode cX8_usersOf 4 = .ok (.iload_n 1, 1) := by decide +kernel
theorem dX8_usersOf_5 : decode cX8_usersOf 5 = .ok (.bipush 20, 2) := by decide +kernel
theorem dX8_usersOf_7 : decode cX8_usersOf 7 = .ok (.imul, 1) := by decide +kernel
theorem dX8_usersOf_8 : decode cX8_usersOf 8 = .ok (.iload_n 2, 1) := by decide +kernel
theorem dX8_usersOf_9 : decode cX8_usersOf 9 = .ok (.iadd, 1) := by decide +kernel
theorem dX8_usersOf_10 : decode cX8_usersOf 10 = .ok (.iaload, 1) := by decide +kernel
theorem dX8_usersOf_11 : decode cX8_usersOf 11 = .ok (.ireturn, 1) := by decide +kernel
theorem dX8_valueOf_0 : decode cX8_valueOf 0 = .ok (.iload_n 1, 1) := by decide +kernel
theorem dX8_valueOf_1 : decode cX8_valueOf 1 = .ok (.bipush 20, 2) := by decide +kernel
theorem dX8_valueOf_3 : decode cX8_valueOf 3 = .ok (.imul, 1) := by decide +kernel
theorem dX8_valueOf_4 : decode cX8_valueOf 4 = .ok (.iload_n 2, 1) := by decide +kernel
theorem dX8_valueOf_5 : decode cX8_valueOf 5 = .ok (.iadd, 1) := by decide +kernel
theorem dX8_valueOf_6 : decode cX8_valueOf 6 = .ok (.istore 5, 2) := by decide +kernel
theorem dX8_valueOf_8 : decode cX8_valueOf 8 = .ok (.iload_n 3, 1) := by decide +kernel
theorem dX8_valueOf_9 : decode cX8_valueOf 9 = .ok (.aload_n 0, 1) := by decide +kernel
theorem dX8_valueOf_10 : decode cX8_valueOf 10 = .ok (.getfield 21, 3) := by decide +kernel
theorem dX8_valueOf_13 : decode cX8_valueOf 13 = .ok (.iload 5, 2) := by decide +kernel
theorem dX8_valueOf_15 : decode cX8_valueOf 15 = .ok (.iaload, 1) := by decide +kernel
theorem dX8_valueOf_16 : decode cX8_valueOf 16 = .ok (.isub, 1) := by decide +kernel
theorem dX8_valueOf_17 : decode cX8_valueOf 17 = .ok (.sipush 365, 3) := by decide +kernel
theorem dX8_valueOf_20 : decode cX8_valueOf 20 = .ok (.idiv, 1) := by decide +kernel
theorem dX8_valueOf_21 : decode cX8_valueOf 21 = .ok (.istore 6, 2) := by decide +kernel
theorem dX8_valueOf_23 : decode cX8_valueOf 23 = .ok (.aload_n 0, 1) := by decide +kernel
theorem dX8_valueOf_24 : decode cX8_valueOf 24 = .ok (.getfield 24, 3) := by decide +kernel
theorem dX8_valueOf_27 : decode cX8_valueOf 27 = .ok (.iload 5, 2) := by decide +kernel
theorem dX8_valueOf_29 : decode cX8_valueOf 29 = .ok (.iaload, 1) := by decide +kernel
theorem dX8_valueOf_30 : decode cX8_valueOf 30 = .ok (.iconst 0, 1) := by decide +kernel
theorem dX8_valueOf_31 : decode cX8_valueOf 31 = .ok (.bipush 100, 2) := by decide +kernel
theorem dX8_valueOf_33 : decode cX8_valueOf 33 = .ok (.iload 4, 2) := by decide +kernel
theorem dX8_valueOf_35 : decode cX8_valueOf 35 = .ok (.iload 6, 2) := by decide +kernel
theorem dX8_valueOf_37 : decode cX8_valueOf 37 = .ok (.imul, 1) := by decide +kernel
theorem dX8_valueOf_38 : decode cX8_valueOf 38 = .ok (.isub, 1) := by decide +kernel
theorem dX8_valueOf_39 : decode cX8_valueOf 39 = .ok (.invokestatic 30, 3) := by decide +kernel
theorem dX8_valueOf_42 : decode cX8_valueOf 42 = .ok (.imul, 1) := by decide +kernel
theorem dX8_valueOf_43 : decode cX8_valueOf 43 = .ok (.bipush 100, 2) := by decide +kernel
theorem dX8_valueOf_45 : decode cX8_valueOf 45 = .ok (.idiv, 1) := by decide +kernel
theorem dX8_valueOf_46 : decode cX8_valueOf 46 = .ok (.ireturn, 1) := by decide +kernel
theorem dX8_highest_0 : decode cX8_highest 0 = .ok (.iconst 0, 1) := by decide +kernel
theorem dX8_highest_1 : decode cX8_highest 1 = .ok (.istore_n 3, 1) := by decide +kernel
theorem dX8_highest_2 : decode cX8_highest 2 = .ok (.iload_n 1, 1) := by decide +kernel
theorem dX8_highest_3 : decode cX8_highest 3 = .ok (.istore 4, 2) := by decide +kernel
theorem dX8_highest_5 : decode cX8_highest 5 = .ok (.iload 4, 2) := by decide +kernel
theorem dX8_highest_7 : decode cX8_highest 7 = .ok (.iload_n 2, 1) := by decide +kernel
theorem dX8_highest_8 : decode cX8_highest 8 = .ok (.if_icmp .gt 21, 3) := by decide +kernel
theorem dX8_highest_11 : decode cX8_highest 11 = .ok (.iload_n 3, 1) := by decide +kernel
theorem dX8_highest_12 : decode cX8_highest 12 = .ok (.aload_n 0, 1) := by decide +kernel
theorem dX8_highest_13 : decode cX8_highest 13 = .ok (.getfield 15, 3) := by decide +kernel
theorem dX8_highest_16 : decode cX8_highest 16 = .ok (.iload 4, 2) := by decide +kernel
theorem dX8_highest_18 : decode cX8_highest 18 = .ok (.iaload, 1) := by decide +kernel
theorem dX8_highest_19 : decode cX8_highest 19 = .ok (.invokestatic 30, 3) := by decide +kernel
theorem dX8_highest_22 : decode cX8_highest 22 = .ok (.istore_n 3, 1) := by decide +kernel
theorem dX8_highest_23 : decode cX8_highest 23 = .ok (.iinc 4 1, 3) := by decide +kernel
theorem dX8_highest_26 : decode cX8_highest 26 = .ok (.goto (-21), 3) := by decide +kernel
theorem dX8_highest_29 : decode cX8_highest 29 = .ok (.iload_n 3, 1) := by decide +kernel
theorem dX8_highest_30 : decode cX8_highest 30 = .ok (.ireturn, 1) := by decide +kernel
theorem dX8_cellsInAll_0 : decode cX8_cellsInAll 0 = .ok (.iconst 0, 1) := by decide +kernel
theorem dX8_cellsInAll_1 : decode cX8_cellsInAll 1 = .ok (.istore_n 1, 1) := by decide +kernel
theorem dX8_cellsInAll_2 : decode cX8_cellsInAll 2 = .ok (.iconst 0, 1) := by decide +kernel
theorem dX8_cellsInAll_3 : decode cX8_cellsInAll 3 = .ok (.istore_n 2, 1) := by decide +kernel
theorem dX8_cellsInAll_4 : decode cX8_cellsInAll 4 = .ok (.iload_n 2, 1) := by decide +kernel
theorem dX8_cellsInAll_5 : decode cX8_cellsInAll 5 = .ok (.bipush 12, 2) := by decide +kernel
theorem dX8_cellsInAll_7 : decode cX8_cellsInAll 7 = .ok (.if_icmp .ge 18, 3) := by decide +kernel
theorem dX8_cellsInAll_10 : decode cX8_cellsInAll 10 = .ok (.iload_n 1, 1) := by decide +kernel
theorem dX8_cellsInAll_11 : decode cX8_cellsInAll 11 = .ok (.aload_n 0, 1) := by decide +kernel
theorem dX8_cellsInAll_12 : decode cX8_cellsInAll 12 = .ok (.getfield 15, 3) := by decide +kernel
theorem dX8_cellsInAll_15 : decode cX8_cellsInAll 15 = .ok (.iload_n 2, 1) := by decide +kernel
theorem dX8_cellsInAll_16 : decode cX8_cellsInAll 16 = .ok (.iaload, 1) := by decide +kernel
theorem dX8_cellsInAll_17 : decode cX8_cellsInAll 17 = .ok (.iadd, 1) := by decide +kernel
theorem dX8_cellsInAll_18 : decode cX8_cellsInAll 18 = .ok (.istore_n 1, 1) := by decide +kernel
theorem dX8_cellsInAll_19 : decode cX8_cellsInAll 19 = .ok (.iinc 2 1, 3) := by decide +kernel
theorem dX8_cellsInAll_22 : decode cX8_cellsInAll 22 = .ok (.goto (-18), 3) := by decide +kernel
theorem dX8_cellsInAll_25 : decode cX8_cellsInAll 25 = .ok (.iload_n 1, 1) := by decide +kernel
theorem dX8_cellsInAll_26 : decode cX8_cellsInAll 26 = .ok (.ireturn, 1) := by decide +kernel
theorem dX8_addCell_0 : decode cX8_addCell 0 = .ok (.aload_n 0, 1) := by decide +kernel
theorem dX8_addCell_1 : decode cX8_addCell 1 = .ok (.getfield 15, 3) := by decide +kernel
theorem dX8_addCell_4 : decode cX8_addCell 4 = .ok (.iload_n 1, 1) := by decide +kernel
theorem dX8_addCell_5 : decode cX8_addCell 5 = .ok (.iaload, 1) := by decide +kernel
theorem dX8_addCell_6 : decode cX8_addCell 6 = .ok (.bipush 20, 2) := by decide +kernel
theorem dX8_addCell_8 : decode cX8_addCell 8 = .ok (.if_icmp .lt 4, 3) := by decide +kernel
theorem dX8_addCell_11 : decode cX8_addCell 11 = .ok (.return_, 1) := by decide +kernel
theorem dX8_addCell_12 : decode cX8_addCell 12 = .ok (.iload_n 1, 1) := by decide +kernel
theorem dX8_addCell_13 : decode cX8_addCell 13 = .ok (.bipush 20, 2) := by decide +kernel
theorem dX8_addCell_15 : decode cX8_addCell 15 = .ok (.imul, 1) := by decide +kernel
theorem dX8_addCell_16 : decode cX8_addCell 16 = .ok (.aload_n 0, 1) := by decide +kernel
theorem dX8_addCell_17 : decode cX8_addCell 17 = .ok (.getfield 15, 3) := by decide +kernel
theorem dX8_addCell_20 : decode cX8_addCell 20 = .ok (.iload_n 1, 1) := by decide +kernel
theorem dX8_addCell_21 : decode cX8_addCell 21 = .ok (.iaload, 1) := by decide +kernel
theorem dX8_addCell_22 : decode cX8_addCell 22 = .ok (.iadd, 1) := by decide +kernel
theorem dX8_addCell_23 : decode cX8_addCell 23 = .ok (.istore 5, 2) := by decide +kernel
theorem dX8_addCell_25 : decode cX8_addCell 25 = .ok (.aload_n 0, 1) := by decide +kernel
theorem dX8_addCell_26 : decode cX8_addCell 26 = .ok (.getfield 18, 3) := by decide +kernel
theorem dX8_addCell_29 : decode cX8_addCell 29 = .ok (.iload 5, 2) := by decide +kernel
theorem dX8_addCell_31 : decode cX8_addCell 31 = .ok (.iload_n 2, 1) := by decide +kernel
theorem dX8_addCell_32 : decode cX8_addCell 32 = .ok (.iastore, 1) := by decide +kernel
theorem dX8_addCell_33 : decode cX8_addCell 33 = .ok (.aload_n 0, 1) := by decide +kernel
theorem dX8_addCell_34 : decode cX8_addCell 34 = .ok (.getfield 21, 3) := by decide +kernel
theorem dX8_addCell_37 : decode cX8_addCell 37 = .ok (.iload 5, 2) := by decide +kernel
theorem dX8_addCell_39 : decode cX8_addCell 39 = .ok (.iload_n 3, 1) := by decide +kernel
theorem dX8_addCell_40 : decode cX8_addCell 40 = .ok (.iastore, 1) := by decide +kernel
theorem dX8_addCell_41 : decode cX8_addCell 41 = .ok (.aload_n 0, 1) := by decide +kernel
theorem dX8_addCell_42 : decode cX8_addCell 42 = .ok (.getfield 24, 3) := by decide +kernel
theorem dX8_addCell_45 : decode cX8_addCell 45 = .ok (.iload 5, 2) := by decide +kernel
theorem dX8_addCell_47 : decode cX8_addCell 47 = .ok (.iload 4, 2) := by decide +kernel
theorem dX8_addCell_49 : decode cX8_addCell 49 = .ok (.iastore, 1) := by decide +kernel
theorem dX8_addCell_50 : decode cX8_addCell 50 = .ok (.aload_n 0, 1) := by decide +kernel
theorem dX8_addCell_51 : decode cX8_addCell 51 = .ok (.getfield 27, 3) := by decide +kernel
theorem dX8_addCell_54 : decode cX8_addCell 54 = .ok (.iload 5, 2) := by decide +kernel
theorem dX8_addCell_56 : decode cX8_addCell 56 = .ok (.iconst 1, 1) := by decide +kernel
theorem dX8_addCell_57 : decode cX8_addCell 57 = .ok (.iload_n 2, 1) := by decide +kernel
theorem dX8_addCell_58 : decode cX8_addCell 58 = .ok (.ishl, 1) := by decide +kernel
theorem dX8_addCell_59 : decode cX8_addCell 59 = .ok (.iastore, 1) := by decide +kernel
theorem dX8_addCell_60 : decode cX8_addCell 60 = .ok (.aload_n 0, 1) := by decide +kernel
theorem dX8_addCell_61 : decode cX8_addCell 61 = .ok (.getfield 15, 3) := by decide +kernel
theorem dX8_addCell_64 : decode cX8_addCell 64 = .ok (.iload_n 1, 1) := by decide +kernel
theorem dX8_addCell_65 : decode cX8_addCell 65 = .ok (.dup2, 1) := by decide +kernel
theorem dX8_addCell_66 : decode cX8_addCell 66 = .ok (.iaload, 1) := by decide +kernel
theorem dX8_addCell_67 : decode cX8_addCell 67 = .ok (.iconst 1, 1) := by decide +kernel
theorem dX8_addCell_68 : decode cX8_addCell 68 = .ok (.iadd, 1) := by decide +kernel
theorem dX8_addCell_69 : decode cX8_addCell 69 = .ok (.iastore, 1) := by decide +kernel
theorem dX8_addCell_70 : decode cX8_addCell 70 = .ok (.return_, 1) := by decide +kernel
theorem dX8_takeHighestOff_0 : decode cX8_takeHighestOff 0 = .ok (.iconst 0, 1) := by decide +kernel
theorem dX8_takeHighestOff_1 : decode cX8_takeHighestOff 1 = .ok (.istore_n 3, 1) := by decide +kernel
theorem dX8_takeHighestOff_2 : decode cX8_takeHighestOff 2 = .ok (.iload_n 1, 1) := by decide +kernel
theorem dX8_takeHighestOff_3 : decode cX8_takeHighestOff 3 = .ok (.istore 4, 2) := by decide +kernel
theorem dX8_takeHighestOff_5 : decode cX8_takeHighestOff 5 = .ok (.iload 4, 2) := by decide +kernel
theorem dX8_takeHighestOff_7 : decode cX8_takeHighestOff 7 = .ok (.iload_n 2, 1) := by decide +kernel
theorem dX8_takeHighestOff_8 : decode cX8_takeHighestOff 8 = .ok (.if_icmp .gt 33, 3) := by decide +kernel
theorem dX8_takeHighestOff_11 : decode cX8_takeHighestOff 11 = .ok (.aload_n 0, 1) := by decide +kernel
theorem dX8_takeHighestOff_12 : decode cX8_takeHighestOff 12 = .ok (.getfield 15, 3) := by decide +kernel
theorem dX8_takeHighestOff_15 : decode cX8_takeHighestOff 15 = .ok (.iload 4, 2) := by decide +kernel
theorem dX8_takeHighestOff_17 : decode cX8_takeHighestOff 17 = .ok (.iaload, 1) := by decide +kernel
theorem dX8_takeHighestOff_18 : decode cX8_takeHighestOff 18 = .ok (.ifCond .le 17, 3) := by decide +kernel
theorem dX8_takeHighestOff_21 : decode cX8_takeHighestOff 21 = .ok (.aload_n 0, 1) := by decide +kernel
theorem dX8_takeHighestOff_22 : decode cX8_takeHighestOff 22 = .ok (.getfield 15, 3) := by decide +kernel
theorem dX8_takeHighestOff_25 : decode cX8_takeHighestOff 25 = .ok (.iload 4, 2) := by decide +kernel
theorem dX8_takeHighestOff_27 : decode cX8_takeHighestOff 27 = .ok (.dup2, 1) := by decide +kernel
theorem dX8_takeHighestOff_28 : decode cX8_takeHighestOff 28 = .ok (.iaload, 1) := by decide +kernel
theorem dX8_takeHighestOff_29 : decode cX8_takeHighestOff 29 = .ok (.iconst 1, 1) := by decide +kernel
theorem dX8_takeHighestOff_30 : decode cX8_takeHighestOff 30 = .ok (.isub, 1) := by decide +kernel
theorem dX8_takeHighestOff_31 : decode cX8_takeHighestOff 31 = .ok (.iastore, 1) := by decide +kernel
theorem dX8_takeHighestOff_32 : decode cX8_takeHighestOff 32 = .ok (.iinc 3 1, 3) := by decide +kernel
theorem dX8_takeHighestOff_35 : decode cX8_takeHighestOff 35 = .ok (.iinc 4 1, 3) := by decide +kernel
theorem dX8_takeHighestOff_38 : decode cX8_takeHighestOff 38 = .ok (.goto (-33), 3) := by decide +kernel
theorem dX8_takeHighestOff_41 : decode cX8_takeHighestOff 41 = .ok (.iload_n 3, 1) := by decide +kernel
theorem dX8_takeHighestOff_42 : decode cX8_takeHighestOff 42 = .ok (.ireturn, 1) := by decide +kernel
theorem dX8_dueForUse_0 : decode cX8_dueForUse 0 = .ok (.iconst 0, 1) := by decide +kernel
theorem dX8_dueForUse_1 : decode cX8_dueForUse 1 = .ok (.istore 6, 2) := by decide +kernel
theorem dX8_dueForUse_3 : decode cX8_dueForUse 3 = .ok (.iconst 0, 1) := by decide +kernel
theorem dX8_dueForUse_4 : decode cX8_dueForUse 4 = .ok (.istore 7, 2) := by decide +kernel
theorem dX8_dueForUse_6 : decode cX8_dueForUse 6 = .ok (.iload 7, 2) := by decide +kernel
theorem dX8_dueForUse_8 : decode cX8_dueForUse 8 = .ok (.iload_n 3, 1) := by decide +kernel
theorem dX8_dueForUse_9 : decode cX8_dueForUse 9 = .ok (.aload_n 0, 1) := by decide +kernel
theorem dX8_dueForUse_10 : decode cX8_dueForUse 10 = .ok (.getfield 15, 3) := by decide +kernel
theorem dX8_dueForUse_13 : decode cX8_dueForUse 13 = .ok (.iload_n 1, 1) := by decide +kernel
theorem dX8_dueForUse_14 : decode cX8_dueForUse 14 = .ok (.iaload, 1) := by decide +kernel
theorem dX8_dueForUse_15 : decode cX8_dueForUse 15 = .ok (.invokestatic 36, 3) := by decide +kernel
theorem dX8_dueForUse_18 : decode cX8_dueForUse 18 = .ok (.if_icmp .ge 41, 3) := by decide +kernel
theorem dX8_dueForUse_21 : decode cX8_dueForUse 21 = .ok (.aload_n 0, 1) := by decide +kernel
theorem dX8_dueForUse_22 : decode cX8_dueForUse 22 = .ok (.iload_n 1, 1) := by decide +kernel
theorem dX8_dueForUse_23 : decode cX8_dueForUse 23 = .ok (.iload 7, 2) := by decide +kernel
theorem dX8_dueForUse_25 : decode cX8_dueForUse 25 = .ok (.invokevirtual 39, 3) := by decide +kernel
theorem dX8_dueForUse_28 : decode cX8_dueForUse 28 = .ok (.iload_n 2, 1) := by decide +kernel
theorem dX8_dueForUse_29 : decode cX8_dueForUse 29 = .ok (.ishr, 1) := by decide +kernel
theorem dX8_dueForUse_30 : decode cX8_dueForUse 30 = .ok (.iconst 1, 1) := by decide +kernel
theorem dX8_dueForUse_31 : decode cX8_dueForUse 31 = .ok (.iand, 1) := by decide +kernel
theorem dX8_dueForUse_32 : decode cX8_dueForUse 32 = .ok (.ifCond .ne 21, 3) := by decide +kernel
theorem dX8_dueForUse_35 : decode cX8_dueForUse 35 = .ok (.iload 6, 2) := by decide +kernel
theorem dX8_dueForUse_37 : decode cX8_dueForUse 37 = .ok (.aload_n 0, 1) := by decide +kernel
theorem dX8_dueForUse_38 : decode cX8_dueForUse 38 = .ok (.iload_n 1, 1) := by decide +kernel
theorem dX8_dueForUse_39 : decode cX8_dueForUse 39 = .ok (.iload 7, 2) := by decide +kernel
theorem dX8_dueForUse_41 : decode cX8_dueForUse 41 = .ok (.iload 4, 2) := by decide +kernel
theorem dX8_dueForUse_43 : decode cX8_dueForUse 43 = .ok (.iload 5, 2) := by decide +kernel
theorem dX8_dueForUse_45 : decode cX8_dueForUse 45 = .ok (.invokevirtual 42, 3) := by decide +kernel
theorem dX8_dueForUse_48 : decode cX8_dueForUse 48 = .ok (.iconst 2, 1) := by decide +kernel
theorem dX8_dueForUse_49 : decode cX8_dueForUse 49 = .ok (.idiv, 1) := by decide +kernel
theorem dX8_dueForUse_50 : decode cX8_dueForUse 50 = .ok (.iadd, 1) := by decide +kernel
theorem dX8_dueForUse_51 : decode cX8_dueForUse 51 = .ok (.istore 6, 2) := by decide +kernel
theorem dX8_dueForUse_53 : decode cX8_dueForUse 53 = .ok (.iinc 7 1, 3) := by decide +kernel
theorem dX8_dueForUse_56 : decode cX8_dueForUse 56 = .ok (.goto (-50), 3) := by decide +kernel
theorem dX8_dueForUse_59 : decode cX8_dueForUse 59 = .ok (.iload 6, 2) := by decide +kernel
theorem dX8_dueForUse_61 : decode cX8_dueForUse 61 = .ok (.ireturn, 1) := by decide +kernel
theorem dX8_markUsed_0 : decode cX8_markUsed 0 = .ok (.iconst 0, 1) := by decide +kernel
theorem dX8_markUsed_1 : decode cX8_markUsed 1 = .ok (.istore 4, 2) := by decide +kernel
theorem dX8_markUsed_3 : decode cX8_markUsed 3 = .ok (.iload 4, 2) := by decide +kernel
theorem dX8_markUsed_5 : decode cX8_markUsed 5 = .ok (.iload_n 3, 1) := by decide +kernel
theorem dX8_markUsed_6 : decode cX8_markUsed 6 = .ok (.aload_n 0, 1) := by decide +kernel
theorem dX8_markUsed_7 : decode cX8_markUsed 7 = .ok (.getfield 15, 3) := by decide +kernel
theorem dX8_markUsed_10 : decode cX8_markUsed 10 = .ok (.iload_n 1, 1) := by decide +kernel
theorem dX8_markUsed_11 : decode cX8_markUsed 11 = .ok (.iaload, 1) := by decide +kernel
theorem dX8_markUsed_12 : decode cX8_markUsed 12 = .ok (.invokestatic 36, 3) := by decide +kernel
theorem dX8_markUsed_15 : decode cX8_markUsed 15 = .ok (.if_icmp .ge 27, 3) := by decide +kernel
theorem dX8_markUsed_18 : decode cX8_markUsed 18 = .ok (.aload_n 0, 1) := by decide +kernel
theorem dX8_markUsed_19 : decode cX8_markUsed 19 = .ok (.getfield 27, 3) := by decide +kernel
theorem dX8_markUsed_22 : decode cX8_markUsed 22 = .ok (.iload_n 1, 1) := by decide +kernel
theorem dX8_markUsed_23 : decode cX8_markUsed 23 = .ok (.bipush 20, 2) := by decide +kernel
theorem dX8_markUsed_25 : decode cX8_markUsed 25 = .ok (.imul, 1) := by decide +kernel
theorem dX8_markUsed_26 : decode cX8_markUsed 26 = .ok (.iload 4, 2) := by decide +kernel
theorem dX8_markUsed_28 : decode cX8_markUsed 28 = .ok (.iadd, 1) := by decide +kernel
theorem dX8_markUsed_29 : decode cX8_markUsed 29 = .ok (.dup2, 1) := by decide +kernel
theorem dX8_markUsed_30 : decode cX8_markUsed 30 = .ok (.iaload, 1) := by decide +kernel
theorem dX8_markUsed_31 : decode cX8_markUsed 31 = .ok (.iconst 1, 1) := by decide +kernel
theorem dX8_markUsed_32 : decode cX8_markUsed 32 = .ok (.iload_n 2, 1) := by decide +kernel
theorem dX8_markUsed_33 : decode cX8_markUsed 33 = .ok (.ishl, 1) := by decide +kernel
theorem dX8_markUsed_34 : decode cX8_markUsed 34 = .ok (.ior, 1) := by decide +kernel
theorem dX8_markUsed_35 : decode cX8_markUsed 35 = .ok (.iastore, 1) := by decide +kernel
theorem dX8_markUsed_36 : decode cX8_markUsed 36 = .ok (.iinc 4 1, 3) := by decide +kernel
theorem dX8_markUsed_39 : decode cX8_markUsed 39 = .ok (.goto (-36), 3) := by decide +kernel
theorem dX8_markUsed_42 : decode cX8_markUsed 42 = .ok (.return_, 1) := by decide +kernel
theorem dX9_of_0 : decode cX9_of 0 = .ok (.iload_n 1, 1) := by decide +kernel
theorem dX9_of_1 : decode cX9_of 1 = .ok (.ifCond .lt 9, 3) := by decide +kernel
theorem dX9_of_4 : decode cX9_of 4 = .ok (.iload_n 2, 1) := by decide +kernel
theorem dX9_of_5 : decode cX9_of 5 = .ok (.aload_n 0, 1) := by decide +kernel
theorem dX9_of_6 : decode cX9_of 6 = .ok (.arraylength, 1) := by decide +kernel
theorem dX9_of_7 : decode cX9_of 7 = .ok (.if_icmp .le 7, 3) := by decide +kernel
theorem dX9_of_10 : decode cX9_of 10 = .ok (.getstatic 3, 3) := by decide +kernel
theorem dX9_of_13 : decode cX9_of 13 = .ok (.areturn, 1) := by decide +kernel
theorem dX9_of_14 : decode cX9_of 14 = .ok (.iconst 0, 1) := by decide +kernel
theorem dX9_of_15 : decode cX9_of 15 = .ok (.istore_n 3, 1) := by decide +kernel
theorem dX9_of_16 : decode cX9_of 16 = .ok (.iload_n 3, 1) := by decide +kernel
theorem dX9_of_17 : decode cX9_of 17 = .ok (.getstatic 103, 3) := by decide +kernel
theorem dX9_of_20 : decode cX9_of 20 = .ok (.arraylength, 1) := by decide +kernel
theorem dX9_of_21 : decode cX9_of 21 = .ok (.if_icmp .ge 86, 3) := by decide +kernel
theorem dX9_of_24 : decode cX9_of 24 = .ok (.getstatic 103, 3) := by decide +kernel
theorem dX9_of_27 : decode cX9_of 27 = .ok (.iload_n 3, 1) := by decide +kernel
theorem dX9_of_28 : decode cX9_of 28 = .ok (.aaload, 1) := by decide +kernel
theorem dX9_of_29 : decode cX9_of 29 = .ok (.getfield 95, 3) := by decide +kernel
theorem dX9_of_32 : decode cX9_of 32 = .ok (.astore 4, 2) := by decide +kernel
theorem dX9_of_34 : decode cX9_of 34 = .ok (.iconst 0, 1) := by decide +kernel
theorem dX9_of_35 : decode cX9_of 35 = .ok (.istore 5, 2) := by decide +kernel
theorem dX9_of_37 : decode cX9_of 37 = .ok (.iload 5, 2) := by decide +kernel
theorem dX9_of_39 : decode cX9_of 39 = .ok (.aload 4, 2) := by decide +kernel
theorem dX9_of_41 : decode cX9_of 41 = .ok (.invokevirtual 106, 3) := by decide +kernel
theorem dX9_of_44 : decode cX9_of 44 = .ok (.if_icmp .ge 33, 3) := by decide +kernel
theorem dX9_of_47 : decode cX9_of 47 = .ok (.iload_n 1, 1) := by decide +kernel
theorem dX9_of_48 : decode cX9_of 48 = .ok (.iload 5, 2) := by decide +kernel
theorem dX9_of_50 : decode cX9_of 50 = .ok (.iadd, 1) := by decide +kernel
theorem dX9_of_51 : decode cX9_of 51 = .ok (.iload_n 2, 1) := by decide +kernel
theorem dX9_of_52 : decode cX9_of 52 = .ok (.if_icmp .ge 25, 3) := by decide +kernel
theorem dX9_of_55 : decode cX9_of 55 = .ok (.aload_n 0, 1) := by decide +kernel
theorem dX9_of_56 : decode cX9_of 56 = .ok (.iload_n 1, 1) := by decide +kernel
theorem dX9_of_57 : decode cX9_of 57 = .ok (.iload 5, 2) := by decide +kernel
theorem dX9_of_59 : decode cX9_of 59 = .ok (.iadd, 1) := by decide +kernel
theorem dX9_of_60 : decode cX9_of 60 = .ok (.baload, 1) := by decide +kernel
theorem dX9_of_61 : decode cX9_of 61 = .ok (.aload 4, 2) := by decide +kernel
theorem dX9_of_63 : decode cX9_of 63 = .ok (.iload 5, 2) := by decide +kernel
theorem dX9_of_65 : decode cX9_of 65 = .ok (.invokevirtual 112, 3) := by decide +kernel
theorem dX9_of_68 : decode cX9_of 68 = .ok (.if_icmp .ne 9, 3) := by decide +kernel
theorem dX9_of_71 : decode cX9_of 71 = .ok (.iinc 5 1, 3) := by decide +kernel
theorem dX9_of_74 : decode cX9_of 74 = .ok (.goto (-37), 3) := by decide +kernel
theorem dX9_of_77 : decode cX9_of 77 = .ok (.iload 5, 2) := by decide +kernel
theorem dX9_of_79 : decode cX9_of 79 = .ok (.aload 4, 2) := by decide +kernel
theorem dX9_of_81 : decode cX9_of 81 = .ok (.invokevirtual 106, 3) := by decide +kernel
theorem dX9_of_84 : decode cX9_of 84 = .ok (.if_icmp .ne 17, 3) := by decide +kernel
theorem dX9_of_87 : decode cX9_of 87 = .ok (.iload_n 1, 1) := by decide +kernel
theorem dX9_of_88 : decode cX9_of 88 = .ok (.iload 5, 2) := by decide +kernel
theorem dX9_of_90 : decode cX9_of 90 = .ok (.iadd, 1) := by decide +kernel
theorem dX9_of_91 : decode cX9_of 91 = .ok (.iload_n 2, 1) := by decide +kernel
theorem dX9_of_92 : decode cX9_of 92 = .ok (.if_icmp .ne 9, 3) := by decide +kernel
theorem dX9_of_95 : decode cX9_of 95 = .ok (.getstatic 103, 3) := by decide +kernel
theorem dX9_of_98 : decode cX9_of 98 = .ok (.iload_n 3, 1) := by decide +kernel
theorem dX9_of_99 : decode cX9_of 99 = .ok (.aaload, 1) := by decide +kernel
theorem dX9_of_100 : decode cX9_of 100 = .ok (.areturn, 1) := by decide +kernel
theorem dX9_of_101 : decode cX9_of 101 = .ok (.iinc 3 1, 3) := by decide +kernel
theorem dX9_of_104 : decode cX9_of 104 = .ok (.goto (-88), 3) := by decide +kernel
theorem dX9_of_107 : decode cX9_of 107 = .ok (.getstatic 3, 3) := by decide +kernel
theorem dX9_of_110 : decode cX9_of 110 = .ok (.areturn, 1) := by decide +kernel
theorem dX10_init_0 : decode cX10_init 0 = .ok (.aload_n 0, 1) := by decide +kernel
theorem dX10_init_1 : decode cX10_init 1 = .ok (.invokespecial 3, 3) := by decide +kernel
theorem dX10_init_4 : decode cX10_init 4 = .ok (.aload_n 0, 1) := by decide +kernel
theorem dX10_init_5 : decode cX10_init 5 = .ok (.iconst (-1), 1) := by decide +kernel
theorem dX10_init_6 : decode cX10_init 6 = .ok (.putfield 9, 3) := by decide +kernel
theorem dX10_init_9 : decode cX10_init 9 = .ok (.aload_n 0, 1) := by decide +kernel
theorem dX10_init_10 : decode cX10_init 10 = .ok (.iconst (-1), 1) := by decide +kernel
theorem dX10_init_11 : decode cX10_init 11 = .ok (.putfield 15, 3) := by decide +kernel
theorem dX10_init_14 : decode cX10_init 14 = .ok (.aload_n 0, 1) := by decide +kernel
theorem dX10_init_15 : decode cX10_init 15 = .ok (.iconst (-1), 1) := by decide +kernel
theorem dX10_init_16 : decode cX10_init 16 = .ok (.putfield 18, 3) := by decide +kernel
theorem dX10_init_19 : decode cX10_init 19 = .ok (.aload_n 0, 1) := by decide +kernel
theorem dX10_init_20 : decode cX10_init 20 = .ok (.iconst (-1), 1) := by decide +kernel
theorem dX10_init_21 : decode cX10_init 21 = .ok (.putfield 21, 3) := by decide +kernel
theorem dX10_init_24 : decode cX10_init 24 = .ok (.aload_n 0, 1) := by decide +kernel
theorem dX10_init_25 : decode cX10_init 25 = .ok (.iconst (-1), 1) := by decide +kernel
theorem dX10_init_26 : decode cX10_init 26 = .ok (.putfield 24, 3) := by decide +kernel
theorem dX10_init_29 : decode cX10_init 29 = .ok (.aload_n 0, 1) := by decide +kernel
theorem dX10_init_30 : decode cX10_init 30 = .ok (.iconst (-1), 1) := by decide +kernel
theorem dX10_init_31 : decode cX10_init 31 = .ok (.putfield 27, 3) := by decide +kernel
theorem dX10_init_34 : decode cX10_init 34 = .ok (.aload_n 0, 1) := by decide +kernel
theorem dX10_init_35 : decode cX10_init 35 = .ok (.iconst 3, 1) := by decide +kernel
theorem dX10_init_36 : decode cX10_init 36 = .ok (.anewarray 30, 3) := by decide +kernel
theorem dX10_init_39 : decode cX10_init 39 = .ok (.putfield 32, 3) := by decide +kernel
theorem dX10_init_42 : decode cX10_init 42 = .ok (.aload_n 0, 1) := by decide +kernel
theorem dX10_init_43 : decode cX10_init 43 = .ok (.iconst 3, 1) := by decide +kernel
theorem dX10_init_44 : decode cX10_init 44 = .ok (.newarray .int, 2) := by decide +kernel
theorem dX10_init_46 : decode cX10_init 46 = .ok (.dup, 1) := by decide +kernel
theorem dX10_init_47 : decode cX10_init 47 = .ok (.iconst 0, 1) := by decide +kernel
theorem dX10_init_48 : decode cX10_init 48 = .ok (.iconst (-1), 1) := by decide +kernel
theorem dX10_init_49 : decode cX10_init 49 = .ok (.iastore, 1) := by decide +kernel
theorem dX10_init_50 : decode cX10_init 50 = .ok (.dup, 1) := by decide +kernel
theorem dX10_init_51 : decode cX10_init 51 = .ok (.iconst 1, 1) := by decide +kernel
theorem dX10_init_52 : decode cX10_init 52 = .ok (.iconst (-1), 1) := by decide +kernel
theorem dX10_init_53 : decode cX10_init 53 = .ok (.iastore, 1) := by decide +kernel
theorem dX10_init_54 : decode cX10_init 54 = .ok (.dup, 1) := by decide +kernel
theorem dX10_init_55 : decode cX10_init 55 = .ok (.iconst 2, 1) := by decide +kernel
theorem dX10_init_56 : decode cX10_init 56 = .ok (.iconst (-1), 1) := by decide +kernel
theorem dX10_init_57 : decode cX10_init 57 = .ok (.iastore, 1) := by decide +kernel
theorem dX10_init_58 : decode cX10_init 58 = .ok (.putfield 36, 3) := by decide +kernel
theorem dX10_init_61 : decode cX10_init 61 = .ok (.aload_n 0, 1) := by decide +kernel
theorem dX10_init_62 : decode cX10_init 62 = .ok (.iconst (-1), 1) := by decide +kernel
theorem dX10_init_63 : decode cX10_init 63 = .ok (.putfield 40, 3) := by decide +kernel
theorem dX10_init_66 : decode cX10_init 66 = .ok (.aload_n 0, 1) := by decide +kernel
theorem dX10_init_67 : decode cX10_init 67 = .ok (.aload_n 1, 1) := by decide +kernel
theorem dX10_init_68 : decode cX10_init 68 = .ok (.putfield 43, 3) := by decide +kernel
theorem dX10_init_71 : decode cX10_init 71 = .ok (.aload_n 0, 1) := by decide +kernel
theorem dX10_init_72 : decode cX10_init 72 = .ok (.iload_n 2, 1) := by decide +kernel
theorem dX10_init_73 : decode cX10_init 73 = .ok (.putfield 47, 3) := by decide +kernel
theorem dX10_init_76 : decode cX10_init 76 = .ok (.aload_n 0, 1) := by decide +kernel
theorem dX10_init_77 : decode cX10_init 77 = .ok (.iload_n 3, 1) := by decide +kernel
theorem dX10_init_78 : decode cX10_init 78 = .ok (.putfield 50, 3) := by decide +kernel
theorem dX10_init_81 : decode cX10_init 81 = .ok (.aload_n 0, 1) := by decide +kernel
theorem dX10_init_82 : decode cX10_init 82 = .ok (.aload 4, 2) := by decide +kernel
theorem dX10_init_84 : decode cX10_init 84 = .ok (.putfield 53, 3) := by decide +kernel
theorem dX10_init_87 : decode cX10_init 87 = .ok (.aload_n 0, 1) := by decide +kernel
theorem dX10_init_88 : decode cX10_init 88 = .ok (.iload 5, 2) := by decide +kernel
theorem dX10_init_90 : decode cX10_init 90 = .ok (.ifCond .eq 7, 3) := by decide +kernel
theorem dX10_init_93 : decode cX10_init 93 = .ok (.iconst 0, 1) := by decide +kernel
theorem dX10_init_94 : decode cX10_init 94 = .ok (.goto 4, 3) := by decide +kernel
theorem dX10_init_97 : decode cX10_init 97 = .ok (.iconst 1, 1) := by decide +kernel
theorem dX10_init_98 : decode cX10_init 98 = .ok (.putfield 57, 3) := by decide +kernel
theorem dX10_init_101 : decode cX10_init 101 = .ok (.return_, 1) := by decide +kernel
theorem dX10_ownerThere_0 : decode cX10_ownerThere 0 = .ok (.aload_n 0, 1) := by decide +kernel
theorem dX10_ownerThere_1 : decode cX10_ownerThere 1 = .ok (.getfield 43, 3) := by decide +kernel
theorem dX10_ownerThere_4 : decode cX10_ownerThere 4 = .ok (.aload_n 0, 1) := by decide +kernel
theorem dX10_ownerThere_5 : decode cX10_ownerThere 5 = .ok (.getfield 47, 3) := by decide +kernel
theorem dX10_ownerThere_8 : decode cX10_ownerThere 8 = .ok (.invokevirtual 60, 3) := by decide +kernel
theorem dX10_ownerThere_11 : decode cX10_ownerThere 11 = .ok (.ireturn, 1) := by decide +kernel
theorem dX10_neighbour_0 : decode cX10_neighbour 0 = .ok (.aload_n 0, 1) := by decide +kernel
theorem dX10_neighbour_1 : decode cX10_neighbour 1 = .ok (.getfield 43, 3) := by decide +kernel
theorem dX10_neighbour_4 : decode cX10_neighbour 4 = .ok (.iconst 1, 1) := by decide +kernel
theorem dX10_neighbour_5 : decode cX10_neighbour 5 = .ok (.aload_n 0, 1) := by decide +kernel
theorem dX10_neighbour_6 : decode cX10_neighbour 6 = .ok (.getfield 47, 3) := by decide +kernel
theorem dX10_neighbour_9 : decode cX10_neighbour 9 = .ok (.isub, 1) := by decide +kernel
theorem dX10_neighbour_10 : decode cX10_neighbour 10 = .ok (.invokevirtual 60, 3) := by decide +kernel
theorem dX10_neighbour_13 : decode cX10_neighbour 13 = .ok (.ireturn, 1) := by decide +kernel
theorem dX10_ask_0 : decode cX10_ask 0 = .ok (.aload_n 0, 1) := by decide +kernel
theorem dX10_ask_1 : decode cX10_ask 1 = .ok (.iconst 2, 1) := by decide +kernel
theorem dX10_ask_2 : decode cX10_ask 2 = .ok (.putfield 57, 3) := by decide +kernel
theorem dX10_ask_5 : decode cX10_ask 5 = .ok (.aload_n 0, 1) := by decide +kernel
theorem dX10_ask_6 : decode cX10_ask 6 = .ok (.iload_n 1, 1) := by decide +kernel
theorem dX10_ask_7 : decode cX10_ask 7 = .ok (.aload_n 0, 1) := by decide +kernel
theorem dX10_ask_8 : decode cX10_ask 8 = .ok (.getfield 53, 3) := by decide +kernel
theorem dX10_ask_11 : decode cX10_ask 11 = .ok (.getfield 66, 3) := by decide +kernel
theorem dX10_ask_14 : decode cX10_ask 14 = .ok (.iadd, 1) := by decide +kernel
theorem dX10_ask_15 : decode cX10_ask 15 = .ok (.putfield 9, 3) := by decide +kernel
theorem dX10_ask_18 : decode cX10_ask 18 = .ok (.aload_n 0, 1) := by decide +kernel
theorem dX10_ask_19 : decode cX10_ask 19 = .ok (.aload_n 0, 1) := by decide +kernel
theorem dX10_ask_20 : decode cX10_ask 20 = .ok (.getfield 53, 3) := by decide +kernel
theorem dX10_ask_23 : decode cX10_ask 23 = .ok (.aload_n 0, 1) := by decide +kernel
theorem dX10_ask_24 : decode cX10_ask 24 = .ok (.getfield 9, 3) := by decide +kernel
theorem dX10_ask_27 : decode cX10_ask 27 = .ok (.aload_n 0, 1) := by decide +kernel
theorem dX10_ask_28 : decode cX10_ask 28 = .ok (.getfield 53, 3) := by decide +kernel
theorem dX10_ask_31 : decode cX10_ask 31 = .ok (.getfield 71, 3) := by decide +kernel
theorem dX10_ask_34 : decode cX10_ask 34 = .ok (.invokevirtual 74, 3) := by decide +kernel
theorem dX10_ask_37 : decode cX10_ask 37 = .ok (.putfield 15, 3) := by decide +kernel
theorem dX10_ask_40 : decode cX10_ask 40 = .ok (.return_, 1) := by decide +kernel
theorem dX10_hearSilence_0 : decode cX10_hearSilence 0 = .ok (.aload_n 0, 1) := by decide +kernel
theorem dX10_hearSilence_1 : decode cX10_hearSilence 1 = .ok (.getfield 57, 3) := by decide +kernel
theorem dX10_hearSilence_4 : decode cX10_hearSilence 4 = .ok (.iconst 2, 1) := by decide +kernel
theorem dX10_hearSilence_5 : decode cX10_hearSilence 5 = .ok (.if_icmp .ne 11, 3) := by decide +kernel
theorem dX10_hearSilence_8 : decode cX10_hearSilence 8 = .ok (.iload_n 1, 1) := by decide +kernel
theorem dX10_hearSilence_9 : decode cX10_hearSilence 9 = .ok (.aload_n 0, 1) := by decide +kernel
theorem dX10_hearSilence_10 : decode cX10_hearSilence 10 = .ok (.getfield 15, 3) := by decide +kernel
theorem dX10_hearSilence_13 : decode cX10_hearSilence 13 = .ok (.if_icmp .gt 4, 3) := by decide +kernel
theorem dX10_hearSilence_16 : decode cX10_hearSilence 16 = .ok (.return_, 1) := by decide +kernel
theorem dX10_hearSilence_17 : decode cX10_hearSilence 17 = .ok (.aload_n 0, 1) := by decide +kernel
theorem dX10_hearSilence_18 : decode cX10_hearSilence 18 = .ok (.getfield 53, 3) := by decide +kernel
theorem dX10_hearSilence_21 : decode cX10_hearSilence 21 = .ok (.getfield 78, 3) := by decide +kernel
theorem dX10_hearSilence_24 : decode cX10_hearSilence 24 = .ok (.ifCond .eq 10, 3) := by decide +kernel
theorem dX10_hearSilence_27 : decode cX10_hearSilence 27 = .ok (.aload_n 0, 1) := by decide +kernel
theorem dX10_hearSilence_28 : decode cX10_hearSilence 28 = .ok (.invokevirtual 82, 3) := by decide +kernel
theorem dX10_hearSilence_31 : decode cX10_hearSilence 31 = .ok (.goto 13, 3) := by decide +kernel
theorem dX10_hearSilence_34 : decode cX10_hearSilence 34 = .ok (.aload_n 0, 1) := by decide +kernel
theorem dX10_hearSilence_35 : decode cX10_hearSilence 35 = .ok (.aload_n 0, 1) := by decide +kernel
theorem dX10_hearSilence_36 : decode cX10_hearSilence 36 = .ok (.getfield 15, 3) := by decide +kernel
theorem dX10_hearSilence_39 : decode cX10_hearSilence 39 = .ok (.iconst 1, 1) := by decide +kernel
theorem dX10_hearSilence_40 : decode cX10_hearSilence 40 = .ok (.iadd, 1) := by decide +kernel
theorem dX10_hearSilence_41 : decode cX10_hearSilence 41 = .ok (.invokevirtual 85, 3) := by decide +kernel
theorem dX10_hearSilence_44 : decode cX10_hearSilence 44 = .ok (.return_, 1) := by decide +kernel
theorem dX10_allowByNotice_0 : decode cX10_allowByNotice 0 = .ok (.aload_n 0, 1) := by decide +kernel
theorem dX10_allowByNotice_1 : decode cX10_allowByNotice 1 = .ok (.iconst 3, 1) := by decide +kernel
theorem dX10_allowByNotice_2 : decode cX10_allowByNotice 2 = .ok (.putfield 57, 3) := by decide +kernel
theorem dX10_allowByNotice_5 : decode cX10_allowByNotice 5 = .ok (.aload_n 0, 1) := by decide +kernel
theorem dX10_allowByNotice_6 : decode cX10_allowByNotice 6 = .ok (.aload_n 0, 1) := by decide +kernel
theorem dX10_allowByNotice_7 : decode cX10_allowByNotice 7 = .ok (.getfield 9, 3) := by decide +kernel
theorem dX10_allowByNotice_10 : decode cX10_allowByNotice 10 = .ok (.aload_n 0, 1) := by decide +kernel
theorem dX10_allowByNotice_11 : decode cX10_allowByNotice 11 = .ok (.getfield 53, 3) := by decide +kernel
theorem dX10_allowByNotice_14 : decode cX10_allowByNotice 14 = .ok (.getfield 89, 3) := by decide +kernel
theorem dX10_allowByNotice_17 : decode cX10_allowByNotice 17 = .ok (.aload_n 0, 1) := by decide +kernel
theorem dX10_allowByNotice_18 : decode cX10_allowByNotice 18 = .ok (.getfield 50, 3) := by decide +kernel
theorem dX10_allowByNotice_21 : decode cX10_allowByNotice 21 = .ok (.iaload, 1) := by decide +kernel
theorem dX10_allowByNotice_22 : decode cX10_allowByNotice 22 = .ok (.iadd, 1) := by decide +kernel
theorem dX10_allowByNotice_23 : decode cX10_allowByNotice 23 = .ok (.putfield 18, 3) := by decide +kernel
theorem dX10_allowByNotice_26 : decode cX10_allowByNotice 26 = .ok (.return_, 1) := by decide +kernel
theorem dX10_disputeFromDay_0 : decode cX10_disputeFromDay 0 = .ok (.aload_n 0, 1) := by decide +kernel
theorem dX10_disputeFromDay_1 : decode cX10_disputeFromDay 1 = .ok (.iconst 4, 1) := by decide +kernel
theorem dX10_disputeFromDay_2 : decode cX10_disputeFromDay 2 = .ok (.putfield 57, 3) := by decide +kernel
theorem dX10_disputeFromDay_5 : decode cX10_disputeFromDay 5 = .ok (.aload_n 0, 1) := by decide +kernel
theorem dX10_disputeFromDay_6 : decode cX10_disputeFromDay 6 = .ok (.iload_n 1, 1) := by decide +kernel
theorem dX10_disputeFromDay_7 : decode cX10_disputeFromDay 7 = .ok (.putfield 21, 3) := by decide +kernel
theorem dX10_disputeFromDay_10 : decode cX10_disputeFromDay 10 = .ok (.return_, 1) := by decide +kernel
theorem dX10_appointBy_0 : decode cX10_appointBy 0 = .ok (.aload_n 0, 1) := by decide +kernel
theorem dX10_appointBy_1 : decode cX10_appointBy 1 = .ok (.getfield 53, 3) := by decide +kernel
theorem dX10_appointBy_4 : decode cX10_appointBy 4 = .ok (.aload_n 0, 1) := by decide +kernel
theorem dX10_appointBy_5 : decode cX10_appointBy 5 = .ok (.getfield 21, 3) := by decide +kernel
theorem dX10_appointBy_8 : decode cX10_appointBy 8 = .ok (.aload_n 0, 1) := by decide +kernel
theorem dX10_appointBy_9 : decode cX10_appointBy 9 = .ok (.getfield 53, 3) := by decide +kernel
theorem dX10_appointBy_12 : decode cX10_appointBy 12 = .ok (.getfield 92, 3) := by decide +kernel
theorem dX10_appointBy_15 : decode cX10_appointBy 15 = .ok (.invokevirtual 74, 3) := by decide +kernel
theorem dX10_appointBy_18 : decode cX10_appointBy 18 = .ok (.ireturn, 1) := by decide +kernel
theorem dX10_hasAlike_0 : decode cX10_hasAlike 0 = .ok (.iconst 0, 1) := by decide +kernel
theorem dX10_hasAlike_1 : decode cX10_hasAlike 1 = .ok (.istore_n 3, 1) := by decide +kernel
theorem dX10_hasAlike_2 : decode cX10_hasAlike 2 = .ok (.iload_n 3, 1) := by decide +kernel
theorem dX10_hasAlike_3 : decode cX10_hasAlike 3 = .ok (.aload_n 0, 1) := by decide +kernel
theorem dX10_hasAlike_4 : decode cX10_hasAlike 4 = .ok (.getfield 32, 3) := by decide +kernel
theorem dX10_hasAlike_7 : decode cX10_hasAlike 7 = .ok (.arraylength, 1) := by decide +kernel
theorem dX10_hasAlike_8 : decode cX10_hasAlike 8 = .ok (.if_icmp .ge 38, 3) := by decide +kernel
theorem dX10_hasAlike_11 : decode cX10_hasAlike 11 = .ok (.aload_n 0, 1) := by decide +kernel
theorem dX10_hasAlike_12 : decode cX10_hasAlike 12 = .ok (.getfield 32, 3) := by decide +kernel
theorem dX10_hasAlike_15 : decode cX10_hasAlike 15 = .ok (.iload_n 3, 1) := by decide +kernel
theorem dX10_hasAlike_16 : decode cX10_hasAlike 16 = .ok (.aaload, 1) := by decide +kernel
theorem dX10_hasAlike_17 : decode cX10_hasAlike 17 = .ok (.astore 4, 2) := by decide +kernel
theorem dX10_hasAlike_19 : decode cX10_hasAlike 19 = .ok (.iload_n 3, 1) := by decide +kernel
theorem dX10_hasAlike_20 : decode cX10_hasAlike 20 = .ok (.iload_n 1, 1) := by decide +kernel
theorem dX10_hasAlike_21 : decode cX10_hasAlike 21 = .ok (.if_icmp .eq 19, 3) := by decide +kernel
theorem dX10_hasAlike_24 : decode cX10_hasAlike 24 = .ok (.aload 4, 2) := by decide +kernel
theorem dX10_hasAlike_26 : decode cX10_hasAlike 26 = .ok (.ifnull 14, 3) := by decide +kernel
theorem dX10_hasAlike_29 : decode cX10_hasAlike 29 = .ok (.aload 4, 2) := by decide +kernel
theorem dX10_hasAlike_31 : decode cX10_hasAlike 31 = .ok (.aload_n 2, 1) := by decide +kernel
theorem dX10_hasAlike_32 : decode cX10_hasAlike 32 = .ok (.invokevirtual 95, 3) := by decide +kernel
theorem dX10_hasAlike_35 : decode cX10_hasAlike 35 = .ok (.ifCond .eq 5, 3) := by decide +kernel
theorem dX10_hasAlike_38 : decode cX10_hasAlike 38 = .ok (.iconst 1, 1) := by decide +kernel
theorem dX10_hasAlike_39 : decode cX10_hasAlike 39 = .ok (.ireturn, 1) := by decide +kernel
theorem dX10_hasAlike_40 : decode cX10_hasAlike 40 = .ok (.iinc 3 1, 3) := by decide +kernel
theorem dX10_hasAlike_43 : decode cX10_hasAlike 43 = .ok (.goto (-41), 3) := by decide +kernel
theorem dX10_hasAlike_46 : decode cX10_hasAlike 46 = .ok (.iconst 0, 1) := by decide +kernel
theorem dX10_hasAlike_47 : decode cX10_hasAlike 47 = .ok (.ireturn, 1) := by decide +kernel
theorem dX10_awardAs_0 : decode cX10_awardAs 0 = .ok (.iconst 0, 1) := by decide +kernel
theorem dX10_awardAs_1 : decode cX10_awardAs 1 = .ok (.istore_n 3, 1) := by decide +kernel
theorem dX10_awardAs_2 : decode cX10_awardAs 2 = .ok (.iload_n 3, 1) := by decide +kernel
theorem dX10_awardAs_3 : decode cX10_awardAs 3 = .ok (.aload_n 0, 1) := by decide +kernel
theorem dX10_awardAs_4 : decode cX10_awardAs 4 = .ok (.getfield 32, 3) := by decide +kernel
theorem dX10_awardAs_7 : decode cX10_awardAs 7 = .ok (.arraylength, 1) := by decide +kernel
theorem dX10_awardAs_8 : decode cX10_awardAs 8 = .ok (.if_icmp .ge 16, 3) := by decide +kernel
theorem dX10_awardAs_11 : decode cX10_awardAs 11 = .ok (.aload_n 0, 1) := by decide +kernel
theorem dX10_awardAs_12 : decode cX10_awardAs 12 = .ok (.getfield 32, 3) := by decide +kernel
theorem dX10_awardAs_15 : decode cX10_awardAs 15 = .ok (.iload_n 3, 1) := by decide +kernel
theorem dX10_awardAs_16 : decode cX10_awardAs 16 = .ok (.aconst_null, 1) := by decide +kernel
theorem dX10_awardAs_17 : decode cX10_awardAs 17 = .ok (.aastore, 1) := by decide +kernel
theorem dX10_awardAs_18 : decode cX10_awardAs 18 = .ok (.iinc 3 1, 3) := by decide +kernel
theorem dX10_awardAs_21 : decode cX10_awardAs 21 = .ok (.goto (-19), 3) := by decide +kernel
theorem dX10_awardAs_24 : decode cX10_awardAs 24 = .ok (.aload_n 0, 1) := by decide +kernel
theorem dX10_awardAs_25 : decode cX10_awardAs 25 = .ok (.aload_n 1, 1) := by decide +kernel
theorem dX10_awardAs_26 : decode cX10_awardAs 26 = .ok (.putfield 99, 3) := by decide +kernel
theorem dX10_awardAs_29 : decode cX10_awardAs 29 = .ok (.aload_n 0, 1) := by decide +kernel
theorem dX10_awardAs_30 : decode cX10_awardAs 30 = .ok (.iload_n 2, 1) := by decide +kernel
theorem dX10_awardAs_31 : decode cX10_awardAs 31 = .ok (.putfield 27, 3) := by decide +kernel
theorem dX10_awardAs_34 : decode cX10_awardAs 34 = .ok (.aload_n 0, 1) := by decide +kernel
theorem dX10_awardAs_35 : decode cX10_awardAs 35 = .ok (.iconst 3, 1) := by decide +kernel
theorem dX10_awardAs_36 : decode cX10_awardAs 36 = .ok (.putfield 57, 3) := by decide +kernel
theorem dX10_awardAs_39 : decode cX10_awardAs 39 = .ok (.aload_n 0, 1) := by decide +kernel
theorem dX10_awardAs_40 : decode cX10_awardAs 40 = .ok (.aload_n 1, 1) := by decide +kernel
theorem dX10_awardAs_41 : decode cX10_awardAs 41 = .ok (.getfield 103, 3) := by decide +kernel
theorem dX10_awardAs_44 : decode cX10_awardAs 44 = .ok (.putfield 18, 3) := by decide +kernel
theorem dX10_awardAs_47 : decode cX10_awardAs 47 = .ok (.return_, 1) := by decide +kernel
theorem dX10_mayBeAppealed_0 : decode cX10_mayBeAppealed 0 = .ok (.aload_n 0, 1) := by decide +kernel
theorem dX10_mayBeAppealed_1 : decode cX10_mayBeAppealed 1 = .ok (.getfield 99, 3) := by decide +kernel
theorem dX10_mayBeAppealed_4 : decode cX10_mayBeAppealed 4 = .ok (.ifnull 23, 3) := by decide +kernel
theorem dX10_mayBeAppealed_7 : decode cX10_mayBeAppealed 7 = .ok (.aload_n 0, 1) := by decide +kernel
theorem dX10_mayBeAppealed_8 : decode cX10_mayBeAppealed 8 = .ok (.getfield 57, 3) := by decide +kernel
theorem dX10_mayBeAppealed_11 : decode cX10_mayBeAppealed 11 = .ok (.iconst 3, 1) := by decide +kernel
theorem dX10_mayBeAppealed_12 : decode cX10_mayBeAppealed 12 = .ok (.if_icmp .eq 11, 3) := by decide +kernel
theorem dX10_mayBeAppealed_15 : decode cX10_mayBeAppealed 15 = .ok (.aload_n 0, 1) := by decide +kernel
theorem dX10_mayBeAppealed_16 : decode cX10_mayBeAppealed 16 = .ok (.getfield 57, 3) := by decide +kernel
theorem dX10_mayBeAppealed_19 : decode cX10_mayBeAppealed 19 = .ok (.iconst 5, 1) := by decide +kernel
theorem dX10_mayBeAppealed_20 : decode cX10_mayBeAppealed 20 = .ok (.if_icmp .ne 7, 3) := by decide +kernel
theorem dX10_mayBeAppealed_23 : decode cX10_mayBeAppealed 23 = .ok (.iconst 1, 1) := by decide +kernel
theorem dX10_mayBeAppealed_24 : decode cX10_mayBeAppealed 24 = .ok (.goto 4, 3) := by decide +kernel
theorem dX10_mayBeAppealed_27 : decode cX10_mayBeAppealed 27 = .ok (.iconst 0, 1) := by decide +kernel
theorem dX10_mayBeAppealed_28 : decode cX10_mayBeAppealed 28 = .ok (.ireturn, 1) := by decide +kernel
theorem dX10_appealBy_0 : decode cX10_appealBy 0 = .ok (.aload_n 0, 1) := by decide +kernel
theorem dX10_appealBy_1 : decode cX10_appealBy 1 = .ok (.getfield 53, 3) := by decide +kernel
theorem dX10_appealBy_4 : decode cX10_appealBy 4 = .ok (.aload_n 0, 1) := by decide +kernel
theorem dX10_appealBy_5 : decode cX10_appealBy 5 = .ok (.getfield 27, 3) := by decide +kernel
theorem dX10_appealBy_8 : decode cX10_appealBy 8 = .ok (.aload_n 0, 1) := by decide +kernel
theorem dX10_appealBy_9 : decode cX10_appealBy 9 = .ok (.getfield 53, 3) := by decide +kernel
theorem dX10_appealBy_12 : decode cX10_appealBy 12 = .ok (.getfield 106, 3) := by decide +kernel
theorem dX10_appealBy_15 : decode cX10_appealBy 15 = .ok (.invokevirtual 74, 3) := by decide +kernel
theorem dX10_appealBy_18 : decode cX10_appealBy 18 = .ok (.ireturn, 1) := by decide +kernel
theorem dX10_undoAward_0 : decode cX10_undoAward 0 = .ok (.aload_n 0, 1) := by decide +kernel
theorem dX10_undoAward_1 : decode cX10_undoAward 1 = .ok (.aconst_null, 1) := by decide +kernel
theorem dX10_undoAward_2 : decode cX10_undoAward 2 = .ok (.putfield 99, 3) := by decide +kernel
theorem dX10_undoAward_5 : decode cX10_undoAward 5 = .ok (.aload_n 0, 1) := by decide +kernel
theorem dX10_undoAward_6 : decode cX10_undoAward 6 = .ok (.iconst (-1), 1) := by decide +kernel
theorem dX10_undoAward_7 : decode cX10_undoAward 7 = .ok (.putfield 18, 3) := by decide +kernel
theorem dX10_undoAward_10 : decode cX10_undoAward 10 = .ok (.aload_n 0, 1) := by decide +kernel
theorem dX10_undoAward_11 : decode cX10_undoAward 11 = .ok (.iconst (-1), 1) := by decide +kernel
theorem dX10_undoAward_12 : decode cX10_undoAward 12 = .ok (.putfield 24, 3) := by decide +kernel
theorem dX10_undoAward_15 : decode cX10_undoAward 15 = .ok (.aload_n 0, 1) := by decide +kernel
theorem dX10_undoAward_16 : decode cX10_undoAward 16 = .ok (.iload_n 1, 1) := by decide +kernel
theorem dX10_undoAward_17 : decode cX10_undoAward 17 = .ok (.invokevirtual 85, 3) := by decide +kernel
theorem dX10_undoAward_20 : decode cX10_undoAward 20 = .ok (.return_, 1) := by decide +kernel
theorem dX10_beginOn_0 : decode cX10_beginOn 0 = .ok (.aload_n 0, 1) := by decide +kernel
theorem dX10_beginOn_1 : decode cX10_beginOn 1 = .ok (.getfield 57, 3) := by decide +kernel
theorem dX10_beginOn_4 : decode cX10_beginOn 4 = .ok (.iconst 1, 1) := by decide +kernel
theorem dX10_beginOn_5 : decode cX10_beginOn 5 = .ok (.if_icmp .eq 19, 3) := by decide +kernel
theorem dX10_beginOn_8 : decode cX10_beginOn 8 = .ok (.aload_n 0, 1) := by decide +kernel
theorem dX10_beginOn_9 : decode cX10_beginOn 9 = .ok (.getfield 57, 3) := by decide +kernel
theorem dX10_beginOn_12 : decode cX10_beginOn 12 = .ok (.iconst 3, 1) := by decide +kernel
theorem dX10_beginOn_13 : decode cX10_beginOn 13 = .ok (.if_icmp .ne 15, 3) := by decide +kernel
theorem dX10_beginOn_16 : decode cX10_beginOn 16 = .ok (.iload_n 1, 1) := by decide +kernel
theorem dX10_beginOn_17 : decode cX10_beginOn 17 = .ok (.aload_n 0, 1) := by decide +kernel
theorem dX10_beginOn_18 : decode cX10_beginOn 18 = .ok (.getfield 18, 3) := by decide +kernel
theorem dX10_beginOn_21 : decode cX10_beginOn 21 = .ok (.if_icmp .lt 7, 3) := by decide +kernel
theorem dX10_beginOn_24 : decode cX10_beginOn 24 = .ok (.iconst 1, 1) := by decide +kernel
theorem dX10_beginOn_25 : decode cX10_beginOn 25 = .ok (.goto 4, 3) := by decide +kernel
theorem dX10_beginOn_28 : decode cX10_beginOn 28 = .ok (.iconst 0, 1) := by decide +kernel
theorem dX10_beginOn_29 : decode cX10_beginOn 29 = .ok (.istore_n 2, 1) := by decide +kernel
theorem dX10_beginOn_30 : decode cX10_beginOn 30 = .ok (.aload_n 0, 1) := by decide +kernel
theorem dX10_beginOn_31 : decode cX10_beginOn 31 = .ok (.iload_n 2, 1) := by decide +kernel
theorem dX10_beginOn_32 : decode cX10_beginOn 32 = .ok (.ifCond .eq 7, 3) := by decide +kernel
theorem dX10_beginOn_35 : decode cX10_beginOn 35 = .ok (.iconst 5, 1) := by decide +kernel
theorem dX10_beginOn_36 : decode cX10_beginOn 36 = .ok (.goto 5, 3) := by decide +kernel
theorem dX10_beginOn_39 : decode cX10_beginOn 39 = .ok (.bipush 6, 2) := by decide +kernel
theorem dX10_beginOn_41 : decode cX10_beginOn 41 = .ok (.putfield 57, 3) := by decide +kernel
theorem dX10_beginOn_44 : decode cX10_beginOn 44 = .ok (.aload_n 0, 1) := by decide +kernel
theorem dX10_beginOn_45 : decode cX10_beginOn 45 = .ok (.iload_n 1, 1) := by decide +kernel
theorem dX10_beginOn_46 : decode cX10_beginOn 46 = .ok (.putfield 24, 3) := by decide +kernel
theorem dX10_beginOn_49 : decode cX10_beginOn 49 = .ok (.return_, 1) := by decide +kernel
theorem dX10_mayBeEntered_0 : decode cX10_mayBeEntered 0 = .ok (.aload_n 0, 1) := by decide +kernel
theorem dX10_mayBeEntered_1 : decode cX10_mayBeEntered 1 = .ok (.getfield 53, 3) := by decide +kernel
theorem dX10_mayBeEntered_4 : decode cX10_mayBeEntered 4 = .ok (.iload_n 1, 1) := by decide +kernel
theorem dX10_mayBeEntered_5 : decode cX10_mayBeEntered 5 = .ok (.invokevirtual 109, 3) := by decide +kernel
theorem dX10_mayBeEntered_8 : decode cX10_mayBeEntered 8 = .ok (.ifCond .ne 23, 3) := by decide +kernel
theorem dX10_mayBeEntered_11 : decode cX10_mayBeEntered 11 = .ok (.iload_n 2, 1) := by decide +kernel
theorem dX10_mayBeEntered_12 : decode cX10_mayBeEntered 12 = .ok (.aload_n 0, 1) := by decide +kernel
theorem dX10_mayBeEntered_13 : decode cX10_mayBeEntered 13 = .ok (.invokevirtual 113, 3) := by decide +kernel
theorem dX10_mayBeEntered_16 : decode cX10_mayBeEntered 16 = .ok (.if_icmp .lt 15, 3) := by decide +kernel
theorem dX10_mayBeEntered_19 : decode cX10_mayBeEntered 19 = .ok (.iload_n 2, 1) := by decide +kernel
theorem dX10_mayBeEntered_20 : decode cX10_mayBeEntered 20 = .ok (.aload_n 0, 1) := by decide +kernel
theorem dX10_mayBeEntered_21 : decode cX10_mayBeEntered 21 = .ok (.invokevirtual 117, 3) := by decide +kernel
theorem dX10_mayBeEntered_24 : decode cX10_mayBeEntered 24 = .ok (.if_icmp .ge 7, 3) := by decide +kernel
theorem dX10_mayBeEntered_27 : decode cX10_mayBeEntered 27 = .ok (.iconst 1, 1) := by decide +kernel
theorem dX10_mayBeEntered_28 : decode cX10_mayBeEntered 28 = .ok (.goto 4, 3) := by decide +kernel
theorem dX10_mayBeEntered_31 : decode cX10_mayBeEntered 31 = .ok (.iconst 0, 1) := by decide +kernel
theorem dX10_mayBeEntered_32 : decode cX10_mayBeEntered 32 = .ok (.ireturn, 1) := by decide +kernel
theorem dX10_firstHour_0 : decode cX10_firstHour 0 = .ok (.aload_n 0, 1) := by decide +kernel
theorem dX10_firstHour_1 : decode cX10_firstHour 1 = .ok (.getfield 99, 3) := by decide +kernel
theorem dX10_firstHour_4 : decode cX10_firstHour 4 = .ok (.ifnull 16, 3) := by decide +kernel
theorem dX10_firstHour_7 : decode cX10_firstHour 7 = .ok (.aload_n 0, 1) := by decide +kernel
theorem dX10_firstHour_8 : decode cX10_firstHour 8 = .ok (.getfield 99, 3) := by decide +kernel
theorem dX10_firstHour_11 : decode cX10_firstHour 11 = .ok (.getfield 120, 3) := by decide +kernel
theorem dX10_firstHour_14 : decode cX10_firstHour 14 = .ok (.bipush 100, 2) := by decide +kernel
theorem dX10_firstHour_16 : decode cX10_firstHour 16 = .ok (.idiv, 1) := by decide +kernel
theorem dX10_firstHour_17 : decode cX10_firstHour 17 = .ok (.goto 10, 3) := by decide +kernel
theorem dX10_firstHour_20 : decode cX10_firstHour 20 = .ok (.aload_n 0, 1) := by decide +kernel
theorem dX10_firstHour_21 : decode cX10_firstHour 21 = .ok (.getfield 53, 3) := by decide +kernel
theorem dX10_firstHour_24 : decode cX10_firstHour 24 = .ok (.getfield 123, 3) := by decide +kernel
theorem dX10_firstHour_27 : decode cX10_firstHour 27 = .ok (.ireturn, 1) := by decide +kernel
theorem dX10_endHour_0 : decode cX10_endHour 0 = .ok (.aload_n 0, 1) := by decide +kernel
theorem dX10_endHour_1 : decode cX10_endHour 1 = .ok (.getfield 99, 3) := by decide +kernel
theorem dX10_endHour_4 : decode cX10_endHour 4 = .ok (.ifnull 16, 3) := by decide +kernel
theorem dX10_endHour_7 : decode cX10_endHour 7 = .ok (.aload_n 0, 1) := by decide +kernel
theorem dX10_endHour_8 : decode cX10_endHour 8 = .ok (.getfield 99, 3) := by decide +kernel
theorem dX10_endHour_11 : decode cX10_endHour 11 = .ok (.getfield 120, 3) := by decide +kernel
theorem dX10_endHour_14 : decode cX10_endHour 14 = .ok (.bipush 100, 2) := by decide +kernel
theorem dX10_endHour_16 : decode cX10_endHour 16 = .ok (.irem, 1) := by decide +kernel
theorem dX10_endHour_17 : decode cX10_endHour 17 = .ok (.goto 10, 3) := by decide +kernel
theorem dX10_endHour_20 : decode cX10_endHour 20 = .ok (.aload_n 0, 1) := by decide +kernel
theorem dX10_endHour_21 : decode cX10_endHour 21 = .ok (.getfield 53, 3) := by decide +kernel
theorem dX10_endHour_24 : decode cX10_endHour 24 = .ok (.getfield 125, 3) := by decide +kernel
theorem dX10_endHour_27 : decode cX10_endHour 27 = .ok (.ireturn, 1) := by decide +kernel
theorem dX10_share_0 : decode cX10_share 0 = .ok (.aload_n 0, 1) := by decide +kernel
theorem dX10_share_1 : decode cX10_share 1 = .ok (.getfield 99, 3) := by decide +kernel
theorem dX10_share_4 : decode cX10_share 4 = .ok (.ifnull 13, 3) := by decide +kernel
theorem dX10_share_7 : decode cX10_share 7 = .ok (.aload_n 0, 1) := by decide +kernel
theorem dX10_share_8 : decode cX10_share 8 = .ok (.getfield 99, 3) := by decide +kernel
theorem dX10_share_11 : decode cX10_share 11 = .ok (.getfield 127, 3) := by decide +kernel
theorem dX10_share_14 : decode cX10_share 14 = .ok (.goto 5, 3) := by decide +kernel
theorem dX10_share_17 : decode cX10_share 17 = .ok (.bipush 100, 2) := by decide +kernel
theorem dX10_share_19 : decode cX10_share 19 = .ok (.ireturn, 1) := by decide +kernel
theorem dX11_init_0 : decode cX11_init 0 = .ok (.aload_n 0, 1) := by decide +kernel
theorem dX11_init_1 : decode cX11_init 1 = .ok (.invokespecial 1, 3) := by decide +kernel
theorem dX11_init_4 : decode cX11_init 4 = .ok (.aload_n 0, 1) := by decide +kernel
theorem dX11_init_5 : decode cX11_init 5 = .ok (.new 7, 3) := by decide +kernel
theorem dX11_init_8 : decode cX11_init 8 = .ok (.dup, 1) := by decide +kernel
theorem dX11_init_9 : decode cX11_init 9 = .ok (.invokespecial 9, 3) := by decide +kernel
theorem dX11_init_12 : decode cX11_init 12 = .ok (.putfield 10, 3) := by decide +kernel
theorem dX11_init_15 : decode cX11_init 15 = .ok (.aload_n 0, 1) := by decide +kernel
theorem dX11_init_16 : decode cX11_init 16 = .ok (.new 7, 3) := by decide +kernel
theorem dX11_init_19 : decode cX11_init 19 = .ok (.dup, 1) := by decide +kernel
theorem dX11_init_20 : decode cX11_init 20 = .ok (.invokespecial 9, 3) := by decide +kernel
theorem dX11_init_23 : decode cX11_init 23 = .ok (.putfield 16, 3) := by decide +kernel
theorem dX11_init_26 : decode cX11_init 26 = .ok (.aload_n 0, 1) := by decide +kernel
theorem dX11_init_27 : decode cX11_init 27 = .ok (.new 7, 3) := by decide +kernel
theorem dX11_init_30 : decode cX11_init 30 = .ok (.dup, 1) := by decide +kernel
theorem dX11_init_31 : decode cX11_init 31 = .ok (.invokespecial 9, 3) := by decide +kernel
theorem dX11_init_34 : decode cX11_init 34 = .ok (.putfield 19, 3) := by decide +kernel
theorem dX11_init_37 : decode cX11_init 37 = .ok (.aload_n 0, 1) := by decide +kernel
theorem dX11_init_38 : decode cX11_init 38 = .ok (.new 7, 3) := by decide +kernel
theorem dX11_init_41 : decode cX11_init 41 = .ok (.dup, 1) := by decide +kernel
theorem dX11_init_42 : decode cX11_init 42 = .ok (.invokespecial 9, 3) := by decide +kernel
theorem dX11_init_45 : decode cX11_init 45 = .ok (.putfield 22, 3) := by decide +kernel
theorem dX11_init_48 : decode cX11_init 48 = .ok (.aload_n 0, 1) := by decide +kernel
theorem dX11_init_49 : decode cX11_init 49 = .ok (.bipush 12, 2) := by decide +kernel
theorem dX11_init_51 : decode cX11_init 51 = .ok (.newarray .int, 2) := by decide +kernel
theorem dX11_init_53 : decode cX11_init 53 = .ok (.putfield 25, 3) := by decide +kernel
theorem dX11_init_56 : decode cX11_init 56 = .ok (.aload_n 0, 1) := by decide +kernel
theorem dX11_init_57 : decode cX11_init 57 = .ok (.bipush 12, 2) := by decide +kernel
theorem dX11_init_59 : decode cX11_init 59 = .ok (.newarray .int, 2) := by decide +kernel
theorem dX11_init_61 : decode cX11_init 61 = .ok (.putfield 29, 3) := by decide +kernel
theorem dX11_init_64 : decode cX11_init 64 = .ok (.aload_n 0, 1) := by decide +kernel
theorem dX11_init_65 : decode cX11_init 65 = .ok (.iconst 5, 1) := by decide +kernel
theorem dX11_init_66 : decode cX11_init 66 = .ok (.newarray .int, 2) := by decide +kernel
theorem dX11_init_68 : decode cX11_init 68 = .ok (.putfield 32, 3) := by decide +kernel
theorem dX11_init_71 : decode cX11_init 71 = .ok (.aload_n 0, 1) := by decide +kernel
theorem dX11_init_72 : decode cX11_init 72 = .ok (.new 35, 3) := by decide +kernel
theorem dX11_init_75 : decode cX11_init 75 = .ok (.dup, 1) := by decide +kernel
theorem dX11_init_76 : decode cX11_init 76 = .ok (.invokespecial 37, 3) := by decide +kernel
theorem dX11_init_79 : decode cX11_init 79 = .ok (.putfield 38, 3) := by decide +kernel
theorem dX11_init_82 : decode cX11_init 82 = .ok (.aload_n 0, 1) := by decide +kernel
theorem dX11_init_83 : decode cX11_init 83 = .ok (.new 42, 3) := by decide +kernel
theorem dX11_init_86 : decode cX11_init 86 = .ok (.dup, 1) := by decide +kernel
theorem dX11_init_87 : decode cX11_init 87 = .ok (.invokespecial 44, 3) := by decide +kernel
theorem dX11_init_90 : decode cX11_init 90 = .ok (.putfield 45, 3) := by decide +kernel
theorem dX11_init_93 : decode cX11_init 93 = .ok (.aload_n 0, 1) := by decide +kernel
theorem dX11_init_94 : decode cX11_init 94 = .ok (.sipush 400, 3) := by decide +kernel
theorem dX11_init_97 : decode cX11_init 97 = .ok (.newarray .byte, 2) := by decide +kernel
theorem dX11_init_99 : decode cX11_init 99 = .ok (.putfield 49, 3) := by decide +kernel
theorem dX11_init_102 : decode cX11_init 102 = .ok (.aload_n 0, 1) := by decide +kernel
theorem dX11_init_103 : decode cX11_init 103 = .ok (.new 53, 3) := by decide +kernel
theorem dX11_init_106 : decode cX11_init 106 = .ok (.dup, 1) := by decide +kernel
theorem dX11_init_107 : decode cX11_init 107 = .ok (.aload_n 0, 1) := by decide +kernel
theorem dX11_init_108 : decode cX11_init 108 = .ok (.getfield 49, 3) := by decide +kernel
theorem dX11_init_111 : decode cX11_init 111 = .ok (.invokespecial 55, 3) := by decide +kernel
theorem dX11_init_114 : decode cX11_init 114 = .ok (.putfield 58, 3) := by decide +kernel
theorem dX11_init_117 : decode cX11_init 117 = .ok (.aload_n 0, 1) := by decide +kernel
theorem dX11_init_118 : decode cX11_init 118 = .ok (.new 62, 3) := by decide +kernel
theorem dX11_init_121 : decode cX11_init 121 = .ok (.dup, 1) := by decide +kernel
theorem dX11_init_122 : decode cX11_init 122 = .ok (.invokespecial 64, 3) := by decide +kernel
theorem dX11_init_125 : decode cX11_init 125 = .ok (.putfield 65, 3) := by decide +kernel
theorem dX11_init_128 : decode cX11_init 128 = .ok (.return_, 1) := by decide +kernel
theorem dX11_owner_0 : decode cX11_owner 0 = .ok (.aload_n 0, 1) := by decide +kernel
theorem dX11_owner_1 : decode cX11_owner 1 = .ok (.getfield 69, 3) := by decide +kernel
theorem dX11_owner_4 : decode cX11_owner 4 = .ok (.bipush 20, 2) := by decide +kernel
theorem dX11_owner_6 : decode cX11_owner 6 = .ok (.invokestatic 73, 3) := by decide +kernel
theorem dX11_owner_9 : decode cX11_owner 9 = .ok (.aload_n 0, 1) := by decide +kernel
theorem dX11_owner_10 : decode cX11_owner 10 = .ok (.dup, 1) := by decide +kernel
theorem dX11_owner_11 : decode cX11_owner 11 = .ok (.getfield 69, 3) := by decide +kernel
theorem dX11_owner_14 : decode cX11_owner 14 = .ok (.iconst 1, 1) := by decide +kernel
theorem dX11_owner_15 : decode cX11_owner 15 = .ok (.iadd, 1) := by decide +kernel
theorem dX11_owner_16 : decode cX11_owner 16 = .ok (.putfield 69, 3) := by decide +kernel
theorem dX11_owner_19 : decode cX11_owner 19 = .ok (.aload_n 0, 1) := by decide +kernel
theorem dX11_owner_20 : decode cX11_owner 20 = .ok (.getfield 69, 3) := by decide +kernel
theorem dX11_owner_23 : decode cX11_owner 23 = .ok (.iconst 1, 1) := by decide +kernel
theorem dX11_owner_24 : decode cX11_owner 24 = .ok (.isub, 1) := by decide +kernel
theorem dX11_owner_25 : decode cX11_owner 25 = .ok (.ireturn, 1) := by decide +kernel
theorem dX11_wall_0 : decode cX11_wall 0 = .ok (.iload_n 1, 1) := by decide +kernel
theorem dX11_wall_1 : decode cX11_wall 1 = .ok (.aload_n 0, 1) := by decide +kernel
theorem dX11_wall_2 : decode cX11_wall 2 = .ok (.getfield 69, 3) := by decide +kernel
theorem dX11_wall_5 : decode cX11_wall 5 = .ok (.invokestatic 77, 3) := by decide +kernel
theorem dX11_wall_8 : decode cX11_wall 8 = .ok (.iload_n 2, 1) := by decide +kernel
theorem dX11_wall_9 : decode cX11_wall 9 = .ok (.aload_n 0, 1) := by decide +kernel
theorem dX11_wall_10 : decode cX11_wall 10 = .ok (.getfield 69, 3) := by decide +kernel
theorem dX11_wall_13 : decode cX11_wall 13 = .ok (.invokestatic 77, 3) := by decide +kernel
theorem dX11_wall_16 : decode cX11_wall 16 = .ok (.aload_n 0, 1) := by decide +kernel
theorem dX11_wall_17 : decode cX11_wall 17 = .ok (.getfield 10, 3) := by decide +kernel
theorem dX11_wall_20 : decode cX11_wall 20 = .ok (.invokevirtual 80, 3) := by decide +kernel
theorem dX11_wall_23 : decode cX11_wall 23 = .ok (.bipush 6, 2) := by decide +kernel
theorem dX11_wall_25 : decode cX11_wall 25 = .ok (.invokestatic 73, 3) := by decide +kernel
theorem dX11_wall_28 : decode cX11_wall 28 = .ok (.aload_n 0, 1) := by decide +kernel
theorem dX11_wall_29 : decode cX11_wall 29 = .ok (.getfield 10, 3) := by decide +kernel
theorem dX11_wall_32 : decode cX11_wall 32 = .ok (.new 84, 3) := by decide +kernel
theorem dX11_wall_35 : decode cX11_wall 35 = .ok (.dup, 1) := by decide +kernel
theorem dX11_wall_36 : decode cX11_wall 36 = .ok (.iload_n 1, 1) := by decide +kernel
theorem dX11_wall_37 : decode cX11_wall 37 = .ok (.iload_n 2, 1) := by decide +kernel
theorem dX11_wall_38 : decode cX11_wall 38 = .ok (.invokespecial 86, 3) := by decide +kernel
theorem dX11_wall_41 : decode cX11_wall 41 = .ok (.invokevirtual 88, 3) := by decide +kernel
theorem dX11_wall_44 : decode cX11_wall 44 = .ok (.pop, 1) := by decide +kernel
theorem dX11_wall_45 : decode cX11_wall 45 = .ok (.aload_n 0, 1) := by decide +kernel
theorem dX11_wall_46 : decode cX11_wall 46 = .ok (.getfield 10, 3) := by decide +kernel
theorem dX11_wall_49 : decode cX11_wall 49 = .ok (.invokevirtual 80, 3) := by decide +kernel
theorem dX11_wall_52 : decode cX11_wall 52 = .ok (.iconst 1, 1) := by decide +kernel
theorem dX11_wall_53 : decode cX11_wall 53 = .ok (.isub, 1) := by decide +kernel
theorem dX11_wall_54 : decode cX11_wall 54 = .ok (.ireturn, 1) := by decide +kernel
theorem dX11_sell_0 : decode cX11_sell 0 = .ok (.aload_n 0, 1) := by decide +kernel
theorem dX11_sell_1 : decode cX11_sell 1 = .ok (.iload_n 1, 1) := by decide +kernel
theorem dX11_sell_2 : decode cX11_sell 2 = .ok (.invokevirtual 92, 3) := by decide +kernel
theorem dX11_sell_5 : decode cX11_sell 5 = .ok (.astore 4, 2) := by decide +kernel
theorem dX11_sell_7 : decode cX11_sell 7 = .ok (.iload_n 3, 1) := by decide +kernel
theorem dX11_sell_8 : decode cX11_sell 8 = .ok (.aload_n 0, 1) := by decide +kernel
theorem dX11_sell_9 : decode cX11_sell 9 = .ok (.getfield 69, 3) := by decide +kernel
theorem dX11_sell_12 : decode cX11_sell 12 = .ok (.invokestatic 77, 3) := by decide +kernel
theorem dX11_sell_15 : decode cX11_sell 15 = .ok (.iload_n 2, 1) := by decide +kernel
theorem dX11_sell_16 : decode cX11_sell 16 = .ok (.invokestatic 96, 3) := by decide +kernel
theorem dX11_sell_19 : decode cX11_sell 19 = .ok (.aload 4, 2) := by decide +kernel
theorem dX11_sell_21 : decode cX11_sell 21 = .ok (.iload_n 2, 1) := by decide +kernel
theorem dX11_sell_22 : decode cX11_sell 22 = .ok (.invokevirtual 100, 3) := by decide +kernel
theorem dX11_sell_25 : decode cX11_sell 25 = .ok (.istore 5, 2) := by decide +kernel
theorem dX11_sell_27 : decode cX11_sell 27 = .ok (.aload 4, 2) := by decide +kernel
theorem dX11_sell_29 : decode cX11_sell 29 = .ok (.iload_n 2, 1) := by decide +kernel
theorem dX11_sell_30 : decode cX11_sell 30 = .ok (.iload_n 3, 1) := by decide +kernel
theorem dX11_sell_31 : decode cX11_sell 31 = .ok (.invokevirtual 104, 3) := by decide +kernel
theorem dX11_sell_34 : decode cX11_sell 34 = .ok (.iload 5, 2) := by decide +kernel
theorem dX11_sell_36 : decode cX11_sell 36 = .ok (.ireturn, 1) := by decide +kernel
theorem dX11_wait_0 : decode cX11_wait 0 = .ok (.iload_n 1, 1) := by decide +kernel
theorem dX11_wait_1 : decode cX11_wait 1 = .ok (.iconst 0, 1) := by decide +kernel
theorem dX11_wait_2 : decode cX11_wait 2 = .ok (.sipush 10000, 3) := by decide +kernel
theorem dX11_wait_5 : decode cX11_wait 5 = .ok (.invokestatic 107, 3) := by decide +kernel
theorem dX11_wait_8 : decode cX11_wait 8 = .ok (.aload_n 0, 1) := by decide +kernel
theorem dX11_wait_9 : decode cX11_wait 9 = .ok (.getfield 111, 3) := by decide +kernel
theorem dX11_wait_12 : decode cX11_wait 12 = .ok (.iload_n 1, 1) := by decide +kernel
theorem dX11_wait_13 : decode cX11_wait 13 = .ok (.iadd, 1) := by decide +kernel
theorem dX11_wait_14 : decode cX11_wait 14 = .ok (.ldc 114, 2) := by decide +kernel
theorem dX11_wait_16 : decode cX11_wait 16 = .ok (.if_icmp .le 13, 3) := by decide +kernel
theorem dX11_wait_19 : decode cX11_wait 19 = .ok (.new 115, 3) := by decide +kernel
theorem dX11_wait_22 : decode cX11_wait 22 = .ok (.dup, 1) := by decide +kernel
theorem dX11_wait_23 : decode cX11_wait 23 = .ok (.ldc 117, 2) := by decide +kernel
theorem dX11_wait_25 : decode cX11_wait 25 = .ok (.invokespecial 119, 3) := by decide +kernel
theorem dX11_wait_28 : decode cX11_wait 28 = .ok (.athrow, 1) := by decide +kernel
theorem dX11_wait_29 : decode cX11_wait 29 = .ok (.aload_n 0, 1) := by decide +kernel
theorem dX11_wait_30 : decode cX11_wait 30 = .ok (.dup, 1) := by decide +kernel
theorem dX11_wait_31 : decode cX11_wait 31 = .ok (.getfield 111, 3) := by decide +kernel
theorem dX11_wait_34 : decode cX11_wait 34 = .ok (.iload_n 1, 1) := by decide +kernel
theorem dX11_wait_35 : decode cX11_wait 35 = .ok (.iadd, 1) := by decide +kernel
theorem dX11_wait_36 : decode cX11_wait 36 = .ok (.putfield 111, 3) := by decide +kernel
theorem dX11_wait_39 : decode cX11_wait 39 = .ok (.aload_n 0, 1) := by decide +kernel
theorem dX11_wait_40 : decode cX11_wait 40 = .ok (.getfield 111, 3) := by decide +kernel
theorem dX11_wait_43 : decode cX11_wait 43 = .ok (.ireturn, 1) := by decide +kernel
theorem dX11_feed_0 : decode cX11_feed 0 = .ok (.aload_n 0, 1) := by decide +kernel
theorem dX11_feed_1 : decode cX11_feed 1 = .ok (.getfield 122, 3) := by decide +kernel
theorem dX11_feed_4 : decode cX11_feed 4 = .ok (.bipush 20, 2) := by decide +kernel
theorem dX11_feed_6 : decode cX11_feed 6 = .ok (.iadd, 1) := by decide +kernel
theorem dX11_feed_7 : decode cX11_feed 7 = .ok (.sipush 400, 3) := by decide +kernel
theorem dX11_feed_10 : decode cX11_feed 10 = .ok (.if_icmp .le 5, 3) := by decide +kernel
theorem dX11_feed_13 : decode cX11_feed 13 = .ok (.iconst (-1), 1) := by decide +kernel
theorem dX11_feed_14 : decode cX11_feed 14 = .ok (.ireturn, 1) := by decide +kernel
theorem dX11_feed_15 : decode cX11_feed 15 = .ok (.aload_n 0, 1) := by decide +kernel
theorem dX11_feed_16 : decode cX11_feed 16 = .ok (.iload_n 1, 1) := by decide +kernel
theorem dX11_feed_17 : decode cX11_feed 17 = .ok (.invokevirtual 125, 3) := by decide +kernel
theorem dX11_feed_20 : decode cX11_feed 20 = .ok (.aload_n 0, 1) := by decide +kernel
theorem dX11_feed_21 : decode cX11_feed 21 = .ok (.iload_n 2, 1) := by decide +kernel
theorem dX11_feed_22 : decode cX11_feed 22 = .ok (.invokevirtual 125, 3) := by decide +kernel
theorem dX11_feed_25 : decode cX11_feed 25 = .ok (.aload_n 0, 1) := by decide +kernel
theorem dX11_feed_26 : decode cX11_feed 26 = .ok (.iload_n 3, 1) := by decide +kernel
theorem dX11_feed_27 : decode cX11_feed 27 = .ok (.invokevirtual 125, 3) := by decide +kernel
theorem dX11_feed_30 : decode cX11_feed 30 = .ok (.aload_n 0, 1) := by decide +kernel
theorem dX11_feed_31 : decode cX11_feed 31 = .ok (.iload 4, 2) := by decide +kernel
theorem dX11_feed_33 : decode cX11_feed 33 = .ok (.invokevirtual 125, 3) := by decide +kernel
theorem dX11_feed_36 : decode cX11_feed 36 = .ok (.aload_n 0, 1) := by decide +kernel
theorem dX11_feed_37 : decode cX11_feed 37 = .ok (.iload 5, 2) := by decide +kernel
theorem dX11_feed_39 : decode cX11_feed 39 = .ok (.invokevirtual 125, 3) := by decide +kernel
theorem dX11_feed_42 : decode cX11_feed 42 = .ok (.aload_n 0, 1) := by decide +kernel
theorem dX11_feed_43 : decode cX11_feed 43 = .ok (.getfield 122, 3) := by decide +kernel
theorem dX11_feed_46 : decode cX11_feed 46 = .ok (.ireturn, 1) := by decide +kernel
theorem dX11_putOnTape_0 : decode cX11_putOnTape 0 = .ok (.bipush 24, 2) := by decide +kernel
theorem dX11_putOnTape_2 : decode cX11_putOnTape 2 = .ok (.istore_n 2, 1) := by decide +kernel
theorem dX11_putOnTape_3 : decode cX11_putOnTape 3 = .ok (.iload_n 2, 1) := by decide +kernel
theorem dX11_putOnTape_4 : decode cX11_putOnTape 4 = .ok (.ifCond .lt 42, 3) := by decide +kernel
theorem dX11_putOnTape_7 : decode cX11_putOnTape 7 = .ok (.aload_n 0, 1) := by decide +kernel
theorem dX11_putOnTape_8 : decode cX11_putOnTape 8 = .ok (.getfield 122, 3) := by decide +kernel
theorem dX11_putOnTape_11 : decode cX11_putOnTape 11 = .ok (.sipush 400, 3) := by decide +kernel
theorem dX11_putOnTape_14 : decode cX11_putOnTape 14 = .ok (.if_icmp .ge 32, 3) := by decide +kernel
theorem dX11_putOnTape_17 : decode cX11_putOnTape 17 = .ok (.aload_n 0, 1) := by decide +kernel
theorem dX11_putOnTape_18 : decode cX11_putOnTape 18 = .ok (.getfield 49, 3) := by decide +kernel
theorem dX11_putOnTape_21 : decode cX11_putOnTape 21 = .ok (.aload_n 0, 1) := by decide +kernel
theorem dX11_putOnTape_22 : decode cX11_putOnTape 22 = .ok (.getfield 122, 3) := by decide +kernel
theorem dX11_putOnTape_25 : decode cX11_putOnTape 25 = .ok (.iload_n 1, 1) := by decide +kernel
theorem dX11_putOnTape_26 : decode cX11_putOnTape 26 = .ok (.iload_n 2, 1) := by decide +kernel
theorem dX11_putOnTape_27 : decode cX11_putOnTape 27 = .ok (.ishr, 1) := by decide +kernel
theorem dX11_putOnTape_28 : decode cX11_putOnTape 28 = .ok (.i2b, 1) := by decide +kernel
theorem dX11_putOnTape_29 : decode cX11_putOnTape 29 = .ok (.bastore, 1) := by decide +kernel
theorem dX11_putOnTape_30 : decode cX11_putOnTape 30 = .ok (.aload_n 0, 1) := by decide +kernel
theorem dX11_putOnTape_31 : decode cX11_putOnTape 31 = .ok (.dup, 1) := by decide +kernel
theorem dX11_putOnTape_32 : decode cX11_putOnTape 32 = .ok (.getfield 122, 3) := by decide +kernel
theorem dX11_putOnTape_35 : decode cX11_putOnTape 35 = .ok (.iconst 1, 1) := by decide +kernel
theorem dX11_putOnTape_36 : decode cX11_putOnTape 36 = .ok (.iadd, 1) := by decide +kernel
theorem dX11_putOnTape_37 : decode cX11_putOnTape 37 = .ok (.putfield 122, 3) := by decide +kernel
theorem dX11_putOnTape_40 : decode cX11_putOnTape 40 = .ok (.iinc 2 (-8), 3) := by decide +kernel
theorem dX11_putOnTape_43 : decode cX11_putOnTape 43 = .ok (.goto (-40), 3) := by decide +kernel
theorem dX11_putOnTape_46 : decode cX11_putOnTape 46 = .ok (.return_, 1) := by decide +kernel
theorem dX11_rule_0 : decode cX11_rule 0 = .ok (.iload_n 1, 1) := by decide +kernel
theorem dX11_rule_1 : decode cX11_rule 1 = .ok (.iconst 0, 1) := by decide +kernel
theorem dX11_rule_2 : decode cX11_rule 2 = .ok (.aload_n 0, 1) := by decide +kernel
theorem dX11_rule_3 : decode cX11_rule 3 = .ok (.getfield 122, 3) := by decide +kernel
theorem dX11_rule_6 : decode cX11_rule 6 = .ok (.invokestatic 107, 3) := by decide +kernel
theorem dX11_rule_9 : decode cX11_rule 9 = .ok (.aload_n 0, 1) := by decide +kernel
theorem dX11_rule_10 : decode cX11_rule 10 = .ok (.iconst 0, 1) := by decide +kernel
theorem dX11_rule_11 : decode cX11_rule 11 = .ok (.putfield 122, 3) := by decide +kernel
theorem dX11_rule_14 : decode cX11_rule 14 = .ok (.aload_n 0, 1) := by decide +kernel
theorem dX11_rule_15 : decode cX11_rule 15 = .ok (.getfield 58, 3) := by decide +kernel
theorem dX11_rule_18 : decode cX11_rule 18 = .ok (.iload_n 1, 1) := by decide +kernel
theorem dX11_rule_19 : decode cX11_rule 19 = .ok (.invokevirtual 128, 3) := by decide +kernel
theorem dX11_rule_22 : decode cX11_rule 22 = .ok (.astore_n 2, 1) := by decide +kernel
theorem dX11_rule_23 : decode cX11_rule 23 = .ok (.aload_n 2, 1) := by decide +kernel
theorem dX11_rule_24 : decode cX11_rule 24 = .ok (.ifnonnull 14, 3) := by decide +kernel
theorem dX11_rule_27 : decode cX11_rule 27 = .ok (.aload_n 0, 1) := by decide +kernel
theorem dX11_rule_28 : decode cX11_rule 28 = .ok (.getfield 58, 3) := by decide +kernel
theorem dX11_rule_31 : decode cX11_rule 31 = .ok (.invokevirtual 132, 3) := by decide +kernel
theorem dX11_rule_34 : decode cX11_rule 34 = .ok (.bipush 10, 2) := by decide +kernel
theorem dX11_rule_36 : decode cX11_rule 36 = .ok (.isub, 1) := by decide +kernel
theorem dX11_rule_37 : decode cX11_rule 37 = .ok (.ireturn, 1) := by decide +kernel
theorem dX11_rule_38 : decode cX11_rule 38 = .ok (.aload_n 0, 1) := by decide +kernel
theorem dX11_rule_39 : decode cX11_rule 39 = .ok (.aload_n 2, 1) := by decide +kernel
theorem dX11_rule_40 : decode cX11_rule 40 = .ok (.putfield 65, 3) := by decide +kernel
theorem dX11_rule_43 : decode cX11_rule 43 = .ok (.aload_n 2, 1) := by decide +kernel
theorem dX11_rule_44 : decode cX11_rule 44 = .ok (.getfield 135, 3) := by decide +kernel
theorem dX11_rule_47 : decode cX11_rule 47 = .ok (.ireturn, 1) := by decide +kernel
theorem dX11_fault_0 : decode cX11_fault 0 = .ok (.aload_n 0, 1) := by decide +kernel
theorem dX11_fault_1 : decode cX11_fault 1 = .ok (.getfield 58, 3) := by decide +kernel
theorem dX11_fault_4 : decode cX11_fault 4 = .ok (.invokevirtual 138, 3) := by decide +kernel
theorem dX11_fault_7 : decode cX11_fault 7 = .ok (.ireturn, 1) := by decide +kernel
theorem dX11_counted_0 : decode cX11_counted 0 = .ok (.iload_n 1, 1) := by decide +kernel
theorem dX11_counted_1 : decode cX11_counted 1 = .ok (.iconst 0, 1) := by decide +kernel
theorem dX11_counted_2 : decode cX11_counted 2 = .ok (.ldc 114, 2) := by decide +kernel
theorem dX11_counted_4 : decode cX11_counted 4 = .ok (.invokestatic 107, 3) := by decide +kernel
theorem dX11_counted_7 : decode cX11_counted 7 = .ok (.iload_n 2, 1) := by decide +kernel
theorem dX11_counted_8 : decode cX11_counted 8 = .ok (.iconst 0, 1) := by decide +kernel
theorem dX11_counted_9 : decode cX11_counted 9 = .ok (.sipush 400, 3) := by decide +kernel
theorem dX11_counted_12 : decode cX11_counted 12 = .ok (.invokestatic 107, 3) := by decide +kernel
theorem dX11_counted_15 : decode cX11_counted 15 = .ok (.iload_n 2, 1) := by decide +kernel
theorem dX11_counted_16 : decode cX11_counted 16 = .ok (.ifCond .le 23, 3) := by decide +kernel
theorem dX11_counted_19 : decode cX11_counted 19 = .ok (.aload_n 0, 1) := by decide +kernel
theorem dX11_counted_20 : decode cX11_counted 20 = .ok (.getfield 65, 3) := by decide +kernel
theorem dX11_counted_23 : decode cX11_counted 23 = .ok (.invokevirtual 141, 3) := by decide +kernel
theorem dX11_counted_26 : decode cX11_counted 26 = .ok (.ifCond .eq 13, 3) := by decide +kernel
theorem dX11_counted_29 : decode cX11_counted 29 = .ok (.new 115, 3) := by decide +kernel
theorem dX11_counted_32 : decode cX11_counted 32 = .ok (.dup, 1) := by decide +kernel
theorem dX11_counted_33 : decode cX11_counted 33 = .ok (.ldc 145, 2) := by decide +kernel
theorem dX11_counted_35 : decode cX11_counted 35 = .ok (.invokespecial 119, 3) := by decide +kernel
theorem dX11_counted_38 : decode cX11_counted 38 = .ok (.athrow, 1) := by decide +kernel
theorem dX11_counted_39 : decode cX11_counted 39 = .ok (.aload_n 0, 1) := by decide +kernel
theorem dX11_counted_40 : decode cX11_counted 40 = .ok (.getfield 65, 3) := by decide +kernel
theorem dX11_counted_43 : decode cX11_counted 43 = .ok (.iload_n 1, 1) := by decide +kernel
theorem dX11_counted_44 : decode cX11_counted 44 = .ok (.iload_n 2, 1) := by decide +kernel
theorem dX11_counted_45 : decode cX11_counted 45 = .ok (.invokevirtual 147, 3) := by decide +kernel
theorem dX11_counted_48 : decode cX11_counted 48 = .ok (.ireturn, 1) := by decide +kernel
theorem dX11_work_0 : decode cX11_work 0 = .ok (.aload_n 0, 1) := by decide +kernel
theorem dX11_work_1 : decode cX11_work 1 = .ok (.iload_n 1, 1) := by decide +kernel
theorem dX11_work_2 : decode cX11_work 2 = .ok (.invokevirtual 92, 3) := by decide +kernel
theorem dX11_work_5 : decode cX11_work 5 = .ok (.astore 7, 2) := by decide +kernel
theorem dX11_work_7 : decode cX11_work 7 = .ok (.iload_n 2, 1) := by decide +kernel
theorem dX11_work_8 : decode cX11_work 8 = .ok (.invokestatic 96, 3) := by decide +kernel
theorem dX11_work_11 : decode cX11_work 11 = .ok (.iload_n 3, 1) := by decide +kernel
theorem dX11_work_12 : decode cX11_work 12 = .ok (.iconst 0, 1) := by decide +kernel
theorem dX11_work_13 : decode cX11_work 13 = .ok (.iconst 3, 1) := by decide +kernel
theorem dX11_work_14 : decode cX11_work 14 = .ok (.invokestatic 107, 3) := by decide +kernel
theorem dX11_work_17 : decode cX11_work 17 = .ok (.iload 4, 2) := by decide +kernel
theorem dX11_work_19 : decode cX11_work 19 = .ok (.iconst 0, 1) := by decide +kernel
theorem dX11_work_20 : decode cX11_work 20 = .ok (.sipush 9999, 3) := by decide +kernel
theorem dX11_work_23 : decode cX11_work 23 = .ok (.invokestatic 107, 3) := by decide +kernel
theorem dX11_work_26 : decode cX11_work 26 = .ok (.iload 5, 2) := by decide +kernel
theorem dX11_work_28 : decode cX11_work 28 = .ok (.iconst 0, 1) := by decide +kernel
theorem dX11_work_29 : decode cX11_work 29 = .ok (.sipush 9999, 3) := by decide +kernel
theorem dX11_work_32 : decode cX11_work 32 = .ok (.invokestatic 107, 3) := by decide +kernel
theorem dX11_work_35 : decode cX11_work 35 = .ok (.iload 6, 2) := by decide +kernel
theorem dX11_work_37 : decode cX11_work 37 = .ok (.iconst 0, 1) := by decide +kernel
theorem dX11_work_38 : decode cX11_work 38 = .ok (.sipush 9999, 3) := by decide +kernel
theorem dX11_work_41 : decode cX11_work 41 = .ok (.invokestatic 107, 3) := by decide +kernel
theorem dX11_work_44 : decode cX11_work 44 = .ok (.aload_n 0, 1) := by decide +kernel
theorem dX11_work_45 : decode cX11_work 45 = .ok (.getfield 16, 3) := by decide +kernel
theorem dX11_work_48 : decode cX11_work 48 = .ok (.invokevirtual 80, 3) := by decide +kernel
theorem dX11_work_51 : decode cX11_work 51 = .ok (.bipush 30, 2) := by decide +kernel
theorem dX11_work_53 : decode cX11_work 53 = .ok (.invokestatic 73, 3) := by decide +kernel
theorem dX11_work_56 : decode cX11_work 56 = .ok (.aload_n 0, 1) := by decide +kernel
theorem dX11_work_57 : decode cX11_work 57 = .ok (.getfield 65, 3) := by decide +kernel
theorem dX11_work_60 : decode cX11_work 60 = .ok (.invokevirtual 141, 3) := by decide +kernel
theorem dX11_work_63 : decode cX11_work 63 = .ok (.ifCond .eq 13, 3) := by decide +kernel
theorem dX11_work_66 : decode cX11_work 66 = .ok (.new 115, 3) := by decide +kernel
theorem dX11_work_69 : decode cX11_work 69 = .ok (.dup, 1) := by decide +kernel
theorem dX11_work_70 : decode cX11_work 70 = .ok (.ldc 145, 2) := by decide +kernel
theorem dX11_work_72 : decode cX11_work 72 = .ok (.invokespecial 119, 3) := by decide +kernel
theorem dX11_work_75 : decode cX11_work 75 = .ok (.athrow, 1) := by decide +kernel
theorem dX11_work_76 : decode cX11_work 76 = .ok (.aload_n 0, 1) := by decide +kernel
theorem dX11_work_77 : decode cX11_work 77 = .ok (.getfield 65, 3) := by decide +kernel
theorem dX11_work_80 : decode cX11_work 80 = .ok (.iload_n 3, 1) := by decide +kernel
theorem dX11_work_81 : decode cX11_work 81 = .ok (.iload 4, 2) := by decide +kernel
theorem dX11_work_83 : decode cX11_work 83 = .ok (.iload 5, 2) := by decide +kernel
theorem dX11_work_85 : decode cX11_work 85 = .ok (.iload 6, 2) := by decide +kernel
theorem dX11_work_87 : decode cX11_work 87 = .ok (.invokevirtual 151, 3) := by decide +kernel
theorem dX11_work_90 : decode cX11_work 90 = .ok (.istore 8, 2) := by decide +kernel
theorem dX11_work_92 : decode cX11_work 92 = .ok (.aload_n 0, 1) := by decide +kernel
theorem dX11_work_93 : decode cX11_work 93 = .ok (.getfield 16, 3) := by decide +kernel
theorem dX11_work_96 : decode cX11_work 96 = .ok (.new 155, 3) := by decide +kernel
theorem dX11_work_99 : decode cX11_work 99 = .ok (.dup, 1) := by decide +kernel
theorem dX11_work_100 : decode cX11_work 100 = .ok (.aload 7, 2) := by decide +kernel
theorem dX11_work_102 : decode cX11_work 102 = .ok (.iload_n 2, 1) := by decide +kernel
theorem dX11_work_103 : decode cX11_work 103 = .ok (.iload_n 3, 1) := by decide +kernel
theorem dX11_work_104 : decode cX11_work 104 = .ok (.aload_n 0, 1) := by decide +kernel
theorem dX11_work_105 : decode cX11_work 105 = .ok (.getfield 65, 3) := by decide +kernel
theorem dX11_work_108 : decode cX11_work 108 = .ok (.iload 8, 2) := by decide +kernel
theorem dX11_work_110 : decode cX11_work 110 = .ok (.invokespecial 157, 3) := by decide +kernel
theorem dX11_work_113 : decode cX11_work 113 = .ok (.invokevirtual 88, 3) := by decide +kernel
theorem dX11_work_116 : decode cX11_work 116 = .ok (.pop, 1) := by decide +kernel
theorem dX11_work_117 : decode cX11_work 117 = .ok (.aload_n 0, 1) := by decide +kernel
theorem dX11_work_118 : decode cX11_work 118 = .ok (.getfield 16, 3) := by decide +kernel
theorem dX11_work_121 : decode cX11_work 121 = .ok (.invokevirtual 80, 3) := by decide +kernel
theorem dX11_work_124 : decode cX11_work 124 = .ok (.iconst 1, 1) := by decide +kernel
theorem dX11_work_125 : decode cX11_work 125 = .ok (.isub, 1) := by decide +kernel
theorem dX11_work_126 : decode cX11_work 126 = .ok (.ireturn, 1) := by decide +kernel
theorem dX11_state_0 : decode cX11_state 0 = .ok (.aload_n 0, 1) := by decide +kernel
theorem dX11_state_1 : decode cX11_state 1 = .ok (.iload_n 1, 1) := by decide +kernel
theorem dX11_state_2 : decode cX11_state 2 = .ok (.invokevirtual 160, 3) := by decide +kernel
theorem dX11_state_5 : decode cX11_state 5 = .ok (.getfield 164, 3) := by decide +kernel
theorem dX11_state_8 : decode cX11_state 8 = .ok (.ireturn, 1) := by decide +kernel
theorem dX11_notice_0 : decode cX11_notice 0 = .ok (.aload_n 0, 1) := by decide +kernel
theorem dX11_notice_1 : decode cX11_notice 1 = .ok (.iload_n 1, 1) := by decide +kernel
theorem dX11_notice_2 : decode cX11_notice 2 = .ok (.invokevirtual 160, 3) := by decide +kernel
theorem dX11_notice_5 : decode cX11_notice 5 = .ok (.astore_n 2, 1) := by decide +kernel
theorem dX11_notice_6 : decode cX11_notice 6 = .ok (.aload_n 2, 1) := by decide +kernel
theorem dX11_notice_7 : decode cX11_notice 7 = .ok (.getfield 164, 3) := by decide +kernel
theorem dX11_notice_10 : decode cX11_notice 10 = .ok (.ifCond .eq 5, 3) := by decide +kernel
theorem dX11_notice_13 : decode cX11_notice 13 = .ok (.iconst (-1), 1) := by decide +kernel
theorem dX11_notice_14 : decode cX11_notice 14 = .ok (.ireturn, 1) := by decide +kernel
theorem dX11_notice_15 : decode cX11_notice 15 = .ok (.aload_n 2, 1) := by decide +kernel
theorem dX11_notice_16 : decode cX11_notice 16 = .ok (.aload_n 0, 1) := by decide +kernel
theorem dX11_notice_17 : decode cX11_notice 17 = .ok (.getfield 111, 3) := by decide +kernel
theorem dX11_notice_20 : decode cX11_notice 20 = .ok (.invokevirtual 167, 3) := by decide +kernel
theorem dX11_notice_23 : decode cX11_notice 23 = .ok (.aload_n 2, 1) := by decide +kernel
theorem dX11_notice_24 : decode cX11_notice 24 = .ok (.getfield 170, 3) := by decide +kernel
theorem dX11_notice_27 : decode cX11_notice 27 = .ok (.ireturn, 1) := by decide +kernel
theorem dX11_answer_0 : decode cX11_answer 0 = .ok (.aload_n 0, 1) := by decide +kernel
theorem dX11_answer_1 : decode cX11_answer 1 = .ok (.iload_n 1, 1) := by decide +kernel
theorem dX11_answer_2 : decode cX11_answer 2 = .ok (.invokevirtual 160, 3) := by decide +kernel
theorem dX11_answer_5 : decode cX11_answer 5 = .ok (.astore_n 3, 1) := by decide +kernel
theorem dX11_answer_6 : decode cX11_answer 6 = .ok (.aload_n 3, 1) := by decide +kernel
theorem dX11_answer_7 : decode cX11_answer 7 = .ok (.getfield 164, 3) := by decide +kernel
theorem dX11_answer_10 : decode cX11_answer 10 = .ok (.iconst 2, 1) := by decide +kernel
theorem dX11_answer_11 : decode cX11_answer 11 = .ok (.if_icmp .eq 5, 3) := by decide +kernel
theorem dX11_answer_14 : decode cX11_answer 14 = .ok (.iconst (-1), 1) := by decide +kernel
theorem dX11_answer_15 : decode cX11_answer 15 = .ok (.ireturn, 1) := by decide +kernel
theorem dX11_answer_16 : decode cX11_answer 16 = .ok (.aload_n 0, 1) := by decide +kernel
theorem dX11_answer_17 : decode cX11_answer 17 = .ok (.getfield 111, 3) := by decide +kernel
theorem dX11_answer_20 : decode cX11_answer 20 = .ok (.aload_n 3, 1) := by decide +kernel
theorem dX11_answer_21 : decode cX11_answer 21 = .ok (.getfield 170, 3) := by decide +kernel
theorem dX11_answer_24 : decode cX11_answer 24 = .ok (.if_icmp .ge 6, 3) := by decide +kernel
theorem dX11_answer_27 : decode cX11_answer 27 = .ok (.bipush (-2), 2) := by decide +kernel
theorem dX11_answer_29 : decode cX11_answer 29 = .ok (.ireturn, 1) := by decide +kernel
theorem dX11_answer_30 : decode cX11_answer 30 = .ok (.iload_n 2, 1) := by decide +kernel
theorem dX11_answer_31 : decode cX11_answer 31 = .ok (.ifCond .eq 10, 3) := by decide +kernel
theorem dX11_answer_34 : decode cX11_answer 34 = .ok (.aload_n 3, 1) := by decide +kernel
theorem dX11_answer_35 : decode cX11_answer 35 = .ok (.invokevirtual 173, 3) := by decide +kernel
theorem dX11_answer_38 : decode cX11_answer 38 = .ok (.goto 11, 3) := by decide +kernel
theorem dX11_answer_41 : decode cX11_answer 41 = .ok (.aload_n 3, 1) := by decide +kernel
theorem dX11_answer_42 : decode cX11_answer 42 = .ok (.aload_n 0, 1) := by decide +kernel
theorem dX11_answer_43 : decode cX11_answer 43 = .ok (.getfield 111, 3) := by decide +kernel
theorem dX11_answer_46 : decode cX11_answer 46 = .ok (.invokevirtual 176, 3) := by decide +kernel
theorem dX11_answer_49 : decode cX11_answer 49 = .ok (.iconst 1, 1) := by decide +kernel
theorem dX11_answer_50 : decode cX11_answer 50 = .ok (.ireturn, 1) := by decide +kernel
theorem dX11_told_0 : decode cX11_told 0 = .ok (.aload_n 0, 1) := by decide +kernel
theorem dX11_told_1 : decode cX11_told 1 = .ok (.iload_n 1, 1) := by decide +kernel
theorem dX11_told_2 : decode cX11_told 2 = .ok (.invokevirtual 160, 3) := by decide +kernel
theorem dX11_told_5 : decode cX11_told 5 = .ok (.astore_n 3, 1) := by decide +kernel
theorem dX11_told_6 : decode cX11_told 6 = .ok (.iload_n 2, 1) := by decide +kernel
theorem dX11_told_7 : decode cX11_told 7 = .ok (.iconst 0, 1) := by decide +kernel
theorem dX11_told_8 : decode cX11_told 8 = .ok (.bipush 7, 2) := by decide +kernel
theorem dX11_told_10 : decode cX11_told 10 = .ok (.invokestatic 107, 3) := by decide +kernel
theorem dX11_told_13 : decode cX11_told 13 = .ok (.iload_n 2, 1) := by decide +kernel
theorem dX11_told_14 : decode cX11_told 14 = .ok (.tableswitch 112 0 6 #[42, 47, 64, 69, 74, 79, 96], 42) := by decide +kernel
theorem dX11_told_56 : decode cX11_told 56 = .ok (.aload_n 3, 1) := by decide +kernel
theorem dX11_told_57 : decode cX11_told 57 = .ok (.getfield 179, 3) := by decide +kernel
theorem dX11_told_60 : decode cX11_told 60 = .ok (.ireturn, 1) := by decide +kernel
theorem dX11_told_61 : decode cX11_told 61 = .ok (.aload_n 3, 1) := by decide +kernel
theorem dX11_told_62 : decode cX11_told 62 = .ok (.getfield 164, 3) := by decide +kernel
theorem dX11_told_65 : decode cX11_told 65 = .ok (.iconst 4, 1) := by decide +kernel
theorem dX11_told_66 : decode cX11_told 66 = .ok (.if_icmp .ne 10, 3) := by decide +kernel
theorem dX11_told_69 : decode cX11_told 69 = .ok (.aload_n 3, 1) := by decide +kernel
theorem dX11_told_70 : decode cX11_told 70 = .ok (.getfield 182, 3) := by decide +kernel
theorem dX11_told_73 : decode cX11_told 73 = .ok (.goto 4, 3) := by decide +kernel
theorem dX11_told_76 : decode cX11_told 76 = .ok (.iconst (-1), 1) := by decide +kernel
theorem dX11_told_77 : decode cX11_told 77 = .ok (.ireturn, 1) := by decide +kernel
theorem dX11_told_78 : decode cX11_told 78 = .ok (.aload_n 3, 1) := by decide +kernel
theorem dX11_told_79 : decode cX11_told 79 = .ok (.invokevirtual 185, 3) := by decide +kernel
theorem dX11_told_82 : decode cX11_told 82 = .ok (.ireturn, 1) := by decide +kernel
theorem dX11_told_83 : decode cX11_told 83 = .ok (.aload_n 3, 1) := by decide +kernel
theorem dX11_told_84 : decode cX11_told 84 = .ok (.invokevirtual 188, 3) := by decide +kernel
theorem dX11_told_87 : decode cX11_told 87 = .ok (.ireturn, 1) := by decide +kernel
theorem dX11_told_88 : decode cX11_told 88 = .ok (.aload_n 3, 1) := by decide +kernel
theorem dX11_told_89 : decode cX11_told 89 = .ok (.invokevirtual 191, 3) := by decide +kernel
theorem dX11_told_92 : decode cX11_told 92 = .ok (.ireturn, 1) := by decide +kernel
theorem dX11_told_93 : decode cX11_told 93 = .ok (.aload_n 3, 1) := by decide +kernel
theorem dX11_told_94 : decode cX11_told 94 = .ok (.getfield 164, 3) := by decide +kernel
theorem dX11_told_97 : decode cX11_told 97 = .ok (.iconst 2, 1) := by decide +kernel
theorem dX11_told_98 : decode cX11_told 98 = .ok (.if_icmp .ne 10, 3) := by decide +kernel
theorem dX11_told_101 : decode cX11_told 101 = .ok (.aload_n 3, 1) := by decide +kernel
theorem dX11_told_102 : decode cX11_told 102 = .ok (.getfield 194, 3) := by decide +kernel
theorem dX11_told_105 : decode cX11_told 105 = .ok (.goto 4, 3) := by decide +kernel
theorem dX11_told_108 : decode cX11_told 108 = .ok (.iconst (-1), 1) := by decide +kernel
theorem dX11_told_109 : decode cX11_told 109 = .ok (.ireturn, 1) := by decide +kernel
theorem dX11_told_110 : decode cX11_told 110 = .ok (.aload_n 3, 1) := by decide +kernel
theorem dX11_told_111 : decode cX11_told 111 = .ok (.invokevirtual 197, 3) := by decide +kernel
theorem dX11_told_114 : decode cX11_told 114 = .ok (.ifCond .eq 10, 3) := by decide +kernel
theorem dX11_told_117 : decode cX11_told 117 = .ok (.aload_n 3, 1) := by decide +kernel
theorem dX11_told_118 : decode cX11_told 118 = .ok (.invokevirtual 200, 3) := by decide +kernel
theorem dX11_told_121 : decode cX11_told 121 = .ok (.goto 4, 3) := by decide +kernel
theorem dX11_told_124 : decode cX11_told 124 = .ok (.iconst (-1), 1) := by decide +kernel
theorem dX11_told_125 : decode cX11_told 125 = .ok (.ireturn, 1) := by decide +kernel
theorem dX11_told_126 : decode cX11_told 126 = .ok (.aload_n 3, 1) := by decide +kernel
theorem dX11_told_127 : decode cX11_told 127 = .ok (.getfield 203, 3) := by decide +kernel
theorem dX11_told_130 : decode cX11_told 130 = .ok (.ireturn, 1) := by decide +kernel
theorem dX11_surveyor_0 : decode cX11_surveyor 0 = .ok (.iload_n 1, 1) := by decide +kernel
theorem dX11_surveyor_1 : decode cX11_surveyor 1 = .ok (.iconst 0, 1) := by decide +kernel
theorem dX11_surveyor_2 : decode cX11_surveyor 2 = .ok (.iconst 1, 1) := by decide +kernel
theorem dX11_surveyor_3 : decode cX11_surveyor 3 = .ok (.aload_n 0, 1) := by decide +kernel
theorem dX11_surveyor_4 : decode cX11_surveyor 4 = .ok (.getfield 69, 3) := by decide +kernel
theorem dX11_surveyor_7 : decode cX11_surveyor 7 = .ok (.ishl, 1) := by decide +kernel
theorem dX11_surveyor_8 : decode cX11_surveyor 8 = .ok (.iconst 1, 1) := by decide +kernel
theorem dX11_surveyor_9 : decode cX11_surveyor 9 = .ok (.isub, 1) := by decide +kernel
theorem dX11_surveyor_10 : decode cX11_surveyor 10 = .ok (.invokestatic 107, 3) := by decide +kernel
theorem dX11_surveyor_13 : decode cX11_surveyor 13 = .ok (.aload_n 0, 1) := by decide +kernel
theorem dX11_surveyor_14 : decode cX11_surveyor 14 = .ok (.getfield 206, 3) := by decide +kernel
theorem dX11_surveyor_17 : decode cX11_surveyor 17 = .ok (.bipush 12, 2) := by decide +kernel
theorem dX11_surveyor_19 : decode cX11_surveyor 19 = .ok (.invokestatic 73, 3) := by decide +kernel
theorem dX11_surveyor_22 : decode cX11_surveyor 22 = .ok (.aload_n 0, 1) := by decide +kernel
theorem dX11_surveyor_23 : decode cX11_surveyor 23 = .ok (.getfield 25, 3) := by decide +kernel
theorem dX11_surveyor_26 : decode cX11_surveyor 26 = .ok (.aload_n 0, 1) := by decide +kernel
theorem dX11_surveyor_27 : decode cX11_surveyor 27 = .ok (.getfield 206, 3) := by decide +kernel
theorem dX11_surveyor_30 : decode cX11_surveyor 30 = .ok (.iload_n 1, 1) := by decide +kernel
theorem dX11_surveyor_31 : decode cX11_surveyor 31 = .ok (.iastore, 1) := by decide +kernel
theorem dX11_surveyor_32 : decode cX11_surveyor 32 = .ok (.aload_n 0, 1) := by decide +kernel
theorem dX11_surveyor_33 : decode cX11_surveyor 33 = .ok (.dup, 1) := by decide +kernel
theorem dX11_surveyor_34 : decode cX11_surveyor 34 = .ok (.getfield 206, 3) := by decide +kernel
theorem dX11_surveyor_37 : decode cX11_surveyor 37 = .ok (.iconst 1, 1) := by decide +kernel
theorem dX11_surveyor_38 : decode cX11_surveyor 38 = .ok (.iadd, 1) := by decide +kernel
theorem dX11_surveyor_39 : decode cX11_surveyor 39 = .ok (.putfield 206, 3) := by decide +kernel
theorem dX11_surveyor_42 : decode cX11_surveyor 42 = .ok (.aload_n 0, 1) := by decide +kernel
theorem dX11_surveyor_43 : decode cX11_surveyor 43 = .ok (.getfield 206, 3) := by decide +kernel
theorem dX11_surveyor_46 : decode cX11_surveyor 46 = .ok (.iconst 1, 1) := by decide +kernel
theorem dX11_surveyor_47 : decode cX11_surveyor 47 = .ok (.isub, 1) := by decide +kernel
theorem dX11_surveyor_48 : decode cX11_surveyor 48 = .ok (.ireturn, 1) := by decide +kernel
theorem dX11_appoint_0 : decode cX11_appoint 0 = .ok (.aload_n 0, 1) := by decide +kernel
theorem dX11_appoint_1 : decode cX11_appoint 1 = .ok (.iload_n 1, 1) := by decide +kernel
theorem dX11_appoint_2 : decode cX11_appoint 2 = .ok (.invokevirtual 160, 3) := by decide +kernel
theorem dX11_appoint_5 : decode cX11_appoint 5 = .ok (.astore 5, 2) := by decide +kernel
theorem dX11_appoint_7 : decode cX11_appoint 7 = .ok (.iload_n 3, 1) := by decide +kernel
theorem dX11_appoint_8 : decode cX11_appoint 8 = .ok (.aload_n 0, 1) := by decide +kernel
theorem dX11_appoint_9 : decode cX11_appoint 9 = .ok (.getfield 206, 3) := by decide +kernel
theorem dX11_appoint_12 : decode cX11_appoint 12 = .ok (.invokestatic 77, 3) := by decide +kernel
theorem dX11_appoint_15 : decode cX11_appoint 15 = .ok (.iload_n 2, 1) := by decide +kernel
theorem dX11_appoint_16 : decode cX11_appoint 16 = .ok (.invokestatic 96, 3) := by decide +kernel
theorem dX11_appoint_19 : decode cX11_appoint 19 = .ok (.iload 4, 2) := by decide +kernel
theorem dX11_appoint_21 : decode cX11_appoint 21 = .ok (.invokestatic 96, 3) := by decide +kernel
theorem dX11_appoint_24 : decode cX11_appoint 24 = .ok (.aload 5, 2) := by decide +kernel
theorem dX11_appoint_26 : decode cX11_appoint 26 = .ok (.getfield 164, 3) := by decide +kernel
theorem dX11_appoint_29 : decode cX11_appoint 29 = .ok (.iconst 4, 1) := by decide +kernel
theorem dX11_appoint_30 : decode cX11_appoint 30 = .ok (.if_icmp .eq 5, 3) := by decide +kernel
theorem dX11_appoint_33 : decode cX11_appoint 33 = .ok (.iconst (-1), 1) := by decide +kernel
theorem dX11_appoint_34 : decode cX11_appoint 34 = .ok (.ireturn, 1) := by decide +kernel
theorem dX11_appoint_35 : decode cX11_appoint 35 = .ok (.aload 5, 2) := by decide +kernel
theorem dX11_appoint_37 : decode cX11_appoint 37 = .ok (.getfield 209, 3) := by decide +kernel
theorem dX11_appoint_40 : decode cX11_appoint 40 = .ok (.iload_n 2, 1) := by decide +kernel
theorem dX11_appoint_41 : decode cX11_appoint 41 = .ok (.iaload, 1) := by decide +kernel
theorem dX11_appoint_42 : decode cX11_appoint 42 = .ok (.iconst (-1), 1) := by decide +kernel
theorem dX11_appoint_43 : decode cX11_appoint 43 = .ok (.if_icmp .eq 6, 3) := by decide +kernel
theorem dX11_appoint_46 : decode cX11_appoint 46 = .ok (.bipush (-2), 2) := by decide +kernel
theorem dX11_appoint_48 : decode cX11_appoint 48 = .ok (.ireturn, 1) := by decide +kernel
theorem dX11_appoint_49 : decode cX11_appoint 49 = .ok (.iload 4, 2) := by decide +kernel
theorem dX11_appoint_51 : decode cX11_appoint 51 = .ok (.iload_n 2, 1) := by decide +kernel
theorem dX11_appoint_52 : decode cX11_appoint 52 = .ok (.if_icmp .eq 18, 3) := by decide +kernel
theorem dX11_appoint_55 : decode cX11_appoint 55 = .ok (.aload_n 0, 1) := by decide +kernel
theorem dX11_appoint_56 : decode cX11_appoint 56 = .ok (.getfield 111, 3) := by decide +kernel
theorem dX11_appoint_59 : decode cX11_appoint 59 = .ok (.aload 5, 2) := by decide +kernel
theorem dX11_appoint_61 : decode cX11_appoint 61 = .ok (.invokevirtual 211, 3) := by decide +kernel
theorem dX11_appoint_64 : decode cX11_appoint 64 = .ok (.if_icmp .gt 6, 3) := by decide +kernel
theorem dX11_appoint_67 : decode cX11_appoint 67 = .ok (.bipush (-3), 2) := by decide +kernel
theorem dX11_appoint_69 : decode cX11_appoint 69 = .ok (.ireturn, 1) := by decide +kernel
theorem dX11_appoint_70 : decode cX11_appoint 70 = .ok (.aload_n 0, 1) := by decide +kernel
theorem dX11_appoint_71 : decode cX11_appoint 71 = .ok (.iload_n 3, 1) := by decide +kernel
theorem dX11_appoint_72 : decode cX11_appoint 72 = .ok (.aload 5, 2) := by decide +kernel
theorem dX11_appoint_74 : decode cX11_appoint 74 = .ok (.getfield 214, 3) := by decide +kernel
theorem dX11_appoint_77 : decode cX11_appoint 77 = .ok (.invokevirtual 218, 3) := by decide +kernel
theorem dX11_appoint_80 : decode cX11_appoint 80 = .ok (.ifCond .eq 6, 3) := by decide +kernel
theorem dX11_appoint_83 : decode cX11_appoint 83 = .ok (.bipush (-4), 2) := by decide +kernel
theorem dX11_appoint_85 : decode cX11_appoint 85 = .ok (.ireturn, 1) := by decide +kernel
theorem dX11_appoint_86 : decode cX11_appoint 86 = .ok (.aload 5, 2) := by decide +kernel
theorem dX11_appoint_88 : decode cX11_appoint 88 = .ok (.getfield 209, 3) := by decide +kernel
theorem dX11_appoint_91 : decode cX11_appoint 91 = .ok (.iconst 1, 1) := by decide +kernel
theorem dX11_appoint_92 : decode cX11_appoint 92 = .ok (.iload_n 2, 1) := by decide +kernel
theorem dX11_appoint_93 : decode cX11_appoint 93 = .ok (.isub, 1) := by decide +kernel
theorem dX11_appoint_94 : decode cX11_appoint 94 = .ok (.iaload, 1) := by decide +kernel
theorem dX11_appoint_95 : decode cX11_appoint 95 = .ok (.iload_n 3, 1) := by decide +kernel
theorem dX11_appoint_96 : decode cX11_appoint 96 = .ok (.if_icmp .ne 6, 3) := by decide +kernel
theorem dX11_appoint_99 : decode cX11_appoint 99 = .ok (.bipush (-5), 2) := by decide +kernel
theorem dX11_appoint_101 : decode cX11_appoint 101 = .ok (.ireturn, 1) := by decide +kernel
theorem dX11_appoint_102 : decode cX11_appoint 102 = .ok (.aload 5, 2) := by decide +kernel
theorem dX11_appoint_104 : decode cX11_appoint 104 = .ok (.getfield 209, 3) := by decide +kernel
theorem dX11_appoint_107 : decode cX11_appoint 107 = .ok (.iload_n 2, 1) := by decide +kernel
theorem dX11_appoint_108 : decode cX11_appoint 108 = .ok (.iload_n 3, 1) := by decide +kernel
theorem dX11_appoint_109 : decode cX11_appoint 109 = .ok (.iastore, 1) := by decide +kernel
theorem dX11_appoint_110 : decode cX11_appoint 110 = .ok (.aload 5, 2) := by decide +kernel
theorem dX11_appoint_112 : decode cX11_appoint 112 = .ok (.getfield 209, 3) := by decide +kernel
theorem dX11_appoint_115 : decode cX11_appoint 115 = .ok (.iconst 1, 1) := by decide +kernel
theorem dX11_appoint_116 : decode cX11_appoint 116 = .ok (.iload_n 2, 1) := by decide +kernel
theorem dX11_appoint_117 : decode cX11_appoint 117 = .ok (.isub, 1) := by decide +kernel
theorem dX11_appoint_118 : decode cX11_appoint 118 = .ok (.iaload, 1) := by decide +kernel
theorem dX11_appoint_119 : decode cX11_appoint 119 = .ok (.iconst (-1), 1) := by decide +kernel
theorem dX11_appoint_120 : decode cX11_appoint 120 = .ok (.if_icmp .eq 9, 3) := by decide +kernel
theorem dX11_appoint_123 : decode cX11_appoint 123 = .ok (.aload_n 0, 1) := by decide +kernel
theorem dX11_appoint_124 : decode cX11_appoint 124 = .ok (.aload 5, 2) := by decide +kernel
theorem dX11_appoint_126 : decode cX11_appoint 126 = .ok (.invokevirtual 222, 3) := by decide +kernel
theorem dX11_appoint_129 : decode cX11_appoint 129 = .ok (.iconst 1, 1) := by decide +kernel
theorem dX11_appoint_130 : decode cX11_appoint 130 = .ok (.ireturn, 1) := by decide +kernel
theorem dX11_isBarred_0 : decode cX11_isBarred 0 = .ok (.aload_n 0, 1) := by decide +kernel
theorem dX11_isBarred_1 : decode cX11_isBarred 1 = .ok (.getfield 25, 3) := by decide +kernel
theorem dX11_isBarred_4 : decode cX11_isBarred 4 = .ok (.iload_n 1, 1) := by decide +kernel
theorem dX11_isBarred_5 : decode cX11_isBarred 5 = .ok (.iaload, 1) := by decide +kernel
theorem dX11_isBarred_6 : decode cX11_isBarred 6 = .ok (.aload_n 2, 1) := by decide +kernel
theorem dX11_isBarred_7 : decode cX11_isBarred 7 = .ok (.iconst 0, 1) := by decide +kernel
theorem dX11_isBarred_8 : decode cX11_isBarred 8 = .ok (.invokevirtual 100, 3) := by decide +kernel
theorem dX11_isBarred_11 : decode cX11_isBarred 11 = .ok (.ishr, 1) := by decide +kernel
theorem dX11_isBarred_12 : decode cX11_isBarred 12 = .ok (.iconst 1, 1) := by decide +kernel
theorem dX11_isBarred_13 : decode cX11_isBarred 13 = .ok (.iand, 1) := by decide +kernel
theorem dX11_isBarred_14 : decode cX11_isBarred 14 = .ok (.iconst 1, 1) := by decide +kernel
theorem dX11_isBarred_15 : decode cX11_isBarred 15 = .ok (.if_icmp .eq 21, 3) := by decide +kernel
theorem dX11_isBarred_18 : decode cX11_isBarred 18 = .ok (.aload_n 0, 1) := by decide +kernel
theorem dX11_isBarred_19 : decode cX11_isBarred 19 = .ok (.getfield 25, 3) := by decide +kernel
theorem dX11_isBarred_22 : decode cX11_isBarred 22 = .ok (.iload_n 1, 1) := by decide +kernel
theorem dX11_isBarred_23 : decode cX11_isBarred 23 = .ok (.iaload, 1) := by decide +kernel
theorem dX11_isBarred_24 : decode cX11_isBarred 24 = .ok (.aload_n 2, 1) := by decide +kernel
theorem dX11_isBarred_25 : decode cX11_isBarred 25 = .ok (.iconst 1, 1) := by decide +kernel
theorem dX11_isBarred_26 : decode cX11_isBarred 26 = .ok (.invokevirtual 100, 3) := by decide +kernel
theorem dX11_isBarred_29 : decode cX11_isBarred 29 = .ok (.ishr, 1) := by decide +kernel
theorem dX11_isBarred_30 : decode cX11_isBarred 30 = .ok (.iconst 1, 1) := by decide +kernel
theorem dX11_isBarred_31 : decode cX11_isBarred 31 = .ok (.iand, 1) := by decide +kernel
theorem dX11_isBarred_32 : decode cX11_isBarred 32 = .ok (.iconst 1, 1) := by decide +kernel
theorem dX11_isBarred_33 : decode cX11_isBarred 33 = .ok (.if_icmp .ne 7, 3) := by decide +kernel
theorem dX11_isBarred_36 : decode cX11_isBarred 36 = .ok (.iconst 1, 1) := by decide +kernel
theorem dX11_isBarred_37 : decode cX11_isBarred 37 = .ok (.goto 4, 3) := by decide +kernel
theorem dX11_isBarred_40 : decode cX11_isBarred 40 = .ok (.iconst 0, 1) := by decide +kernel
theorem dX11_isBarred_41 : decode cX11_isBarred 41 = .ok (.ireturn, 1) := by decide +kernel
theorem dX11_chooseThird_0 : decode cX11_chooseThird 0 = .ok (.iconst (-1), 1) := by decide +kernel
theorem dX11_chooseThird_1 : decode cX11_chooseThird 1 = .ok (.istore_n 2, 1) := by decide +kernel
theorem dX11_chooseThird_2 : decode cX11_chooseThird 2 = .ok (.iconst 0, 1) := by decide +kernel
theorem dX11_chooseThird_3 : decode cX11_chooseThird 3 = .ok (.istore_n 3, 1) := by decide +kernel
theorem dX11_chooseThird_4 : decode cX11_chooseThird 4 = .ok (.iload_n 3, 1) := by decide +kernel
theorem dX11_chooseThird_5 : decode cX11_chooseThird 5 = .ok (.aload_n 0, 1) := by decide +kernel
theorem dX11_chooseThird_6 : decode cX11_chooseThird 6 = .ok (.getfield 206, 3) := by decide +kernel
theorem dX11_chooseThird_9 : decode cX11_chooseThird 9 = .ok (.if_icmp .ge 75, 3) := by decide +kernel
theorem dX11_chooseThird_12 : decode cX11_chooseThird 12 = .ok (.iload_n 3, 1) := by decide +kernel
theorem dX11_chooseThird_13 : decode cX11_chooseThird 13 = .ok (.aload_n 1, 1) := by decide +kernel
theorem dX11_chooseThird_14 : decode cX11_chooseThird 14 = .ok (.getfield 209, 3) := by decide +kernel
theorem dX11_chooseThird_17 : decode cX11_chooseThird 17 = .ok (.iconst 0, 1) := by decide +kernel
theorem dX11_chooseThird_18 : decode cX11_chooseThird 18 = .ok (.iaload, 1) := by decide +kernel
theorem dX11_chooseThird_19 : decode cX11_chooseThird 19 = .ok (.if_icmp .eq 29, 3) := by decide +kernel
theorem dX11_chooseThird_22 : decode cX11_chooseThird 22 = .ok (.iload_n 3, 1) := by decide +kernel
theorem dX11_chooseThird_23 : decode cX11_chooseThird 23 = .ok (.aload_n 1, 1) := by decide +kernel
theorem dX11_chooseThird_24 : decode cX11_chooseThird 24 = .ok (.getfield 209, 3) := by decide +kernel
theorem dX11_chooseThird_27 : decode cX11_chooseThird 27 = .ok (.iconst 1, 1) := by decide +kernel
theorem dX11_chooseThird_28 : decode cX11_chooseThird 28 = .ok (.iaload, 1) := by decide +kernel
theorem dX11_chooseThird_29 : decode cX11_chooseThird 29 = .ok (.if_icmp .eq 19, 3) := by decide +kernel
theorem dX11_chooseThird_32 : decode cX11_chooseThird 32 = .ok (.aload_n 0, 1) := by decide +kernel
theorem dX11_chooseThird_33 : decode cX11_chooseThird 33 = .ok (.iload_n 3, 1) := by decide +kernel
theorem dX11_chooseThird_34 : decode cX11_chooseThird 34 = .ok (.aload_n 1, 1) := by decide +kernel
theorem dX11_chooseThird_35 : decode cX11_chooseThird 35 = .ok (.getfield 214, 3) := by decide +kernel
theorem dX11_chooseThird_38 : decode cX11_chooseThird 38 = .ok (.invokevirtual 218, 3) := by decide +kernel
theorem dX11_chooseThird_41 : decode cX11_chooseThird 41 = .ok (.ifCond .ne 7, 3) := by decide +kernel
theorem dX11_chooseThird_44 : decode cX11_chooseThird 44 = .ok (.iconst 1, 1) := by decide +kernel
theorem dX11_chooseThird_45 : decode cX11_chooseThird 45 = .ok (.goto 4, 3) := by decide +kernel
theorem dX11_chooseThird_48 : decode cX11_chooseThird 48 = .ok (.iconst 0, 1) := by decide +kernel
theorem dX11_chooseThird_49 : decode cX11_chooseThird 49 = .ok (.istore 4, 2) := by decide +kernel
theorem dX11_chooseThird_51 : decode cX11_chooseThird 51 = .ok (.iload 4, 2) := by decide +kernel
theorem dX11_chooseThird_53 : decode cX11_chooseThird 53 = .ok (.ifCond .eq 25, 3) := by decide +kernel
theorem dX11_chooseThird_56 : decode cX11_chooseThird 56 = .ok (.iload_n 2, 1) := by decide +kernel
theorem dX11_chooseThird_57 : decode cX11_chooseThird 57 = .ok (.iconst (-1), 1) := by decide +kernel
theorem dX11_chooseThird_58 : decode cX11_chooseThird 58 = .ok (.if_icmp .eq 18, 3) := by decide +kernel
theorem dX11_chooseThird_61 : decode cX11_chooseThird 61 = .ok (.aload_n 0, 1) := by decide +kernel
theorem dX11_chooseThird_62 : decode cX11_chooseThird 62 = .ok (.getfield 29, 3) := by decide +kernel
theorem dX11_chooseThird_65 : decode cX11_chooseThird 65 = .ok (.iload_n 3, 1) := by decide +kernel
theorem dX11_chooseThird_66 : decode cX11_chooseThird 66 = .ok (.iaload, 1) := by decide +kernel
theorem dX11_chooseThird_67 : decode cX11_chooseThird 67 = .ok (.aload_n 0, 1) := by decide +kernel
theorem dX11_chooseThird_68 : decode cX11_chooseThird 68 = .ok (.getfield 29, 3) := by decide +kernel
theorem dX11_chooseThird_71 : decode cX11_chooseThird 71 = .ok (.iload_n 2, 1) := by decide +kernel
theorem dX11_chooseThird_72 : decode cX11_chooseThird 72 = .ok (.iaload, 1) := by decide +kernel
theorem dX11_chooseThird_73 : decode cX11_chooseThird 73 = .ok (.if_icmp .ge 5, 3) := by decide +kernel
theorem dX11_chooseThird_76 : decode cX11_chooseThird 76 = .ok (.iload_n 3, 1) := by decide +kernel
theorem dX11_chooseThird_77 : decode cX11_chooseThird 77 = .ok (.istore_n 2, 1) := by decide +kernel
theorem dX11_chooseThird_78 : decode cX11_chooseThird 78 = .ok (.iinc 3 1, 3) := by decide +kernel
theorem dX11_chooseThird_81 : decode cX11_chooseThird 81 = .ok (.goto (-77), 3) := by decide +kernel
theorem dX11_chooseThird_84 : decode cX11_chooseThird 84 = .ok (.iload_n 2, 1) := by decide +kernel
theorem dX11_chooseThird_85 : decode cX11_chooseThird 85 = .ok (.iconst (-1), 1) := by decide +kernel
theorem dX11_chooseThird_86 : decode cX11_chooseThird 86 = .ok (.if_icmp .eq 13, 3) := by decide +kernel
theorem dX11_chooseThird_89 : decode cX11_chooseThird 89 = .ok (.aload_n 0, 1) := by decide +kernel
theorem dX11_chooseThird_90 : decode cX11_chooseThird 90 = .ok (.getfield 29, 3) := by decide +kernel
theorem dX11_chooseThird_93 : decode cX11_chooseThird 93 = .ok (.iload_n 2, 1) := by decide +kernel
theorem dX11_chooseThird_94 : decode cX11_chooseThird 94 = .ok (.dup2, 1) := by decide +kernel
theorem dX11_chooseThird_95 : decode cX11_chooseThird 95 = .ok (.iaload, 1) := by decide +kernel
theorem dX11_chooseThird_96 : decode cX11_chooseThird 96 = .ok (.iconst 1, 1) := by decide +kernel
theorem dX11_chooseThird_97 : decode cX11_chooseThird 97 = .ok (.iadd, 1) := by decide +kernel
theorem dX11_chooseThird_98 : decode cX11_chooseThird 98 = .ok (.iastore, 1) := by decide +kernel
theorem dX11_chooseThird_99 : decode cX11_chooseThird 99 = .ok (.aload_n 1, 1) := by decide +kernel
theorem dX11_chooseThird_100 : decode cX11_chooseThird 100 = .ok (.getfield 209, 3) := by decide +kernel
theorem dX11_chooseThird_103 : decode cX11_chooseThird 103 = .ok (.iconst 2, 1) := by decide +kernel
theorem dX11_chooseThird_104 : decode cX11_chooseThird 104 = .ok (.iload_n 2, 1) := by decide +kernel
theorem dX11_chooseThird_105 : decode cX11_chooseThird 105 = .ok (.iastore, 1) := by decide +kernel
theorem dX11_chooseThird_106 : decode cX11_chooseThird 106 = .ok (.return_, 1) := by decide +kernel
theorem dX11_surveys_0 : decode cX11_surveys 0 = .ok (.aload_n 0, 1) := by decide +kernel
theorem dX11_surveys_1 : decode cX11_surveys 1 = .ok (.iload_n 1, 1) := by decide +kernel
theorem dX11_surveys_2 : decode cX11_surveys 2 = .ok (.invokevirtual 160, 3) := by decide +kernel
theorem dX11_surveys_5 : decode cX11_surveys 5 = .ok (.astore_n 3, 1) := by decide +kernel
theorem dX11_surveys_6 : decode cX11_surveys 6 = .ok (.iload_n 2, 1) := by decide +kernel
theorem dX11_surveys_7 : decode cX11_surveys 7 = .ok (.iconst 0, 1) := by decide +kernel
theorem dX11_surveys_8 : decode cX11_surveys 8 = .ok (.iconst 2, 1) := by decide +kernel
theorem dX11_surveys_9 : decode cX11_surveys 9 = .ok (.invokestatic 107, 3) := by decide +kernel
theorem dX11_surveys_12 : decode cX11_surveys 12 = .ok (.aload_n 3, 1) := by decide +kernel
theorem dX11_surveys_13 : decode cX11_surveys 13 = .ok (.getfield 209, 3) := by decide +kernel
theorem dX11_surveys_16 : decode cX11_surveys 16 = .ok (.iload_n 2, 1) := by decide +kernel
theorem dX11_surveys_17 : decode cX11_surveys 17 = .ok (.iaload, 1) := by decide +kernel
theorem dX11_surveys_18 : decode cX11_surveys 18 = .ok (.ireturn, 1) := by decide +kernel
theorem dX11_propose_0 : decode cX11_propose 0 = .ok (.aload_n 0, 1) := by decide +kernel
theorem dX11_propose_1 : decode cX11_propose 1 = .ok (.iload_n 1, 1) := by decide +kernel
theorem dX11_propose_2 : decode cX11_propose 2 = .ok (.invokevirtual 160, 3) := by decide +kernel
theorem dX11_propose_5 : decode cX11_propose 5 = .ok (.astore 6, 2) := by decide +kernel
theorem dX11_propose_7 : decode cX11_propose 7 = .ok (.iload_n 2, 1) := by decide +kernel
theorem dX11_propose_8 : decode cX11_propose 8 = .ok (.iconst 0, 1) := by decide +kernel
theorem dX11_propose_9 : decode cX11_propose 9 = .ok (.iconst 2, 1) := by decide +kernel
theorem dX11_propose_10 : decode cX11_propose 10 = .ok (.invokestatic 107, 3) := by decide +kernel
theorem dX11_propose_13 : decode cX11_propose 13 = .ok (.iload_n 3, 1) := by decide +kernel
theorem dX11_propose_14 : decode cX11_propose 14 = .ok (.aload_n 0, 1) := by decide +kernel
theorem dX11_propose_15 : decode cX11_propose 15 = .ok (.getfield 111, 3) := by decide +kernel
theorem dX11_propose_18 : decode cX11_propose 18 = .ok (.invokestatic 226, 3) := by decide +kernel
theorem dX11_propose_21 : decode cX11_propose 21 = .ok (.iload 4, 2) := by decide +kernel
theorem dX11_propose_23 : decode cX11_propose 23 = .ok (.iconst 0, 1) := by decide +kernel
theorem dX11_propose_24 : decode cX11_propose 24 = .ok (.sipush 2324, 3) := by decide +kernel
theorem dX11_propose_27 : decode cX11_propose 27 = .ok (.invokestatic 107, 3) := by decide +kernel
theorem dX11_propose_30 : decode cX11_propose 30 = .ok (.iload 4, 2) := by decide +kernel
theorem dX11_propose_32 : decode cX11_propose 32 = .ok (.bipush 100, 2) := by decide +kernel
theorem dX11_propose_34 : decode cX11_propose 34 = .ok (.irem, 1) := by decide +kernel
theorem dX11_propose_35 : decode cX11_propose 35 = .ok (.iload 4, 2) := by decide +kernel
theorem dX11_propose_37 : decode cX11_propose 37 = .ok (.bipush 100, 2) := by decide +kernel
theorem dX11_propose_39 : decode cX11_propose 39 = .ok (.idiv, 1) := by decide +kernel
theorem dX11_propose_40 : decode cX11_propose 40 = .ok (.iconst 1, 1) := by decide +kernel
theorem dX11_propose_41 : decode cX11_propose 41 = .ok (.iadd, 1) := by decide +kernel
theorem dX11_propose_42 : decode cX11_propose 42 = .ok (.bipush 24, 2) := by decide +kernel
theorem dX11_propose_44 : decode cX11_propose 44 = .ok (.invokestatic 107, 3) := by decide +kernel
theorem dX11_propose_47 : decode cX11_propose 47 = .ok (.iload 5, 2) := by decide +kernel
theorem dX11_propose_49 : decode cX11_propose 49 = .ok (.iconst 0, 1) := by decide +kernel
theorem dX11_propose_50 : decode cX11_propose 50 = .ok (.bipush 100, 2) := by decide +kernel
theorem dX11_propose_52 : decode cX11_propose 52 = .ok (.invokestatic 107, 3) := by decide +kernel
theorem dX11_propose_55 : decode cX11_propose 55 = .ok (.aload 6, 2) := by decide +kernel
theorem dX11_propose_57 : decode cX11_propose 57 = .ok (.getfield 164, 3) := by decide +kernel
theorem dX11_propose_60 : decode cX11_propose 60 = .ok (.iconst 4, 1) := by decide +kernel
theorem dX11_propose_61 : decode cX11_propose 61 = .ok (.if_icmp .eq 5, 3) := by decide +kernel
theorem dX11_propose_64 : decode cX11_propose 64 = .ok (.iconst (-1), 1) := by decide +kernel
theorem dX11_propose_65 : decode cX11_propose 65 = .ok (.ireturn, 1) := by decide +kernel
theorem dX11_propose_66 : decode cX11_propose 66 = .ok (.aload 6, 2) := by decide +kernel
theorem dX11_propose_68 : decode cX11_propose 68 = .ok (.getfield 209, 3) := by decide +kernel
theorem dX11_propose_71 : decode cX11_propose 71 = .ok (.iload_n 2, 1) := by decide +kernel
theorem dX11_propose_72 : decode cX11_propose 72 = .ok (.iaload, 1) := by decide +kernel
theorem dX11_propose_73 : decode cX11_propose 73 = .ok (.iconst (-1), 1) := by decide +kernel
theorem dX11_propose_74 : decode cX11_propose 74 = .ok (.if_icmp .ne 6, 3) := by decide +kernel
theorem dX11_propose_77 : decode cX11_propose 77 = .ok (.bipush (-2), 2) := by decide +kernel
theorem dX11_propose_79 : decode cX11_propose 79 = .ok (.ireturn, 1) := by decide +kernel
theorem dX11_propose_80 : decode cX11_propose 80 = .ok (.new 229, 3) := by decide +kernel
theorem dX11_propose_83 : decode cX11_propose 83 = .ok (.dup, 1) := by decide +kernel
theorem dX11_propose_84 : decode cX11_propose 84 = .ok (.iload_n 3, 1) := by decide +kernel
theorem dX11_propose_85 : decode cX11_propose 85 = .ok (.iload 4, 2) := by decide +kernel
theorem dX11_propose_87 : decode cX11_propose 87 = .ok (.iload 5, 2) := by decide +kernel
theorem dX11_propose_89 : decode cX11_propose 89 = .ok (.invokespecial 231, 3) := by decide +kernel
theorem dX11_propose_92 : decode cX11_propose 92 = .ok (.astore 7, 2) := by decide +kernel
theorem dX11_propose_94 : decode cX11_propose 94 = .ok (.aload 6, 2) := by decide +kernel
theorem dX11_propose_96 : decode cX11_propose 96 = .ok (.iload_n 2, 1) := by decide +kernel
theorem dX11_propose_97 : decode cX11_propose 97 = .ok (.aload 7, 2) := by decide +kernel
theorem dX11_propose_99 : decode cX11_propose 99 = .ok (.invokevirtual 233, 3) := by decide +kernel
theorem dX11_propose_102 : decode cX11_propose 102 = .ok (.ifCond .eq 16, 3) := by decide +kernel
theorem dX11_propose_105 : decode cX11_propose 105 = .ok (.aload 6, 2) := by decide +kernel
theorem dX11_propose_107 : decode cX11_propose 107 = .ok (.aload 7, 2) := by decide +kernel
theorem dX11_propose_109 : decode cX11_propose 109 = .ok (.aload_n 0, 1) := by decide +kernel
theorem dX11_propose_110 : decode cX11_propose 110 = .ok (.getfield 111, 3) := by decide +kernel
theorem dX11_propose_113 : decode cX11_propose 113 = .ok (.invokevirtual 237, 3) := by decide +kernel
theorem dX11_propose_116 : decode cX11_propose 116 = .ok (.iconst 1, 1) := by decide +kernel
theorem dX11_propose_117 : decode cX11_propose 117 = .ok (.ireturn, 1) := by decide +kernel
theorem dX11_propose_118 : decode cX11_propose 118 = .ok (.aload 6, 2) := by decide +kernel
theorem dX11_propose_120 : decode cX11_propose 120 = .ok (.getfield 241, 3) := by decide +kernel
theorem dX11_propose_123 : decode cX11_propose 123 = .ok (.iload_n 2, 1) := by decide +kernel
theorem dX11_propose_124 : decode cX11_propose 124 = .ok (.aload 7, 2) := by decide +kernel
theorem dX11_propose_126 : decode cX11_propose 126 = .ok (.aastore, 1) := by decide +kernel
theorem dX11_propose_127 : decode cX11_propose 127 = .ok (.iconst 0, 1) := by decide +kernel
theorem dX11_propose_128 : decode cX11_propose 128 = .ok (.ireturn, 1) := by decide +kernel
theorem dX11_appeal_0 : decode cX11_appeal 0 = .ok (.aload_n 0, 1) := by decide +kernel
theorem dX11_appeal_1 : decode cX11_appeal 1 = .ok (.iload_n 1, 1) := by decide +kernel
theorem dX11_appeal_2 : decode cX11_appeal 2 = .ok (.invokevirtual 160, 3) := by decide +kernel
theorem dX11_appeal_5 : decode cX11_appeal 5 = .ok (.astore_n 2, 1) := by decide +kernel
theorem dX11_appeal_6 : decode cX11_appeal 6 = .ok (.aload_n 2, 1) := by decide +kernel
theorem dX11_appeal_7 : decode cX11_appeal 7 = .ok (.invokevirtual 197, 3) := by decide +kernel
theorem dX11_appeal_10 : decode cX11_appeal 10 = .ok (.ifCond .ne 5, 3) := by decide +kernel
theorem dX11_appeal_13 : decode cX11_appeal 13 = .ok (.iconst (-1), 1) := by decide +kernel
theorem dX11_appeal_14 : decode cX11_appeal 14 = .ok (.ireturn, 1) := by decide +kernel
theorem dX11_appeal_15 : decode cX11_appeal 15 = .ok (.aload_n 0, 1) := by decide +kernel
theorem dX11_appeal_16 : decode cX11_appeal 16 = .ok (.getfield 111, 3) := by decide +kernel
theorem dX11_appeal_19 : decode cX11_appeal 19 = .ok (.aload_n 2, 1) := by decide +kernel
theorem dX11_appeal_20 : decode cX11_appeal 20 = .ok (.invokevirtual 200, 3) := by decide +kernel
theorem dX11_appeal_23 : decode cX11_appeal 23 = .ok (.if_icmp .le 6, 3) := by decide +kernel
theorem dX11_appeal_26 : decode cX11_appeal 26 = .ok (.bipush (-2), 2) := by decide +kernel
theorem dX11_appeal_28 : decode cX11_appeal 28 = .ok (.ireturn, 1) := by decide +kernel
theorem dX11_appeal_29 : decode cX11_appeal 29 = .ok (.aload_n 2, 1) := by decide +kernel
theorem dX11_appeal_30 : decode cX11_appeal 30 = .ok (.aload_n 0, 1) := by decide +kernel
theorem dX11_appeal_31 : decode cX11_appeal 31 = .ok (.getfield 111, 3) := by decide +kernel
theorem dX11_appeal_34 : decode cX11_appeal 34 = .ok (.invokevirtual 245, 3) := by decide +kernel
theorem dX11_appeal_37 : decode cX11_appeal 37 = .ok (.iconst 1, 1) := by decide +kernel
theorem dX11_appeal_38 : decode cX11_appeal 38 = .ok (.ireturn, 1) := by decide +kernel
theorem dX11_begin_0 : decode cX11_begin 0 = .ok (.aload_n 0, 1) := by decide +kernel
theorem dX11_begin_1 : decode cX11_begin 1 = .ok (.iload_n 1, 1) := by decide +kernel
theorem dX11_begin_2 : decode cX11_begin 2 = .ok (.invokevirtual 160, 3) := by decide +kernel
theorem dX11_begin_5 : decode cX11_begin 5 = .ok (.astore_n 2, 1) := by decide +kernel
theorem dX11_begin_6 : decode cX11_begin 6 = .ok (.aload_n 2, 1) := by decide +kernel
theorem dX11_begin_7 : decode cX11_begin 7 = .ok (.getfield 164, 3) := by decide +kernel
theorem dX11_begin_10 : decode cX11_begin 10 = .ok (.iconst 5, 1) := by decide +kernel
theorem dX11_begin_11 : decode cX11_begin 11 = .ok (.if_icmp .eq 21, 3) := by decide +kernel
theorem dX11_begin_14 : decode cX11_begin 14 = .ok (.aload_n 2, 1) := by decide +kernel
theorem dX11_begin_15 : decode cX11_begin 15 = .ok (.getfield 164, 3) := by decide +kernel
theorem dX11_begin_18 : decode cX11_begin 18 = .ok (.bipush 6, 2) := by decide +kernel
theorem dX11_begin_20 : decode cX11_begin 20 = .ok (.if_icmp .eq 12, 3) := by decide +kernel
theorem dX11_begin_23 : decode cX11_begin 23 = .ok (.aload_n 2, 1) := by decide +kernel
theorem dX11_begin_24 : decode cX11_begin 24 = .ok (.getfield 164, 3) := by decide +kernel
theorem dX11_begin_27 : decode cX11_begin 27 = .ok (.bipush 7, 2) := by decide +kernel
theorem dX11_begin_29 : decode cX11_begin 29 = .ok (.if_icmp .ne 5, 3) := by decide +kernel
theorem dX11_begin_32 : decode cX11_begin 32 = .ok (.iconst (-1), 1) := by decide +kernel
theorem dX11_begin_33 : decode cX11_begin 33 = .ok (.ireturn, 1) := by decide +kernel
theorem dX11_begin_34 : decode cX11_begin 34 = .ok (.aload_n 2, 1) := by decide +kernel
theorem dX11_begin_35 : decode cX11_begin 35 = .ok (.aload_n 0, 1) := by decide +kernel
theorem dX11_begin_36 : decode cX11_begin 36 = .ok (.getfield 111, 3) := by decide +kernel
theorem dX11_begin_39 : decode cX11_begin 39 = .ok (.invokevirtual 248, 3) := by decide +kernel
theorem dX11_begin_42 : decode cX11_begin 42 = .ok (.aload_n 2, 1) := by decide +kernel
theorem dX11_begin_43 : decode cX11_begin 43 = .ok (.getfield 164, 3) := by decide +kernel
theorem dX11_begin_46 : decode cX11_begin 46 = .ok (.iconst 5, 1) := by decide +kernel
theorem dX11_begin_47 : decode cX11_begin 47 = .ok (.if_icmp .ne 7, 3) := by decide +kernel
theorem dX11_begin_50 : decode cX11_begin 50 = .ok (.iconst 1, 1) := by decide +kernel
theorem dX11_begin_51 : decode cX11_begin 51 = .ok (.goto 4, 3) := by decide +kernel
theorem dX11_begin_54 : decode cX11_begin 54 = .ok (.iconst 0, 1) := by decide +kernel
theorem dX11_begin_55 : decode cX11_begin 55 = .ok (.ireturn, 1) := by decide +kernel
theorem dX11_done_0 : decode cX11_done 0 = .ok (.aload_n 0, 1) := by decide +kernel
theorem dX11_done_1 : decode cX11_done 1 = .ok (.iload_n 1, 1) := by decide +kernel
theorem dX11_done_2 : decode cX11_done 2 = .ok (.invokevirtual 160, 3) := by decide +kernel
theorem dX11_done_5 : decode cX11_done 5 = .ok (.astore_n 2, 1) := by decide +kernel
theorem dX11_done_6 : decode cX11_done 6 = .ok (.aload_n 2, 1) := by decide +kernel
theorem dX11_done_7 : decode cX11_done 7 = .ok (.getfield 164, 3) := by decide +kernel
theorem dX11_done_10 : decode cX11_done 10 = .ok (.iconst 5, 1) := by decide +kernel
theorem dX11_done_11 : decode cX11_done 11 = .ok (.if_icmp .eq 5, 3) := by decide +kernel
theorem dX11_done_14 : decode cX11_done 14 = .ok (.iconst (-1), 1) := by decide +kernel
theorem dX11_done_15 : decode cX11_done 15 = .ok (.ireturn, 1) := by decide +kernel
theorem dX11_done_16 : decode cX11_done 16 = .ok (.aload_n 2, 1) := by decide +kernel
theorem dX11_done_17 : decode cX11_done 17 = .ok (.bipush 7, 2) := by decide +kernel
theorem dX11_done_19 : decode cX11_done 19 = .ok (.putfield 164, 3) := by decide +kernel
theorem dX11_done_22 : decode cX11_done 22 = .ok (.iconst 1, 1) := by decide +kernel
theorem dX11_done_23 : decode cX11_done 23 = .ok (.ireturn, 1) := by decide +kernel
theorem dX11_enter_0 : decode cX11_enter 0 = .ok (.aload_n 0, 1) := by decide +kernel
theorem dX11_enter_1 : decode cX11_enter 1 = .ok (.iload_n 1, 1) := by decide +kernel
theorem dX11_enter_2 : decode cX11_enter 2 = .ok (.invokevirtual 160, 3) := by decide +kernel
theorem dX11_enter_5 : decode cX11_enter 5 = .ok (.astore_n 3, 1) := by decide +kernel
theorem dX11_enter_6 : decode cX11_enter 6 = .ok (.iload_n 2, 1) := by decide +kernel
theorem dX11_enter_7 : decode cX11_enter 7 = .ok (.iconst 0, 1) := by decide +kernel
theorem dX11_enter_8 : decode cX11_enter 8 = .ok (.bipush 23, 2) := by decide +kernel
theorem dX11_enter_10 : decode cX11_enter 10 = .ok (.invokestatic 107, 3) := by decide +kernel
theorem dX11_enter_13 : decode cX11_enter 13 = .ok (.aload_n 3, 1) := by decide +kernel
theorem dX11_enter_14 : decode cX11_enter 14 = .ok (.getfield 164, 3) := by decide +kernel
theorem dX11_enter_17 : decode cX11_enter 17 = .ok (.iconst 5, 1) := by decide +kernel
theorem dX11_enter_18 : decode cX11_enter 18 = .ok (.if_icmp .eq 5, 3) := by decide +kernel
theorem dX11_enter_21 : decode cX11_enter 21 = .ok (.iconst (-1), 1) := by decide +kernel
theorem dX11_enter_22 : decode cX11_enter 22 = .ok (.ireturn, 1) := by decide +kernel
theorem dX11_enter_23 : decode cX11_enter 23 = .ok (.aload_n 3, 1) := by decide +kernel
theorem dX11_enter_24 : decode cX11_enter 24 = .ok (.aload_n 0, 1) := by decide +kernel
theorem dX11_enter_25 : decode cX11_enter 25 = .ok (.getfield 111, 3) := by decide +kernel
theorem dX11_enter_28 : decode cX11_enter 28 = .ok (.iload_n 2, 1) := by decide +kernel
theorem dX11_enter_29 : decode cX11_enter 29 = .ok (.invokevirtual 251, 3) := by decide +kernel
theorem dX11_enter_32 : decode cX11_enter 32 = .ok (.ifCond .eq 15, 3) := by decide +kernel
theorem dX11_enter_35 : decode cX11_enter 35 = .ok (.aload_n 3, 1) := by decide +kernel
theorem dX11_enter_36 : decode cX11_enter 36 = .ok (.dup, 1) := by decide +kernel
theorem dX11_enter_37 : decode cX11_enter 37 = .ok (.getfield 255, 3) := by decide +kernel
theorem dX11_enter_40 : decode cX11_enter 40 = .ok (.iconst 1, 1) := by decide +kernel
theorem dX11_enter_41 : decode cX11_enter 41 = .ok (.iadd, 1) := by decide +kernel
theorem dX11_enter_42 : decode cX11_enter 42 = .ok (.putfield 255, 3) := by decide +kernel
theorem dX11_enter_45 : decode cX11_enter 45 = .ok (.iconst 1, 1) := by decide +kernel
theorem dX11_enter_46 : decode cX11_enter 46 = .ok (.ireturn, 1) := by decide +kernel
theorem dX11_enter_47 : decode cX11_enter 47 = .ok (.aload_n 0, 1) := by decide +kernel
theorem dX11_enter_48 : decode cX11_enter 48 = .ok (.getfield 38, 3) := by decide +kernel
theorem dX11_enter_51 : decode cX11_enter 51 = .ok (.invokevirtual 258, 3) := by decide +kernel
theorem dX11_enter_54 : decode cX11_enter 54 = .ok (.ifCond .eq 6, 3) := by decide +kernel
theorem dX11_enter_57 : decode cX11_enter 57 = .ok (.bipush (-2), 2) := by decide +kernel
theorem dX11_enter_59 : decode cX11_enter 59 = .ok (.ireturn, 1) := by decide +kernel
theorem dX11_enter_60 : decode cX11_enter 60 = .ok (.aload_n 3, 1) := by decide +kernel
theorem dX11_enter_61 : decode cX11_enter 61 = .ok (.dup, 1) := by decide +kernel
theorem dX11_enter_62 : decode cX11_enter 62 = .ok (.getfield 261, 3) := by decide +kernel
theorem dX11_enter_65 : decode cX11_enter 65 = .ok (.iconst 1, 1) := by decide +kernel
theorem dX11_enter_66 : decode cX11_enter 66 = .ok (.iadd, 1) := by decide +kernel
theorem dX11_enter_67 : decode cX11_enter 67 = .ok (.putfield 261, 3) := by decide +kernel
theorem dX11_enter_70 : decode cX11_enter 70 = .ok (.aload_n 0, 1) := by decide +kernel
theorem dX11_enter_71 : decode cX11_enter 71 = .ok (.getfield 38, 3) := by decide +kernel
theorem dX11_enter_74 : decode cX11_enter 74 = .ok (.aload_n 3, 1) := by decide +kernel
theorem dX11_enter_75 : decode cX11_enter 75 = .ok (.invokevirtual 264, 3) := by decide +kernel
theorem dX11_enter_78 : decode cX11_enter 78 = .ok (.aload_n 3, 1) := by decide +kernel
theorem dX11_enter_79 : decode cX11_enter 79 = .ok (.invokevirtual 267, 3) := by decide +kernel
theorem dX11_enter_82 : decode cX11_enter 82 = .ok (.bipush 10, 2) := by decide +kernel
theorem dX11_enter_84 : decode cX11_enter 84 = .ok (.aload_n 0, 1) := by decide +kernel
theorem dX11_enter_85 : decode cX11_enter 85 = .ok (.getfield 111, 3) := by decide +kernel
theorem dX11_enter_88 : decode cX11_enter 88 = .ok (.invokevirtual 270, 3) := by decide +kernel
theorem dX11_enter_91 : decode cX11_enter 91 = .ok (.iconst 0, 1) := by decide +kernel
theorem dX11_enter_92 : decode cX11_enter 92 = .ok (.ireturn, 1) := by decide +kernel
theorem dX11_entries_0 : decode cX11_entries 0 = .ok (.aload_n 0, 1) := by decide +kernel
theorem dX11_entries_1 : decode cX11_entries 1 = .ok (.iload_n 1, 1) := by decide +kernel
theorem dX11_entries_2 : decode cX11_entries 2 = .ok (.invokevirtual 160, 3) := by decide +kernel
theorem dX11_entries_5 : decode cX11_entries 5 = .ok (.astore_n 3, 1) := by decide +kernel
theorem dX11_entries_6 : decode cX11_entries 6 = .ok (.iload_n 2, 1) := by decide +kernel
theorem dX11_entries_7 : decode cX11_entries 7 = .ok (.iconst 0, 1) := by decide +kernel
theorem dX11_entries_8 : decode cX11_entries 8 = .ok (.iconst 1, 1) := by decide +kernel
theorem dX11_entries_9 : decode cX11_entries 9 = .ok (.invokestatic 107, 3) := by decide +kernel
theorem dX11_entries_12 : decode cX11_entries 12 = .ok (.iload_n 2, 1) := by decide +kernel
theorem dX11_entries_13 : decode cX11_entries 13 = .ok (.ifCond .ne 10, 3) := by decide +kernel
theorem dX11_entries_16 : decode cX11_entries 16 = .ok (.aload_n 3, 1) := by decide +kernel
theorem dX11_entries_17 : decode cX11_entries 17 = .ok (.getfield 255, 3) := by decide +kernel
theorem dX11_entries_20 : decode cX11_entries 20 = .ok (.goto 7, 3) := by decide +kernel
theorem dX11_entries_23 : decode cX11_entries 23 = .ok (.aload_n 3, 1) := by decide +kernel
theorem dX11_entries_24 : decode cX11_entries 24 = .ok (.getfield 261, 3) := by decide +kernel
theorem dX11_entries_27 : decode cX11_entries 27 = .ok (.ireturn, 1) := by decide +kernel
theorem dX11_build_0 : decode cX11_build 0 = .ok (.aload_n 0, 1) := by decide +kernel
theorem dX11_build_1 : decode cX11_build 1 = .ok (.iload_n 1, 1) := by decide +kernel
theorem dX11_build_2 : decode cX11_build 2 = .ok (.invokevirtual 160, 3) := by decide +kernel
theorem dX11_build_5 : decode cX11_build 5 = .ok (.astore 6, 2) := by decide +kernel
theorem dX11_build_7 : decode cX11_build 7 = .ok (.iload_n 2, 1) := by decide +kernel
theorem dX11_build_8 : decode cX11_build 8 = .ok (.iload_n 3, 1) := by decide +kernel
theorem dX11_build_9 : decode cX11_build 9 = .ok (.invokestatic 274, 3) := by decide +kernel
theorem dX11_build_12 : decode cX11_build 12 = .ok (.iload 4, 2) := by decide +kernel
theorem dX11_build_14 : decode cX11_build 14 = .ok (.iconst 1, 1) := by decide +kernel
theorem dX11_build_15 : decode cX11_build 15 = .ok (.bipush 20, 2) := by decide +kernel
theorem dX11_build_17 : decode cX11_build 17 = .ok (.invokestatic 107, 3) := by decide +kernel
theorem dX11_build_20 : decode cX11_build 20 = .ok (.iload 5, 2) := by decide +kernel
theorem dX11_build_22 : decode cX11_build 22 = .ok (.iconst 0, 1) := by decide +kernel
theorem dX11_build_23 : decode cX11_build 23 = .ok (.ldc_w 277, 3) := by decide +kernel
theorem dX11_build_26 : decode cX11_build 26 = .ok (.invokestatic 107, 3) := by decide +kernel
theorem dX11_build_29 : decode cX11_build 29 = .ok (.aload 6, 2) := by decide +kernel
theorem dX11_build_31 : decode cX11_build 31 = .ok (.getfield 164, 3) := by decide +kernel
theorem dX11_build_34 : decode cX11_build 34 = .ok (.iconst 5, 1) := by decide +kernel
theorem dX11_build_35 : decode cX11_build 35 = .ok (.if_icmp .ne 11, 3) := by decide +kernel
theorem dX11_build_38 : decode cX11_build 38 = .ok (.aload 6, 2) := by decide +kernel
theorem dX11_build_40 : decode cX11_build 40 = .ok (.getfield 278, 3) := by decide +kernel
theorem dX11_build_43 : decode cX11_build 43 = .ok (.ifCond .eq 5, 3) := by decide +kernel
theorem dX11_build_46 : decode cX11_build 46 = .ok (.iconst (-1), 1) := by decide +kernel
theorem dX11_build_47 : decode cX11_build 47 = .ok (.ireturn, 1) := by decide +kernel
theorem dX11_build_48 : decode cX11_build 48 = .ok (.aload 6, 2) := by decide +kernel
theorem dX11_build_50 : decode cX11_build 50 = .ok (.getfield 214, 3) := by decide +kernel
theorem dX11_build_53 : decode cX11_build 53 = .ok (.iload_n 2, 1) := by decide +kernel
theorem dX11_build_54 : decode cX11_build 54 = .ok (.iload_n 3, 1) := by decide +kernel
theorem dX11_build_55 : decode cX11_build 55 = .ok (.invokevirtual 281, 3) := by decide +kernel
theorem dX11_build_58 : decode cX11_build 58 = .ok (.iload 4, 2) := by decide +kernel
theorem dX11_build_60 : decode cX11_build 60 = .ok (.iadd, 1) := by decide +kernel
theorem dX11_build_61 : decode cX11_build 61 = .ok (.bipush 20, 2) := by decide +kernel
theorem dX11_build_63 : decode cX11_build 63 = .ok (.if_icmp .le 6, 3) := by decide +kernel
theorem dX11_build_66 : decode cX11_build 66 = .ok (.bipush (-2), 2) := by decide +kernel
theorem dX11_build_68 : decode cX11_build 68 = .ok (.ireturn, 1) := by decide +kernel
theorem dX11_build_69 : decode cX11_build 69 = .ok (.iload_n 2, 1) := by decide +kernel
theorem dX11_build_70 : decode cX11_build 70 = .ok (.istore 7, 2) := by decide +kernel
theorem dX11_build_72 : decode cX11_build 72 = .ok (.iload 7, 2) := by decide +kernel
theorem dX11_build_74 : decode cX11_build 74 = .ok (.iload_n 3, 1) := by decide +kernel
theorem dX11_build_75 : decode cX11_build 75 = .ok (.if_icmp .gt 46, 3) := by decide +kernel
theorem dX11_build_78 : decode cX11_build 78 = .ok (.iconst 0, 1) := by decide +kernel
theorem dX11_build_79 : decode cX11_build 79 = .ok (.istore 8, 2) := by decide +kernel
theorem dX11_build_81 : decode cX11_build 81 = .ok (.iload 8, 2) := by decide +kernel
theorem dX11_build_83 : decode cX11_build 83 = .ok (.iload 4, 2) := by decide +kernel
theorem dX11_build_85 : decode cX11_build 85 = .ok (.if_icmp .ge 30, 3) := by decide +kernel
theorem dX11_build_88 : decode cX11_build 88 = .ok (.aload 6, 2) := by decide +kernel
theorem dX11_build_90 : decode cX11_build 90 = .ok (.getfield 214, 3) := by decide +kernel
theorem dX11_build_93 : decode cX11_build 93 = .ok (.iload 7, 2) := by decide +kernel
theorem dX11_build_95 : decode cX11_build 95 = .ok (.aload 6, 2) := by decide +kernel
theorem dX11_build_97 : decode cX11_build 97 = .ok (.getfield 284, 3) := by decide +kernel
theorem dX11_build_100 : decode cX11_build 100 = .ok (.aload_n 0, 1) := by decide +kernel
theorem dX11_build_101 : decode cX11_build 101 = .ok (.getfield 111, 3) := by decide +kernel
theorem dX11_build_104 : decode cX11_build 104 = .ok (.iload 5, 2) := by decide +kernel
theorem dX11_build_106 : decode cX11_build 106 = .ok (.invokevirtual 287, 3) := by decide +kernel
theorem dX11_build_109 : decode cX11_build 109 = .ok (.iinc 8 1, 3) := by decide +kernel
theorem dX11_build_112 : decode cX11_build 112 = .ok (.goto (-31), 3) := by decide +kernel
theorem dX11_build_115 : decode cX11_build 115 = .ok (.iinc 7 1, 3) := by decide +kernel
theorem dX11_build_118 : decode cX11_build 118 = .ok (.goto (-46), 3) := by decide +kernel
theorem dX11_build_121 : decode cX11_build 121 = .ok (.aload 6, 2) := by decide +kernel
theorem dX11_build_123 : decode cX11_build 123 = .ok (.getfield 214, 3) := by decide +kernel
theorem dX11_build_126 : decode cX11_build 126 = .ok (.invokevirtual 290, 3) := by decide +kernel
theorem dX11_build_129 : decode cX11_build 129 = .ok (.ireturn, 1) := by decide +kernel
theorem dX11_lower_0 : decode cX11_lower 0 = .ok (.aload_n 0, 1) := by decide +kernel
theorem dX11_lower_1 : decode cX11_lower 1 = .ok (.iload_n 1, 1) := by decide +kernel
theorem dX11_lower_2 : decode cX11_lower 2 = .ok (.invokevirtual 92, 3) := by decide +kernel
theorem dX11_lower_5 : decode cX11_lower 5 = .ok (.astore 4, 2) := by decide +kernel
theorem dX11_lower_7 : decode cX11_lower 7 = .ok (.iload_n 2, 1) := by decide +kernel
theorem dX11_lower_8 : decode cX11_lower 8 = .ok (.iload_n 3, 1) := by decide +kernel
theorem dX11_lower_9 : decode cX11_lower 9 = .ok (.invokestatic 274, 3) := by decide +kernel
theorem dX11_lower_12 : decode cX11_lower 12 = .ok (.aload 4, 2) := by decide +kernel
theorem dX11_lower_14 : decode cX11_lower 14 = .ok (.iload_n 2, 1) := by decide +kernel
theorem dX11_lower_15 : decode cX11_lower 15 = .ok (.iload_n 3, 1) := by decide +kernel
theorem dX11_lower_16 : decode cX11_lower 16 = .ok (.invokevirtual 293, 3) := by decide +kernel
theorem dX11_lower_19 : decode cX11_lower 19 = .ok (.ireturn, 1) := by decide +kernel
theorem dX11_use_0 : decode cX11_use 0 = .ok (.aload_n 0, 1) := by decide +kernel
theorem dX11_use_1 : decode cX11_use 1 = .ok (.iload_n 1, 1) := by decide +kernel
theorem dX11_use_2 : decode cX11_use 2 = .ok (.invokevirtual 92, 3) := by decide +kernel
theorem dX11_use_5 : decode cX11_use 5 = .ok (.astore 6, 2) := by decide +kernel
theorem dX11_use_7 : decode cX11_use 7 = .ok (.iload_n 2, 1) := by decide +kernel
theorem dX11_use_8 : decode cX11_use 8 = .ok (.invokestatic 96, 3) := by decide +kernel
theorem dX11_use_11 : decode cX11_use 11 = .ok (.iload_n 3, 1) := by decide +kernel
theorem dX11_use_12 : decode cX11_use 12 = .ok (.iload 4, 2) := by decide +kernel
theorem dX11_use_14 : decode cX11_use 14 = .ok (.invokestatic 274, 3) := by decide +kernel
theorem dX11_use_17 : decode cX11_use 17 = .ok (.iload 5, 2) := by decide +kernel
theorem dX11_use_19 : decode cX11_use 19 = .ok (.iconst 0, 1) := by decide +kernel
theorem dX11_use_20 : decode cX11_use 20 = .ok (.bipush 20, 2) := by decide +kernel
theorem dX11_use_22 : decode cX11_use 22 = .ok (.invokestatic 107, 3) := by decide +kernel
theorem dX11_use_25 : decode cX11_use 25 = .ok (.iconst 0, 1) := by decide +kernel
theorem dX11_use_26 : decode cX11_use 26 = .ok (.istore 7, 2) := by decide +kernel
theorem dX11_use_28 : decode cX11_use 28 = .ok (.iload_n 3, 1) := by decide +kernel
theorem dX11_use_29 : decode cX11_use 29 = .ok (.istore 8, 2) := by decide +kernel
theorem dX11_use_31 : decode cX11_use 31 = .ok (.iload 8, 2) := by decide +kernel
theorem dX11_use_33 : decode cX11_use 33 = .ok (.iload 4, 2) := by decide +kernel
theorem dX11_use_35 : decode cX11_use 35 = .ok (.if_icmp .gt 35, 3) := by decide +kernel
theorem dX11_use_38 : decode cX11_use 38 = .ok (.iload 7, 2) := by decide +kernel
theorem dX11_use_40 : decode cX11_use 40 = .ok (.aload 6, 2) := by decide +kernel
theorem dX11_use_42 : decode cX11_use 42 = .ok (.iload 8, 2) := by decide +kernel
theorem dX11_use_44 : decode cX11_use 44 = .ok (.iload_n 2, 1) := by decide +kernel
theorem dX11_use_45 : decode cX11_use 45 = .ok (.iload 5, 2) := by decide +kernel
theorem dX11_use_47 : decode cX11_use 47 = .ok (.aload_n 0, 1) := by decide +kernel
theorem dX11_use_48 : decode cX11_use 48 = .ok (.getfield 111, 3) := by decide +kernel
theorem dX11_use_51 : decode cX11_use 51 = .ok (.aload_n 0, 1) := by decide +kernel
theorem dX11_use_52 : decode cX11_use 52 = .ok (.getfield 65, 3) := by decide +kernel
theorem dX11_use_55 : decode cX11_use 55 = .ok (.getfield 296, 3) := by decide +kernel
theorem dX11_use_58 : decode cX11_use 58 = .ok (.invokevirtual 299, 3) := by decide +kernel
theorem dX11_use_61 : decode cX11_use 61 = .ok (.iadd, 1) := by decide +kernel
theorem dX11_use_62 : decode cX11_use 62 = .ok (.istore 7, 2) := by decide +kernel
theorem dX11_use_64 : decode cX11_use 64 = .ok (.iinc 8 1, 3) := by decide +kernel
theorem dX11_use_67 : decode cX11_use 67 = .ok (.goto (-36), 3) := by decide +kernel
theorem dX11_use_70 : decode cX11_use 70 = .ok (.aload_n 0, 1) := by decide +kernel
theorem dX11_use_71 : decode cX11_use 71 = .ok (.aload 6, 2) := by decide +kernel
theorem dX11_use_73 : decode cX11_use 73 = .ok (.iload_n 2, 1) := by decide +kernel
theorem dX11_use_74 : decode cX11_use 74 = .ok (.invokevirtual 100, 3) := by decide +kernel
theorem dX11_use_77 : decode cX11_use 77 = .ok (.aload 6, 2) := by decide +kernel
theorem dX11_use_79 : decode cX11_use 79 = .ok (.iconst 1, 1) := by decide +kernel
theorem dX11_use_80 : decode cX11_use 80 = .ok (.iload_n 2, 1) := by decide +kernel
theorem dX11_use_81 : decode cX11_use 81 = .ok (.isub, 1) := by decide +kernel
theorem dX11_use_82 : decode cX11_use 82 = .ok (.invokevirtual 100, 3) := by decide +kernel
theorem dX11_use_85 : decode cX11_use 85 = .ok (.iload 7, 2) := by decide +kernel
theorem dX11_use_87 : decode cX11_use 87 = .ok (.invokevirtual 303, 3) := by decide +kernel
theorem dX11_use_90 : decode cX11_use 90 = .ok (.ifCond .ne 5, 3) := by decide +kernel
theorem dX11_use_93 : decode cX11_use 93 = .ok (.iconst (-1), 1) := by decide +kernel
theorem dX11_use_94 : decode cX11_use 94 = .ok (.ireturn, 1) := by decide +kernel
theorem dX11_use_95 : decode cX11_use 95 = .ok (.iload_n 3, 1) := by decide +kernel
theorem dX11_use_96 : decode cX11_use 96 = .ok (.istore 8, 2) := by decide +kernel
theorem dX11_use_98 : decode cX11_use 98 = .ok (.iload 8, 2) := by decide +kernel
theorem dX11_use_100 : decode cX11_use 100 = .ok (.iload 4, 2) := by decide +kernel
theorem dX11_use_102 : decode cX11_use 102 = .ok (.if_icmp .gt 19, 3) := by decide +kernel
theorem dX11_use_105 : decode cX11_use 105 = .ok (.aload 6, 2) := by decide +kernel
theorem dX11_use_107 : decode cX11_use 107 = .ok (.iload 8, 2) := by decide +kernel
theorem dX11_use_109 : decode cX11_use 109 = .ok (.iload_n 2, 1) := by decide +kernel
theorem dX11_use_110 : decode cX11_use 110 = .ok (.iload 5, 2) := by decide +kernel
theorem dX11_use_112 : decode cX11_use 112 = .ok (.invokevirtual 307, 3) := by decide +kernel
theorem dX11_use_115 : decode cX11_use 115 = .ok (.iinc 8 1, 3) := by decide +kernel
theorem dX11_use_118 : decode cX11_use 118 = .ok (.goto (-20), 3) := by decide +kernel
theorem dX11_use_121 : decode cX11_use 121 = .ok (.iload 7, 2) := by decide +kernel
theorem dX11_use_123 : decode cX11_use 123 = .ok (.ireturn, 1) := by decide +kernel
theorem dX11_cell_0 : decode cX11_cell 0 = .ok (.aload_n 0, 1) := by decide +kernel
theorem dX11_cell_1 : decode cX11_cell 1 = .ok (.iload_n 1, 1) := by decide +kernel
theorem dX11_cell_2 : decode cX11_cell 2 = .ok (.invokevirtual 92, 3) := by decide +kernel
theorem dX11_cell_5 : decode cX11_cell 5 = .ok (.astore 5, 2) := by decide +kernel
theorem dX11_cell_7 : decode cX11_cell 7 = .ok (.iload_n 2, 1) := by decide +kernel
theorem dX11_cell_8 : decode cX11_cell 8 = .ok (.iconst 0, 1) := by decide +kernel
theorem dX11_cell_9 : decode cX11_cell 9 = .ok (.bipush 11, 2) := by decide +kernel
theorem dX11_cell_11 : decode cX11_cell 11 = .ok (.invokestatic 107, 3) := by decide +kernel
theorem dX11_cell_14 : decode cX11_cell 14 = .ok (.iload 4, 2) := by decide +kernel
theorem dX11_cell_16 : decode cX11_cell 16 = .ok (.iconst 0, 1) := by decide +kernel
theorem dX11_cell_17 : decode cX11_cell 17 = .ok (.iconst 2, 1) := by decide +kernel
theorem dX11_cell_18 : decode cX11_cell 18 = .ok (.invokestatic 107, 3) := by decide +kernel
theorem dX11_cell_21 : decode cX11_cell 21 = .ok (.aload 5, 2) := by decide +kernel
theorem dX11_cell_23 : decode cX11_cell 23 = .ok (.iload_n 2, 1) := by decide +kernel
theorem dX11_cell_24 : decode cX11_cell 24 = .ok (.iload_n 3, 1) := by decide +kernel
theorem dX11_cell_25 : decode cX11_cell 25 = .ok (.invokevirtual 310, 3) := by decide +kernel
theorem dX11_cell_28 : decode cX11_cell 28 = .ok (.ifCond .ne 5, 3) := by decide +kernel
theorem dX11_cell_31 : decode cX11_cell 31 = .ok (.iconst (-1), 1) := by decide +kernel
theorem dX11_cell_32 : decode cX11_cell 32 = .ok (.ireturn, 1) := by decide +kernel
theorem dX11_cell_33 : decode cX11_cell 33 = .ok (.iload 4, 2) := by decide +kernel
theorem dX11_cell_35 : decode cX11_cell 35 = .ok (.lookupswitch 52 #[(0, 25), (1, 33)], 25) := by decide +kernel
theorem dX11_cell_60 : decode cX11_cell 60 = .ok (.aload 5, 2) := by decide +kernel
theorem dX11_cell_62 : decode cX11_cell 62 = .ok (.iload_n 2, 1) := by decide +kernel
theorem dX11_cell_63 : decode cX11_cell 63 = .ok (.iload_n 3, 1) := by decide +kernel
theorem dX11_cell_64 : decode cX11_cell 64 = .ok (.invokevirtual 313, 3) := by decide +kernel
theorem dX11_cell_67 : decode cX11_cell 67 = .ok (.ireturn, 1) := by decide +kernel
theorem dX11_cell_68 : decode cX11_cell 68 = .ok (.aload 5, 2) := by decide +kernel
theorem dX11_cell_70 : decode cX11_cell 70 = .ok (.iload_n 2, 1) := by decide +kernel
theorem dX11_cell_71 : decode cX11_cell 71 = .ok (.iload_n 3, 1) := by decide +kernel
theorem dX11_cell_72 : decode cX11_cell 72 = .ok (.aload_n 0, 1) := by decide +kernel
theorem dX11_cell_73 : decode cX11_cell 73 = .ok (.getfield 111, 3) := by decide +kernel
theorem dX11_cell_76 : decode cX11_cell 76 = .ok (.aload_n 0, 1) := by decide +kernel
theorem dX11_cell_77 : decode cX11_cell 77 = .ok (.getfield 65, 3) := by decide +kernel
theorem dX11_cell_80 : decode cX11_cell 80 = .ok (.getfield 296, 3) := by decide +kernel
theorem dX11_cell_83 : decode cX11_cell 83 = .ok (.invokevirtual 316, 3) := by decide +kernel
theorem dX11_cell_86 : decode cX11_cell 86 = .ok (.ireturn, 1) := by decide +kernel
theorem dX11_cell_87 : decode cX11_cell 87 = .ok (.aload 5, 2) := by decide +kernel
theorem dX11_cell_89 : decode cX11_cell 89 = .ok (.iload_n 2, 1) := by decide +kernel
theorem dX11_cell_90 : decode cX11_cell 90 = .ok (.iload_n 3, 1) := by decide +kernel
theorem dX11_cell_91 : decode cX11_cell 91 = .ok (.invokevirtual 320, 3) := by decide +kernel
theorem dX11_cell_94 : decode cX11_cell 94 = .ok (.ireturn, 1) := by decide +kernel
theorem dX11_spend_0 : decode cX11_spend 0 = .ok (.aload_n 0, 1) := by decide +kernel
theorem dX11_spend_1 : decode cX11_spend 1 = .ok (.iload_n 1, 1) := by decide +kernel
theorem dX11_spend_2 : decode cX11_spend 2 = .ok (.invokevirtual 160, 3) := by decide +kernel
theorem dX11_spend_5 : decode cX11_spend 5 = .ok (.astore_n 3, 1) := by decide +kernel
theorem dX11_spend_6 : decode cX11_spend 6 = .ok (.iload_n 2, 1) := by decide +kernel
theorem dX11_spend_7 : decode cX11_spend 7 = .ok (.iconst 0, 1) := by decide +kernel
theorem dX11_spend_8 : decode cX11_spend 8 = .ok (.ldc 114, 2) := by decide +kernel
theorem dX11_spend_10 : decode cX11_spend 10 = .ok (.invokestatic 107, 3) := by decide +kernel
theorem dX11_spend_13 : decode cX11_spend 13 = .ok (.aload_n 3, 1) := by decide +kernel
theorem dX11_spend_14 : decode cX11_spend 14 = .ok (.getfield 164, 3) := by decide +kernel
theorem dX11_spend_17 : decode cX11_spend 17 = .ok (.iconst 5, 1) := by decide +kernel
theorem dX11_spend_18 : decode cX11_spend 18 = .ok (.if_icmp .eq 14, 3) := by decide +kernel
theorem dX11_spend_21 : decode cX11_spend 21 = .ok (.aload_n 3, 1) := by decide +kernel
theorem dX11_spend_22 : decode cX11_spend 22 = .ok (.getfield 164, 3) := by decide +kernel
theorem dX11_spend_25 : decode cX11_spend 25 = .ok (.bipush 7, 2) := by decide +kernel
theorem dX11_spend_27 : decode cX11_spend 27 = .ok (.if_icmp .eq 5, 3) := by decide +kernel
theorem dX11_spend_30 : decode cX11_spend 30 = .ok (.iconst (-1), 1) := by decide +kernel
theorem dX11_spend_31 : decode cX11_spend 31 = .ok (.ireturn, 1) := by decide +kernel
theorem dX11_spend_32 : decode cX11_spend 32 = .ok (.iload_n 2, 1) := by decide +kernel
theorem dX11_spend_33 : decode cX11_spend 33 = .ok (.bipush 100, 2) := by decide +kernel
theorem dX11_spend_35 : decode cX11_spend 35 = .ok (.aload_n 3, 1) := by decide +kernel
theorem dX11_spend_36 : decode cX11_spend 36 = .ok (.invokevirtual 191, 3) := by decide +kernel
theorem dX11_spend_39 : decode cX11_spend 39 = .ok (.isub, 1) := by decide +kernel
theorem dX11_spend_40 : decode cX11_spend 40 = .ok (.imul, 1) := by decide +kernel
theorem dX11_spend_41 : decode cX11_spend 41 = .ok (.bipush 100, 2) := by decide +kernel
theorem dX11_spend_43 : decode cX11_spend 43 = .ok (.idiv, 1) := by decide +kernel
theorem dX11_spend_44 : decode cX11_spend 44 = .ok (.istore 4, 2) := by decide +kernel
theorem dX11_spend_46 : decode cX11_spend 46 = .ok (.aload_n 0, 1) := by decide +kernel
theorem dX11_spend_47 : decode cX11_spend 47 = .ok (.aload_n 3, 1) := by decide +kernel
theorem dX11_spend_48 : decode cX11_spend 48 = .ok (.invokevirtual 267, 3) := by decide +kernel
theorem dX11_spend_51 : decode cX11_spend 51 = .ok (.aload_n 3, 1) := by decide +kernel
theorem dX11_spend_52 : decode cX11_spend 52 = .ok (.invokevirtual 264, 3) := by decide +kernel
theorem dX11_spend_55 : decode cX11_spend 55 = .ok (.iload 4, 2) := by decide +kernel
theorem dX11_spend_57 : decode cX11_spend 57 = .ok (.invokevirtual 303, 3) := by decide +kernel
theorem dX11_spend_60 : decode cX11_spend 60 = .ok (.ifCond .eq 8, 3) := by decide +kernel
theorem dX11_spend_63 : decode cX11_spend 63 = .ok (.iload 4, 2) := by decide +kernel
theorem dX11_spend_65 : decode cX11_spend 65 = .ok (.goto 5, 3) := by decide +kernel
theorem dX11_spend_68 : decode cX11_spend 68 = .ok (.bipush (-2), 2) := by decide +kernel
theorem dX11_spend_70 : decode cX11_spend 70 = .ok (.ireturn, 1) := by decide +kernel
theorem dX11_secure_0 : decode cX11_secure 0 = .ok (.aload_n 0, 1) := by decide +kernel
theorem dX11_secure_1 : decode cX11_secure 1 = .ok (.iload_n 1, 1) := by decide +kernel
theorem dX11_secure_2 : decode cX11_secure 2 = .ok (.invokevirtual 160, 3) := by decide +kernel
theorem dX11_secure_5 : decode cX11_secure 5 = .ok (.astore_n 3, 1) := by decide +kernel
theorem dX11_secure_6 : decode cX11_secure 6 = .ok (.iload_n 2, 1) := by decide +kernel
theorem dX11_secure_7 : decode cX11_secure 7 = .ok (.iconst 1, 1) := by decide +kernel
theorem dX11_secure_8 : decode cX11_secure 8 = .ok (.ldc 114, 2) := by decide +kernel
theorem dX11_secure_10 : decode cX11_secure 10 = .ok (.invokestatic 107, 3) := by decide +kernel
theorem dX11_secure_13 : decode cX11_secure 13 = .ok (.aload_n 3, 1) := by decide +kernel
theorem dX11_secure_14 : decode cX11_secure 14 = .ok (.getfield 323, 3) := by decide +kernel
theorem dX11_secure_17 : decode cX11_secure 17 = .ok (.iconst (-1), 1) := by decide +kernel
theorem dX11_secure_18 : decode cX11_secure 18 = .ok (.if_icmp .eq 5, 3) := by decide +kernel
theorem dX11_secure_21 : decode cX11_secure 21 = .ok (.iconst (-1), 1) := by decide +kernel
theorem dX11_secure_22 : decode cX11_secure 22 = .ok (.ireturn, 1) := by decide +kernel
theorem dX11_secure_23 : decode cX11_secure 23 = .ok (.aload_n 3, 1) := by decide +kernel
theorem dX11_secure_24 : decode cX11_secure 24 = .ok (.iload_n 2, 1) := by decide +kernel
theorem dX11_secure_25 : decode cX11_secure 25 = .ok (.putfield 323, 3) := by decide +kernel
theorem dX11_secure_28 : decode cX11_secure 28 = .ok (.iconst 1, 1) := by decide +kernel
theorem dX11_secure_29 : decode cX11_secure 29 = .ok (.ireturn, 1) := by decide +kernel
theorem dX11_settle_0 : decode cX11_settle 0 = .ok (.aload_n 0, 1) := by decide +kernel
theorem dX11_settle_1 : decode cX11_settle 1 = .ok (.iload_n 1, 1) := by decide +kernel
theorem dX11_settle_2 : decode cX11_settle 2 = .ok (.invokevirtual 160, 3) := by decide +kernel
theorem dX11_settle_5 : decode cX11_settle 5 = .ok (.astore_n 3, 1) := by decide +kernel
theorem dX11_settle_6 : decode cX11_settle 6 = .ok (.iload_n 2, 1) := by decide +kernel
theorem dX11_settle_7 : decode cX11_settle 7 = .ok (.iconst 0, 1) := by decide +kernel
theorem dX11_settle_8 : decode cX11_settle 8 = .ok (.ldc 114, 2) := by decide +kernel
theorem dX11_settle_10 : decode cX11_settle 10 = .ok (.invokestatic 107, 3) := by decide +kernel
theorem dX11_settle_13 : decode cX11_settle 13 = .ok (.aload_n 3, 1) := by decide +kernel
theorem dX11_settle_14 : decode cX11_settle 14 = .ok (.getfield 164, 3) := by decide +kernel
theorem dX11_settle_17 : decode cX11_settle 17 = .ok (.bipush 7, 2) := by decide +kernel
theorem dX11_settle_19 : decode cX11_settle 19 = .ok (.if_icmp .eq 14, 3) := by decide +kernel
theorem dX11_settle_22 : decode cX11_settle 22 = .ok (.aload_n 3, 1) := by decide +kernel
theorem dX11_settle_23 : decode cX11_settle 23 = .ok (.getfield 164, 3) := by decide +kernel
theorem dX11_settle_26 : decode cX11_settle 26 = .ok (.bipush 6, 2) := by decide +kernel
theorem dX11_settle_28 : decode cX11_settle 28 = .ok (.if_icmp .eq 5, 3) := by decide +kernel
theorem dX11_settle_31 : decode cX11_settle 31 = .ok (.iconst (-1), 1) := by decide +kernel
theorem dX11_settle_32 : decode cX11_settle 32 = .ok (.ireturn, 1) := by decide +kernel
theorem dX11_settle_33 : decode cX11_settle 33 = .ok (.aload_n 3, 1) := by decide +kernel
theorem dX11_settle_34 : decode cX11_settle 34 = .ok (.getfield 323, 3) := by decide +kernel
theorem dX11_settle_37 : decode cX11_settle 37 = .ok (.iconst (-1), 1) := by decide +kernel
theorem dX11_settle_38 : decode cX11_settle 38 = .ok (.if_icmp .eq 10, 3) := by decide +kernel
theorem dX11_settle_41 : decode cX11_settle 41 = .ok (.aload_n 3, 1) := by decide +kernel
theorem dX11_settle_42 : decode cX11_settle 42 = .ok (.getfield 326, 3) := by decide +kernel
theorem dX11_settle_45 : decode cX11_settle 45 = .ok (.ifCond .eq 6, 3) := by decide +kernel
theorem dX11_settle_48 : decode cX11_settle 48 = .ok (.bipush (-2), 2) := by decide +kernel
theorem dX11_settle_50 : decode cX11_settle 50 = .ok (.ireturn, 1) := by decide +kernel
theorem dX11_settle_51 : decode cX11_settle 51 = .ok (.iload_n 2, 1) := by decide +kernel
theorem dX11_settle_52 : decode cX11_settle 52 = .ok (.aload_n 3, 1) := by decide +kernel
theorem dX11_settle_53 : decode cX11_settle 53 = .ok (.getfield 323, 3) := by decide +kernel
theorem dX11_settle_56 : decode cX11_settle 56 = .ok (.invokestatic 330, 3) := by decide +kernel
theorem dX11_settle_59 : decode cX11_settle 59 = .ok (.istore 4, 2) := by decide +kernel
theorem dX11_settle_61 : decode cX11_settle 61 = .ok (.aload_n 0, 1) := by decide +kernel
theorem dX11_settle_62 : decode cX11_settle 62 = .ok (.aload_n 3, 1) := by decide +kernel
theorem dX11_settle_63 : decode cX11_settle 63 = .ok (.invokevirtual 264, 3) := by decide +kernel
theorem dX11_settle_66 : decode cX11_settle 66 = .ok (.aload_n 3, 1) := by decide +kernel
theorem dX11_settle_67 : decode cX11_settle 67 = .ok (.invokevirtual 267, 3) := by decide +kernel
theorem dX11_settle_70 : decode cX11_settle 70 = .ok (.iload 4, 2) := by decide +kernel
theorem dX11_settle_72 : decode cX11_settle 72 = .ok (.invokevirtual 303, 3) := by decide +kernel
theorem dX11_settle_75 : decode cX11_settle 75 = .ok (.ifCond .ne 6, 3) := by decide +kernel
theorem dX11_settle_78 : decode cX11_settle 78 = .ok (.bipush (-3), 2) := by decide +kernel
theorem dX11_settle_80 : decode cX11_settle 80 = .ok (.ireturn, 1) := by decide +kernel
theorem dX11_settle_81 : decode cX11_settle 81 = .ok (.aload_n 3, 1) := by decide +kernel
theorem dX11_settle_82 : decode cX11_settle 82 = .ok (.iconst 1, 1) := by decide +kernel
theorem dX11_settle_83 : decode cX11_settle 83 = .ok (.putfield 326, 3) := by decide +kernel
theorem dX11_settle_86 : decode cX11_settle 86 = .ok (.iload 4, 2) := by decide +kernel
theorem dX11_settle_88 : decode cX11_settle 88 = .ok (.ireturn, 1) := by decide +kernel
theorem dX11_payUnlessFull_0 : decode cX11_payUnlessFull 0 = .ok (.iload_n 3, 1) := by decide +kernel
theorem dX11_payUnlessFull_1 : decode cX11_payUnlessFull 1 = .ok (.ifCond .ne 5, 3) := by decide +kernel
theorem dX11_payUnlessFull_4 : decode cX11_payUnlessFull 4 = .ok (.iconst 1, 1) := by decide +kernel
theorem dX11_payUnlessFull_5 : decode cX11_payUnlessFull 5 = .ok (.ireturn, 1) := by decide +kernel
theorem dX11_payUnlessFull_6 : decode cX11_payUnlessFull 6 = .ok (.aload_n 0, 1) := by decide +kernel
theorem dX11_payUnlessFull_7 : decode cX11_payUnlessFull 7 = .ok (.getfield 38, 3) := by decide +kernel
theorem dX11_payUnlessFull_10 : decode cX11_payUnlessFull 10 = .ok (.invokevirtual 258, 3) := by decide +kernel
theorem dX11_payUnlessFull_13 : decode cX11_payUnlessFull 13 = .ok (.ifCond .eq 5, 3) := by decide +kernel
theorem dX11_payUnlessFull_16 : decode cX11_payUnlessFull 16 = .ok (.iconst 0, 1) := by decide +kernel
theorem dX11_payUnlessFull_17 : decode cX11_payUnlessFull 17 = .ok (.ireturn, 1) := by decide +kernel
theorem dX11_payUnlessFull_18 : decode cX11_payUnlessFull 18 = .ok (.aload_n 0, 1) := by decide +kernel
theorem dX11_payUnlessFull_19 : decode cX11_payUnlessFull 19 = .ok (.getfield 38, 3) := by decide +kernel
theorem dX11_payUnlessFull_22 : decode cX11_payUnlessFull 22 = .ok (.iload_n 1, 1) := by decide +kernel
theorem dX11_payUnlessFull_23 : decode cX11_payUnlessFull 23 = .ok (.iload_n 2, 1) := by decide +kernel
theorem dX11_payUnlessFull_24 : decode cX11_payUnlessFull 24 = .ok (.iload_n 3, 1) := by decide +kernel
theorem dX11_payUnlessFull_25 : decode cX11_payUnlessFull 25 = .ok (.aload_n 0, 1) := by decide +kernel
theorem dX11_payUnlessFull_26 : decode cX11_payUnlessFull 26 = .ok (.getfield 111, 3) := by decide +kernel
theorem dX11_payUnlessFull_29 : decode cX11_payUnlessFull 29 = .ok (.invokevirtual 270, 3) := by decide +kernel
theorem dX11_payUnlessFull_32 : decode cX11_payUnlessFull 32 = .ok (.iconst 1, 1) := by decide +kernel
theorem dX11_payUnlessFull_33 : decode cX11_payUnlessFull 33 = .ok (.ireturn, 1) := by decide +kernel
theorem dX11_mend_0 : decode cX11_mend 0 = .ok (.iload_n 1, 1) := by decide +kernel
theorem dX11_mend_1 : decode cX11_mend 1 = .ok (.aload_n 0, 1) := by decide +kernel
theorem dX11_mend_2 : decode cX11_mend 2 = .ok (.getfield 38, 3) := by decide +kernel
theorem dX11_mend_5 : decode cX11_mend 5 = .ok (.invokevirtual 335, 3) := by decide +kernel
theorem dX11_mend_8 : decode cX11_mend 8 = .ok (.invokestatic 77, 3) := by decide +kernel
theorem dX11_mend_11 : decode cX11_mend 11 = .ok (.iload_n 2, 1) := by decide +kernel
theorem dX11_mend_12 : decode cX11_mend 12 = .ok (.iconst 0, 1) := by decide +kernel
theorem dX11_mend_13 : decode cX11_mend 13 = .ok (.ldc_w 338, 3) := by decide +kernel
theorem dX11_mend_16 : decode cX11_mend 16 = .ok (.invokestatic 107, 3) := by decide +kernel
theorem dX11_mend_19 : decode cX11_mend 19 = .ok (.aload_n 0, 1) := by decide +kernel
theorem dX11_mend_20 : decode cX11_mend 20 = .ok (.getfield 38, 3) := by decide +kernel
theorem dX11_mend_23 : decode cX11_mend 23 = .ok (.invokevirtual 339, 3) := by decide +kernel
theorem dX11_mend_26 : decode cX11_mend 26 = .ok (.bipush 60, 2) := by decide +kernel
theorem dX11_mend_28 : decode cX11_mend 28 = .ok (.if_icmp .lt 5, 3) := by decide +kernel
theorem dX11_mend_31 : decode cX11_mend 31 = .ok (.iconst (-1), 1) := by decide +kernel
theorem dX11_mend_32 : decode cX11_mend 32 = .ok (.ireturn, 1) := by decide +kernel
theorem dX11_mend_33 : decode cX11_mend 33 = .ok (.aload_n 0, 1) := by decide +kernel
theorem dX11_mend_34 : decode cX11_mend 34 = .ok (.getfield 38, 3) := by decide +kernel
theorem dX11_mend_37 : decode cX11_mend 37 = .ok (.iload_n 1, 1) := by decide +kernel
theorem dX11_mend_38 : decode cX11_mend 38 = .ok (.aload_n 0, 1) := by decide +kernel
theorem dX11_mend_39 : decode cX11_mend 39 = .ok (.getfield 111, 3) := by decide +kernel
theorem dX11_mend_42 : decode cX11_mend 42 = .ok (.invokevirtual 342, 3) := by decide +kernel
theorem dX11_mend_45 : decode cX11_mend 45 = .ok (.istore_n 3, 1) := by decide +kernel
theorem dX11_mend_46 : decode cX11_mend 46 = .ok (.aload_n 0, 1) := by decide +kernel
theorem dX11_mend_47 : decode cX11_mend 47 = .ok (.getfield 38, 3) := by decide +kernel
theorem dX11_mend_50 : decode cX11_mend 50 = .ok (.iload_n 1, 1) := by decide +kernel
theorem dX11_mend_51 : decode cX11_mend 51 = .ok (.iload_n 2, 1) := by decide +kernel
theorem dX11_mend_52 : decode cX11_mend 52 = .ok (.aload_n 0, 1) := by decide +kernel
theorem dX11_mend_53 : decode cX11_mend 53 = .ok (.getfield 111, 3) := by decide +kernel
theorem dX11_mend_56 : decode cX11_mend 56 = .ok (.invokevirtual 345, 3) := by decide +kernel
theorem dX11_mend_59 : decode cX11_mend 59 = .ok (.iload_n 3, 1) := by decide +kernel
theorem dX11_mend_60 : decode cX11_mend 60 = .ok (.ireturn, 1) := by decide +kernel
theorem dX11_payment_0 : decode cX11_payment 0 = .ok (.iload_n 1, 1) := by decide +kernel
theorem dX11_payment_1 : decode cX11_payment 1 = .ok (.aload_n 0, 1) := by decide +kernel
theorem dX11_payment_2 : decode cX11_payment 2 = .ok (.getfield 38, 3) := by decide +kernel
theorem dX11_payment_5 : decode cX11_payment 5 = .ok (.invokevirtual 335, 3) := by decide +kernel
theorem dX11_payment_8 : decode cX11_payment 8 = .ok (.invokestatic 77, 3) := by decide +kernel
theorem dX11_payment_11 : decode cX11_payment 11 = .ok (.iload_n 2, 1) := by decide +kernel
theorem dX11_payment_12 : decode cX11_payment 12 = .ok (.iconst 0, 1) := by decide +kernel
theorem dX11_payment_13 : decode cX11_payment 13 = .ok (.iconst 3, 1) := by decide +kernel
theorem dX11_payment_14 : decode cX11_payment 14 = .ok (.invokestatic 107, 3) := by decide +kernel
theorem dX11_payment_17 : decode cX11_payment 17 = .ok (.iload_n 2, 1) := by decide +kernel
theorem dX11_payment_18 : decode cX11_payment 18 = .ok (.tableswitch 57 0 2 #[26, 35, 44], 26) := by decide +kernel
theorem dX11_payment_44 : decode cX11_payment 44 = .ok (.aload_n 0, 1) := by decide +kernel
theorem dX11_payment_45 : decode cX11_payment 45 = .ok (.getfield 38, 3) := by decide +kernel
theorem dX11_payment_48 : decode cX11_payment 48 = .ok (.iload_n 1, 1) := by decide +kernel
theorem dX11_payment_49 : decode cX11_payment 49 = .ok (.invokevirtual 348, 3) := by decide +kernel
theorem dX11_payment_52 : decode cX11_payment 52 = .ok (.ireturn, 1) := by decide +kernel
theorem dX11_payment_53 : decode cX11_payment 53 = .ok (.aload_n 0, 1) := by decide +kernel
theorem dX11_payment_54 : decode cX11_payment 54 = .ok (.getfield 38, 3) := by decide +kernel
theorem dX11_payment_57 : decode cX11_payment 57 = .ok (.iload_n 1, 1) := by decide +kernel
theorem dX11_payment_58 : decode cX11_payment 58 = .ok (.invokevirtual 351, 3) := by decide +kernel
theorem dX11_payment_61 : decode cX11_payment 61 = .ok (.ireturn, 1) := by decide +kernel
theorem dX11_payment_62 : decode cX11_payment 62 = .ok (.aload_n 0, 1) := by decide +kernel
theorem dX11_payment_63 : decode cX11_payment 63 = .ok (.getfield 38, 3) := by decide +kernel
theorem dX11_payment_66 : decode cX11_payment 66 = .ok (.iload_n 1, 1) := by decide +kernel
theorem dX11_payment_67 : decode cX11_payment 67 = .ok (.aload_n 0, 1) := by decide +kernel
theorem dX11_payment_68 : decode cX11_payment 68 = .ok (.getfield 111, 3) := by decide +kernel
theorem dX11_payment_71 : decode cX11_payment 71 = .ok (.invokevirtual 342, 3) := by decide +kernel
theorem dX11_payment_74 : decode cX11_payment 74 = .ok (.ireturn, 1) := by decide +kernel
theorem dX11_payment_75 : decode cX11_payment 75 = .ok (.aload_n 0, 1) := by decide +kernel
theorem dX11_payment_76 : decode cX11_payment 76 = .ok (.getfield 38, 3) := by decide +kernel
theorem dX11_payment_79 : decode cX11_payment 79 = .ok (.iload_n 1, 1) := by decide +kernel
theorem dX11_payment_80 : decode cX11_payment 80 = .ok (.invokevirtual 354, 3) := by decide +kernel
theorem dX11_payment_83 : decode cX11_payment 83 = .ok (.ireturn, 1) := by decide +kernel
theorem dX11_balance_0 : decode cX11_balance 0 = .ok (.iload_n 1, 1) := by decide +kernel
theorem dX11_balance_1 : decode cX11_balance 1 = .ok (.aload_n 0, 1) := by decide +kernel
theorem dX11_balance_2 : decode cX11_balance 2 = .ok (.getfield 69, 3) := by decide +kernel
theorem dX11_balance_5 : decode cX11_balance 5 = .ok (.invokestatic 77, 3) := by decide +kernel
theorem dX11_balance_8 : decode cX11_balance 8 = .ok (.aload_n 0, 1) := by decide +kernel
theorem dX11_balance_9 : decode cX11_balance 9 = .ok (.getfield 38, 3) := by decide +kernel
theorem dX11_balance_12 : decode cX11_balance 12 = .ok (.iload_n 1, 1) := by decide +kernel
theorem dX11_balance_13 : decode cX11_balance 13 = .ok (.iload_n 2, 1) := by decide +kernel
theorem dX11_balance_14 : decode cX11_balance 14 = .ok (.iload_n 3, 1) := by decide +kernel
theorem dX11_balance_15 : decode cX11_balance 15 = .ok (.invokevirtual 357, 3) := by decide +kernel
theorem dX11_balance_18 : decode cX11_balance 18 = .ok (.lreturn, 1) := by decide +kernel
theorem dX11_hand_0 : decode cX11_hand 0 = .ok (.iload_n 1, 1) := by decide +kernel
theorem dX11_hand_1 : decode cX11_hand 1 = .ok (.bipush (-50), 2) := by decide +kernel
theorem dX11_hand_3 : decode cX11_hand 3 = .ok (.bipush 50, 2) := by decide +kernel
theorem dX11_hand_5 : decode cX11_hand 5 = .ok (.invokestatic 107, 3) := by decide +kernel
theorem dX11_hand_8 : decode cX11_hand 8 = .ok (.aload_n 0, 1) := by decide +kernel
theorem dX11_hand_9 : decode cX11_hand 9 = .ok (.getfield 361, 3) := by decide +kernel
theorem dX11_hand_12 : decode cX11_hand 12 = .ok (.iconst 5, 1) := by decide +kernel
theorem dX11_hand_13 : decode cX11_hand 13 = .ok (.invokestatic 73, 3) := by decide +kernel
theorem dX11_hand_16 : decode cX11_hand 16 = .ok (.aload_n 0, 1) := by decide +kernel
theorem dX11_hand_17 : decode cX11_hand 17 = .ok (.getfield 32, 3) := by decide +kernel
theorem dX11_hand_20 : decode cX11_hand 20 = .ok (.aload_n 0, 1) := by decide +kernel
theorem dX11_hand_21 : decode cX11_hand 21 = .ok (.getfield 361, 3) := by decide +kernel
theorem dX11_hand_24 : decode cX11_hand 24 = .ok (.iload_n 1, 1) := by decide +kernel
theorem dX11_hand_25 : decode cX11_hand 25 = .ok (.iastore, 1) := by decide +kernel
theorem dX11_hand_26 : decode cX11_hand 26 = .ok (.aload_n 0, 1) := by decide +kernel
theorem dX11_hand_27 : decode cX11_hand 27 = .ok (.dup, 1) := by decide +kernel
theorem dX11_hand_28 : decode cX11_hand 28 = .ok (.getfield 361, 3) := by decide +kernel
theorem dX11_hand_31 : decode cX11_hand 31 = .ok (.iconst 1, 1) := by decide +kernel
theorem dX11_hand_32 : decode cX11_hand 32 = .ok (.iadd, 1) := by decide +kernel
theorem dX11_hand_33 : decode cX11_hand 33 = .ok (.putfield 361, 3) := by decide +kernel
theorem dX11_hand_36 : decode cX11_hand 36 = .ok (.aload_n 0, 1) := by decide +kernel
theorem dX11_hand_37 : decode cX11_hand 37 = .ok (.getfield 361, 3) := by decide +kernel
theorem dX11_hand_40 : decode cX11_hand 40 = .ok (.iconst 1, 1) := by decide +kernel
theorem dX11_hand_41 : decode cX11_hand 41 = .ok (.isub, 1) := by decide +kernel
theorem dX11_hand_42 : decode cX11_hand 42 = .ok (.ireturn, 1) := by decide +kernel
theorem dX11_survey_0 : decode cX11_survey 0 = .ok (.iload_n 1, 1) := by decide +kernel
theorem dX11_survey_1 : decode cX11_survey 1 = .ok (.aload_n 0, 1) := by decide +kernel
theorem dX11_survey_2 : decode cX11_survey 2 = .ok (.getfield 361, 3) := by decide +kernel
theorem dX11_survey_5 : decode cX11_survey 5 = .ok (.invokestatic 77, 3) := by decide +kernel
theorem dX11_survey_8 : decode cX11_survey 8 = .ok (.aload_n 0, 1) := by decide +kernel
theorem dX11_survey_9 : decode cX11_survey 9 = .ok (.getfield 19, 3) := by decide +kernel
theorem dX11_survey_12 : decode cX11_survey 12 = .ok (.invokevirtual 80, 3) := by decide +kernel
theorem dX11_survey_15 : decode cX11_survey 15 = .ok (.bipush 10, 2) := by decide +kernel
theorem dX11_survey_17 : decode cX11_survey 17 = .ok (.invokestatic 73, 3) := by decide +kernel
theorem dX11_survey_20 : decode cX11_survey 20 = .ok (.aload_n 0, 1) := by decide +kernel
theorem dX11_survey_21 : decode cX11_survey 21 = .ok (.getfield 19, 3) := by decide +kernel
theorem dX11_survey_24 : decode cX11_survey 24 = .ok (.new 364, 3) := by decide +kernel
theorem dX11_survey_27 : decode cX11_survey 27 = .ok (.dup, 1) := by decide +kernel
theorem dX11_survey_28 : decode cX11_survey 28 = .ok (.aload_n 0, 1) := by decide +kernel
theorem dX11_survey_29 : decode cX11_survey 29 = .ok (.getfield 32, 3) := by decide +kernel
theorem dX11_survey_32 : decode cX11_survey 32 = .ok (.iload_n 1, 1) := by decide +kernel
theorem dX11_survey_33 : decode cX11_survey 33 = .ok (.iaload, 1) := by decide +kernel
theorem dX11_survey_34 : decode cX11_survey 34 = .ok (.invokespecial 366, 3) := by decide +kernel
theorem dX11_survey_37 : decode cX11_survey 37 = .ok (.invokevirtual 88, 3) := by decide +kernel
theorem dX11_survey_40 : decode cX11_survey 40 = .ok (.pop, 1) := by decide +kernel
theorem dX11_survey_41 : decode cX11_survey 41 = .ok (.aload_n 0, 1) := by decide +kernel
theorem dX11_survey_42 : decode cX11_survey 42 = .ok (.getfield 19, 3) := by decide +kernel
theorem dX11_survey_45 : decode cX11_survey 45 = .ok (.invokevirtual 80, 3) := by decide +kernel
theorem dX11_survey_48 : decode cX11_survey 48 = .ok (.iconst 1, 1) := by decide +kernel
theorem dX11_survey_49 : decode cX11_survey 49 = .ok (.isub, 1) := by decide +kernel
theorem dX11_survey_50 : decode cX11_survey 50 = .ok (.ireturn, 1) := by decide +kernel
theorem dX11_crack_0 : decode cX11_crack 0 = .ok (.aload_n 0, 1) := by decide +kernel
theorem dX11_crack_1 : decode cX11_crack 1 = .ok (.iload_n 1, 1) := by decide +kernel
theorem dX11_crack_2 : decode cX11_crack 2 = .ok (.invokevirtual 368, 3) := by decide +kernel
theorem dX11_crack_5 : decode cX11_crack 5 = .ok (.astore 4, 2) := by decide +kernel
theorem dX11_crack_7 : decode cX11_crack 7 = .ok (.iload_n 2, 1) := by decide +kernel
theorem dX11_crack_8 : decode cX11_crack 8 = .ok (.iconst 0, 1) := by decide +kernel
theorem dX11_crack_9 : decode cX11_crack 9 = .ok (.ldc_w 277, 3) := by decide +kernel
theorem dX11_crack_12 : decode cX11_crack 12 = .ok (.invokestatic 107, 3) := by decide +kernel
theorem dX11_crack_15 : decode cX11_crack 15 = .ok (.iload_n 3, 1) := by decide +kernel
theorem dX11_crack_16 : decode cX11_crack 16 = .ok (.iconst 0, 1) := by decide +kernel
theorem dX11_crack_17 : decode cX11_crack 17 = .ok (.sipush 10000, 3) := by decide +kernel
theorem dX11_crack_20 : decode cX11_crack 20 = .ok (.invokestatic 107, 3) := by decide +kernel
theorem dX11_crack_23 : decode cX11_crack 23 = .ok (.aload 4, 2) := by decide +kernel
theorem dX11_crack_25 : decode cX11_crack 25 = .ok (.invokevirtual 372, 3) := by decide +kernel
theorem dX11_crack_28 : decode cX11_crack 28 = .ok (.bipush 20, 2) := by decide +kernel
theorem dX11_crack_30 : decode cX11_crack 30 = .ok (.if_icmp .lt 5, 3) := by decide +kernel
theorem dX11_crack_33 : decode cX11_crack 33 = .ok (.iconst (-1), 1) := by decide +kernel
theorem dX11_crack_34 : decode cX11_crack 34 = .ok (.ireturn, 1) := by decide +kernel
theorem dX11_crack_35 : decode cX11_crack 35 = .ok (.aload 4, 2) := by decide +kernel
theorem dX11_crack_37 : decode cX11_crack 37 = .ok (.iload_n 2, 1) := by decide +kernel
theorem dX11_crack_38 : decode cX11_crack 38 = .ok (.invokevirtual 375, 3) := by decide +kernel
theorem dX11_crack_41 : decode cX11_crack 41 = .ok (.ifCond .eq 6, 3) := by decide +kernel
theorem dX11_crack_44 : decode cX11_crack 44 = .ok (.bipush (-2), 2) := by decide +kernel
theorem dX11_crack_46 : decode cX11_crack 46 = .ok (.ireturn, 1) := by decide +kernel
theorem dX11_crack_47 : decode cX11_crack 47 = .ok (.aload 4, 2) := by decide +kernel
theorem dX11_crack_49 : decode cX11_crack 49 = .ok (.iload_n 2, 1) := by decide +kernel
theorem dX11_crack_50 : decode cX11_crack 50 = .ok (.iload_n 3, 1) := by decide +kernel
theorem dX11_crack_51 : decode cX11_crack 51 = .ok (.invokevirtual 379, 3) := by decide +kernel
theorem dX11_crack_54 : decode cX11_crack 54 = .ok (.aload 4, 2) := by decide +kernel
theorem dX11_crack_56 : decode cX11_crack 56 = .ok (.invokevirtual 372, 3) := by decide +kernel
theorem dX11_crack_59 : decode cX11_crack 59 = .ok (.iconst 1, 1) := by decide +kernel
theorem dX11_crack_60 : decode cX11_crack 60 = .ok (.isub, 1) := by decide +kernel
theorem dX11_crack_61 : decode cX11_crack 61 = .ok (.ireturn, 1) := by decide +kernel
theorem dX11_joined_0 : decode cX11_joined 0 = .ok (.aload_n 0, 1) := by decide +kernel
theorem dX11_joined_1 : decode cX11_joined 1 = .ok (.iload_n 1, 1) := by decide +kernel
theorem dX11_joined_2 : decode cX11_joined 2 = .ok (.invokevirtual 368, 3) := by decide +kernel
theorem dX11_joined_5 : decode cX11_joined 5 = .ok (.astore 4, 2) := by decide +kernel
theorem dX11_joined_7 : decode cX11_joined 7 = .ok (.aload_n 0, 1) := by decide +kernel
theorem dX11_joined_8 : decode cX11_joined 8 = .ok (.iload_n 2, 1) := by decide +kernel
theorem dX11_joined_9 : decode cX11_joined 9 = .ok (.invokevirtual 368, 3) := by decide +kernel
theorem dX11_joined_12 : decode cX11_joined 12 = .ok (.astore 5, 2) := by decide +kernel
theorem dX11_joined_14 : decode cX11_joined 14 = .ok (.iload_n 3, 1) := by decide +kernel
theorem dX11_joined_15 : decode cX11_joined 15 = .ok (.iconst 0, 1) := by decide +kernel
theorem dX11_joined_16 : decode cX11_joined 16 = .ok (.iconst 4, 1) := by decide +kernel
theorem dX11_joined_17 : decode cX11_joined 17 = .ok (.invokestatic 107, 3) := by decide +kernel
theorem dX11_joined_20 : decode cX11_joined 20 = .ok (.aload_n 0, 1) := by decide +kernel
theorem dX11_joined_21 : decode cX11_joined 21 = .ok (.getfield 45, 3) := by decide +kernel
theorem dX11_joined_24 : decode cX11_joined 24 = .ok (.aload 4, 2) := by decide +kernel
theorem dX11_joined_26 : decode cX11_joined 26 = .ok (.aload 5, 2) := by decide +kernel
theorem dX11_joined_28 : decode cX11_joined 28 = .ok (.aload_n 0, 1) := by decide +kernel
theorem dX11_joined_29 : decode cX11_joined 29 = .ok (.getfield 65, 3) := by decide +kernel
theorem dX11_joined_32 : decode cX11_joined 32 = .ok (.getfield 382, 3) := by decide +kernel
theorem dX11_joined_35 : decode cX11_joined 35 = .ok (.invokevirtual 385, 3) := by decide +kernel
theorem dX11_joined_38 : decode cX11_joined 38 = .ok (.aload_n 0, 1) := by decide +kernel
theorem dX11_joined_39 : decode cX11_joined 39 = .ok (.getfield 45, 3) := by decide +kernel
theorem dX11_joined_42 : decode cX11_joined 42 = .ok (.aload_n 0, 1) := by decide +kernel
theorem dX11_joined_43 : decode cX11_joined 43 = .ok (.getfield 65, 3) := by decide +kernel
theorem dX11_joined_46 : decode cX11_joined 46 = .ok (.getfield 389, 3) := by decide +kernel
theorem dX11_joined_49 : decode cX11_joined 49 = .ok (.aload 4, 2) := by decide +kernel
theorem dX11_joined_51 : decode cX11_joined 51 = .ok (.aload 5, 2) := by decide +kernel
theorem dX11_joined_53 : decode cX11_joined 53 = .ok (.invokevirtual 392, 3) := by decide +kernel
theorem dX11_joined_56 : decode cX11_joined 56 = .ok (.istore 6, 2) := by decide +kernel
theorem dX11_joined_58 : decode cX11_joined 58 = .ok (.iload_n 3, 1) := by decide +kernel
theorem dX11_joined_59 : decode cX11_joined 59 = .ok (.tableswitch 71 0 3 #[29, 40, 43, 57], 29) := by decide +kernel
theorem dX11_joined_88 : decode cX11_joined 88 = .ok (.aload_n 0, 1) := by decide +kernel
theorem dX11_joined_89 : decode cX11_joined 89 = .ok (.getfield 45, 3) := by decide +kernel
theorem dX11_joined_92 : decode cX11_joined 92 = .ok (.invokevirtual 396, 3) := by decide +kernel
theorem dX11_joined_95 : decode cX11_joined 95 = .ok (.iload 6, 2) := by decide +kernel
theorem dX11_joined_97 : decode cX11_joined 97 = .ok (.isub, 1) := by decide +kernel
theorem dX11_joined_98 : decode cX11_joined 98 = .ok (.ireturn, 1) := by decide +kernel
theorem dX11_joined_99 : decode cX11_joined 99 = .ok (.iload 6, 2) := by decide +kernel
theorem dX11_joined_101 : decode cX11_joined 101 = .ok (.ireturn, 1) := by decide +kernel
theorem dX11_joined_102 : decode cX11_joined 102 = .ok (.aload 5, 2) := by decide +kernel
theorem dX11_joined_104 : decode cX11_joined 104 = .ok (.invokevirtual 372, 3) := by decide +kernel
theorem dX11_joined_107 : decode cX11_joined 107 = .ok (.aload_n 0, 1) := by decide +kernel
theorem dX11_joined_108 : decode cX11_joined 108 = .ok (.getfield 45, 3) := by decide +kernel
theorem dX11_joined_111 : decode cX11_joined 111 = .ok (.invokevirtual 396, 3) := by decide +kernel
theorem dX11_joined_114 : decode cX11_joined 114 = .ok (.isub, 1) := by decide +kernel
theorem dX11_joined_115 : decode cX11_joined 115 = .ok (.ireturn, 1) := by decide +kernel
theorem dX11_joined_116 : decode cX11_joined 116 = .ok (.aload 4, 2) := by decide +kernel
theorem dX11_joined_118 : decode cX11_joined 118 = .ok (.invokevirtual 372, 3) := by decide +kernel
theorem dX11_joined_121 : decode cX11_joined 121 = .ok (.aload_n 0, 1) := by decide +kernel
theorem dX11_joined_122 : decode cX11_joined 122 = .ok (.getfield 45, 3) := by decide +kernel
theorem dX11_joined_125 : decode cX11_joined 125 = .ok (.invokevirtual 396, 3) := by decide +kernel
theorem dX11_joined_128 : decode cX11_joined 128 = .ok (.isub, 1) := by decide +kernel
theorem dX11_joined_129 : decode cX11_joined 129 = .ok (.ireturn, 1) := by decide +kernel
theorem dX11_joined_130 : decode cX11_joined 130 = .ok (.aload_n 0, 1) := by decide +kernel
theorem dX11_joined_131 : decode cX11_joined 131 = .ok (.getfield 45, 3) := by decide +kernel
theorem dX11_joined_134 : decode cX11_joined 134 = .ok (.invokevirtual 399, 3) := by decide +kernel
theorem dX11_joined_137 : decode cX11_joined 137 = .ok (.ireturn, 1) := by decide +kernel
theorem dX11_pair_0 : decode cX11_pair 0 = .ok (.aload_n 0, 1) := by decide +kernel
theorem dX11_pair_1 : decode cX11_pair 1 = .ok (.iload_n 1, 1) := by decide +kernel
theorem dX11_pair_2 : decode cX11_pair 2 = .ok (.invokevirtual 368, 3) := by decide +kernel
theorem dX11_pair_5 : decode cX11_pair 5 = .ok (.astore 4, 2) := by decide +kernel
theorem dX11_pair_7 : decode cX11_pair 7 = .ok (.aload_n 0, 1) := by decide +kernel
theorem dX11_pair_8 : decode cX11_pair 8 = .ok (.iload_n 2, 1) := by decide +kernel
theorem dX11_pair_9 : decode cX11_pair 9 = .ok (.invokevirtual 368, 3) := by decide +kernel
theorem dX11_pair_12 : decode cX11_pair 12 = .ok (.astore 5, 2) := by decide +kernel
theorem dX11_pair_14 : decode cX11_pair 14 = .ok (.aload_n 0, 1) := by decide +kernel
theorem dX11_pair_15 : decode cX11_pair 15 = .ok (.getfield 45, 3) := by decide +kernel
theorem dX11_pair_18 : decode cX11_pair 18 = .ok (.aload 4, 2) := by decide +kernel
theorem dX11_pair_20 : decode cX11_pair 20 = .ok (.aload 5, 2) := by decide +kernel
theorem dX11_pair_22 : decode cX11_pair 22 = .ok (.aload_n 0, 1) := by decide +kernel
theorem dX11_pair_23 : decode cX11_pair 23 = .ok (.getfield 65, 3) := by decide +kernel
theorem dX11_pair_26 : decode cX11_pair 26 = .ok (.getfield 382, 3) := by decide +kernel
theorem dX11_pair_29 : decode cX11_pair 29 = .ok (.invokevirtual 385, 3) := by decide +kernel
theorem dX11_pair_32 : decode cX11_pair 32 = .ok (.aload_n 0, 1) := by decide +kernel
theorem dX11_pair_33 : decode cX11_pair 33 = .ok (.getfield 45, 3) := by decide +kernel
theorem dX11_pair_36 : decode cX11_pair 36 = .ok (.iload_n 3, 1) := by decide +kernel
theorem dX11_pair_37 : decode cX11_pair 37 = .ok (.invokevirtual 402, 3) := by decide +kernel
theorem dX11_pair_40 : decode cX11_pair 40 = .ok (.ireturn, 1) := by decide +kernel
theorem dX11_gauge_0 : decode cX11_gauge 0 = .ok (.aload_n 0, 1) := by decide +kernel
theorem dX11_gauge_1 : decode cX11_gauge 1 = .ok (.getfield 22, 3) := by decide +kernel
theorem dX11_gauge_4 : decode cX11_gauge 4 = .ok (.invokevirtual 80, 3) := by decide +kernel
theorem dX11_gauge_7 : decode cX11_gauge 7 = .ok (.bipush 10, 2) := by decide +kernel
theorem dX11_gauge_9 : decode cX11_gauge 9 = .ok (.invokestatic 73, 3) := by decide +kernel
theorem dX11_gauge_12 : decode cX11_gauge 12 = .ok (.aload_n 0, 1) := by decide +kernel
theorem dX11_gauge_13 : decode cX11_gauge 13 = .ok (.getfield 22, 3) := by decide +kernel
theorem dX11_gauge_16 : decode cX11_gauge 16 = .ok (.new 405, 3) := by decide +kernel
theorem dX11_gauge_19 : decode cX11_gauge 19 = .ok (.dup, 1) := by decide +kernel
theorem dX11_gauge_20 : decode cX11_gauge 20 = .ok (.invokespecial 407, 3) := by decide +kernel
theorem dX11_gauge_23 : decode cX11_gauge 23 = .ok (.invokevirtual 88, 3) := by decide +kernel
theorem dX11_gauge_26 : decode cX11_gauge 26 = .ok (.pop, 1) := by decide +kernel
theorem dX11_gauge_27 : decode cX11_gauge 27 = .ok (.aload_n 0, 1) := by decide +kernel
theorem dX11_gauge_28 : decode cX11_gauge 28 = .ok (.getfield 22, 3) := by decide +kernel
theorem dX11_gauge_31 : decode cX11_gauge 31 = .ok (.invokevirtual 80, 3) := by decide +kernel
theorem dX11_gauge_34 : decode cX11_gauge 34 = .ok (.iconst 1, 1) := by decide +kernel
theorem dX11_gauge_35 : decode cX11_gauge 35 = .ok (.isub, 1) := by decide +kernel
theorem dX11_gauge_36 : decode cX11_gauge 36 = .ok (.ireturn, 1) := by decide +kernel
theorem dX11_read_0 : decode cX11_read 0 = .ok (.aload_n 0, 1) := by decide +kernel
theorem dX11_read_1 : decode cX11_read 1 = .ok (.iload_n 1, 1) := by decide +kernel
theorem dX11_read_2 : decode cX11_read 2 = .ok (.invokevirtual 408, 3) := by decide +kernel
theorem dX11_read_5 : decode cX11_read 5 = .ok (.astore 4, 2) := by decide +kernel
theorem dX11_read_7 : decode cX11_read 7 = .ok (.iload_n 2, 1) := by decide +kernel
theorem dX11_read_8 : decode cX11_read 8 = .ok (.iconst 0, 1) := by decide +kernel
theorem dX11_read_9 : decode cX11_read 9 = .ok (.invokestatic 226, 3) := by decide +kernel
theorem dX11_read_12 : decode cX11_read 12 = .ok (.iload_n 3, 1) := by decide +kernel
theorem dX11_read_13 : decode cX11_read 13 = .ok (.sipush (-10000), 3) := by decide +kernel
theorem dX11_read_16 : decode cX11_read 16 = .ok (.sipush 10000, 3) := by decide +kernel
theorem dX11_read_19 : decode cX11_read 19 = .ok (.invokestatic 107, 3) := by decide +kernel
theorem dX11_read_22 : decode cX11_read 22 = .ok (.aload 4, 2) := by decide +kernel
theorem dX11_read_24 : decode cX11_read 24 = .ok (.invokevirtual 412, 3) := by decide +kernel
theorem dX11_read_27 : decode cX11_read 27 = .ok (.bipush 40, 2) := by decide +kernel
theorem dX11_read_29 : decode cX11_read 29 = .ok (.if_icmp .lt 5, 3) := by decide +kernel
theorem dX11_read_32 : decode cX11_read 32 = .ok (.iconst (-1), 1) := by decide +kernel
theorem dX11_read_33 : decode cX11_read 33 = .ok (.ireturn, 1) := by decide +kernel
theorem dX11_read_34 : decode cX11_read 34 = .ok (.iload_n 2, 1) := by decide +kernel
theorem dX11_read_35 : decode cX11_read 35 = .ok (.aload_n 0, 1) := by decide +kernel
theorem dX11_read_36 : decode cX11_read 36 = .ok (.getfield 111, 3) := by decide +kernel
theorem dX11_read_39 : decode cX11_read 39 = .ok (.if_icmp .gt 12, 3) := by decide +kernel
theorem dX11_read_42 : decode cX11_read 42 = .ok (.aload 4, 2) := by decide +kernel
theorem dX11_read_44 : decode cX11_read 44 = .ok (.iload_n 2, 1) := by decide +kernel
theorem dX11_read_45 : decode cX11_read 45 = .ok (.invokevirtual 415, 3) := by decide +kernel
theorem dX11_read_48 : decode cX11_read 48 = .ok (.ifCond .ne 6, 3) := by decide +kernel
theorem dX11_read_51 : decode cX11_read 51 = .ok (.bipush (-2), 2) := by decide +kernel
theorem dX11_read_53 : decode cX11_read 53 = .ok (.ireturn, 1) := by decide +kernel
theorem dX11_read_54 : decode cX11_read 54 = .ok (.aload 4, 2) := by decide +kernel
theorem dX11_read_56 : decode cX11_read 56 = .ok (.iload_n 2, 1) := by decide +kernel
theorem dX11_read_57 : decode cX11_read 57 = .ok (.iload_n 3, 1) := by decide +kernel
theorem dX11_read_58 : decode cX11_read 58 = .ok (.invokevirtual 418, 3) := by decide +kernel
theorem dX11_read_61 : decode cX11_read 61 = .ok (.aload 4, 2) := by decide +kernel
theorem dX11_read_63 : decode cX11_read 63 = .ok (.invokevirtual 412, 3) := by decide +kernel
theorem dX11_read_66 : decode cX11_read 66 = .ok (.ireturn, 1) := by decide +kernel
theorem dX11_at_0 : decode cX11_at 0 = .ok (.aload_n 0, 1) := by decide +kernel
theorem dX11_at_1 : decode cX11_at 1 = .ok (.iload_n 1, 1) := by decide +kernel
theorem dX11_at_2 : decode cX11_at 2 = .ok (.invokevirtual 408, 3) := by decide +kernel
theorem dX11_at_5 : decode cX11_at 5 = .ok (.astore_n 3, 1) := by decide +kernel
theorem dX11_at_6 : decode cX11_at 6 = .ok (.aload_n 3, 1) := by decide +kernel
theorem dX11_at_7 : decode cX11_at 7 = .ok (.iload_n 2, 1) := by decide +kernel
theorem dX11_at_8 : decode cX11_at 8 = .ok (.invokevirtual 421, 3) := by decide +kernel
theorem dX11_at_11 : decode cX11_at 11 = .ok (.ifCond .eq 11, 3) := by decide +kernel
theorem dX11_at_14 : decode cX11_at 14 = .ok (.aload_n 3, 1) := by decide +kernel
theorem dX11_at_15 : decode cX11_at 15 = .ok (.iload_n 2, 1) := by decide +kernel
theorem dX11_at_16 : decode cX11_at 16 = .ok (.invokevirtual 424, 3) := by decide +kernel
theorem dX11_at_19 : decode cX11_at 19 = .ok (.goto 6, 3) := by decide +kernel
theorem dX11_at_22 : decode cX11_at 22 = .ok (.ldc_w 427, 3) := by decide +kernel
theorem dX11_at_25 : decode cX11_at 25 = .ok (.ireturn, 1) := by decide +kernel
theorem dX11_cause_0 : decode cX11_cause 0 = .ok (.aload_n 0, 1) := by decide +kernel
theorem dX11_cause_1 : decode cX11_cause 1 = .ok (.iload_n 1, 1) := by decide +kernel
theorem dX11_cause_2 : decode cX11_cause 2 = .ok (.invokevirtual 408, 3) := by decide +kernel
theorem dX11_cause_5 : decode cX11_cause 5 = .ok (.astore 6, 2) := by decide +kernel
theorem dX11_cause_7 : decode cX11_cause 7 = .ok (.aload_n 0, 1) := by decide +kernel
theorem dX11_cause_8 : decode cX11_cause 8 = .ok (.iload_n 2, 1) := by decide +kernel
theorem dX11_cause_9 : decode cX11_cause 9 = .ok (.invokevirtual 408, 3) := by decide +kernel
theorem dX11_cause_12 : decode cX11_cause 12 = .ok (.astore 7, 2) := by decide +kernel
theorem dX11_cause_14 : decode cX11_cause 14 = .ok (.aload_n 0, 1) := by decide +kernel
theorem dX11_cause_15 : decode cX11_cause 15 = .ok (.iload_n 3, 1) := by decide +kernel
theorem dX11_cause_16 : decode cX11_cause 16 = .ok (.invokevirtual 160, 3) := by decide +kernel
theorem dX11_cause_19 : decode cX11_cause 19 = .ok (.astore 8, 2) := by decide +kernel
theorem dX11_cause_21 : decode cX11_cause 21 = .ok (.iload 5, 2) := by decide +kernel
theorem dX11_cause_23 : decode cX11_cause 23 = .ok (.iconst 0, 1) := by decide +kernel
theorem dX11_cause_24 : decode cX11_cause 24 = .ok (.iconst 3, 1) := by decide +kernel
theorem dX11_cause_25 : decode cX11_cause 25 = .ok (.invokestatic 107, 3) := by decide +kernel
theorem dX11_cause_28 : decode cX11_cause 28 = .ok (.aload 6, 2) := by decide +kernel
theorem dX11_cause_30 : decode cX11_cause 30 = .ok (.aload 7, 2) := by decide +kernel
theorem dX11_cause_32 : decode cX11_cause 32 = .ok (.aload 8, 2) := by decide +kernel
theorem dX11_cause_34 : decode cX11_cause 34 = .ok (.iload 4, 2) := by decide +kernel
theorem dX11_cause_36 : decode cX11_cause 36 = .ok (.invokestatic 428, 3) := by decide +kernel
theorem dX11_cause_39 : decode cX11_cause 39 = .ok (.ifCond .ne 7, 3) := by decide +kernel
theorem dX11_cause_42 : decode cX11_cause 42 = .ok (.ldc2_w 432, 3) := by decide +kernel
theorem dX11_cause_45 : decode cX11_cause 45 = .ok (.lreturn, 1) := by decide +kernel
theorem dX11_cause_46 : decode cX11_cause 46 = .ok (.aload 8, 2) := by decide +kernel
theorem dX11_cause_48 : decode cX11_cause 48 = .ok (.getfield 203, 3) := by decide +kernel
theorem dX11_cause_51 : decode cX11_cause 51 = .ok (.istore 9, 2) := by decide +kernel
theorem dX11_cause_53 : decode cX11_cause 53 = .ok (.iload 5, 2) := by decide +kernel
theorem dX11_cause_55 : decode cX11_cause 55 = .ok (.tableswitch 55 0 2 #[25, 35, 45], 25) := by decide +kernel
theorem dX11_cause_80 : decode cX11_cause 80 = .ok (.aload 6, 2) := by decide +kernel
theorem dX11_cause_82 : decode cX11_cause 82 = .ok (.iload 9, 2) := by decide +kernel
theorem dX11_cause_84 : decode cX11_cause 84 = .ok (.iload 4, 2) := by decide +kernel
theorem dX11_cause_86 : decode cX11_cause 86 = .ok (.invokevirtual 434, 3) := by decide +kernel
theorem dX11_cause_89 : decode cX11_cause 89 = .ok (.lreturn, 1) := by decide +kernel
theorem dX11_cause_90 : decode cX11_cause 90 = .ok (.aload 7, 2) := by decide +kernel
theorem dX11_cause_92 : decode cX11_cause 92 = .ok (.iload 9, 2) := by decide +kernel
theorem dX11_cause_94 : decode cX11_cause 94 = .ok (.iload 4, 2) := by decide +kernel
theorem dX11_cause_96 : decode cX11_cause 96 = .ok (.invokevirtual 434, 3) := by decide +kernel
theorem dX11_cause_99 : decode cX11_cause 99 = .ok (.lreturn, 1) := by decide +kernel
theorem dX11_cause_100 : decode cX11_cause 100 = .ok (.aload 6, 2) := by decide +kernel
theorem dX11_cause_102 : decode cX11_cause 102 = .ok (.iload 9, 2) := by decide +kernel
theorem dX11_cause_104 : decode cX11_cause 104 = .ok (.iload 4, 2) := by decide +kernel
theorem dX11_cause_106 : decode cX11_cause 106 = .ok (.invokevirtual 438, 3) := by decide +kernel
theorem dX11_cause_109 : decode cX11_cause 109 = .ok (.lreturn, 1) := by decide +kernel
theorem dX11_cause_110 : decode cX11_cause 110 = .ok (.aload 6, 2) := by decide +kernel
theorem dX11_cause_112 : decode cX11_cause 112 = .ok (.aload 7, 2) := by decide +kernel
theorem dX11_cause_114 : decode cX11_cause 114 = .ok (.iload 9, 2) := by decide +kernel
theorem dX11_cause_116 : decode cX11_cause 116 = .ok (.iload 4, 2) := by decide +kernel
theorem dX11_cause_118 : decode cX11_cause 118 = .ok (.invokestatic 441, 3) := by decide +kernel
theorem dX11_cause_121 : decode cX11_cause 121 = .ok (.lreturn, 1) := by decide +kernel
theorem dX11_blamed_0 : decode cX11_blamed 0 = .ok (.aload_n 0, 1) := by decide +kernel
theorem dX11_blamed_1 : decode cX11_blamed 1 = .ok (.iload_n 1, 1) := by decide +kernel
theorem dX11_blamed_2 : decode cX11_blamed 2 = .ok (.invokevirtual 408, 3) := by decide +kernel
theorem dX11_blamed_5 : decode cX11_blamed 5 = .ok (.astore 5, 2) := by decide +kernel
theorem dX11_blamed_7 : decode cX11_blamed 7 = .ok (.aload_n 0, 1) := by decide +kernel
theorem dX11_blamed_8 : decode cX11_blamed 8 = .ok (.iload_n 2, 1) := by decide +kernel
theorem dX11_blamed_9 : decode cX11_blamed 9 = .ok (.invokevirtual 408, 3) := by decide +kernel
theorem dX11_blamed_12 : decode cX11_blamed 12 = .ok (.astore 6, 2) := by decide +kernel
theorem dX11_blamed_14 : decode cX11_blamed 14 = .ok (.aload_n 0, 1) := by decide +kernel
theorem dX11_blamed_15 : decode cX11_blamed 15 = .ok (.iload_n 3, 1) := by decide +kernel
theorem dX11_blamed_16 : decode cX11_blamed 16 = .ok (.invokevirtual 160, 3) := by decide +kernel
theorem dX11_blamed_19 : decode cX11_blamed 19 = .ok (.astore 7, 2) := by decide +kernel
theorem dX11_blamed_21 : decode cX11_blamed 21 = .ok (.aload 5, 2) := by decide +kernel
theorem dX11_blamed_23 : decode cX11_blamed 23 = .ok (.aload 6, 2) := by decide +kernel
theorem dX11_blamed_25 : decode cX11_blamed 25 = .ok (.aload 7, 2) := by decide +kernel
theorem dX11_blamed_27 : decode cX11_blamed 27 = .ok (.iload 4, 2) := by decide +kernel
theorem dX11_blamed_29 : decode cX11_blamed 29 = .ok (.invokestatic 428, 3) := by decide +kernel
theorem dX11_blamed_32 : decode cX11_blamed 32 = .ok (.ifCond .eq 33, 3) := by decide +kernel
theorem dX11_blamed_35 : decode cX11_blamed 35 = .ok (.aload 5, 2) := by decide +kernel
theorem dX11_blamed_37 : decode cX11_blamed 37 = .ok (.aload 6, 2) := by decide +kernel
theorem dX11_blamed_39 : decode cX11_blamed 39 = .ok (.aload 7, 2) := by decide +kernel
theorem dX11_blamed_41 : decode cX11_blamed 41 = .ok (.getfield 203, 3) := by decide +kernel
theorem dX11_blamed_44 : decode cX11_blamed 44 = .ok (.iload 4, 2) := by decide +kernel
theorem dX11_blamed_46 : decode cX11_blamed 46 = .ok (.invokestatic 441, 3) := by decide +kernel
theorem dX11_blamed_49 : decode cX11_blamed 49 = .ok (.aload_n 0, 1) := by decide +kernel
theorem dX11_blamed_50 : decode cX11_blamed 50 = .ok (.getfield 65, 3) := by decide +kernel
theorem dX11_blamed_53 : decode cX11_blamed 53 = .ok (.getfield 389, 3) := by decide +kernel
theorem dX11_blamed_56 : decode cX11_blamed 56 = .ok (.i2l, 1) := by decide +kernel
theorem dX11_blamed_57 : decode cX11_blamed 57 = .ok (.lcmp, 1) := by decide +kernel
theorem dX11_blamed_58 : decode cX11_blamed 58 = .ok (.ifCond .le 7, 3) := by decide +kernel
theorem dX11_blamed_61 : decode cX11_blamed 61 = .ok (.iconst 1, 1) := by decide +kernel
theorem dX11_blamed_62 : decode cX11_blamed 62 = .ok (.goto 4, 3) := by decide +kernel
theorem dX11_blamed_65 : decode cX11_blamed 65 = .ok (.iconst 0, 1) := by decide +kernel
theorem dX11_blamed_66 : decode cX11_blamed 66 = .ok (.ireturn, 1) := by decide +kernel
theorem dX11_hasCauses_0 : decode cX11_hasCauses 0 = .ok (.aload_n 2, 1) := by decide +kernel
theorem dX11_hasCauses_1 : decode cX11_hasCauses 1 = .ok (.getfield 203, 3) := by decide +kernel
theorem dX11_hasCauses_4 : decode cX11_hasCauses 4 = .ok (.istore 4, 2) := by decide +kernel
theorem dX11_hasCauses_6 : decode cX11_hasCauses 6 = .ok (.iload 4, 2) := by decide +kernel
theorem dX11_hasCauses_8 : decode cX11_hasCauses 8 = .ok (.iconst (-1), 1) := by decide +kernel
theorem dX11_hasCauses_9 : decode cX11_hasCauses 9 = .ok (.if_icmp .eq 56, 3) := by decide +kernel
theorem dX11_hasCauses_12 : decode cX11_hasCauses 12 = .ok (.aload_n 2, 1) := by decide +kernel
theorem dX11_hasCauses_13 : decode cX11_hasCauses 13 = .ok (.getfield 164, 3) := by decide +kernel
theorem dX11_hasCauses_16 : decode cX11_hasCauses 16 = .ok (.bipush 6, 2) := by decide +kernel
theorem dX11_hasCauses_18 : decode cX11_hasCauses 18 = .ok (.if_icmp .eq 47, 3) := by decide +kernel
theorem dX11_hasCauses_21 : decode cX11_hasCauses 21 = .ok (.iload_n 3, 1) := by decide +kernel
