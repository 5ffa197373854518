theorem dX12_cell_131 : decode cX12_cell 131 = .ok (.ireturn, 1) := by decide +kernel
theorem dX12_spend_0 : decode cX12_spend 0 = .ok (.aload_n 0, 1) := by decide +kernel
theorem dX12_spend_1 : decode cX12_spend 1 = .ok (.iload_n 1, 1) := by decide +kernel
theorem dX12_spend_2 : decode cX12_spend 2 = .ok (.invokevirtual 387, 3) := by decide +kernel
theorem dX12_spend_5 : decode cX12_spend 5 = .ok (.ifCond .eq 26, 3) := by decide +kernel
theorem dX12_spend_8 : decode cX12_spend 8 = .ok (.aload_n 0, 1) := by decide +kernel
theorem dX12_spend_9 : decode cX12_spend 9 = .ok (.iload_n 2, 1) := by decide +kernel
theorem dX12_spend_10 : decode cX12_spend 10 = .ok (.ifCond .lt 9, 3) := by decide +kernel
theorem dX12_spend_13 : decode cX12_spend 13 = .ok (.iload_n 2, 1) := by decide +kernel
theorem dX12_spend_14 : decode cX12_spend 14 = .ok (.ldc 225, 2) := by decide +kernel
theorem dX12_spend_16 : decode cX12_spend 16 = .ok (.if_icmp .le 7, 3) := by decide +kernel
theorem dX12_spend_19 : decode cX12_spend 19 = .ok (.iconst 1, 1) := by decide +kernel
theorem dX12_spend_20 : decode cX12_spend 20 = .ok (.goto 4, 3) := by decide +kernel
theorem dX12_spend_23 : decode cX12_spend 23 = .ok (.iconst 0, 1) := by decide +kernel
theorem dX12_spend_24 : decode cX12_spend 24 = .ok (.iconst 2, 1) := by decide +kernel
theorem dX12_spend_25 : decode cX12_spend 25 = .ok (.invokevirtual 205, 3) := by decide +kernel
theorem dX12_spend_28 : decode cX12_spend 28 = .ok (.ifCond .eq 5, 3) := by decide +kernel
theorem dX12_spend_31 : decode cX12_spend 31 = .ok (.iconst 0, 1) := by decide +kernel
theorem dX12_spend_32 : decode cX12_spend 32 = .ok (.ireturn, 1) := by decide +kernel
theorem dX12_spend_33 : decode cX12_spend 33 = .ok (.aload_n 0, 1) := by decide +kernel
theorem dX12_spend_34 : decode cX12_spend 34 = .ok (.getfield 91, 3) := by decide +kernel
theorem dX12_spend_37 : decode cX12_spend 37 = .ok (.iload_n 1, 1) := by decide +kernel
theorem dX12_spend_38 : decode cX12_spend 38 = .ok (.iaload, 1) := by decide +kernel
theorem dX12_spend_39 : decode cX12_spend 39 = .ok (.iconst 5, 1) := by decide +kernel
theorem dX12_spend_40 : decode cX12_spend 40 = .ok (.if_icmp .eq 16, 3) := by decide +kernel
theorem dX12_spend_43 : decode cX12_spend 43 = .ok (.aload_n 0, 1) := by decide +kernel
theorem dX12_spend_44 : decode cX12_spend 44 = .ok (.getfield 91, 3) := by decide +kernel
theorem dX12_spend_47 : decode cX12_spend 47 = .ok (.iload_n 1, 1) := by decide +kernel
theorem dX12_spend_48 : decode cX12_spend 48 = .ok (.iaload, 1) := by decide +kernel
theorem dX12_spend_49 : decode cX12_spend 49 = .ok (.bipush 7, 2) := by decide +kernel
theorem dX12_spend_51 : decode cX12_spend 51 = .ok (.if_icmp .eq 5, 3) := by decide +kernel
theorem dX12_spend_54 : decode cX12_spend 54 = .ok (.iconst (-1), 1) := by decide +kernel
theorem dX12_spend_55 : decode cX12_spend 55 = .ok (.ireturn, 1) := by decide +kernel
theorem dX12_spend_56 : decode cX12_spend 56 = .ok (.iload_n 2, 1) := by decide +kernel
theorem dX12_spend_57 : decode cX12_spend 57 = .ok (.i2l, 1) := by decide +kernel
theorem dX12_spend_58 : decode cX12_spend 58 = .ok (.bipush 100, 2) := by decide +kernel
theorem dX12_spend_60 : decode cX12_spend 60 = .ok (.aload_n 0, 1) := by decide +kernel
theorem dX12_spend_61 : decode cX12_spend 61 = .ok (.iload_n 1, 1) := by decide +kernel
theorem dX12_spend_62 : decode cX12_spend 62 = .ok (.invokevirtual 405, 3) := by decide +kernel
theorem dX12_spend_65 : decode cX12_spend 65 = .ok (.isub, 1) := by decide +kernel
theorem dX12_spend_66 : decode cX12_spend 66 = .ok (.i2l, 1) := by decide +kernel
theorem dX12_spend_67 : decode cX12_spend 67 = .ok (.lmul, 1) := by decide +kernel
theorem dX12_spend_68 : decode cX12_spend 68 = .ok (.ldc2_w 457, 3) := by decide +kernel
theorem dX12_spend_71 : decode cX12_spend 71 = .ok (.ldiv, 1) := by decide +kernel
theorem dX12_spend_72 : decode cX12_spend 72 = .ok (.l2i, 1) := by decide +kernel
theorem dX12_spend_73 : decode cX12_spend 73 = .ok (.istore_n 3, 1) := by decide +kernel
theorem dX12_spend_74 : decode cX12_spend 74 = .ok (.iload_n 3, 1) := by decide +kernel
theorem dX12_spend_75 : decode cX12_spend 75 = .ok (.ifCond .le 13, 3) := by decide +kernel
theorem dX12_spend_78 : decode cX12_spend 78 = .ok (.aload_n 0, 1) := by decide +kernel
theorem dX12_spend_79 : decode cX12_spend 79 = .ok (.invokevirtual 440, 3) := by decide +kernel
theorem dX12_spend_82 : decode cX12_spend 82 = .ok (.ifCond .eq 6, 3) := by decide +kernel
theorem dX12_spend_85 : decode cX12_spend 85 = .ok (.bipush (-2), 2) := by decide +kernel
theorem dX12_spend_87 : decode cX12_spend 87 = .ok (.ireturn, 1) := by decide +kernel
theorem dX12_spend_88 : decode cX12_spend 88 = .ok (.iload_n 3, 1) := by decide +kernel
theorem dX12_spend_89 : decode cX12_spend 89 = .ok (.ifCond .le 18, 3) := by decide +kernel
theorem dX12_spend_92 : decode cX12_spend 92 = .ok (.aload_n 0, 1) := by decide +kernel
theorem dX12_spend_93 : decode cX12_spend 93 = .ok (.aload_n 0, 1) := by decide +kernel
theorem dX12_spend_94 : decode cX12_spend 94 = .ok (.iload_n 1, 1) := by decide +kernel
theorem dX12_spend_95 : decode cX12_spend 95 = .ok (.invokevirtual 447, 3) := by decide +kernel
theorem dX12_spend_98 : decode cX12_spend 98 = .ok (.aload_n 0, 1) := by decide +kernel
theorem dX12_spend_99 : decode cX12_spend 99 = .ok (.iload_n 1, 1) := by decide +kernel
theorem dX12_spend_100 : decode cX12_spend 100 = .ok (.invokevirtual 444, 3) := by decide +kernel
theorem dX12_spend_103 : decode cX12_spend 103 = .ok (.iload_n 3, 1) := by decide +kernel
theorem dX12_spend_104 : decode cX12_spend 104 = .ok (.invokevirtual 450, 3) := by decide +kernel
theorem dX12_spend_107 : decode cX12_spend 107 = .ok (.iload_n 3, 1) := by decide +kernel
theorem dX12_spend_108 : decode cX12_spend 108 = .ok (.ireturn, 1) := by decide +kernel
theorem dX12_secure_0 : decode cX12_secure 0 = .ok (.aload_n 0, 1) := by decide +kernel
theorem dX12_secure_1 : decode cX12_secure 1 = .ok (.iload_n 1, 1) := by decide +kernel
theorem dX12_secure_2 : decode cX12_secure 2 = .ok (.invokevirtual 387, 3) := by decide +kernel
theorem dX12_secure_5 : decode cX12_secure 5 = .ok (.ifCond .eq 27, 3) := by decide +kernel
theorem dX12_secure_8 : decode cX12_secure 8 = .ok (.aload_n 0, 1) := by decide +kernel
theorem dX12_secure_9 : decode cX12_secure 9 = .ok (.iload_n 2, 1) := by decide +kernel
theorem dX12_secure_10 : decode cX12_secure 10 = .ok (.iconst 1, 1) := by decide +kernel
theorem dX12_secure_11 : decode cX12_secure 11 = .ok (.if_icmp .lt 9, 3) := by decide +kernel
theorem dX12_secure_14 : decode cX12_secure 14 = .ok (.iload_n 2, 1) := by decide +kernel
theorem dX12_secure_15 : decode cX12_secure 15 = .ok (.ldc 225, 2) := by decide +kernel
theorem dX12_secure_17 : decode cX12_secure 17 = .ok (.if_icmp .le 7, 3) := by decide +kernel
theorem dX12_secure_20 : decode cX12_secure 20 = .ok (.iconst 1, 1) := by decide +kernel
theorem dX12_secure_21 : decode cX12_secure 21 = .ok (.goto 4, 3) := by decide +kernel
theorem dX12_secure_24 : decode cX12_secure 24 = .ok (.iconst 0, 1) := by decide +kernel
theorem dX12_secure_25 : decode cX12_secure 25 = .ok (.iconst 2, 1) := by decide +kernel
theorem dX12_secure_26 : decode cX12_secure 26 = .ok (.invokevirtual 205, 3) := by decide +kernel
theorem dX12_secure_29 : decode cX12_secure 29 = .ok (.ifCond .eq 5, 3) := by decide +kernel
theorem dX12_secure_32 : decode cX12_secure 32 = .ok (.iconst 0, 1) := by decide +kernel
theorem dX12_secure_33 : decode cX12_secure 33 = .ok (.ireturn, 1) := by decide +kernel
theorem dX12_secure_34 : decode cX12_secure 34 = .ok (.aload_n 0, 1) := by decide +kernel
theorem dX12_secure_35 : decode cX12_secure 35 = .ok (.getfield 160, 3) := by decide +kernel
theorem dX12_secure_38 : decode cX12_secure 38 = .ok (.iload_n 1, 1) := by decide +kernel
theorem dX12_secure_39 : decode cX12_secure 39 = .ok (.iaload, 1) := by decide +kernel
theorem dX12_secure_40 : decode cX12_secure 40 = .ok (.ifCond .le 5, 3) := by decide +kernel
theorem dX12_secure_43 : decode cX12_secure 43 = .ok (.iconst (-1), 1) := by decide +kernel
theorem dX12_secure_44 : decode cX12_secure 44 = .ok (.ireturn, 1) := by decide +kernel
theorem dX12_secure_45 : decode cX12_secure 45 = .ok (.aload_n 0, 1) := by decide +kernel
theorem dX12_secure_46 : decode cX12_secure 46 = .ok (.getfield 160, 3) := by decide +kernel
theorem dX12_secure_49 : decode cX12_secure 49 = .ok (.iload_n 1, 1) := by decide +kernel
theorem dX12_secure_50 : decode cX12_secure 50 = .ok (.iload_n 2, 1) := by decide +kernel
theorem dX12_secure_51 : decode cX12_secure 51 = .ok (.iastore, 1) := by decide +kernel
theorem dX12_secure_52 : decode cX12_secure 52 = .ok (.iconst 1, 1) := by decide +kernel
theorem dX12_secure_53 : decode cX12_secure 53 = .ok (.ireturn, 1) := by decide +kernel
theorem dX12_settle_0 : decode cX12_settle 0 = .ok (.aload_n 0, 1) := by decide +kernel
theorem dX12_settle_1 : decode cX12_settle 1 = .ok (.iload_n 1, 1) := by decide +kernel
theorem dX12_settle_2 : decode cX12_settle 2 = .ok (.invokevirtual 387, 3) := by decide +kernel
theorem dX12_settle_5 : decode cX12_settle 5 = .ok (.ifCond .eq 26, 3) := by decide +kernel
theorem dX12_settle_8 : decode cX12_settle 8 = .ok (.aload_n 0, 1) := by decide +kernel
theorem dX12_settle_9 : decode cX12_settle 9 = .ok (.iload_n 2, 1) := by decide +kernel
theorem dX12_settle_10 : decode cX12_settle 10 = .ok (.ifCond .lt 9, 3) := by decide +kernel
theorem dX12_settle_13 : decode cX12_settle 13 = .ok (.iload_n 2, 1) := by decide +kernel
theorem dX12_settle_14 : decode cX12_settle 14 = .ok (.ldc 225, 2) := by decide +kernel
theorem dX12_settle_16 : decode cX12_settle 16 = .ok (.if_icmp .le 7, 3) := by decide +kernel
theorem dX12_settle_19 : decode cX12_settle 19 = .ok (.iconst 1, 1) := by decide +kernel
theorem dX12_settle_20 : decode cX12_settle 20 = .ok (.goto 4, 3) := by decide +kernel
theorem dX12_settle_23 : decode cX12_settle 23 = .ok (.iconst 0, 1) := by decide +kernel
theorem dX12_settle_24 : decode cX12_settle 24 = .ok (.iconst 2, 1) := by decide +kernel
theorem dX12_settle_25 : decode cX12_settle 25 = .ok (.invokevirtual 205, 3) := by decide +kernel
theorem dX12_settle_28 : decode cX12_settle 28 = .ok (.ifCond .eq 5, 3) := by decide +kernel
theorem dX12_settle_31 : decode cX12_settle 31 = .ok (.iconst 0, 1) := by decide +kernel
theorem dX12_settle_32 : decode cX12_settle 32 = .ok (.ireturn, 1) := by decide +kernel
theorem dX12_settle_33 : decode cX12_settle 33 = .ok (.aload_n 0, 1) := by decide +kernel
theorem dX12_settle_34 : decode cX12_settle 34 = .ok (.getfield 91, 3) := by decide +kernel
theorem dX12_settle_37 : decode cX12_settle 37 = .ok (.iload_n 1, 1) := by decide +kernel
theorem dX12_settle_38 : decode cX12_settle 38 = .ok (.iaload, 1) := by decide +kernel
theorem dX12_settle_39 : decode cX12_settle 39 = .ok (.bipush 7, 2) := by decide +kernel
theorem dX12_settle_41 : decode cX12_settle 41 = .ok (.if_icmp .eq 16, 3) := by decide +kernel
theorem dX12_settle_44 : decode cX12_settle 44 = .ok (.aload_n 0, 1) := by decide +kernel
theorem dX12_settle_45 : decode cX12_settle 45 = .ok (.getfield 91, 3) := by decide +kernel
theorem dX12_settle_48 : decode cX12_settle 48 = .ok (.iload_n 1, 1) := by decide +kernel
theorem dX12_settle_49 : decode cX12_settle 49 = .ok (.iaload, 1) := by decide +kernel
theorem dX12_settle_50 : decode cX12_settle 50 = .ok (.bipush 6, 2) := by decide +kernel
theorem dX12_settle_52 : decode cX12_settle 52 = .ok (.if_icmp .eq 5, 3) := by decide +kernel
theorem dX12_settle_55 : decode cX12_settle 55 = .ok (.iconst (-1), 1) := by decide +kernel
theorem dX12_settle_56 : decode cX12_settle 56 = .ok (.ireturn, 1) := by decide +kernel
theorem dX12_settle_57 : decode cX12_settle 57 = .ok (.aload_n 0, 1) := by decide +kernel
theorem dX12_settle_58 : decode cX12_settle 58 = .ok (.getfield 160, 3) := by decide +kernel
theorem dX12_settle_61 : decode cX12_settle 61 = .ok (.iload_n 1, 1) := by decide +kernel
theorem dX12_settle_62 : decode cX12_settle 62 = .ok (.iaload, 1) := by decide +kernel
theorem dX12_settle_63 : decode cX12_settle 63 = .ok (.ifCond .eq 12, 3) := by decide +kernel
theorem dX12_settle_66 : decode cX12_settle 66 = .ok (.aload_n 0, 1) := by decide +kernel
theorem dX12_settle_67 : decode cX12_settle 67 = .ok (.getfield 163, 3) := by decide +kernel
theorem dX12_settle_70 : decode cX12_settle 70 = .ok (.iload_n 1, 1) := by decide +kernel
theorem dX12_settle_71 : decode cX12_settle 71 = .ok (.baload, 1) := by decide +kernel
theorem dX12_settle_72 : decode cX12_settle 72 = .ok (.ifCond .eq 6, 3) := by decide +kernel
theorem dX12_settle_75 : decode cX12_settle 75 = .ok (.bipush (-2), 2) := by decide +kernel
theorem dX12_settle_77 : decode cX12_settle 77 = .ok (.ireturn, 1) := by decide +kernel
theorem dX12_settle_78 : decode cX12_settle 78 = .ok (.iload_n 2, 1) := by decide +kernel
theorem dX12_settle_79 : decode cX12_settle 79 = .ok (.aload_n 0, 1) := by decide +kernel
theorem dX12_settle_80 : decode cX12_settle 80 = .ok (.getfield 160, 3) := by decide +kernel
theorem dX12_settle_83 : decode cX12_settle 83 = .ok (.iload_n 1, 1) := by decide +kernel
theorem dX12_settle_84 : decode cX12_settle 84 = .ok (.iaload, 1) := by decide +kernel
theorem dX12_settle_85 : decode cX12_settle 85 = .ok (.if_icmp .ge 7, 3) := by decide +kernel
theorem dX12_settle_88 : decode cX12_settle 88 = .ok (.iload_n 2, 1) := by decide +kernel
theorem dX12_settle_89 : decode cX12_settle 89 = .ok (.goto 9, 3) := by decide +kernel
theorem dX12_settle_92 : decode cX12_settle 92 = .ok (.aload_n 0, 1) := by decide +kernel
theorem dX12_settle_93 : decode cX12_settle 93 = .ok (.getfield 160, 3) := by decide +kernel
theorem dX12_settle_96 : decode cX12_settle 96 = .ok (.iload_n 1, 1) := by decide +kernel
theorem dX12_settle_97 : decode cX12_settle 97 = .ok (.iaload, 1) := by decide +kernel
theorem dX12_settle_98 : decode cX12_settle 98 = .ok (.istore_n 3, 1) := by decide +kernel
theorem dX12_settle_99 : decode cX12_settle 99 = .ok (.iload_n 3, 1) := by decide +kernel
theorem dX12_settle_100 : decode cX12_settle 100 = .ok (.ifCond .le 13, 3) := by decide +kernel
theorem dX12_settle_103 : decode cX12_settle 103 = .ok (.aload_n 0, 1) := by decide +kernel
theorem dX12_settle_104 : decode cX12_settle 104 = .ok (.invokevirtual 440, 3) := by decide +kernel
theorem dX12_settle_107 : decode cX12_settle 107 = .ok (.ifCond .eq 6, 3) := by decide +kernel
theorem dX12_settle_110 : decode cX12_settle 110 = .ok (.bipush (-3), 2) := by decide +kernel
theorem dX12_settle_112 : decode cX12_settle 112 = .ok (.ireturn, 1) := by decide +kernel
theorem dX12_settle_113 : decode cX12_settle 113 = .ok (.aload_n 0, 1) := by decide +kernel
theorem dX12_settle_114 : decode cX12_settle 114 = .ok (.getfield 163, 3) := by decide +kernel
theorem dX12_settle_117 : decode cX12_settle 117 = .ok (.iload_n 1, 1) := by decide +kernel
theorem dX12_settle_118 : decode cX12_settle 118 = .ok (.iconst 1, 1) := by decide +kernel
theorem dX12_settle_119 : decode cX12_settle 119 = .ok (.bastore, 1) := by decide +kernel
theorem dX12_settle_120 : decode cX12_settle 120 = .ok (.iload_n 3, 1) := by decide +kernel
theorem dX12_settle_121 : decode cX12_settle 121 = .ok (.ifCond .le 18, 3) := by decide +kernel
theorem dX12_settle_124 : decode cX12_settle 124 = .ok (.aload_n 0, 1) := by decide +kernel
theorem dX12_settle_125 : decode cX12_settle 125 = .ok (.aload_n 0, 1) := by decide +kernel
theorem dX12_settle_126 : decode cX12_settle 126 = .ok (.iload_n 1, 1) := by decide +kernel
theorem dX12_settle_127 : decode cX12_settle 127 = .ok (.invokevirtual 444, 3) := by decide +kernel
theorem dX12_settle_130 : decode cX12_settle 130 = .ok (.aload_n 0, 1) := by decide +kernel
theorem dX12_settle_131 : decode cX12_settle 131 = .ok (.iload_n 1, 1) := by decide +kernel
theorem dX12_settle_132 : decode cX12_settle 132 = .ok (.invokevirtual 447, 3) := by decide +kernel
theorem dX12_settle_135 : decode cX12_settle 135 = .ok (.iload_n 3, 1) := by decide +kernel
theorem dX12_settle_136 : decode cX12_settle 136 = .ok (.invokevirtual 450, 3) := by decide +kernel
theorem dX12_settle_139 : decode cX12_settle 139 = .ok (.iload_n 3, 1) := by decide +kernel
theorem dX12_settle_140 : decode cX12_settle 140 = .ok (.ireturn, 1) := by decide +kernel
theorem dX12_hand_0 : decode cX12_hand 0 = .ok (.aload_n 0, 1) := by decide +kernel
theorem dX12_hand_1 : decode cX12_hand 1 = .ok (.iconst 0, 1) := by decide +kernel
theorem dX12_hand_2 : decode cX12_hand 2 = .ok (.putfield 199, 3) := by decide +kernel
theorem dX12_hand_5 : decode cX12_hand 5 = .ok (.aload_n 0, 1) := by decide +kernel
theorem dX12_hand_6 : decode cX12_hand 6 = .ok (.iload_n 1, 1) := by decide +kernel
theorem dX12_hand_7 : decode cX12_hand 7 = .ok (.bipush (-50), 2) := by decide +kernel
theorem dX12_hand_9 : decode cX12_hand 9 = .ok (.if_icmp .lt 9, 3) := by decide +kernel
theorem dX12_hand_12 : decode cX12_hand 12 = .ok (.iload_n 1, 1) := by decide +kernel
theorem dX12_hand_13 : decode cX12_hand 13 = .ok (.bipush 50, 2) := by decide +kernel
theorem dX12_hand_15 : decode cX12_hand 15 = .ok (.if_icmp .le 7, 3) := by decide +kernel
theorem dX12_hand_18 : decode cX12_hand 18 = .ok (.iconst 1, 1) := by decide +kernel
theorem dX12_hand_19 : decode cX12_hand 19 = .ok (.goto 4, 3) := by decide +kernel
theorem dX12_hand_22 : decode cX12_hand 22 = .ok (.iconst 0, 1) := by decide +kernel
theorem dX12_hand_23 : decode cX12_hand 23 = .ok (.iconst 1, 1) := by decide +kernel
theorem dX12_hand_24 : decode cX12_hand 24 = .ok (.invokevirtual 205, 3) := by decide +kernel
theorem dX12_hand_27 : decode cX12_hand 27 = .ok (.ifCond .ne 24, 3) := by decide +kernel
theorem dX12_hand_30 : decode cX12_hand 30 = .ok (.aload_n 0, 1) := by decide +kernel
theorem dX12_hand_31 : decode cX12_hand 31 = .ok (.aload_n 0, 1) := by decide +kernel
theorem dX12_hand_32 : decode cX12_hand 32 = .ok (.getfield 465, 3) := by decide +kernel
theorem dX12_hand_35 : decode cX12_hand 35 = .ok (.iconst 5, 1) := by decide +kernel
theorem dX12_hand_36 : decode cX12_hand 36 = .ok (.if_icmp .ne 7, 3) := by decide +kernel
theorem dX12_hand_39 : decode cX12_hand 39 = .ok (.iconst 1, 1) := by decide +kernel
theorem dX12_hand_40 : decode cX12_hand 40 = .ok (.goto 4, 3) := by decide +kernel
theorem dX12_hand_43 : decode cX12_hand 43 = .ok (.iconst 0, 1) := by decide +kernel
theorem dX12_hand_44 : decode cX12_hand 44 = .ok (.iconst 2, 1) := by decide +kernel
theorem dX12_hand_45 : decode cX12_hand 45 = .ok (.invokevirtual 205, 3) := by decide +kernel
theorem dX12_hand_48 : decode cX12_hand 48 = .ok (.ifCond .eq 5, 3) := by decide +kernel
theorem dX12_hand_51 : decode cX12_hand 51 = .ok (.iconst 0, 1) := by decide +kernel
theorem dX12_hand_52 : decode cX12_hand 52 = .ok (.ireturn, 1) := by decide +kernel
theorem dX12_hand_53 : decode cX12_hand 53 = .ok (.aload_n 0, 1) := by decide +kernel
theorem dX12_hand_54 : decode cX12_hand 54 = .ok (.getfield 166, 3) := by decide +kernel
theorem dX12_hand_57 : decode cX12_hand 57 = .ok (.aload_n 0, 1) := by decide +kernel
theorem dX12_hand_58 : decode cX12_hand 58 = .ok (.getfield 465, 3) := by decide +kernel
theorem dX12_hand_61 : decode cX12_hand 61 = .ok (.iload_n 1, 1) := by decide +kernel
theorem dX12_hand_62 : decode cX12_hand 62 = .ok (.iastore, 1) := by decide +kernel
theorem dX12_hand_63 : decode cX12_hand 63 = .ok (.aload_n 0, 1) := by decide +kernel
theorem dX12_hand_64 : decode cX12_hand 64 = .ok (.dup, 1) := by decide +kernel
theorem dX12_hand_65 : decode cX12_hand 65 = .ok (.getfield 465, 3) := by decide +kernel
theorem dX12_hand_68 : decode cX12_hand 68 = .ok (.iconst 1, 1) := by decide +kernel
theorem dX12_hand_69 : decode cX12_hand 69 = .ok (.iadd, 1) := by decide +kernel
theorem dX12_hand_70 : decode cX12_hand 70 = .ok (.putfield 465, 3) := by decide +kernel
theorem dX12_hand_73 : decode cX12_hand 73 = .ok (.aload_n 0, 1) := by decide +kernel
theorem dX12_hand_74 : decode cX12_hand 74 = .ok (.getfield 465, 3) := by decide +kernel
theorem dX12_hand_77 : decode cX12_hand 77 = .ok (.iconst 1, 1) := by decide +kernel
theorem dX12_hand_78 : decode cX12_hand 78 = .ok (.isub, 1) := by decide +kernel
theorem dX12_hand_79 : decode cX12_hand 79 = .ok (.ireturn, 1) := by decide +kernel
theorem dX12_survey_0 : decode cX12_survey 0 = .ok (.aload_n 0, 1) := by decide +kernel
theorem dX12_survey_1 : decode cX12_survey 1 = .ok (.iconst 0, 1) := by decide +kernel
theorem dX12_survey_2 : decode cX12_survey 2 = .ok (.putfield 199, 3) := by decide +kernel
theorem dX12_survey_5 : decode cX12_survey 5 = .ok (.aload_n 0, 1) := by decide +kernel
theorem dX12_survey_6 : decode cX12_survey 6 = .ok (.iload_n 1, 1) := by decide +kernel
theorem dX12_survey_7 : decode cX12_survey 7 = .ok (.ifCond .lt 11, 3) := by decide +kernel
theorem dX12_survey_10 : decode cX12_survey 10 = .ok (.iload_n 1, 1) := by decide +kernel
theorem dX12_survey_11 : decode cX12_survey 11 = .ok (.aload_n 0, 1) := by decide +kernel
theorem dX12_survey_12 : decode cX12_survey 12 = .ok (.getfield 465, 3) := by decide +kernel
theorem dX12_survey_15 : decode cX12_survey 15 = .ok (.if_icmp .lt 7, 3) := by decide +kernel
theorem dX12_survey_18 : decode cX12_survey 18 = .ok (.iconst 1, 1) := by decide +kernel
theorem dX12_survey_19 : decode cX12_survey 19 = .ok (.goto 4, 3) := by decide +kernel
theorem dX12_survey_22 : decode cX12_survey 22 = .ok (.iconst 0, 1) := by decide +kernel
theorem dX12_survey_23 : decode cX12_survey 23 = .ok (.iconst 1, 1) := by decide +kernel
theorem dX12_survey_24 : decode cX12_survey 24 = .ok (.invokevirtual 205, 3) := by decide +kernel
theorem dX12_survey_27 : decode cX12_survey 27 = .ok (.ifCond .ne 25, 3) := by decide +kernel
theorem dX12_survey_30 : decode cX12_survey 30 = .ok (.aload_n 0, 1) := by decide +kernel
theorem dX12_survey_31 : decode cX12_survey 31 = .ok (.aload_n 0, 1) := by decide +kernel
theorem dX12_survey_32 : decode cX12_survey 32 = .ok (.getfield 468, 3) := by decide +kernel
theorem dX12_survey_35 : decode cX12_survey 35 = .ok (.bipush 10, 2) := by decide +kernel
theorem dX12_survey_37 : decode cX12_survey 37 = .ok (.if_icmp .ne 7, 3) := by decide +kernel
theorem dX12_survey_40 : decode cX12_survey 40 = .ok (.iconst 1, 1) := by decide +kernel
theorem dX12_survey_41 : decode cX12_survey 41 = .ok (.goto 4, 3) := by decide +kernel
theorem dX12_survey_44 : decode cX12_survey 44 = .ok (.iconst 0, 1) := by decide +kernel
theorem dX12_survey_45 : decode cX12_survey 45 = .ok (.iconst 2, 1) := by decide +kernel
theorem dX12_survey_46 : decode cX12_survey 46 = .ok (.invokevirtual 205, 3) := by decide +kernel
theorem dX12_survey_49 : decode cX12_survey 49 = .ok (.ifCond .eq 5, 3) := by decide +kernel
theorem dX12_survey_52 : decode cX12_survey 52 = .ok (.iconst 0, 1) := by decide +kernel
theorem dX12_survey_53 : decode cX12_survey 53 = .ok (.ireturn, 1) := by decide +kernel
theorem dX12_survey_54 : decode cX12_survey 54 = .ok (.aload_n 0, 1) := by decide +kernel
theorem dX12_survey_55 : decode cX12_survey 55 = .ok (.getfield 169, 3) := by decide +kernel
theorem dX12_survey_58 : decode cX12_survey 58 = .ok (.aload_n 0, 1) := by decide +kernel
theorem dX12_survey_59 : decode cX12_survey 59 = .ok (.getfield 468, 3) := by decide +kernel
theorem dX12_survey_62 : decode cX12_survey 62 = .ok (.iload_n 1, 1) := by decide +kernel
theorem dX12_survey_63 : decode cX12_survey 63 = .ok (.iastore, 1) := by decide +kernel
theorem dX12_survey_64 : decode cX12_survey 64 = .ok (.aload_n 0, 1) := by decide +kernel
theorem dX12_survey_65 : decode cX12_survey 65 = .ok (.dup, 1) := by decide +kernel
theorem dX12_survey_66 : decode cX12_survey 66 = .ok (.getfield 468, 3) := by decide +kernel
theorem dX12_survey_69 : decode cX12_survey 69 = .ok (.iconst 1, 1) := by decide +kernel
theorem dX12_survey_70 : decode cX12_survey 70 = .ok (.iadd, 1) := by decide +kernel
theorem dX12_survey_71 : decode cX12_survey 71 = .ok (.putfield 468, 3) := by decide +kernel
theorem dX12_survey_74 : decode cX12_survey 74 = .ok (.aload_n 0, 1) := by decide +kernel
theorem dX12_survey_75 : decode cX12_survey 75 = .ok (.getfield 468, 3) := by decide +kernel
theorem dX12_survey_78 : decode cX12_survey 78 = .ok (.iconst 1, 1) := by decide +kernel
theorem dX12_survey_79 : decode cX12_survey 79 = .ok (.isub, 1) := by decide +kernel
theorem dX12_survey_80 : decode cX12_survey 80 = .ok (.ireturn, 1) := by decide +kernel
theorem dX12_isSurvey_0 : decode cX12_isSurvey 0 = .ok (.iload_n 1, 1) := by decide +kernel
theorem dX12_isSurvey_1 : decode cX12_isSurvey 1 = .ok (.ifCond .lt 15, 3) := by decide +kernel
theorem dX12_isSurvey_4 : decode cX12_isSurvey 4 = .ok (.iload_n 1, 1) := by decide +kernel
theorem dX12_isSurvey_5 : decode cX12_isSurvey 5 = .ok (.aload_n 0, 1) := by decide +kernel
theorem dX12_isSurvey_6 : decode cX12_isSurvey 6 = .ok (.getfield 468, 3) := by decide +kernel
theorem dX12_isSurvey_9 : decode cX12_isSurvey 9 = .ok (.if_icmp .ge 7, 3) := by decide +kernel
theorem dX12_isSurvey_12 : decode cX12_isSurvey 12 = .ok (.iconst 1, 1) := by decide +kernel
theorem dX12_isSurvey_13 : decode cX12_isSurvey 13 = .ok (.goto 4, 3) := by decide +kernel
theorem dX12_isSurvey_16 : decode cX12_isSurvey 16 = .ok (.iconst 0, 1) := by decide +kernel
theorem dX12_isSurvey_17 : decode cX12_isSurvey 17 = .ok (.ireturn, 1) := by decide +kernel
theorem dX12_crack_0 : decode cX12_crack 0 = .ok (.aload_n 0, 1) := by decide +kernel
theorem dX12_crack_1 : decode cX12_crack 1 = .ok (.iconst 0, 1) := by decide +kernel
theorem dX12_crack_2 : decode cX12_crack 2 = .ok (.putfield 199, 3) := by decide +kernel
theorem dX12_crack_5 : decode cX12_crack 5 = .ok (.aload_n 0, 1) := by decide +kernel
theorem dX12_crack_6 : decode cX12_crack 6 = .ok (.aload_n 0, 1) := by decide +kernel
theorem dX12_crack_7 : decode cX12_crack 7 = .ok (.iload_n 1, 1) := by decide +kernel
theorem dX12_crack_8 : decode cX12_crack 8 = .ok (.invokevirtual 471, 3) := by decide +kernel
theorem dX12_crack_11 : decode cX12_crack 11 = .ok (.ifCond .ne 7, 3) := by decide +kernel
theorem dX12_crack_14 : decode cX12_crack 14 = .ok (.iconst 1, 1) := by decide +kernel
theorem dX12_crack_15 : decode cX12_crack 15 = .ok (.goto 4, 3) := by decide +kernel
theorem dX12_crack_18 : decode cX12_crack 18 = .ok (.iconst 0, 1) := by decide +kernel
theorem dX12_crack_19 : decode cX12_crack 19 = .ok (.iconst 1, 1) := by decide +kernel
theorem dX12_crack_20 : decode cX12_crack 20 = .ok (.invokevirtual 205, 3) := by decide +kernel
theorem dX12_crack_23 : decode cX12_crack 23 = .ok (.ifCond .ne 38, 3) := by decide +kernel
theorem dX12_crack_26 : decode cX12_crack 26 = .ok (.aload_n 0, 1) := by decide +kernel
theorem dX12_crack_27 : decode cX12_crack 27 = .ok (.iload_n 2, 1) := by decide +kernel
theorem dX12_crack_28 : decode cX12_crack 28 = .ok (.ifCond .lt 21, 3) := by decide +kernel
theorem dX12_crack_31 : decode cX12_crack 31 = .ok (.iload_n 2, 1) := by decide +kernel
theorem dX12_crack_32 : decode cX12_crack 32 = .ok (.ldc_w 304, 3) := by decide +kernel
theorem dX12_crack_35 : decode cX12_crack 35 = .ok (.if_icmp .gt 14, 3) := by decide +kernel
theorem dX12_crack_38 : decode cX12_crack 38 = .ok (.iload_n 3, 1) := by decide +kernel
theorem dX12_crack_39 : decode cX12_crack 39 = .ok (.ifCond .lt 10, 3) := by decide +kernel
theorem dX12_crack_42 : decode cX12_crack 42 = .ok (.iload_n 3, 1) := by decide +kernel
theorem dX12_crack_43 : decode cX12_crack 43 = .ok (.sipush 10000, 3) := by decide +kernel
theorem dX12_crack_46 : decode cX12_crack 46 = .ok (.if_icmp .le 7, 3) := by decide +kernel
theorem dX12_crack_49 : decode cX12_crack 49 = .ok (.iconst 1, 1) := by decide +kernel
theorem dX12_crack_50 : decode cX12_crack 50 = .ok (.goto 4, 3) := by decide +kernel
theorem dX12_crack_53 : decode cX12_crack 53 = .ok (.iconst 0, 1) := by decide +kernel
theorem dX12_crack_54 : decode cX12_crack 54 = .ok (.iconst 2, 1) := by decide +kernel
theorem dX12_crack_55 : decode cX12_crack 55 = .ok (.invokevirtual 205, 3) := by decide +kernel
theorem dX12_crack_58 : decode cX12_crack 58 = .ok (.ifCond .eq 5, 3) := by decide +kernel
theorem dX12_crack_61 : decode cX12_crack 61 = .ok (.iconst 0, 1) := by decide +kernel
theorem dX12_crack_62 : decode cX12_crack 62 = .ok (.ireturn, 1) := by decide +kernel
theorem dX12_crack_63 : decode cX12_crack 63 = .ok (.aload_n 0, 1) := by decide +kernel
theorem dX12_crack_64 : decode cX12_crack 64 = .ok (.getfield 172, 3) := by decide +kernel
theorem dX12_crack_67 : decode cX12_crack 67 = .ok (.iload_n 1, 1) := by decide +kernel
theorem dX12_crack_68 : decode cX12_crack 68 = .ok (.iaload, 1) := by decide +kernel
theorem dX12_crack_69 : decode cX12_crack 69 = .ok (.istore 4, 2) := by decide +kernel
theorem dX12_crack_71 : decode cX12_crack 71 = .ok (.iload 4, 2) := by decide +kernel
theorem dX12_crack_73 : decode cX12_crack 73 = .ok (.bipush 20, 2) := by decide +kernel
theorem dX12_crack_75 : decode cX12_crack 75 = .ok (.if_icmp .ne 5, 3) := by decide +kernel
theorem dX12_crack_78 : decode cX12_crack 78 = .ok (.iconst (-1), 1) := by decide +kernel
theorem dX12_crack_79 : decode cX12_crack 79 = .ok (.ireturn, 1) := by decide +kernel
theorem dX12_crack_80 : decode cX12_crack 80 = .ok (.iload 4, 2) := by decide +kernel
theorem dX12_crack_82 : decode cX12_crack 82 = .ok (.ifCond .le 24, 3) := by decide +kernel
theorem dX12_crack_85 : decode cX12_crack 85 = .ok (.aload_n 0, 1) := by decide +kernel
theorem dX12_crack_86 : decode cX12_crack 86 = .ok (.getfield 175, 3) := by decide +kernel
theorem dX12_crack_89 : decode cX12_crack 89 = .ok (.bipush 20, 2) := by decide +kernel
theorem dX12_crack_91 : decode cX12_crack 91 = .ok (.iload_n 1, 1) := by decide +kernel
theorem dX12_crack_92 : decode cX12_crack 92 = .ok (.imul, 1) := by decide +kernel
theorem dX12_crack_93 : decode cX12_crack 93 = .ok (.iload 4, 2) := by decide +kernel
theorem dX12_crack_95 : decode cX12_crack 95 = .ok (.iadd, 1) := by decide +kernel
theorem dX12_crack_96 : decode cX12_crack 96 = .ok (.iconst 1, 1) := by decide +kernel
theorem dX12_crack_97 : decode cX12_crack 97 = .ok (.isub, 1) := by decide +kernel
theorem dX12_crack_98 : decode cX12_crack 98 = .ok (.iaload, 1) := by decide +kernel
theorem dX12_crack_99 : decode cX12_crack 99 = .ok (.iload_n 2, 1) := by decide +kernel
theorem dX12_crack_100 : decode cX12_crack 100 = .ok (.if_icmp .le 6, 3) := by decide +kernel
theorem dX12_crack_103 : decode cX12_crack 103 = .ok (.bipush (-2), 2) := by decide +kernel
theorem dX12_crack_105 : decode cX12_crack 105 = .ok (.ireturn, 1) := by decide +kernel
theorem dX12_crack_106 : decode cX12_crack 106 = .ok (.aload_n 0, 1) := by decide +kernel
theorem dX12_crack_107 : decode cX12_crack 107 = .ok (.getfield 175, 3) := by decide +kernel
theorem dX12_crack_110 : decode cX12_crack 110 = .ok (.bipush 20, 2) := by decide +kernel
theorem dX12_crack_112 : decode cX12_crack 112 = .ok (.iload_n 1, 1) := by decide +kernel
theorem dX12_crack_113 : decode cX12_crack 113 = .ok (.imul, 1) := by decide +kernel
theorem dX12_crack_114 : decode cX12_crack 114 = .ok (.iload 4, 2) := by decide +kernel
theorem dX12_crack_116 : decode cX12_crack 116 = .ok (.iadd, 1) := by decide +kernel
theorem dX12_crack_117 : decode cX12_crack 117 = .ok (.iload_n 2, 1) := by decide +kernel
theorem dX12_crack_118 : decode cX12_crack 118 = .ok (.iastore, 1) := by decide +kernel
theorem dX12_crack_119 : decode cX12_crack 119 = .ok (.aload_n 0, 1) := by decide +kernel
theorem dX12_crack_120 : decode cX12_crack 120 = .ok (.getfield 178, 3) := by decide +kernel
theorem dX12_crack_123 : decode cX12_crack 123 = .ok (.bipush 20, 2) := by decide +kernel
theorem dX12_crack_125 : decode cX12_crack 125 = .ok (.iload_n 1, 1) := by decide +kernel
theorem dX12_crack_126 : decode cX12_crack 126 = .ok (.imul, 1) := by decide +kernel
theorem dX12_crack_127 : decode cX12_crack 127 = .ok (.iload 4, 2) := by decide +kernel
theorem dX12_crack_129 : decode cX12_crack 129 = .ok (.iadd, 1) := by decide +kernel
theorem dX12_crack_130 : decode cX12_crack 130 = .ok (.iload_n 3, 1) := by decide +kernel
theorem dX12_crack_131 : decode cX12_crack 131 = .ok (.iastore, 1) := by decide +kernel
theorem dX12_crack_132 : decode cX12_crack 132 = .ok (.aload_n 0, 1) := by decide +kernel
theorem dX12_crack_133 : decode cX12_crack 133 = .ok (.getfield 172, 3) := by decide +kernel
theorem dX12_crack_136 : decode cX12_crack 136 = .ok (.iload_n 1, 1) := by decide +kernel
theorem dX12_crack_137 : decode cX12_crack 137 = .ok (.dup2, 1) := by decide +kernel
theorem dX12_crack_138 : decode cX12_crack 138 = .ok (.iaload, 1) := by decide +kernel
theorem dX12_crack_139 : decode cX12_crack 139 = .ok (.iconst 1, 1) := by decide +kernel
theorem dX12_crack_140 : decode cX12_crack 140 = .ok (.iadd, 1) := by decide +kernel
theorem dX12_crack_141 : decode cX12_crack 141 = .ok (.iastore, 1) := by decide +kernel
theorem dX12_crack_142 : decode cX12_crack 142 = .ok (.iload 4, 2) := by decide +kernel
theorem dX12_crack_144 : decode cX12_crack 144 = .ok (.ireturn, 1) := by decide +kernel
theorem dX12_cellOf_0 : decode cX12_cellOf 0 = .ok (.bipush 21, 2) := by decide +kernel
theorem dX12_cellOf_2 : decode cX12_cellOf 2 = .ok (.iload_n 0, 1) := by decide +kernel
theorem dX12_cellOf_3 : decode cX12_cellOf 3 = .ok (.imul, 1) := by decide +kernel
theorem dX12_cellOf_4 : decode cX12_cellOf 4 = .ok (.iload_n 1, 1) := by decide +kernel
theorem dX12_cellOf_5 : decode cX12_cellOf 5 = .ok (.iadd, 1) := by decide +kernel
theorem dX12_cellOf_6 : decode cX12_cellOf 6 = .ok (.ireturn, 1) := by decide +kernel
theorem dX12_far_0 : decode cX12_far 0 = .ok (.aload_n 0, 1) := by decide +kernel
theorem dX12_far_1 : decode cX12_far 1 = .ok (.getfield 175, 3) := by decide +kernel
theorem dX12_far_4 : decode cX12_far 4 = .ok (.bipush 20, 2) := by decide +kernel
theorem dX12_far_6 : decode cX12_far 6 = .ok (.iload_n 1, 1) := by decide +kernel
theorem dX12_far_7 : decode cX12_far 7 = .ok (.imul, 1) := by decide +kernel
theorem dX12_far_8 : decode cX12_far 8 = .ok (.iload_n 2, 1) := by decide +kernel
theorem dX12_far_9 : decode cX12_far 9 = .ok (.iadd, 1) := by decide +kernel
theorem dX12_far_10 : decode cX12_far 10 = .ok (.iaload, 1) := by decide +kernel
theorem dX12_far_11 : decode cX12_far 11 = .ok (.aload_n 0, 1) := by decide +kernel
theorem dX12_far_12 : decode cX12_far 12 = .ok (.getfield 175, 3) := by decide +kernel
theorem dX12_far_15 : decode cX12_far 15 = .ok (.bipush 20, 2) := by decide +kernel
theorem dX12_far_17 : decode cX12_far 17 = .ok (.iload_n 3, 1) := by decide +kernel
theorem dX12_far_18 : decode cX12_far 18 = .ok (.imul, 1) := by decide +kernel
theorem dX12_far_19 : decode cX12_far 19 = .ok (.iload 4, 2) := by decide +kernel
theorem dX12_far_21 : decode cX12_far 21 = .ok (.iadd, 1) := by decide +kernel
theorem dX12_far_22 : decode cX12_far 22 = .ok (.iaload, 1) := by decide +kernel
theorem dX12_far_23 : decode cX12_far 23 = .ok (.isub, 1) := by decide +kernel
theorem dX12_far_24 : decode cX12_far 24 = .ok (.istore 5, 2) := by decide +kernel
theorem dX12_far_26 : decode cX12_far 26 = .ok (.iload 5, 2) := by decide +kernel
theorem dX12_far_28 : decode cX12_far 28 = .ok (.ifCond .ge 9, 3) := by decide +kernel
theorem dX12_far_31 : decode cX12_far 31 = .ok (.iload 5, 2) := by decide +kernel
theorem dX12_far_33 : decode cX12_far 33 = .ok (.ineg, 1) := by decide +kernel
theorem dX12_far_34 : decode cX12_far 34 = .ok (.goto 5, 3) := by decide +kernel
theorem dX12_far_37 : decode cX12_far 37 = .ok (.iload 5, 2) := by decide +kernel
theorem dX12_far_39 : decode cX12_far 39 = .ok (.ireturn, 1) := by decide +kernel
theorem dX12_takes_0 : decode cX12_takes 0 = .ok (.iload_n 2, 1) := by decide +kernel
theorem dX12_takes_1 : decode cX12_takes 1 = .ok (.aload_n 0, 1) := by decide +kernel
theorem dX12_takes_2 : decode cX12_takes 2 = .ok (.getfield 181, 3) := by decide +kernel
theorem dX12_takes_5 : decode cX12_takes 5 = .ok (.iload_n 1, 1) := by decide +kernel
theorem dX12_takes_6 : decode cX12_takes 6 = .ok (.iaload, 1) := by decide +kernel
theorem dX12_takes_7 : decode cX12_takes 7 = .ok (.if_icmp .lt 23, 3) := by decide +kernel
theorem dX12_takes_10 : decode cX12_takes 10 = .ok (.iload_n 2, 1) := by decide +kernel
theorem dX12_takes_11 : decode cX12_takes 11 = .ok (.aload_n 0, 1) := by decide +kernel
theorem dX12_takes_12 : decode cX12_takes 12 = .ok (.getfield 181, 3) := by decide +kernel
theorem dX12_takes_15 : decode cX12_takes 15 = .ok (.iload_n 1, 1) := by decide +kernel
theorem dX12_takes_16 : decode cX12_takes 16 = .ok (.iaload, 1) := by decide +kernel
theorem dX12_takes_17 : decode cX12_takes 17 = .ok (.if_icmp .ne 14, 3) := by decide +kernel
theorem dX12_takes_20 : decode cX12_takes 20 = .ok (.iload_n 3, 1) := by decide +kernel
theorem dX12_takes_21 : decode cX12_takes 21 = .ok (.aload_n 0, 1) := by decide +kernel
theorem dX12_takes_22 : decode cX12_takes 22 = .ok (.getfield 184, 3) := by decide +kernel
theorem dX12_takes_25 : decode cX12_takes 25 = .ok (.iload_n 1, 1) := by decide +kernel
theorem dX12_takes_26 : decode cX12_takes 26 = .ok (.iaload, 1) := by decide +kernel
theorem dX12_takes_27 : decode cX12_takes 27 = .ok (.if_icmp .lt 4, 3) := by decide +kernel
theorem dX12_takes_30 : decode cX12_takes 30 = .ok (.return_, 1) := by decide +kernel
theorem dX12_takes_31 : decode cX12_takes 31 = .ok (.aload_n 0, 1) := by decide +kernel
theorem dX12_takes_32 : decode cX12_takes 32 = .ok (.getfield 181, 3) := by decide +kernel
theorem dX12_takes_35 : decode cX12_takes 35 = .ok (.iload_n 1, 1) := by decide +kernel
theorem dX12_takes_36 : decode cX12_takes 36 = .ok (.iload_n 2, 1) := by decide +kernel
theorem dX12_takes_37 : decode cX12_takes 37 = .ok (.iastore, 1) := by decide +kernel
theorem dX12_takes_38 : decode cX12_takes 38 = .ok (.aload_n 0, 1) := by decide +kernel
theorem dX12_takes_39 : decode cX12_takes 39 = .ok (.getfield 184, 3) := by decide +kernel
theorem dX12_takes_42 : decode cX12_takes 42 = .ok (.iload_n 1, 1) := by decide +kernel
theorem dX12_takes_43 : decode cX12_takes 43 = .ok (.iload_n 3, 1) := by decide +kernel
theorem dX12_takes_44 : decode cX12_takes 44 = .ok (.iastore, 1) := by decide +kernel
theorem dX12_takes_45 : decode cX12_takes 45 = .ok (.return_, 1) := by decide +kernel
theorem dX12_joins_0 : decode cX12_joins 0 = .ok (.aload_n 0, 1) := by decide +kernel
theorem dX12_joins_1 : decode cX12_joins 1 = .ok (.getfield 172, 3) := by decide +kernel
theorem dX12_joins_4 : decode cX12_joins 4 = .ok (.iload_n 1, 1) := by decide +kernel
theorem dX12_joins_5 : decode cX12_joins 5 = .ok (.iaload, 1) := by decide +kernel
theorem dX12_joins_6 : decode cX12_joins 6 = .ok (.istore_n 3, 1) := by decide +kernel
theorem dX12_joins_7 : decode cX12_joins 7 = .ok (.aload_n 0, 1) := by decide +kernel
theorem dX12_joins_8 : decode cX12_joins 8 = .ok (.getfield 172, 3) := by decide +kernel
theorem dX12_joins_11 : decode cX12_joins 11 = .ok (.iload_n 2, 1) := by decide +kernel
theorem dX12_joins_12 : decode cX12_joins 12 = .ok (.iaload, 1) := by decide +kernel
theorem dX12_joins_13 : decode cX12_joins 13 = .ok (.istore 4, 2) := by decide +kernel
theorem dX12_joins_15 : decode cX12_joins 15 = .ok (.iload_n 3, 1) := by decide +kernel
theorem dX12_joins_16 : decode cX12_joins 16 = .ok (.istore 5, 2) := by decide +kernel
theorem dX12_joins_18 : decode cX12_joins 18 = .ok (.iload 5, 2) := by decide +kernel
theorem dX12_joins_20 : decode cX12_joins 20 = .ok (.ifCond .lt 203, 3) := by decide +kernel
theorem dX12_joins_23 : decode cX12_joins 23 = .ok (.iload 4, 2) := by decide +kernel
theorem dX12_joins_25 : decode cX12_joins 25 = .ok (.istore 6, 2) := by decide +kernel
theorem dX12_joins_27 : decode cX12_joins 27 = .ok (.iload 6, 2) := by decide +kernel
theorem dX12_joins_29 : decode cX12_joins 29 = .ok (.ifCond .lt 188, 3) := by decide +kernel
theorem dX12_joins_32 : decode cX12_joins 32 = .ok (.iload 5, 2) := by decide +kernel
theorem dX12_joins_34 : decode cX12_joins 34 = .ok (.iload 6, 2) := by decide +kernel
theorem dX12_joins_36 : decode cX12_joins 36 = .ok (.invokestatic 474, 3) := by decide +kernel
theorem dX12_joins_39 : decode cX12_joins 39 = .ok (.istore 7, 2) := by decide +kernel
theorem dX12_joins_41 : decode cX12_joins 41 = .ok (.aload_n 0, 1) := by decide +kernel
theorem dX12_joins_42 : decode cX12_joins 42 = .ok (.getfield 181, 3) := by decide +kernel
theorem dX12_joins_45 : decode cX12_joins 45 = .ok (.iload 7, 2) := by decide +kernel
theorem dX12_joins_47 : decode cX12_joins 47 = .ok (.iconst 0, 1) := by decide +kernel
theorem dX12_joins_48 : decode cX12_joins 48 = .ok (.iastore, 1) := by decide +kernel
theorem dX12_joins_49 : decode cX12_joins 49 = .ok (.aload_n 0, 1) := by decide +kernel
theorem dX12_joins_50 : decode cX12_joins 50 = .ok (.getfield 184, 3) := by decide +kernel
theorem dX12_joins_53 : decode cX12_joins 53 = .ok (.iload 7, 2) := by decide +kernel
theorem dX12_joins_55 : decode cX12_joins 55 = .ok (.iconst 0, 1) := by decide +kernel
theorem dX12_joins_56 : decode cX12_joins 56 = .ok (.iastore, 1) := by decide +kernel
theorem dX12_joins_57 : decode cX12_joins 57 = .ok (.iload 5, 2) := by decide +kernel
theorem dX12_joins_59 : decode cX12_joins 59 = .ok (.iload_n 3, 1) := by decide +kernel
theorem dX12_joins_60 : decode cX12_joins 60 = .ok (.if_icmp .eq 151, 3) := by decide +kernel
theorem dX12_joins_63 : decode cX12_joins 63 = .ok (.iload 6, 2) := by decide +kernel
theorem dX12_joins_65 : decode cX12_joins 65 = .ok (.iload 4, 2) := by decide +kernel
theorem dX12_joins_67 : decode cX12_joins 67 = .ok (.if_icmp .ne 6, 3) := by decide +kernel
theorem dX12_joins_70 : decode cX12_joins 70 = .ok (.goto 141, 3) := by decide +kernel
theorem dX12_joins_73 : decode cX12_joins 73 = .ok (.aload_n 0, 1) := by decide +kernel
theorem dX12_joins_74 : decode cX12_joins 74 = .ok (.getfield 181, 3) := by decide +kernel
theorem dX12_joins_77 : decode cX12_joins 77 = .ok (.iload 7, 2) := by decide +kernel
theorem dX12_joins_79 : decode cX12_joins 79 = .ok (.iconst (-1), 1) := by decide +kernel
theorem dX12_joins_80 : decode cX12_joins 80 = .ok (.iastore, 1) := by decide +kernel
theorem dX12_joins_81 : decode cX12_joins 81 = .ok (.aload_n 0, 1) := by decide +kernel
theorem dX12_joins_82 : decode cX12_joins 82 = .ok (.iload 7, 2) := by decide +kernel
theorem dX12_joins_84 : decode cX12_joins 84 = .ok (.aload_n 0, 1) := by decide +kernel
theorem dX12_joins_85 : decode cX12_joins 85 = .ok (.getfield 181, 3) := by decide +kernel
theorem dX12_joins_88 : decode cX12_joins 88 = .ok (.iload 5, 2) := by decide +kernel
theorem dX12_joins_90 : decode cX12_joins 90 = .ok (.iconst 1, 1) := by decide +kernel
theorem dX12_joins_91 : decode cX12_joins 91 = .ok (.iadd, 1) := by decide +kernel
theorem dX12_joins_92 : decode cX12_joins 92 = .ok (.iload 6, 2) := by decide +kernel
theorem dX12_joins_94 : decode cX12_joins 94 = .ok (.invokestatic 474, 3) := by decide +kernel
theorem dX12_joins_97 : decode cX12_joins 97 = .ok (.iaload, 1) := by decide +kernel
theorem dX12_joins_98 : decode cX12_joins 98 = .ok (.aload_n 0, 1) := by decide +kernel
theorem dX12_joins_99 : decode cX12_joins 99 = .ok (.getfield 184, 3) := by decide +kernel
theorem dX12_joins_102 : decode cX12_joins 102 = .ok (.iload 5, 2) := by decide +kernel
theorem dX12_joins_104 : decode cX12_joins 104 = .ok (.iconst 1, 1) := by decide +kernel
theorem dX12_joins_105 : decode cX12_joins 105 = .ok (.iadd, 1) := by decide +kernel
theorem dX12_joins_106 : decode cX12_joins 106 = .ok (.iload 6, 2) := by decide +kernel
theorem dX12_joins_108 : decode cX12_joins 108 = .ok (.invokestatic 474, 3) := by decide +kernel
theorem dX12_joins_111 : decode cX12_joins 111 = .ok (.iaload, 1) := by decide +kernel
theorem dX12_joins_112 : decode cX12_joins 112 = .ok (.invokevirtual 477, 3) := by decide +kernel
theorem dX12_joins_115 : decode cX12_joins 115 = .ok (.aload_n 0, 1) := by decide +kernel
theorem dX12_joins_116 : decode cX12_joins 116 = .ok (.iload 7, 2) := by decide +kernel
theorem dX12_joins_118 : decode cX12_joins 118 = .ok (.aload_n 0, 1) := by decide +kernel
theorem dX12_joins_119 : decode cX12_joins 119 = .ok (.getfield 181, 3) := by decide +kernel
theorem dX12_joins_122 : decode cX12_joins 122 = .ok (.iload 5, 2) := by decide +kernel
theorem dX12_joins_124 : decode cX12_joins 124 = .ok (.iload 6, 2) := by decide +kernel
theorem dX12_joins_126 : decode cX12_joins 126 = .ok (.iconst 1, 1) := by decide +kernel
theorem dX12_joins_127 : decode cX12_joins 127 = .ok (.iadd, 1) := by decide +kernel
theorem dX12_joins_128 : decode cX12_joins 128 = .ok (.invokestatic 474, 3) := by decide +kernel
theorem dX12_joins_131 : decode cX12_joins 131 = .ok (.iaload, 1) := by decide +kernel
theorem dX12_joins_132 : decode cX12_joins 132 = .ok (.aload_n 0, 1) := by decide +kernel
theorem dX12_joins_133 : decode cX12_joins 133 = .ok (.getfield 184, 3) := by decide +kernel
theorem dX12_joins_136 : decode cX12_joins 136 = .ok (.iload 5, 2) := by decide +kernel
theorem dX12_joins_138 : decode cX12_joins 138 = .ok (.iload 6, 2) := by decide +kernel
theorem dX12_joins_140 : decode cX12_joins 140 = .ok (.iconst 1, 1) := by decide +kernel
theorem dX12_joins_141 : decode cX12_joins 141 = .ok (.iadd, 1) := by decide +kernel
theorem dX12_joins_142 : decode cX12_joins 142 = .ok (.invokestatic 474, 3) := by decide +kernel
theorem dX12_joins_145 : decode cX12_joins 145 = .ok (.iaload, 1) := by decide +kernel
theorem dX12_joins_146 : decode cX12_joins 146 = .ok (.invokevirtual 477, 3) := by decide +kernel
theorem dX12_joins_149 : decode cX12_joins 149 = .ok (.aload_n 0, 1) := by decide +kernel
theorem dX12_joins_150 : decode cX12_joins 150 = .ok (.iload_n 1, 1) := by decide +kernel
theorem dX12_joins_151 : decode cX12_joins 151 = .ok (.iload 5, 2) := by decide +kernel
theorem dX12_joins_153 : decode cX12_joins 153 = .ok (.iload_n 2, 1) := by decide +kernel
theorem dX12_joins_154 : decode cX12_joins 154 = .ok (.iload 6, 2) := by decide +kernel
theorem dX12_joins_156 : decode cX12_joins 156 = .ok (.invokevirtual 480, 3) := by decide +kernel
theorem dX12_joins_159 : decode cX12_joins 159 = .ok (.istore 8, 2) := by decide +kernel
theorem dX12_joins_161 : decode cX12_joins 161 = .ok (.iload 5, 2) := by decide +kernel
theorem dX12_joins_163 : decode cX12_joins 163 = .ok (.iconst 1, 1) := by decide +kernel
theorem dX12_joins_164 : decode cX12_joins 164 = .ok (.iadd, 1) := by decide +kernel
theorem dX12_joins_165 : decode cX12_joins 165 = .ok (.iload 6, 2) := by decide +kernel
theorem dX12_joins_167 : decode cX12_joins 167 = .ok (.iconst 1, 1) := by decide +kernel
theorem dX12_joins_168 : decode cX12_joins 168 = .ok (.iadd, 1) := by decide +kernel
theorem dX12_joins_169 : decode cX12_joins 169 = .ok (.invokestatic 474, 3) := by decide +kernel
theorem dX12_joins_172 : decode cX12_joins 172 = .ok (.istore 9, 2) := by decide +kernel
theorem dX12_joins_174 : decode cX12_joins 174 = .ok (.iload 8, 2) := by decide +kernel
theorem dX12_joins_176 : decode cX12_joins 176 = .ok (.aload_n 0, 1) := by decide +kernel
theorem dX12_joins_177 : decode cX12_joins 177 = .ok (.getfield 21, 3) := by decide +kernel
theorem dX12_joins_180 : decode cX12_joins 180 = .ok (.bipush 12, 2) := by decide +kernel
theorem dX12_joins_182 : decode cX12_joins 182 = .ok (.iaload, 1) := by decide +kernel
theorem dX12_joins_183 : decode cX12_joins 183 = .ok (.if_icmp .gt 28, 3) := by decide +kernel
theorem dX12_joins_186 : decode cX12_joins 186 = .ok (.aload_n 0, 1) := by decide +kernel
theorem dX12_joins_187 : decode cX12_joins 187 = .ok (.iload 7, 2) := by decide +kernel
theorem dX12_joins_189 : decode cX12_joins 189 = .ok (.aload_n 0, 1) := by decide +kernel
theorem dX12_joins_190 : decode cX12_joins 190 = .ok (.getfield 181, 3) := by decide +kernel
theorem dX12_joins_193 : decode cX12_joins 193 = .ok (.iload 9, 2) := by decide +kernel
theorem dX12_joins_195 : decode cX12_joins 195 = .ok (.iaload, 1) := by decide +kernel
theorem dX12_joins_196 : decode cX12_joins 196 = .ok (.iconst 1, 1) := by decide +kernel
theorem dX12_joins_197 : decode cX12_joins 197 = .ok (.iadd, 1) := by decide +kernel
theorem dX12_joins_198 : decode cX12_joins 198 = .ok (.aload_n 0, 1) := by decide +kernel
theorem dX12_joins_199 : decode cX12_joins 199 = .ok (.getfield 184, 3) := by decide +kernel
theorem dX12_joins_202 : decode cX12_joins 202 = .ok (.iload 9, 2) := by decide +kernel
theorem dX12_joins_204 : decode cX12_joins 204 = .ok (.iaload, 1) := by decide +kernel
theorem dX12_joins_205 : decode cX12_joins 205 = .ok (.iload 8, 2) := by decide +kernel
theorem dX12_joins_207 : decode cX12_joins 207 = .ok (.iadd, 1) := by decide +kernel
theorem dX12_joins_208 : decode cX12_joins 208 = .ok (.invokevirtual 477, 3) := by decide +kernel
theorem dX12_joins_211 : decode cX12_joins 211 = .ok (.iinc 6 (-1), 3) := by decide +kernel
theorem dX12_joins_214 : decode cX12_joins 214 = .ok (.goto (-187), 3) := by decide +kernel
theorem dX12_joins_217 : decode cX12_joins 217 = .ok (.iinc 5 (-1), 3) := by decide +kernel
theorem dX12_joins_220 : decode cX12_joins 220 = .ok (.goto (-202), 3) := by decide +kernel
theorem dX12_joins_223 : decode cX12_joins 223 = .ok (.iconst 0, 1) := by decide +kernel
theorem dX12_joins_224 : decode cX12_joins 224 = .ok (.istore 5, 2) := by decide +kernel
theorem dX12_joins_226 : decode cX12_joins 226 = .ok (.iconst 0, 1) := by decide +kernel
theorem dX12_joins_227 : decode cX12_joins 227 = .ok (.istore 6, 2) := by decide +kernel
theorem dX12_joins_229 : decode cX12_joins 229 = .ok (.iload 6, 2) := by decide +kernel
theorem dX12_joins_231 : decode cX12_joins 231 = .ok (.iload_n 3, 1) := by decide +kernel
theorem dX12_joins_232 : decode cX12_joins 232 = .ok (.if_icmp .ge 159, 3) := by decide +kernel
theorem dX12_joins_235 : decode cX12_joins 235 = .ok (.aload_n 0, 1) := by decide +kernel
theorem dX12_joins_236 : decode cX12_joins 236 = .ok (.getfield 187, 3) := by decide +kernel
theorem dX12_joins_239 : decode cX12_joins 239 = .ok (.iload 6, 2) := by decide +kernel
theorem dX12_joins_241 : decode cX12_joins 241 = .ok (.iconst (-1), 1) := by decide +kernel
theorem dX12_joins_242 : decode cX12_joins 242 = .ok (.iastore, 1) := by decide +kernel
theorem dX12_joins_243 : decode cX12_joins 243 = .ok (.iload 6, 2) := by decide +kernel
theorem dX12_joins_245 : decode cX12_joins 245 = .ok (.iload 5, 2) := by decide +kernel
theorem dX12_joins_247 : decode cX12_joins 247 = .ok (.invokestatic 474, 3) := by decide +kernel
theorem dX12_joins_250 : decode cX12_joins 250 = .ok (.istore 7, 2) := by decide +kernel
theorem dX12_joins_252 : decode cX12_joins 252 = .ok (.iload 5, 2) := by decide +kernel
theorem dX12_joins_254 : decode cX12_joins 254 = .ok (.istore 8, 2) := by decide +kernel
theorem dX12_joins_256 : decode cX12_joins 256 = .ok (.iload 8, 2) := by decide +kernel
theorem dX12_joins_258 : decode cX12_joins 258 = .ok (.iload 4, 2) := by decide +kernel
theorem dX12_joins_260 : decode cX12_joins 260 = .ok (.if_icmp .ge 104, 3) := by decide +kernel
theorem dX12_joins_263 : decode cX12_joins 263 = .ok (.aload_n 0, 1) := by decide +kernel
theorem dX12_joins_264 : decode cX12_joins 264 = .ok (.getfield 187, 3) := by decide +kernel
theorem dX12_joins_267 : decode cX12_joins 267 = .ok (.iload 6, 2) := by decide +kernel
theorem dX12_joins_269 : decode cX12_joins 269 = .ok (.iaload, 1) := by decide +kernel
theorem dX12_joins_270 : decode cX12_joins 270 = .ok (.ifCond .ge 94, 3) := by decide +kernel
theorem dX12_joins_273 : decode cX12_joins 273 = .ok (.aload_n 0, 1) := by decide +kernel
theorem dX12_joins_274 : decode cX12_joins 274 = .ok (.iload_n 1, 1) := by decide +kernel
theorem dX12_joins_275 : decode cX12_joins 275 = .ok (.iload 6, 2) := by decide +kernel
theorem dX12_joins_277 : decode cX12_joins 277 = .ok (.iload_n 2, 1) := by decide +kernel
theorem dX12_joins_278 : decode cX12_joins 278 = .ok (.iload 8, 2) := by decide +kernel
theorem dX12_joins_280 : decode cX12_joins 280 = .ok (.invokevirtual 480, 3) := by decide +kernel
theorem dX12_joins_283 : decode cX12_joins 283 = .ok (.istore 9, 2) := by decide +kernel
theorem dX12_joins_285 : decode cX12_joins 285 = .ok (.iload 6, 2) := by decide +kernel
theorem dX12_joins_287 : decode cX12_joins 287 = .ok (.iconst 1, 1) := by decide +kernel
theorem dX12_joins_288 : decode cX12_joins 288 = .ok (.iadd, 1) := by decide +kernel
theorem dX12_joins_289 : decode cX12_joins 289 = .ok (.iload 8, 2) := by decide +kernel
theorem dX12_joins_291 : decode cX12_joins 291 = .ok (.iconst 1, 1) := by decide +kernel
theorem dX12_joins_292 : decode cX12_joins 292 = .ok (.iadd, 1) := by decide +kernel
theorem dX12_joins_293 : decode cX12_joins 293 = .ok (.invokestatic 474, 3) := by decide +kernel
theorem dX12_joins_296 : decode cX12_joins 296 = .ok (.istore 10, 2) := by decide +kernel
theorem dX12_joins_298 : decode cX12_joins 298 = .ok (.iload 9, 2) := by decide +kernel
theorem dX12_joins_300 : decode cX12_joins 300 = .ok (.aload_n 0, 1) := by decide +kernel
theorem dX12_joins_301 : decode cX12_joins 301 = .ok (.getfield 21, 3) := by decide +kernel
theorem dX12_joins_304 : decode cX12_joins 304 = .ok (.bipush 12, 2) := by decide +kernel
theorem dX12_joins_306 : decode cX12_joins 306 = .ok (.iaload, 1) := by decide +kernel
theorem dX12_joins_307 : decode cX12_joins 307 = .ok (.if_icmp .gt 51, 3) := by decide +kernel
theorem dX12_joins_310 : decode cX12_joins 310 = .ok (.aload_n 0, 1) := by decide +kernel
theorem dX12_joins_311 : decode cX12_joins 311 = .ok (.getfield 181, 3) := by decide +kernel
theorem dX12_joins_314 : decode cX12_joins 314 = .ok (.iload 10, 2) := by decide +kernel
theorem dX12_joins_316 : decode cX12_joins 316 = .ok (.iaload, 1) := by decide +kernel
theorem dX12_joins_317 : decode cX12_joins 317 = .ok (.iconst 1, 1) := by decide +kernel
theorem dX12_joins_318 : decode cX12_joins 318 = .ok (.iadd, 1) := by decide +kernel
theorem dX12_joins_319 : decode cX12_joins 319 = .ok (.aload_n 0, 1) := by decide +kernel
theorem dX12_joins_320 : decode cX12_joins 320 = .ok (.getfield 181, 3) := by decide +kernel
theorem dX12_joins_323 : decode cX12_joins 323 = .ok (.iload 7, 2) := by decide +kernel
theorem dX12_joins_325 : decode cX12_joins 325 = .ok (.iaload, 1) := by decide +kernel
theorem dX12_joins_326 : decode cX12_joins 326 = .ok (.if_icmp .ne 32, 3) := by decide +kernel
theorem dX12_joins_329 : decode cX12_joins 329 = .ok (.aload_n 0, 1) := by decide +kernel
theorem dX12_joins_330 : decode cX12_joins 330 = .ok (.getfield 184, 3) := by decide +kernel
theorem dX12_joins_333 : decode cX12_joins 333 = .ok (.iload 10, 2) := by decide +kernel
theorem dX12_joins_335 : decode cX12_joins 335 = .ok (.iaload, 1) := by decide +kernel
theorem dX12_joins_336 : decode cX12_joins 336 = .ok (.iload 9, 2) := by decide +kernel
theorem dX12_joins_338 : decode cX12_joins 338 = .ok (.iadd, 1) := by decide +kernel
theorem dX12_joins_339 : decode cX12_joins 339 = .ok (.aload_n 0, 1) := by decide +kernel
theorem dX12_joins_340 : decode cX12_joins 340 = .ok (.getfield 184, 3) := by decide +kernel
theorem dX12_joins_343 : decode cX12_joins 343 = .ok (.iload 7, 2) := by decide +kernel
theorem dX12_joins_345 : decode cX12_joins 345 = .ok (.iaload, 1) := by decide +kernel
theorem dX12_joins_346 : decode cX12_joins 346 = .ok (.if_icmp .ne 12, 3) := by decide +kernel
theorem dX12_joins_349 : decode cX12_joins 349 = .ok (.aload_n 0, 1) := by decide +kernel
theorem dX12_joins_350 : decode cX12_joins 350 = .ok (.getfield 187, 3) := by decide +kernel
theorem dX12_joins_353 : decode cX12_joins 353 = .ok (.iload 6, 2) := by decide +kernel
theorem dX12_joins_355 : decode cX12_joins 355 = .ok (.iload 8, 2) := by decide +kernel
theorem dX12_joins_357 : decode cX12_joins 357 = .ok (.iastore, 1) := by decide +kernel
theorem dX12_joins_358 : decode cX12_joins 358 = .ok (.iinc 8 1, 3) := by decide +kernel
theorem dX12_joins_361 : decode cX12_joins 361 = .ok (.goto (-105), 3) := by decide +kernel
theorem dX12_joins_364 : decode cX12_joins 364 = .ok (.aload_n 0, 1) := by decide +kernel
theorem dX12_joins_365 : decode cX12_joins 365 = .ok (.getfield 187, 3) := by decide +kernel
theorem dX12_joins_368 : decode cX12_joins 368 = .ok (.iload 6, 2) := by decide +kernel
theorem dX12_joins_370 : decode cX12_joins 370 = .ok (.iaload, 1) := by decide +kernel
theorem dX12_joins_371 : decode cX12_joins 371 = .ok (.ifCond .lt 14, 3) := by decide +kernel
theorem dX12_joins_374 : decode cX12_joins 374 = .ok (.aload_n 0, 1) := by decide +kernel
theorem dX12_joins_375 : decode cX12_joins 375 = .ok (.getfield 187, 3) := by decide +kernel
theorem dX12_joins_378 : decode cX12_joins 378 = .ok (.iload 6, 2) := by decide +kernel
theorem dX12_joins_380 : decode cX12_joins 380 = .ok (.iaload, 1) := by decide +kernel
theorem dX12_joins_381 : decode cX12_joins 381 = .ok (.iconst 1, 1) := by decide +kernel
theorem dX12_joins_382 : decode cX12_joins 382 = .ok (.iadd, 1) := by decide +kernel
theorem dX12_joins_383 : decode cX12_joins 383 = .ok (.istore 5, 2) := by decide +kernel
theorem dX12_joins_385 : decode cX12_joins 385 = .ok (.iinc 6 1, 3) := by decide +kernel
theorem dX12_joins_388 : decode cX12_joins 388 = .ok (.goto (-159), 3) := by decide +kernel
theorem dX12_joins_391 : decode cX12_joins 391 = .ok (.return_, 1) := by decide +kernel
theorem dX12_trueOf_0 : decode cX12_trueOf 0 = .ok (.aload_n 0, 1) := by decide +kernel
theorem dX12_trueOf_1 : decode cX12_trueOf 1 = .ok (.getfield 178, 3) := by decide +kernel
theorem dX12_trueOf_4 : decode cX12_trueOf 4 = .ok (.bipush 20, 2) := by decide +kernel
theorem dX12_trueOf_6 : decode cX12_trueOf 6 = .ok (.iload_n 1, 1) := by decide +kernel
theorem dX12_trueOf_7 : decode cX12_trueOf 7 = .ok (.imul, 1) := by decide +kernel
theorem dX12_trueOf_8 : decode cX12_trueOf 8 = .ok (.iload_n 2, 1) := by decide +kernel
theorem dX12_trueOf_9 : decode cX12_trueOf 9 = .ok (.iadd, 1) := by decide +kernel
theorem dX12_trueOf_10 : decode cX12_trueOf 10 = .ok (.iaload, 1) := by decide +kernel
theorem dX12_trueOf_11 : decode cX12_trueOf 11 = .ok (.aload_n 0, 1) := by decide +kernel
theorem dX12_trueOf_12 : decode cX12_trueOf 12 = .ok (.getfield 166, 3) := by decide +kernel
theorem dX12_trueOf_15 : decode cX12_trueOf 15 = .ok (.aload_n 0, 1) := by decide +kernel
theorem dX12_trueOf_16 : decode cX12_trueOf 16 = .ok (.getfield 169, 3) := by decide +kernel
theorem dX12_trueOf_19 : decode cX12_trueOf 19 = .ok (.iload_n 1, 1) := by decide +kernel
theorem dX12_trueOf_20 : decode cX12_trueOf 20 = .ok (.iaload, 1) := by decide +kernel
theorem dX12_trueOf_21 : decode cX12_trueOf 21 = .ok (.iaload, 1) := by decide +kernel
theorem dX12_trueOf_22 : decode cX12_trueOf 22 = .ok (.isub, 1) := by decide +kernel
theorem dX12_trueOf_23 : decode cX12_trueOf 23 = .ok (.ireturn, 1) := by decide +kernel
theorem dX12_joined_0 : decode cX12_joined 0 = .ok (.aload_n 0, 1) := by decide +kernel
theorem dX12_joined_1 : decode cX12_joined 1 = .ok (.iconst 0, 1) := by decide +kernel
theorem dX12_joined_2 : decode cX12_joined 2 = .ok (.putfield 199, 3) := by decide +kernel
theorem dX12_joined_5 : decode cX12_joined 5 = .ok (.aload_n 0, 1) := by decide +kernel
theorem dX12_joined_6 : decode cX12_joined 6 = .ok (.aload_n 0, 1) := by decide +kernel
theorem dX12_joined_7 : decode cX12_joined 7 = .ok (.iload_n 1, 1) := by decide +kernel
theorem dX12_joined_8 : decode cX12_joined 8 = .ok (.invokevirtual 471, 3) := by decide +kernel
theorem dX12_joined_11 : decode cX12_joined 11 = .ok (.ifCond .eq 11, 3) := by decide +kernel
theorem dX12_joined_14 : decode cX12_joined 14 = .ok (.aload_n 0, 1) := by decide +kernel
theorem dX12_joined_15 : decode cX12_joined 15 = .ok (.iload_n 2, 1) := by decide +kernel
theorem dX12_joined_16 : decode cX12_joined 16 = .ok (.invokevirtual 471, 3) := by decide +kernel
theorem dX12_joined_19 : decode cX12_joined 19 = .ok (.ifCond .ne 7, 3) := by decide +kernel
theorem dX12_joined_22 : decode cX12_joined 22 = .ok (.iconst 1, 1) := by decide +kernel
theorem dX12_joined_23 : decode cX12_joined 23 = .ok (.goto 4, 3) := by decide +kernel
theorem dX12_joined_26 : decode cX12_joined 26 = .ok (.iconst 0, 1) := by decide +kernel
theorem dX12_joined_27 : decode cX12_joined 27 = .ok (.iconst 1, 1) := by decide +kernel
theorem dX12_joined_28 : decode cX12_joined 28 = .ok (.invokevirtual 205, 3) := by decide +kernel
theorem dX12_joined_31 : decode cX12_joined 31 = .ok (.ifCond .ne 25, 3) := by decide +kernel
theorem dX12_joined_34 : decode cX12_joined 34 = .ok (.aload_n 0, 1) := by decide +kernel
theorem dX12_joined_35 : decode cX12_joined 35 = .ok (.iload_n 3, 1) := by decide +kernel
theorem dX12_joined_36 : decode cX12_joined 36 = .ok (.ifCond .lt 8, 3) := by decide +kernel
theorem dX12_joined_39 : decode cX12_joined 39 = .ok (.iload_n 3, 1) := by decide +kernel
theorem dX12_joined_40 : decode cX12_joined 40 = .ok (.iconst 4, 1) := by decide +kernel
theorem dX12_joined_41 : decode cX12_joined 41 = .ok (.if_icmp .le 7, 3) := by decide +kernel
theorem dX12_joined_44 : decode cX12_joined 44 = .ok (.iconst 1, 1) := by decide +kernel
theorem dX12_joined_45 : decode cX12_joined 45 = .ok (.goto 4, 3) := by decide +kernel
theorem dX12_joined_48 : decode cX12_joined 48 = .ok (.iconst 0, 1) := by decide +kernel
theorem dX12_joined_49 : decode cX12_joined 49 = .ok (.iconst 2, 1) := by decide +kernel
theorem dX12_joined_50 : decode cX12_joined 50 = .ok (.invokevirtual 205, 3) := by decide +kernel
theorem dX12_joined_53 : decode cX12_joined 53 = .ok (.ifCond .eq 5, 3) := by decide +kernel
theorem dX12_joined_56 : decode cX12_joined 56 = .ok (.iconst 0, 1) := by decide +kernel
theorem dX12_joined_57 : decode cX12_joined 57 = .ok (.ireturn, 1) := by decide +kernel
theorem dX12_joined_58 : decode cX12_joined 58 = .ok (.aload_n 0, 1) := by decide +kernel
theorem dX12_joined_59 : decode cX12_joined 59 = .ok (.iload_n 1, 1) := by decide +kernel
theorem dX12_joined_60 : decode cX12_joined 60 = .ok (.iload_n 2, 1) := by decide +kernel
theorem dX12_joined_61 : decode cX12_joined 61 = .ok (.invokevirtual 484, 3) := by decide +kernel
theorem dX12_joined_64 : decode cX12_joined 64 = .ok (.iconst 0, 1) := by decide +kernel
theorem dX12_joined_65 : decode cX12_joined 65 = .ok (.istore 4, 2) := by decide +kernel
theorem dX12_joined_67 : decode cX12_joined 67 = .ok (.aload_n 0, 1) := by decide +kernel
theorem dX12_joined_68 : decode cX12_joined 68 = .ok (.getfield 181, 3) := by decide +kernel
theorem dX12_joined_71 : decode cX12_joined 71 = .ok (.iconst 0, 1) := by decide +kernel
theorem dX12_joined_72 : decode cX12_joined 72 = .ok (.iaload, 1) := by decide +kernel
theorem dX12_joined_73 : decode cX12_joined 73 = .ok (.istore 5, 2) := by decide +kernel
theorem dX12_joined_75 : decode cX12_joined 75 = .ok (.iconst 0, 1) := by decide +kernel
theorem dX12_joined_76 : decode cX12_joined 76 = .ok (.istore 6, 2) := by decide +kernel
theorem dX12_joined_78 : decode cX12_joined 78 = .ok (.iload 6, 2) := by decide +kernel
theorem dX12_joined_80 : decode cX12_joined 80 = .ok (.aload_n 0, 1) := by decide +kernel
theorem dX12_joined_81 : decode cX12_joined 81 = .ok (.getfield 172, 3) := by decide +kernel
theorem dX12_joined_84 : decode cX12_joined 84 = .ok (.iload_n 1, 1) := by decide +kernel
theorem dX12_joined_85 : decode cX12_joined 85 = .ok (.iaload, 1) := by decide +kernel
theorem dX12_joined_86 : decode cX12_joined 86 = .ok (.if_icmp .ge 59, 3) := by decide +kernel
theorem dX12_joined_89 : decode cX12_joined 89 = .ok (.iload 4, 2) := by decide +kernel
theorem dX12_joined_91 : decode cX12_joined 91 = .ok (.aload_n 0, 1) := by decide +kernel
theorem dX12_joined_92 : decode cX12_joined 92 = .ok (.getfield 187, 3) := by decide +kernel
theorem dX12_joined_95 : decode cX12_joined 95 = .ok (.iload 6, 2) := by decide +kernel
theorem dX12_joined_97 : decode cX12_joined 97 = .ok (.iaload, 1) := by decide +kernel
theorem dX12_joined_98 : decode cX12_joined 98 = .ok (.ifCond .lt 37, 3) := by decide +kernel
theorem dX12_joined_101 : decode cX12_joined 101 = .ok (.aload_n 0, 1) := by decide +kernel
theorem dX12_joined_102 : decode cX12_joined 102 = .ok (.iload_n 2, 1) := by decide +kernel
theorem dX12_joined_103 : decode cX12_joined 103 = .ok (.aload_n 0, 1) := by decide +kernel
theorem dX12_joined_104 : decode cX12_joined 104 = .ok (.getfield 187, 3) := by decide +kernel
theorem dX12_joined_107 : decode cX12_joined 107 = .ok (.iload 6, 2) := by decide +kernel
theorem dX12_joined_109 : decode cX12_joined 109 = .ok (.iaload, 1) := by decide +kernel
theorem dX12_joined_110 : decode cX12_joined 110 = .ok (.invokevirtual 487, 3) := by decide +kernel
theorem dX12_joined_113 : decode cX12_joined 113 = .ok (.aload_n 0, 1) := by decide +kernel
theorem dX12_joined_114 : decode cX12_joined 114 = .ok (.iload_n 1, 1) := by decide +kernel
theorem dX12_joined_115 : decode cX12_joined 115 = .ok (.iload 6, 2) := by decide +kernel
theorem dX12_joined_117 : decode cX12_joined 117 = .ok (.invokevirtual 487, 3) := by decide +kernel
theorem dX12_joined_120 : decode cX12_joined 120 = .ok (.isub, 1) := by decide +kernel
theorem dX12_joined_121 : decode cX12_joined 121 = .ok (.aload_n 0, 1) := by decide +kernel
theorem dX12_joined_122 : decode cX12_joined 122 = .ok (.getfield 21, 3) := by decide +kernel
theorem dX12_joined_125 : decode cX12_joined 125 = .ok (.bipush 11, 2) := by decide +kernel
theorem dX12_joined_127 : decode cX12_joined 127 = .ok (.iaload, 1) := by decide +kernel
theorem dX12_joined_128 : decode cX12_joined 128 = .ok (.if_icmp .le 7, 3) := by decide +kernel
theorem dX12_joined_131 : decode cX12_joined 131 = .ok (.iconst 1, 1) := by decide +kernel
theorem dX12_joined_132 : decode cX12_joined 132 = .ok (.goto 4, 3) := by decide +kernel
theorem dX12_joined_135 : decode cX12_joined 135 = .ok (.iconst 0, 1) := by decide +kernel
theorem dX12_joined_136 : decode cX12_joined 136 = .ok (.iadd, 1) := by decide +kernel
theorem dX12_joined_137 : decode cX12_joined 137 = .ok (.istore 4, 2) := by decide +kernel
theorem dX12_joined_139 : decode cX12_joined 139 = .ok (.iinc 6 1, 3) := by decide +kernel
theorem dX12_joined_142 : decode cX12_joined 142 = .ok (.goto (-64), 3) := by decide +kernel
theorem dX12_joined_145 : decode cX12_joined 145 = .ok (.iload_n 3, 1) := by decide +kernel
theorem dX12_joined_146 : decode cX12_joined 146 = .ok (.tableswitch 59 0 3 #[30, 36, 39, 49], 30) := by decide +kernel
theorem dX12_joined_176 : decode cX12_joined 176 = .ok (.iload 5, 2) := by decide +kernel
theorem dX12_joined_178 : decode cX12_joined 178 = .ok (.iload 4, 2) := by decide +kernel
theorem dX12_joined_180 : decode cX12_joined 180 = .ok (.isub, 1) := by decide +kernel
theorem dX12_joined_181 : decode cX12_joined 181 = .ok (.ireturn, 1) := by decide +kernel
theorem dX12_joined_182 : decode cX12_joined 182 = .ok (.iload 4, 2) := by decide +kernel
theorem dX12_joined_184 : decode cX12_joined 184 = .ok (.ireturn, 1) := by decide +kernel
theorem dX12_joined_185 : decode cX12_joined 185 = .ok (.aload_n 0, 1) := by decide +kernel
theorem dX12_joined_186 : decode cX12_joined 186 = .ok (.getfield 172, 3) := by decide +kernel
theorem dX12_joined_189 : decode cX12_joined 189 = .ok (.iload_n 2, 1) := by decide +kernel
theorem dX12_joined_190 : decode cX12_joined 190 = .ok (.iaload, 1) := by decide +kernel
theorem dX12_joined_191 : decode cX12_joined 191 = .ok (.iload 5, 2) := by decide +kernel
theorem dX12_joined_193 : decode cX12_joined 193 = .ok (.isub, 1) := by decide +kernel
theorem dX12_joined_194 : decode cX12_joined 194 = .ok (.ireturn, 1) := by decide +kernel
theorem dX12_joined_195 : decode cX12_joined 195 = .ok (.aload_n 0, 1) := by decide +kernel
theorem dX12_joined_196 : decode cX12_joined 196 = .ok (.getfield 172, 3) := by decide +kernel
theorem dX12_joined_199 : decode cX12_joined 199 = .ok (.iload_n 1, 1) := by decide +kernel
theorem dX12_joined_200 : decode cX12_joined 200 = .ok (.iaload, 1) := by decide +kernel
theorem dX12_joined_201 : decode cX12_joined 201 = .ok (.iload 5, 2) := by decide +kernel
theorem dX12_joined_203 : decode cX12_joined 203 = .ok (.isub, 1) := by decide +kernel
theorem dX12_joined_204 : decode cX12_joined 204 = .ok (.ireturn, 1) := by decide +kernel
theorem dX12_joined_205 : decode cX12_joined 205 = .ok (.aload_n 0, 1) := by decide +kernel
theorem dX12_joined_206 : decode cX12_joined 206 = .ok (.getfield 184, 3) := by decide +kernel
theorem dX12_joined_209 : decode cX12_joined 209 = .ok (.iconst 0, 1) := by decide +kernel
theorem dX12_joined_210 : decode cX12_joined 210 = .ok (.iaload, 1) := by decide +kernel
theorem dX12_joined_211 : decode cX12_joined 211 = .ok (.ireturn, 1) := by decide +kernel
theorem dX12_pair_0 : decode cX12_pair 0 = .ok (.aload_n 0, 1) := by decide +kernel
theorem dX12_pair_1 : decode cX12_pair 1 = .ok (.iconst 0, 1) := by decide +kernel
theorem dX12_pair_2 : decode cX12_pair 2 = .ok (.putfield 199, 3) := by decide +kernel
theorem dX12_pair_5 : decode cX12_pair 5 = .ok (.aload_n 0, 1) := by decide +kernel
theorem dX12_pair_6 : decode cX12_pair 6 = .ok (.aload_n 0, 1) := by decide +kernel
theorem dX12_pair_7 : decode cX12_pair 7 = .ok (.iload_n 1, 1) := by decide +kernel
theorem dX12_pair_8 : decode cX12_pair 8 = .ok (.invokevirtual 471, 3) := by decide +kernel
theorem dX12_pair_11 : decode cX12_pair 11 = .ok (.ifCond .eq 11, 3) := by decide +kernel
theorem dX12_pair_14 : decode cX12_pair 14 = .ok (.aload_n 0, 1) := by decide +kernel
theorem dX12_pair_15 : decode cX12_pair 15 = .ok (.iload_n 2, 1) := by decide +kernel
theorem dX12_pair_16 : decode cX12_pair 16 = .ok (.invokevirtual 471, 3) := by decide +kernel
theorem dX12_pair_19 : decode cX12_pair 19 = .ok (.ifCond .ne 7, 3) := by decide +kernel
theorem dX12_pair_22 : decode cX12_pair 22 = .ok (.iconst 1, 1) := by decide +kernel
theorem dX12_pair_23 : decode cX12_pair 23 = .ok (.goto 4, 3) := by decide +kernel
theorem dX12_pair_26 : decode cX12_pair 26 = .ok (.iconst 0, 1) := by decide +kernel
theorem dX12_pair_27 : decode cX12_pair 27 = .ok (.iconst 1, 1) := by decide +kernel
theorem dX12_pair_28 : decode cX12_pair 28 = .ok (.invokevirtual 205, 3) := by decide +kernel
theorem dX12_pair_31 : decode cX12_pair 31 = .ok (.ifCond .eq 5, 3) := by decide +kernel
theorem dX12_pair_34 : decode cX12_pair 34 = .ok (.iconst 0, 1) := by decide +kernel
theorem dX12_pair_35 : decode cX12_pair 35 = .ok (.ireturn, 1) := by decide +kernel
theorem dX12_pair_36 : decode cX12_pair 36 = .ok (.aload_n 0, 1) := by decide +kernel
theorem dX12_pair_37 : decode cX12_pair 37 = .ok (.iload_n 1, 1) := by decide +kernel
theorem dX12_pair_38 : decode cX12_pair 38 = .ok (.iload_n 2, 1) := by decide +kernel
theorem dX12_pair_39 : decode cX12_pair 39 = .ok (.invokevirtual 484, 3) := by decide +kernel
theorem dX12_pair_42 : decode cX12_pair 42 = .ok (.iload_n 3, 1) := by decide +kernel
theorem dX12_pair_43 : decode cX12_pair 43 = .ok (.ifCond .lt 22, 3) := by decide +kernel
theorem dX12_pair_46 : decode cX12_pair 46 = .ok (.iload_n 3, 1) := by decide +kernel
theorem dX12_pair_47 : decode cX12_pair 47 = .ok (.aload_n 0, 1) := by decide +kernel
theorem dX12_pair_48 : decode cX12_pair 48 = .ok (.getfield 172, 3) := by decide +kernel
theorem dX12_pair_51 : decode cX12_pair 51 = .ok (.iload_n 1, 1) := by decide +kernel
theorem dX12_pair_52 : decode cX12_pair 52 = .ok (.iaload, 1) := by decide +kernel
theorem dX12_pair_53 : decode cX12_pair 53 = .ok (.if_icmp .ge 12, 3) := by decide +kernel
theorem dX12_pair_56 : decode cX12_pair 56 = .ok (.aload_n 0, 1) := by decide +kernel
theorem dX12_pair_57 : decode cX12_pair 57 = .ok (.getfield 187, 3) := by decide +kernel
theorem dX12_pair_60 : decode cX12_pair 60 = .ok (.iload_n 3, 1) := by decide +kernel
theorem dX12_pair_61 : decode cX12_pair 61 = .ok (.iaload, 1) := by decide +kernel
theorem dX12_pair_62 : decode cX12_pair 62 = .ok (.goto 4, 3) := by decide +kernel
theorem dX12_pair_65 : decode cX12_pair 65 = .ok (.iconst (-1), 1) := by decide +kernel
theorem dX12_pair_66 : decode cX12_pair 66 = .ok (.ireturn, 1) := by decide +kernel
theorem dX12_gauge_0 : decode cX12_gauge 0 = .ok (.aload_n 0, 1) := by decide +kernel
theorem dX12_gauge_1 : decode cX12_gauge 1 = .ok (.iconst 0, 1) := by decide +kernel
theorem dX12_gauge_2 : decode cX12_gauge 2 = .ok (.putfield 199, 3) := by decide +kernel
theorem dX12_gauge_5 : decode cX12_gauge 5 = .ok (.aload_n 0, 1) := by decide +kernel
theorem dX12_gauge_6 : decode cX12_gauge 6 = .ok (.aload_n 0, 1) := by decide +kernel
theorem dX12_gauge_7 : decode cX12_gauge 7 = .ok (.getfield 490, 3) := by decide +kernel
theorem dX12_gauge_10 : decode cX12_gauge 10 = .ok (.bipush 10, 2) := by decide +kernel
theorem dX12_gauge_12 : decode cX12_gauge 12 = .ok (.if_icmp .ne 7, 3) := by decide +kernel
theorem dX12_gauge_15 : decode cX12_gauge 15 = .ok (.iconst 1, 1) := by decide +kernel
theorem dX12_gauge_16 : decode cX12_gauge 16 = .ok (.goto 4, 3) := by decide +kernel
theorem dX12_gauge_19 : decode cX12_gauge 19 = .ok (.iconst 0, 1) := by decide +kernel
theorem dX12_gauge_20 : decode cX12_gauge 20 = .ok (.iconst 1, 1) := by decide +kernel
theorem dX12_gauge_21 : decode cX12_gauge 21 = .ok (.invokevirtual 205, 3) := by decide +kernel
theorem dX12_gauge_24 : decode cX12_gauge 24 = .ok (.ifCond .eq 5, 3) := by decide +kernel
theorem dX12_gauge_27 : decode cX12_gauge 27 = .ok (.iconst 0, 1) := by decide +kernel
theorem dX12_gauge_28 : decode cX12_gauge 28 = .ok (.ireturn, 1) := by decide +kernel
theorem dX12_gauge_29 : decode cX12_gauge 29 = .ok (.aload_n 0, 1) := by decide +kernel
theorem dX12_gauge_30 : decode cX12_gauge 30 = .ok (.dup, 1) := by decide +kernel
theorem dX12_gauge_31 : decode cX12_gauge 31 = .ok (.getfield 490, 3) := by decide +kernel
theorem dX12_gauge_34 : decode cX12_gauge 34 = .ok (.iconst 1, 1) := by decide +kernel
theorem dX12_gauge_35 : decode cX12_gauge 35 = .ok (.iadd, 1) := by decide +kernel
theorem dX12_gauge_36 : decode cX12_gauge 36 = .ok (.putfield 490, 3) := by decide +kernel
theorem dX12_gauge_39 : decode cX12_gauge 39 = .ok (.aload_n 0, 1) := by decide +kernel
theorem dX12_gauge_40 : decode cX12_gauge 40 = .ok (.getfield 490, 3) := by decide +kernel
theorem dX12_gauge_43 : decode cX12_gauge 43 = .ok (.iconst 1, 1) := by decide +kernel
theorem dX12_gauge_44 : decode cX12_gauge 44 = .ok (.isub, 1) := by decide +kernel
theorem dX12_gauge_45 : decode cX12_gauge 45 = .ok (.ireturn, 1) := by decide +kernel
theorem dX12_isGauge_0 : decode cX12_isGauge 0 = .ok (.iload_n 1, 1) := by decide +kernel
theorem dX12_isGauge_1 : decode cX12_isGauge 1 = .ok (.ifCond .lt 15, 3) := by decide +kernel
theorem dX12_isGauge_4 : decode cX12_isGauge 4 = .ok (.iload_n 1, 1) := by decide +kernel
theorem dX12_isGauge_5 : decode cX12_isGauge 5 = .ok (.aload_n 0, 1) := by decide +kernel
theorem dX12_isGauge_6 : decode cX12_isGauge 6 = .ok (.getfield 490, 3) := by decide +kernel
theorem dX12_isGauge_9 : decode cX12_isGauge 9 = .ok (.if_icmp .ge 7, 3) := by decide +kernel
theorem dX12_isGauge_12 : decode cX12_isGauge 12 = .ok (.iconst 1, 1) := by decide +kernel
theorem dX12_isGauge_13 : decode cX12_isGauge 13 = .ok (.goto 4, 3) := by decide +kernel
theorem dX12_isGauge_16 : decode cX12_isGauge 16 = .ok (.iconst 0, 1) := by decide +kernel
theorem dX12_isGauge_17 : decode cX12_isGauge 17 = .ok (.ireturn, 1) := by decide +kernel
theorem dX12_read_0 : decode cX12_read 0 = .ok (.aload_n 0, 1) := by decide +kernel
theorem dX12_read_1 : decode cX12_read 1 = .ok (.iconst 0, 1) := by decide +kernel
theorem dX12_read_2 : decode cX12_read 2 = .ok (.putfield 199, 3) := by decide +kernel
theorem dX12_read_5 : decode cX12_read 5 = .ok (.aload_n 0, 1) := by decide +kernel
theorem dX12_read_6 : decode cX12_read 6 = .ok (.aload_n 0, 1) := by decide +kernel
theorem dX12_read_7 : decode cX12_read 7 = .ok (.iload_n 1, 1) := by decide +kernel
theorem dX12_read_8 : decode cX12_read 8 = .ok (.invokevirtual 493, 3) := by decide +kernel
theorem dX12_read_11 : decode cX12_read 11 = .ok (.ifCond .ne 7, 3) := by decide +kernel
theorem dX12_read_14 : decode cX12_read 14 = .ok (.iconst 1, 1) := by decide +kernel
theorem dX12_read_15 : decode cX12_read 15 = .ok (.goto 4, 3) := by decide +kernel
theorem dX12_read_18 : decode cX12_read 18 = .ok (.iconst 0, 1) := by decide +kernel
theorem dX12_read_19 : decode cX12_read 19 = .ok (.iconst 1, 1) := by decide +kernel
theorem dX12_read_20 : decode cX12_read 20 = .ok (.invokevirtual 205, 3) := by decide +kernel
theorem dX12_read_23 : decode cX12_read 23 = .ok (.ifCond .ne 34, 3) := by decide +kernel
theorem dX12_read_26 : decode cX12_read 26 = .ok (.aload_n 0, 1) := by decide +kernel
theorem dX12_read_27 : decode cX12_read 27 = .ok (.iload_n 2, 1) := by decide +kernel
theorem dX12_read_28 : decode cX12_read 28 = .ok (.ifCond .lt 17, 3) := by decide +kernel
theorem dX12_read_31 : decode cX12_read 31 = .ok (.iload_n 3, 1) := by decide +kernel
theorem dX12_read_32 : decode cX12_read 32 = .ok (.sipush (-10000), 3) := by decide +kernel
theorem dX12_read_35 : decode cX12_read 35 = .ok (.if_icmp .lt 10, 3) := by decide +kernel
theorem dX12_read_38 : decode cX12_read 38 = .ok (.iload_n 3, 1) := by decide +kernel
theorem dX12_read_39 : decode cX12_read 39 = .ok (.sipush 10000, 3) := by decide +kernel
theorem dX12_read_42 : decode cX12_read 42 = .ok (.if_icmp .le 7, 3) := by decide +kernel
theorem dX12_read_45 : decode cX12_read 45 = .ok (.iconst 1, 1) := by decide +kernel
theorem dX12_read_46 : decode cX12_read 46 = .ok (.goto 4, 3) := by decide +kernel
theorem dX12_read_49 : decode cX12_read 49 = .ok (.iconst 0, 1) := by decide +kernel
theorem dX12_read_50 : decode cX12_read 50 = .ok (.iconst 2, 1) := by decide +kernel
theorem dX12_read_51 : decode cX12_read 51 = .ok (.invokevirtual 205, 3) := by decide +kernel
theorem dX12_read_54 : decode cX12_read 54 = .ok (.ifCond .eq 5, 3) := by decide +kernel
theorem dX12_read_57 : decode cX12_read 57 = .ok (.iconst 0, 1) := by decide +kernel
theorem dX12_read_58 : decode cX12_read 58 = .ok (.ireturn, 1) := by decide +kernel
theorem dX12_read_59 : decode cX12_read 59 = .ok (.aload_n 0, 1) := by decide +kernel
theorem dX12_read_60 : decode cX12_read 60 = .ok (.getfield 190, 3) := by decide +kernel
theorem dX12_read_63 : decode cX12_read 63 = .ok (.iload_n 1, 1) := by decide +kernel
theorem dX12_read_64 : decode cX12_read 64 = .ok (.iaload, 1) := by decide +kernel
theorem dX12_read_65 : decode cX12_read 65 = .ok (.istore 4, 2) := by decide +kernel
theorem dX12_read_67 : decode cX12_read 67 = .ok (.iload 4, 2) := by decide +kernel
theorem dX12_read_69 : decode cX12_read 69 = .ok (.bipush 40, 2) := by decide +kernel
theorem dX12_read_71 : decode cX12_read 71 = .ok (.if_icmp .ne 5, 3) := by decide +kernel
theorem dX12_read_74 : decode cX12_read 74 = .ok (.iconst (-1), 1) := by decide +kernel
theorem dX12_read_75 : decode cX12_read 75 = .ok (.ireturn, 1) := by decide +kernel
theorem dX12_read_76 : decode cX12_read 76 = .ok (.iload_n 2, 1) := by decide +kernel
theorem dX12_read_77 : decode cX12_read 77 = .ok (.aload_n 0, 1) := by decide +kernel
theorem dX12_read_78 : decode cX12_read 78 = .ok (.getfield 222, 3) := by decide +kernel
theorem dX12_read_81 : decode cX12_read 81 = .ok (.if_icmp .gt 26, 3) := by decide +kernel
theorem dX12_read_84 : decode cX12_read 84 = .ok (.iload 4, 2) := by decide +kernel
theorem dX12_read_86 : decode cX12_read 86 = .ok (.ifCond .le 24, 3) := by decide +kernel
theorem dX12_read_89 : decode cX12_read 89 = .ok (.aload_n 0, 1) := by decide +kernel
theorem dX12_read_90 : decode cX12_read 90 = .ok (.getfield 193, 3) := by decide +kernel
theorem dX12_read_93 : decode cX12_read 93 = .ok (.bipush 40, 2) := by decide +kernel
theorem dX12_read_95 : decode cX12_read 95 = .ok (.iload_n 1, 1) := by decide +kernel
theorem dX12_read_96 : decode cX12_read 96 = .ok (.imul, 1) := by decide +kernel
theorem dX12_read_97 : decode cX12_read 97 = .ok (.iload 4, 2) := by decide +kernel
theorem dX12_read_99 : decode cX12_read 99 = .ok (.iadd, 1) := by decide +kernel
theorem dX12_read_100 : decode cX12_read 100 = .ok (.iconst 1, 1) := by decide +kernel
theorem dX12_read_101 : decode cX12_read 101 = .ok (.isub, 1) := by decide +kernel
theorem dX12_read_102 : decode cX12_read 102 = .ok (.iaload, 1) := by decide +kernel
theorem dX12_read_103 : decode cX12_read 103 = .ok (.iload_n 2, 1) := by decide +kernel
theorem dX12_read_104 : decode cX12_read 104 = .ok (.if_icmp .lt 6, 3) := by decide +kernel
theorem dX12_read_107 : decode cX12_read 107 = .ok (.bipush (-2), 2) := by decide +kernel
theorem dX12_read_109 : decode cX12_read 109 = .ok (.ireturn, 1) := by decide +kernel
theorem dX12_read_110 : decode cX12_read 110 = .ok (.aload_n 0, 1) := by decide +kernel
theorem dX12_read_111 : decode cX12_read 111 = .ok (.getfield 193, 3) := by decide +kernel
theorem dX12_read_114 : decode cX12_read 114 = .ok (.bipush 40, 2) := by decide +kernel
theorem dX12_read_116 : decode cX12_read 116 = .ok (.iload_n 1, 1) := by decide +kernel
theorem dX12_read_117 : decode cX12_read 117 = .ok (.imul, 1) := by decide +kernel
theorem dX12_read_118 : decode cX12_read 118 = .ok (.iload 4, 2) := by decide +kernel
theorem dX12_read_120 : decode cX12_read 120 = .ok (.iadd, 1) := by decide +kernel
theorem dX12_read_121 : decode cX12_read 121 = .ok (.iload_n 2, 1) := by decide +kernel
theorem dX12_read_122 : decode cX12_read 122 = .ok (.iastore, 1) := by decide +kernel
theorem dX12_read_123 : decode cX12_read 123 = .ok (.aload_n 0, 1) := by decide +kernel
theorem dX12_read_124 : decode cX12_read 124 = .ok (.getfield 196, 3) := by decide +kernel
theorem dX12_read_127 : decode cX12_read 127 = .ok (.bipush 40, 2) := by decide +kernel
theorem dX12_read_129 : decode cX12_read 129 = .ok (.iload_n 1, 1) := by decide +kernel
theorem dX12_read_130 : decode cX12_read 130 = .ok (.imul, 1) := by decide +kernel
theorem dX12_read_131 : decode cX12_read 131 = .ok (.iload 4, 2) := by decide +kernel
theorem dX12_read_133 : decode cX12_read 133 = .ok (.iadd, 1) := by decide +kernel
theorem dX12_read_134 : decode cX12_read 134 = .ok (.iload_n 3, 1) := by decide +kernel
theorem dX12_read_135 : decode cX12_read 135 = .ok (.iastore, 1) := by decide +kernel
theorem dX12_read_136 : decode cX12_read 136 = .ok (.aload_n 0, 1) := by decide +kernel
theorem dX12_read_137 : decode cX12_read 137 = .ok (.getfield 190, 3) := by decide +kernel
theorem dX12_read_140 : decode cX12_read 140 = .ok (.iload_n 1, 1) := by decide +kernel
theorem dX12_read_141 : decode cX12_read 141 = .ok (.dup2, 1) := by decide +kernel
theorem dX12_read_142 : decode cX12_read 142 = .ok (.iaload, 1) := by decide +kernel
theorem dX12_read_143 : decode cX12_read 143 = .ok (.iconst 1, 1) := by decide +kernel
theorem dX12_read_144 : decode cX12_read 144 = .ok (.iadd, 1) := by decide +kernel
theorem dX12_read_145 : decode cX12_read 145 = .ok (.iastore, 1) := by decide +kernel
theorem dX12_read_146 : decode cX12_read 146 = .ok (.iload 4, 2) := by decide +kernel
theorem dX12_read_148 : decode cX12_read 148 = .ok (.iconst 1, 1) := by decide +kernel
theorem dX12_read_149 : decode cX12_read 149 = .ok (.iadd, 1) := by decide +kernel
theorem dX12_read_150 : decode cX12_read 150 = .ok (.ireturn, 1) := by decide +kernel
theorem dX12_floor_0 : decode cX12_floor 0 = .ok (.lload_n 0, 1) := by decide +kernel
theorem dX12_floor_1 : decode cX12_floor 1 = .ok (.lload_n 2, 1) := by decide +kernel
theorem dX12_floor_2 : decode cX12_floor 2 = .ok (.ldiv, 1) := by decide +kernel
theorem dX12_floor_3 : decode cX12_floor 3 = .ok (.lstore 4, 2) := by decide +kernel
theorem dX12_floor_5 : decode cX12_floor 5 = .ok (.lload_n 0, 1) := by decide +kernel
theorem dX12_floor_6 : decode cX12_floor 6 = .ok (.lload_n 2, 1) := by decide +kernel
theorem dX12_floor_7 : decode cX12_floor 7 = .ok (.lrem, 1) := by decide +kernel
theorem dX12_floor_8 : decode cX12_floor 8 = .ok (.lconst 0, 1) := by decide +kernel
theorem dX12_floor_9 : decode cX12_floor 9 = .ok (.lcmp, 1) := by decide +kernel
theorem dX12_floor_10 : decode cX12_floor 10 = .ok (.ifCond .ge 10, 3) := by decide +kernel
theorem dX12_floor_13 : decode cX12_floor 13 = .ok (.lload 4, 2) := by decide +kernel
theorem dX12_floor_15 : decode cX12_floor 15 = .ok (.lconst 1, 1) := by decide +kernel
theorem dX12_floor_16 : decode cX12_floor 16 = .ok (.lsub, 1) := by decide +kernel
theorem dX12_floor_17 : decode cX12_floor 17 = .ok (.goto 5, 3) := by decide +kernel
theorem dX12_floor_20 : decode cX12_floor 20 = .ok (.lload 4, 2) := by decide +kernel
theorem dX12_floor_22 : decode cX12_floor 22 = .ok (.lreturn, 1) := by decide +kernel
theorem dX12_atDay_0 : decode cX12_atDay 0 = .ok (.iconst 0, 1) := by decide +kernel
theorem dX12_atDay_1 : decode cX12_atDay 1 = .ok (.istore_n 3, 1) := by decide +kernel
theorem dX12_atDay_2 : decode cX12_atDay 2 = .ok (.iload_n 3, 1) := by decide +kernel
theorem dX12_atDay_3 : decode cX12_atDay 3 = .ok (.aload_n 0, 1) := by decide +kernel
theorem dX12_atDay_4 : decode cX12_atDay 4 = .ok (.getfield 190, 3) := by decide +kernel
theorem dX12_atDay_7 : decode cX12_atDay 7 = .ok (.iload_n 1, 1) := by decide +kernel
theorem dX12_atDay_8 : decode cX12_atDay 8 = .ok (.iaload, 1) := by decide +kernel
theorem dX12_atDay_9 : decode cX12_atDay 9 = .ok (.if_icmp .ge 135, 3) := by decide +kernel
theorem dX12_atDay_12 : decode cX12_atDay 12 = .ok (.bipush 40, 2) := by decide +kernel
theorem dX12_atDay_14 : decode cX12_atDay 14 = .ok (.iload_n 1, 1) := by decide +kernel
theorem dX12_atDay_15 : decode cX12_atDay 15 = .ok (.imul, 1) := by decide +kernel
theorem dX12_atDay_16 : decode cX12_atDay 16 = .ok (.iload_n 3, 1) := by decide +kernel
theorem dX12_atDay_17 : decode cX12_atDay 17 = .ok (.iadd, 1) := by decide +kernel
theorem dX12_atDay_18 : decode cX12_atDay 18 = .ok (.istore 4, 2) := by decide +kernel
theorem dX12_atDay_20 : decode cX12_atDay 20 = .ok (.aload_n 0, 1) := by decide +kernel
theorem dX12_atDay_21 : decode cX12_atDay 21 = .ok (.getfield 193, 3) := by decide +kernel
theorem dX12_atDay_24 : decode cX12_atDay 24 = .ok (.iload 4, 2) := by decide +kernel
theorem dX12_atDay_26 : decode cX12_atDay 26 = .ok (.iaload, 1) := by decide +kernel
theorem dX12_atDay_27 : decode cX12_atDay 27 = .ok (.iload_n 2, 1) := by decide +kernel
theorem dX12_atDay_28 : decode cX12_atDay 28 = .ok (.if_icmp .ne 11, 3) := by decide +kernel
theorem dX12_atDay_31 : decode cX12_atDay 31 = .ok (.aload_n 0, 1) := by decide +kernel
theorem dX12_atDay_32 : decode cX12_atDay 32 = .ok (.getfield 196, 3) := by decide +kernel
theorem dX12_atDay_35 : decode cX12_atDay 35 = .ok (.iload 4, 2) := by decide +kernel
theorem dX12_atDay_37 : decode cX12_atDay 37 = .ok (.iaload, 1) := by decide +kernel
theorem dX12_atDay_38 : decode cX12_atDay 38 = .ok (.ireturn, 1) := by decide +kernel
theorem dX12_atDay_39 : decode cX12_atDay 39 = .ok (.iload_n 3, 1) := by decide +kernel
theorem dX12_atDay_40 : decode cX12_atDay 40 = .ok (.iconst 1, 1) := by decide +kernel
theorem dX12_atDay_41 : decode cX12_atDay 41 = .ok (.iadd, 1) := by decide +kernel
theorem dX12_atDay_42 : decode cX12_atDay 42 = .ok (.aload_n 0, 1) := by decide +kernel
theorem dX12_atDay_43 : decode cX12_atDay 43 = .ok (.getfield 190, 3) := by decide +kernel
theorem dX12_atDay_46 : decode cX12_atDay 46 = .ok (.iload_n 1, 1) := by decide +kernel
theorem dX12_atDay_47 : decode cX12_atDay 47 = .ok (.iaload, 1) := by decide +kernel
theorem dX12_atDay_48 : decode cX12_atDay 48 = .ok (.if_icmp .eq 90, 3) := by decide +kernel
theorem dX12_atDay_51 : decode cX12_atDay 51 = .ok (.aload_n 0, 1) := by decide +kernel
theorem dX12_atDay_52 : decode cX12_atDay 52 = .ok (.getfield 193, 3) := by decide +kernel
theorem dX12_atDay_55 : decode cX12_atDay 55 = .ok (.iload 4, 2) := by decide +kernel
theorem dX12_atDay_57 : decode cX12_atDay 57 = .ok (.iaload, 1) := by decide +kernel
theorem dX12_atDay_58 : decode cX12_atDay 58 = .ok (.iload_n 2, 1) := by decide +kernel
theorem dX12_atDay_59 : decode cX12_atDay 59 = .ok (.if_icmp .gt 79, 3) := by decide +kernel
theorem dX12_atDay_62 : decode cX12_atDay 62 = .ok (.aload_n 0, 1) := by decide +kernel
theorem dX12_atDay_63 : decode cX12_atDay 63 = .ok (.getfield 193, 3) := by decide +kernel
theorem dX12_atDay_66 : decode cX12_atDay 66 = .ok (.iload 4, 2) := by decide +kernel
theorem dX12_atDay_68 : decode cX12_atDay 68 = .ok (.iconst 1, 1) := by decide +kernel
theorem dX12_atDay_69 : decode cX12_atDay 69 = .ok (.iadd, 1) := by decide +kernel
theorem dX12_atDay_70 : decode cX12_atDay 70 = .ok (.iaload, 1) := by decide +kernel
theorem dX12_atDay_71 : decode cX12_atDay 71 = .ok (.iload_n 2, 1) := by decide +kernel
theorem dX12_atDay_72 : decode cX12_atDay 72 = .ok (.if_icmp .gt 6, 3) := by decide +kernel
theorem dX12_atDay_75 : decode cX12_atDay 75 = .ok (.goto 63, 3) := by decide +kernel
theorem dX12_atDay_78 : decode cX12_atDay 78 = .ok (.aload_n 0, 1) := by decide +kernel
theorem dX12_atDay_79 : decode cX12_atDay 79 = .ok (.getfield 196, 3) := by decide +kernel
theorem dX12_atDay_82 : decode cX12_atDay 82 = .ok (.iload 4, 2) := by decide +kernel
theorem dX12_atDay_84 : decode cX12_atDay 84 = .ok (.iaload, 1) := by decide +kernel
theorem dX12_atDay_85 : decode cX12_atDay 85 = .ok (.aload_n 0, 1) := by decide +kernel
theorem dX12_atDay_86 : decode cX12_atDay 86 = .ok (.getfield 196, 3) := by decide +kernel
theorem dX12_atDay_89 : decode cX12_atDay 89 = .ok (.iload 4, 2) := by decide +kernel
theorem dX12_atDay_91 : decode cX12_atDay 91 = .ok (.iconst 1, 1) := by decide +kernel
theorem dX12_atDay_92 : decode cX12_atDay 92 = .ok (.iadd, 1) := by decide +kernel
theorem dX12_atDay_93 : decode cX12_atDay 93 = .ok (.iaload, 1) := by decide +kernel
theorem dX12_atDay_94 : decode cX12_atDay 94 = .ok (.aload_n 0, 1) := by decide +kernel
theorem dX12_atDay_95 : decode cX12_atDay 95 = .ok (.getfield 196, 3) := by decide +kernel
theorem dX12_atDay_98 : decode cX12_atDay 98 = .ok (.iload 4, 2) := by decide +kernel
theorem dX12_atDay_100 : decode cX12_atDay 100 = .ok (.iaload, 1) := by decide +kernel
theorem dX12_atDay_101 : decode cX12_atDay 101 = .ok (.isub, 1) := by decide +kernel
theorem dX12_atDay_102 : decode cX12_atDay 102 = .ok (.i2l, 1) := by decide +kernel
theorem dX12_atDay_103 : decode cX12_atDay 103 = .ok (.iload_n 2, 1) := by decide +kernel
theorem dX12_atDay_104 : decode cX12_atDay 104 = .ok (.aload_n 0, 1) := by decide +kernel
theorem dX12_atDay_105 : decode cX12_atDay 105 = .ok (.getfield 193, 3) := by decide +kernel
theorem dX12_atDay_108 : decode cX12_atDay 108 = .ok (.iload 4, 2) := by decide +kernel
theorem dX12_atDay_110 : decode cX12_atDay 110 = .ok (.iaload, 1) := by decide +kernel
theorem dX12_atDay_111 : decode cX12_atDay 111 = .ok (.isub, 1) := by decide +kernel
theorem dX12_atDay_112 : decode cX12_atDay 112 = .ok (.i2l, 1) := by decide +kernel
theorem dX12_atDay_113 : decode cX12_atDay 113 = .ok (.lmul, 1) := by decide +kernel
theorem dX12_atDay_114 : decode cX12_atDay 114 = .ok (.aload_n 0, 1) := by decide +kernel
theorem dX12_atDay_115 : decode cX12_atDay 115 = .ok (.getfield 193, 3) := by decide +kernel
theorem dX12_atDay_118 : decode cX12_atDay 118 = .ok (.iload 4, 2) := by decide +kernel
theorem dX12_atDay_120 : decode cX12_atDay 120 = .ok (.iconst 1, 1) := by decide +kernel
theorem dX12_atDay_121 : decode cX12_atDay 121 = .ok (.iadd, 1) := by decide +kernel
theorem dX12_atDay_122 : decode cX12_atDay 122 = .ok (.iaload, 1) := by decide +kernel
theorem dX12_atDay_123 : decode cX12_atDay 123 = .ok (.aload_n 0, 1) := by decide +kernel
theorem dX12_atDay_124 : decode cX12_atDay 124 = .ok (.getfield 193, 3) := by decide +kernel
theorem dX12_atDay_127 : decode cX12_atDay 127 = .ok (.iload 4, 2) := by decide +kernel
theorem dX12_atDay_129 : decode cX12_atDay 129 = .ok (.iaload, 1) := by decide +kernel
theorem dX12_atDay_130 : decode cX12_atDay 130 = .ok (.isub, 1) := by decide +kernel
theorem dX12_atDay_131 : decode cX12_atDay 131 = .ok (.i2l, 1) := by decide +kernel
theorem dX12_atDay_132 : decode cX12_atDay 132 = .ok (.invokestatic 496, 3) := by decide +kernel
theorem dX12_atDay_135 : decode cX12_atDay 135 = .ok (.l2i, 1) := by decide +kernel
theorem dX12_atDay_136 : decode cX12_atDay 136 = .ok (.iadd, 1) := by decide +kernel
theorem dX12_atDay_137 : decode cX12_atDay 137 = .ok (.ireturn, 1) := by decide +kernel
theorem dX12_atDay_138 : decode cX12_atDay 138 = .ok (.iinc 3 1, 3) := by decide +kernel
theorem dX12_atDay_141 : decode cX12_atDay 141 = .ok (.goto (-139), 3) := by decide +kernel
theorem dX12_atDay_144 : decode cX12_atDay 144 = .ok (.ldc_w 500, 3) := by decide +kernel
theorem dX12_atDay_147 : decode cX12_atDay 147 = .ok (.ireturn, 1) := by decide +kernel
theorem dX12_at_0 : decode cX12_at 0 = .ok (.aload_n 0, 1) := by decide +kernel
theorem dX12_at_1 : decode cX12_at 1 = .ok (.iconst 0, 1) := by decide +kernel
theorem dX12_at_2 : decode cX12_at 2 = .ok (.putfield 199, 3) := by decide +kernel
theorem dX12_at_5 : decode cX12_at 5 = .ok (.aload_n 0, 1) := by decide +kernel
theorem dX12_at_6 : decode cX12_at 6 = .ok (.aload_n 0, 1) := by decide +kernel
theorem dX12_at_7 : decode cX12_at 7 = .ok (.iload_n 1, 1) := by decide +kernel
theorem dX12_at_8 : decode cX12_at 8 = .ok (.invokevirtual 493, 3) := by decide +kernel
theorem dX12_at_11 : decode cX12_at 11 = .ok (.ifCond .ne 7, 3) := by decide +kernel
theorem dX12_at_14 : decode cX12_at 14 = .ok (.iconst 1, 1) := by decide +kernel
theorem dX12_at_15 : decode cX12_at 15 = .ok (.goto 4, 3) := by decide +kernel
theorem dX12_at_18 : decode cX12_at 18 = .ok (.iconst 0, 1) := by decide +kernel
theorem dX12_at_19 : decode cX12_at 19 = .ok (.iconst 1, 1) := by decide +kernel
theorem dX12_at_20 : decode cX12_at 20 = .ok (.invokevirtual 205, 3) := by decide +kernel
theorem dX12_at_23 : decode cX12_at 23 = .ok (.ifCond .eq 7, 3) := by decide +kernel
theorem dX12_at_26 : decode cX12_at 26 = .ok (.iconst 0, 1) := by decide +kernel
theorem dX12_at_27 : decode cX12_at 27 = .ok (.goto 9, 3) := by decide +kernel
theorem dX12_at_30 : decode cX12_at 30 = .ok (.aload_n 0, 1) := by decide +kernel
theorem dX12_at_31 : decode cX12_at 31 = .ok (.iload_n 1, 1) := by decide +kernel
theorem dX12_at_32 : decode cX12_at 32 = .ok (.iload_n 2, 1) := by decide +kernel
theorem dX12_at_33 : decode cX12_at 33 = .ok (.invokevirtual 501, 3) := by decide +kernel
theorem dX12_at_36 : decode cX12_at 36 = .ok (.ireturn, 1) := by decide +kernel
theorem dX12_isToldCause_0 : decode cX12_isToldCause 0 = .ok (.aload_n 0, 1) := by decide +kernel
theorem dX12_isToldCause_1 : decode cX12_isToldCause 1 = .ok (.getfield 91, 3) := by decide +kernel
theorem dX12_isToldCause_4 : decode cX12_isToldCause 4 = .ok (.iload_n 3, 1) := by decide +kernel
theorem dX12_isToldCause_5 : decode cX12_isToldCause 5 = .ok (.iaload, 1) := by decide +kernel
theorem dX12_isToldCause_6 : decode cX12_isToldCause 6 = .ok (.iconst 5, 1) := by decide +kernel
theorem dX12_isToldCause_7 : decode cX12_isToldCause 7 = .ok (.if_icmp .eq 14, 3) := by decide +kernel
theorem dX12_isToldCause_10 : decode cX12_isToldCause 10 = .ok (.aload_n 0, 1) := by decide +kernel
theorem dX12_isToldCause_11 : decode cX12_isToldCause 11 = .ok (.getfield 91, 3) := by decide +kernel
theorem dX12_isToldCause_14 : decode cX12_isToldCause 14 = .ok (.iload_n 3, 1) := by decide +kernel
theorem dX12_isToldCause_15 : decode cX12_isToldCause 15 = .ok (.iaload, 1) := by decide +kernel
theorem dX12_isToldCause_16 : decode cX12_isToldCause 16 = .ok (.bipush 7, 2) := by decide +kernel
theorem dX12_isToldCause_18 : decode cX12_isToldCause 18 = .ok (.if_icmp .ne 18, 3) := by decide +kernel
theorem dX12_isToldCause_21 : decode cX12_isToldCause 21 = .ok (.iload 4, 2) := by decide +kernel
theorem dX12_isToldCause_23 : decode cX12_isToldCause 23 = .ok (.aload_n 0, 1) := by decide +kernel
theorem dX12_isToldCause_24 : decode cX12_isToldCause 24 = .ok (.getfield 94, 3) := by decide +kernel
theorem dX12_isToldCause_27 : decode cX12_isToldCause 27 = .ok (.iload_n 3, 1) := by decide +kernel
theorem dX12_isToldCause_28 : decode cX12_isToldCause 28 = .ok (.iaload, 1) := by decide +kernel
theorem dX12_isToldCause_29 : decode cX12_isToldCause 29 = .ok (.if_icmp .le 7, 3) := by decide +kernel
theorem dX12_isToldCause_32 : decode cX12_isToldCause 32 = .ok (.iconst 1, 1) := by decide +kernel
theorem dX12_isToldCause_33 : decode cX12_isToldCause 33 = .ok (.goto 4, 3) := by decide +kernel
theorem dX12_isToldCause_36 : decode cX12_isToldCause 36 = .ok (.iconst 0, 1) := by decide +kernel
theorem dX12_isToldCause_37 : decode cX12_isToldCause 37 = .ok (.istore 5, 2) := by decide +kernel
theorem dX12_isToldCause_39 : decode cX12_isToldCause 39 = .ok (.iload 5, 2) := by decide +kernel
theorem dX12_isToldCause_41 : decode cX12_isToldCause 41 = .ok (.ifCond .eq 67, 3) := by decide +kernel
theorem dX12_isToldCause_44 : decode cX12_isToldCause 44 = .ok (.aload_n 0, 1) := by decide +kernel
theorem dX12_isToldCause_45 : decode cX12_isToldCause 45 = .ok (.iload_n 1, 1) := by decide +kernel
theorem dX12_isToldCause_46 : decode cX12_isToldCause 46 = .ok (.iload 4, 2) := by decide +kernel
theorem dX12_isToldCause_48 : decode cX12_isToldCause 48 = .ok (.invokevirtual 501, 3) := by decide +kernel
theorem dX12_isToldCause_51 : decode cX12_isToldCause 51 = .ok (.ldc_w 500, 3) := by decide +kernel
theorem dX12_isToldCause_54 : decode cX12_isToldCause 54 = .ok (.if_icmp .eq 54, 3) := by decide +kernel
theorem dX12_isToldCause_57 : decode cX12_isToldCause 57 = .ok (.aload_n 0, 1) := by decide +kernel
theorem dX12_isToldCause_58 : decode cX12_isToldCause 58 = .ok (.iload_n 1, 1) := by decide +kernel
theorem dX12_isToldCause_59 : decode cX12_isToldCause 59 = .ok (.aload_n 0, 1) := by decide +kernel
theorem dX12_isToldCause_60 : decode cX12_isToldCause 60 = .ok (.getfield 94, 3) := by decide +kernel
theorem dX12_isToldCause_63 : decode cX12_isToldCause 63 = .ok (.iload_n 3, 1) := by decide +kernel
theorem dX12_isToldCause_64 : decode cX12_isToldCause 64 = .ok (.iaload, 1) := by decide +kernel
theorem dX12_isToldCause_65 : decode cX12_isToldCause 65 = .ok (.invokevirtual 501, 3) := by decide +kernel
theorem dX12_isToldCause_68 : decode cX12_isToldCause 68 = .ok (.ldc_w 500, 3) := by decide +kernel
theorem dX12_isToldCause_71 : decode cX12_isToldCause 71 = .ok (.if_icmp .eq 37, 3) := by decide +kernel
theorem dX12_isToldCause_74 : decode cX12_isToldCause 74 = .ok (.aload_n 0, 1) := by decide +kernel
theorem dX12_isToldCause_75 : decode cX12_isToldCause 75 = .ok (.iload_n 2, 1) := by decide +kernel
theorem dX12_isToldCause_76 : decode cX12_isToldCause 76 = .ok (.iload 4, 2) := by decide +kernel
theorem dX12_isToldCause_78 : decode cX12_isToldCause 78 = .ok (.invokevirtual 501, 3) := by decide +kernel
theorem dX12_isToldCause_81 : decode cX12_isToldCause 81 = .ok (.ldc_w 500, 3) := by decide +kernel
theorem dX12_isToldCause_84 : decode cX12_isToldCause 84 = .ok (.if_icmp .eq 24, 3) := by decide +kernel
theorem dX12_isToldCause_87 : decode cX12_isToldCause 87 = .ok (.aload_n 0, 1) := by decide +kernel
theorem dX12_isToldCause_88 : decode cX12_isToldCause 88 = .ok (.iload_n 2, 1) := by decide +kernel
theorem dX12_isToldCause_89 : decode cX12_isToldCause 89 = .ok (.aload_n 0, 1) := by decide +kernel
theorem dX12_isToldCause_90 : decode cX12_isToldCause 90 = .ok (.getfield 94, 3) := by decide +kernel
theorem dX12_isToldCause_93 : decode cX12_isToldCause 93 = .ok (.iload_n 3, 1) := by decide +kernel
theorem dX12_isToldCause_94 : decode cX12_isToldCause 94 = .ok (.iaload, 1) := by decide +kernel
theorem dX12_isToldCause_95 : decode cX12_isToldCause 95 = .ok (.invokevirtual 501, 3) := by decide +kernel
theorem dX12_isToldCause_98 : decode cX12_isToldCause 98 = .ok (.ldc_w 500, 3) := by decide +kernel
theorem dX12_isToldCause_101 : decode cX12_isToldCause 101 = .ok (.if_icmp .eq 7, 3) := by decide +kernel
theorem dX12_isToldCause_104 : decode cX12_isToldCause 104 = .ok (.iconst 1, 1) := by decide +kernel
theorem dX12_isToldCause_105 : decode cX12_isToldCause 105 = .ok (.goto 4, 3) := by decide +kernel
theorem dX12_isToldCause_108 : decode cX12_isToldCause 108 = .ok (.iconst 0, 1) := by decide +kernel
theorem dX12_isToldCause_109 : decode cX12_isToldCause 109 = .ok (.ireturn, 1) := by decide +kernel
theorem dX12_grewOf_0 : decode cX12_grewOf 0 = .ok (.aload_n 0, 1) := by decide +kernel
theorem dX12_grewOf_1 : decode cX12_grewOf 1 = .ok (.iload_n 1, 1) := by decide +kernel
theorem dX12_grewOf_2 : decode cX12_grewOf 2 = .ok (.iload_n 3, 1) := by decide +kernel
theorem dX12_grewOf_3 : decode cX12_grewOf 3 = .ok (.invokevirtual 501, 3) := by decide +kernel
theorem dX12_grewOf_6 : decode cX12_grewOf 6 = .ok (.aload_n 0, 1) := by decide +kernel
theorem dX12_grewOf_7 : decode cX12_grewOf 7 = .ok (.iload_n 1, 1) := by decide +kernel
theorem dX12_grewOf_8 : decode cX12_grewOf 8 = .ok (.aload_n 0, 1) := by decide +kernel
theorem dX12_grewOf_9 : decode cX12_grewOf 9 = .ok (.getfield 94, 3) := by decide +kernel
theorem dX12_grewOf_12 : decode cX12_grewOf 12 = .ok (.iload_n 2, 1) := by decide +kernel
theorem dX12_grewOf_13 : decode cX12_grewOf 13 = .ok (.iaload, 1) := by decide +kernel
theorem dX12_grewOf_14 : decode cX12_grewOf 14 = .ok (.invokevirtual 501, 3) := by decide +kernel
theorem dX12_grewOf_17 : decode cX12_grewOf 17 = .ok (.isub, 1) := by decide +kernel
theorem dX12_grewOf_18 : decode cX12_grewOf 18 = .ok (.i2l, 1) := by decide +kernel
theorem dX12_grewOf_19 : decode cX12_grewOf 19 = .ok (.lreturn, 1) := by decide +kernel
theorem dX12_ageOf_0 : decode cX12_ageOf 0 = .ok (.aload_n 0, 1) := by decide +kernel
theorem dX12_ageOf_1 : decode cX12_ageOf 1 = .ok (.getfield 193, 3) := by decide +kernel
theorem dX12_ageOf_4 : decode cX12_ageOf 4 = .ok (.bipush 40, 2) := by decide +kernel
theorem dX12_ageOf_6 : decode cX12_ageOf 6 = .ok (.iload_n 1, 1) := by decide +kernel
theorem dX12_ageOf_7 : decode cX12_ageOf 7 = .ok (.imul, 1) := by decide +kernel
theorem dX12_ageOf_8 : decode cX12_ageOf 8 = .ok (.iaload, 1) := by decide +kernel
theorem dX12_ageOf_9 : decode cX12_ageOf 9 = .ok (.istore 4, 2) := by decide +kernel
theorem dX12_ageOf_11 : decode cX12_ageOf 11 = .ok (.aload_n 0, 1) := by decide +kernel
theorem dX12_ageOf_12 : decode cX12_ageOf 12 = .ok (.getfield 94, 3) := by decide +kernel
theorem dX12_ageOf_15 : decode cX12_ageOf 15 = .ok (.iload_n 2, 1) := by decide +kernel
theorem dX12_ageOf_16 : decode cX12_ageOf 16 = .ok (.iaload, 1) := by decide +kernel
theorem dX12_ageOf_17 : decode cX12_ageOf 17 = .ok (.istore 5, 2) := by decide +kernel
theorem dX12_ageOf_19 : decode cX12_ageOf 19 = .ok (.iload 5, 2) := by decide +kernel
theorem dX12_ageOf_21 : decode cX12_ageOf 21 = .ok (.iload 4, 2) := by decide +kernel
theorem dX12_ageOf_23 : decode cX12_ageOf 23 = .ok (.if_icmp .ne 5, 3) := by decide +kernel
theorem dX12_ageOf_26 : decode cX12_ageOf 26 = .ok (.lconst 0, 1) := by decide +kernel
theorem dX12_ageOf_27 : decode cX12_ageOf 27 = .ok (.lreturn, 1) := by decide +kernel
theorem dX12_ageOf_28 : decode cX12_ageOf 28 = .ok (.aload_n 0, 1) := by decide +kernel
theorem dX12_ageOf_29 : decode cX12_ageOf 29 = .ok (.iload_n 1, 1) := by decide +kernel
theorem dX12_ageOf_30 : decode cX12_ageOf 30 = .ok (.iload 5, 2) := by decide +kernel
theorem dX12_ageOf_32 : decode cX12_ageOf 32 = .ok (.invokevirtual 501, 3) := by decide +kernel
theorem dX12_ageOf_35 : decode cX12_ageOf 35 = .ok (.aload_n 0, 1) := by decide +kernel
theorem dX12_ageOf_36 : decode cX12_ageOf 36 = .ok (.getfield 196, 3) := by decide +kernel
theorem dX12_ageOf_39 : decode cX12_ageOf 39 = .ok (.bipush 40, 2) := by decide +kernel
theorem dX12_ageOf_41 : decode cX12_ageOf 41 = .ok (.iload_n 1, 1) := by decide +kernel
theorem dX12_ageOf_42 : decode cX12_ageOf 42 = .ok (.imul, 1) := by decide +kernel
theorem dX12_ageOf_43 : decode cX12_ageOf 43 = .ok (.iaload, 1) := by decide +kernel
theorem dX12_ageOf_44 : decode cX12_ageOf 44 = .ok (.isub, 1) := by decide +kernel
theorem dX12_ageOf_45 : decode cX12_ageOf 45 = .ok (.i2l, 1) := by decide +kernel
theorem dX12_ageOf_46 : decode cX12_ageOf 46 = .ok (.iload_n 3, 1) := by decide +kernel
theorem dX12_ageOf_47 : decode cX12_ageOf 47 = .ok (.iload 5, 2) := by decide +kernel
theorem dX12_ageOf_49 : decode cX12_ageOf 49 = .ok (.isub, 1) := by decide +kernel
theorem dX12_ageOf_50 : decode cX12_ageOf 50 = .ok (.i2l, 1) := by decide +kernel
theorem dX12_ageOf_51 : decode cX12_ageOf 51 = .ok (.lmul, 1) := by decide +kernel
theorem dX12_ageOf_52 : decode cX12_ageOf 52 = .ok (.iload 5, 2) := by decide +kernel
theorem dX12_ageOf_54 : decode cX12_ageOf 54 = .ok (.iload 4, 2) := by decide +kernel
theorem dX12_ageOf_56 : decode cX12_ageOf 56 = .ok (.isub, 1) := by decide +kernel
theorem dX12_ageOf_57 : decode cX12_ageOf 57 = .ok (.i2l, 1) := by decide +kernel
theorem dX12_ageOf_58 : decode cX12_ageOf 58 = .ok (.invokestatic 496, 3) := by decide +kernel
theorem dX12_ageOf_61 : decode cX12_ageOf 61 = .ok (.lreturn, 1) := by decide +kernel
theorem dX12_worksOf_0 : decode cX12_worksOf 0 = .ok (.aload_n 0, 1) := by decide +kernel
theorem dX12_worksOf_1 : decode cX12_worksOf 1 = .ok (.iload_n 1, 1) := by decide +kernel
theorem dX12_worksOf_2 : decode cX12_worksOf 2 = .ok (.iload_n 3, 1) := by decide +kernel
theorem dX12_worksOf_3 : decode cX12_worksOf 3 = .ok (.iload 4, 2) := by decide +kernel
theorem dX12_worksOf_5 : decode cX12_worksOf 5 = .ok (.invokevirtual 504, 3) := by decide +kernel
theorem dX12_worksOf_8 : decode cX12_worksOf 8 = .ok (.aload_n 0, 1) := by decide +kernel
theorem dX12_worksOf_9 : decode cX12_worksOf 9 = .ok (.iload_n 2, 1) := by decide +kernel
theorem dX12_worksOf_10 : decode cX12_worksOf 10 = .ok (.iload_n 3, 1) := by decide +kernel
theorem dX12_worksOf_11 : decode cX12_worksOf 11 = .ok (.iload 4, 2) := by decide +kernel
theorem dX12_worksOf_13 : decode cX12_worksOf 13 = .ok (.invokevirtual 504, 3) := by decide +kernel
theorem dX12_worksOf_16 : decode cX12_worksOf 16 = .ok (.lsub, 1) := by decide +kernel
theorem dX12_worksOf_17 : decode cX12_worksOf 17 = .ok (.aload_n 0, 1) := by decide +kernel
theorem dX12_worksOf_18 : decode cX12_worksOf 18 = .ok (.iload_n 1, 1) := by decide +kernel
theorem dX12_worksOf_19 : decode cX12_worksOf 19 = .ok (.iload_n 3, 1) := by decide +kernel
theorem dX12_worksOf_20 : decode cX12_worksOf 20 = .ok (.iload 4, 2) := by decide +kernel
theorem dX12_worksOf_22 : decode cX12_worksOf 22 = .ok (.invokevirtual 508, 3) := by decide +kernel
theorem dX12_worksOf_25 : decode cX12_worksOf 25 = .ok (.lsub, 1) := by decide +kernel
theorem dX12_worksOf_26 : decode cX12_worksOf 26 = .ok (.lreturn, 1) := by decide +kernel
theorem dX12_isAsked_0 : decode cX12_isAsked 0 = .ok (.aload_n 0, 1) := by decide +kernel
theorem dX12_isAsked_1 : decode cX12_isAsked 1 = .ok (.aload_n 0, 1) := by decide +kernel
theorem dX12_isAsked_2 : decode cX12_isAsked 2 = .ok (.iload_n 1, 1) := by decide +kernel
theorem dX12_isAsked_3 : decode cX12_isAsked 3 = .ok (.invokevirtual 493, 3) := by decide +kernel
theorem dX12_isAsked_6 : decode cX12_isAsked 6 = .ok (.ifCond .eq 23, 3) := by decide +kernel
theorem dX12_isAsked_9 : decode cX12_isAsked 9 = .ok (.aload_n 0, 1) := by decide +kernel
theorem dX12_isAsked_10 : decode cX12_isAsked 10 = .ok (.iload_n 2, 1) := by decide +kernel
theorem dX12_isAsked_11 : decode cX12_isAsked 11 = .ok (.invokevirtual 493, 3) := by decide +kernel
theorem dX12_isAsked_14 : decode cX12_isAsked 14 = .ok (.ifCond .eq 15, 3) := by decide +kernel
theorem dX12_isAsked_17 : decode cX12_isAsked 17 = .ok (.iload_n 3, 1) := by decide +kernel
theorem dX12_isAsked_18 : decode cX12_isAsked 18 = .ok (.ifCond .lt 11, 3) := by decide +kernel
theorem dX12_isAsked_21 : decode cX12_isAsked 21 = .ok (.iload_n 3, 1) := by decide +kernel
theorem dX12_isAsked_22 : decode cX12_isAsked 22 = .ok (.aload_n 0, 1) := by decide +kernel
theorem dX12_isAsked_23 : decode cX12_isAsked 23 = .ok (.getfield 368, 3) := by decide +kernel
theorem dX12_isAsked_26 : decode cX12_isAsked 26 = .ok (.if_icmp .lt 7, 3) := by decide +kernel
theorem dX12_isAsked_29 : decode cX12_isAsked 29 = .ok (.iconst 1, 1) := by decide +kernel
theorem dX12_isAsked_30 : decode cX12_isAsked 30 = .ok (.goto 4, 3) := by decide +kernel
theorem dX12_isAsked_33 : decode cX12_isAsked 33 = .ok (.iconst 0, 1) := by decide +kernel
theorem dX12_isAsked_34 : decode cX12_isAsked 34 = .ok (.putfield 199, 3) := by decide +kernel
theorem dX12_isAsked_37 : decode cX12_isAsked 37 = .ok (.aload_n 0, 1) := by decide +kernel
theorem dX12_isAsked_38 : decode cX12_isAsked 38 = .ok (.getfield 199, 3) := by decide +kernel
theorem dX12_isAsked_41 : decode cX12_isAsked 41 = .ok (.ifCond .ne 7, 3) := by decide +kernel
theorem dX12_isAsked_44 : decode cX12_isAsked 44 = .ok (.iconst 1, 1) := by decide +kernel
theorem dX12_isAsked_45 : decode cX12_isAsked 45 = .ok (.goto 4, 3) := by decide +kernel
theorem dX12_isAsked_48 : decode cX12_isAsked 48 = .ok (.iconst 0, 1) := by decide +kernel
theorem dX12_isAsked_49 : decode cX12_isAsked 49 = .ok (.ireturn, 1) := by decide +kernel
theorem dX12_cause_0 : decode cX12_cause 0 = .ok (.aload_n 0, 1) := by decide +kernel
theorem dX12_cause_1 : decode cX12_cause 1 = .ok (.iload_n 1, 1) := by decide +kernel
theorem dX12_cause_2 : decode cX12_cause 2 = .ok (.iload_n 2, 1) := by decide +kernel
theorem dX12_cause_3 : decode cX12_cause 3 = .ok (.iload_n 3, 1) := by decide +kernel
theorem dX12_cause_4 : decode cX12_cause 4 = .ok (.invokevirtual 511, 3) := by decide +kernel
theorem dX12_cause_7 : decode cX12_cause 7 = .ok (.ifCond .eq 27, 3) := by decide +kernel
theorem dX12_cause_10 : decode cX12_cause 10 = .ok (.aload_n 0, 1) := by decide +kernel
theorem dX12_cause_11 : decode cX12_cause 11 = .ok (.iload 5, 2) := by decide +kernel
theorem dX12_cause_13 : decode cX12_cause 13 = .ok (.ifCond .lt 9, 3) := by decide +kernel
theorem dX12_cause_16 : decode cX12_cause 16 = .ok (.iload 5, 2) := by decide +kernel
theorem dX12_cause_18 : decode cX12_cause 18 = .ok (.iconst 3, 1) := by decide +kernel
theorem dX12_cause_19 : decode cX12_cause 19 = .ok (.if_icmp .le 7, 3) := by decide +kernel
theorem dX12_cause_22 : decode cX12_cause 22 = .ok (.iconst 1, 1) := by decide +kernel
theorem dX12_cause_23 : decode cX12_cause 23 = .ok (.goto 4, 3) := by decide +kernel
theorem dX12_cause_26 : decode cX12_cause 26 = .ok (.iconst 0, 1) := by decide +kernel
theorem dX12_cause_27 : decode cX12_cause 27 = .ok (.iconst 2, 1) := by decide +kernel
theorem dX12_cause_28 : decode cX12_cause 28 = .ok (.invokevirtual 205, 3) := by decide +kernel
theorem dX12_cause_31 : decode cX12_cause 31 = .ok (.ifCond .eq 5, 3) := by decide +kernel
theorem dX12_cause_34 : decode cX12_cause 34 = .ok (.lconst 0, 1) := by decide +kernel
theorem dX12_cause_35 : decode cX12_cause 35 = .ok (.lreturn, 1) := by decide +kernel
theorem dX12_cause_36 : decode cX12_cause 36 = .ok (.aload_n 0, 1) := by decide +kernel
theorem dX12_cause_37 : decode cX12_cause 37 = .ok (.iload_n 1, 1) := by decide +kernel
theorem dX12_cause_38 : decode cX12_cause 38 = .ok (.iload_n 2, 1) := by decide +kernel
theorem dX12_cause_39 : decode cX12_cause 39 = .ok (.iload_n 3, 1) := by decide +kernel
theorem dX12_cause_40 : decode cX12_cause 40 = .ok (.iload 4, 2) := by decide +kernel
theorem dX12_cause_42 : decode cX12_cause 42 = .ok (.invokevirtual 515, 3) := by decide +kernel
theorem dX12_cause_45 : decode cX12_cause 45 = .ok (.ifCond .ne 7, 3) := by decide +kernel
theorem dX12_cause_48 : decode cX12_cause 48 = .ok (.ldc2_w 518, 3) := by decide +kernel
theorem dX12_cause_51 : decode cX12_cause 51 = .ok (.lreturn, 1) := by decide +kernel
theorem dX12_cause_52 : decode cX12_cause 52 = .ok (.iload 5, 2) := by decide +kernel
theorem dX12_cause_54 : decode cX12_cause 54 = .ok (.ifCond .ne 14, 3) := by decide +kernel
theorem dX12_cause_57 : decode cX12_cause 57 = .ok (.aload_n 0, 1) := by decide +kernel
theorem dX12_cause_58 : decode cX12_cause 58 = .ok (.iload_n 1, 1) := by decide +kernel
theorem dX12_cause_59 : decode cX12_cause 59 = .ok (.iload_n 3, 1) := by decide +kernel
theorem dX12_cause_60 : decode cX12_cause 60 = .ok (.iload 4, 2) := by decide +kernel
theorem dX12_cause_62 : decode cX12_cause 62 = .ok (.invokevirtual 504, 3) := by decide +kernel
theorem dX12_cause_65 : decode cX12_cause 65 = .ok (.goto 46, 3) := by decide +kernel
theorem dX12_cause_68 : decode cX12_cause 68 = .ok (.iload 5, 2) := by decide +kernel
theorem dX12_cause_70 : decode cX12_cause 70 = .ok (.iconst 1, 1) := by decide +kernel
theorem dX12_cause_71 : decode cX12_cause 71 = .ok (.if_icmp .ne 14, 3) := by decide +kernel
theorem dX12_cause_74 : decode cX12_cause 74 = .ok (.aload_n 0, 1) := by decide +kernel
theorem dX12_cause_75 : decode cX12_cause 75 = .ok (.iload_n 2, 1) := by decide +kernel
theorem dX12_cause_76 : decode cX12_cause 76 = .ok (.iload_n 3, 1) := by decide +kernel
theorem dX12_cause_77 : decode cX12_cause 77 = .ok (.iload 4, 2) := by decide +kernel
theorem dX12_cause_79 : decode cX12_cause 79 = .ok (.invokevirtual 504, 3) := by decide +kernel
theorem dX12_cause_82 : decode cX12_cause 82 = .ok (.goto 29, 3) := by decide +kernel
theorem dX12_cause_85 : decode cX12_cause 85 = .ok (.iload 5, 2) := by decide +kernel
theorem dX12_cause_87 : decode cX12_cause 87 = .ok (.iconst 2, 1) := by decide +kernel
theorem dX12_cause_88 : decode cX12_cause 88 = .ok (.if_icmp .ne 14, 3) := by decide +kernel
theorem dX12_cause_91 : decode cX12_cause 91 = .ok (.aload_n 0, 1) := by decide +kernel
theorem dX12_cause_92 : decode cX12_cause 92 = .ok (.iload_n 1, 1) := by decide +kernel
theorem dX12_cause_93 : decode cX12_cause 93 = .ok (.iload_n 3, 1) := by decide +kernel
theorem dX12_cause_94 : decode cX12_cause 94 = .ok (.iload 4, 2) := by decide +kernel
theorem dX12_cause_96 : decode cX12_cause 96 = .ok (.invokevirtual 508, 3) := by decide +kernel
theorem dX12_cause_99 : decode cX12_cause 99 = .ok (.goto 12, 3) := by decide +kernel
theorem dX12_cause_102 : decode cX12_cause 102 = .ok (.aload_n 0, 1) := by decide +kernel
theorem dX12_cause_103 : decode cX12_cause 103 = .ok (.iload_n 1, 1) := by decide +kernel
theorem dX12_cause_104 : decode cX12_cause 104 = .ok (.iload_n 2, 1) := by decide +kernel
theorem dX12_cause_105 : decode cX12_cause 105 = .ok (.iload_n 3, 1) := by decide +kernel
theorem dX12_cause_106 : decode cX12_cause 106 = .ok (.iload 4, 2) := by decide +kernel
theorem dX12_cause_108 : decode cX12_cause 108 = .ok (.invokevirtual 520, 3) := by decide +kernel
theorem dX12_cause_111 : decode cX12_cause 111 = .ok (.lreturn, 1) := by decide +kernel
theorem dX12_blamed_0 : decode cX12_blamed 0 = .ok (.aload_n 0, 1) := by decide +kernel
theorem dX12_blamed_1 : decode cX12_blamed 1 = .ok (.iload_n 1, 1) := by decide +kernel
theorem dX12_blamed_2 : decode cX12_blamed 2 = .ok (.iload_n 2, 1) := by decide +kernel
theorem dX12_blamed_3 : decode cX12_blamed 3 = .ok (.iload_n 3, 1) := by decide +kernel
theorem dX12_blamed_4 : decode cX12_blamed 4 = .ok (.invokevirtual 511, 3) := by decide +kernel
theorem dX12_blamed_7 : decode cX12_blamed 7 = .ok (.ifCond .eq 40, 3) := by decide +kernel
theorem dX12_blamed_10 : decode cX12_blamed 10 = .ok (.aload_n 0, 1) := by decide +kernel
theorem dX12_blamed_11 : decode cX12_blamed 11 = .ok (.iload_n 1, 1) := by decide +kernel
theorem dX12_blamed_12 : decode cX12_blamed 12 = .ok (.iload_n 2, 1) := by decide +kernel
theorem dX12_blamed_13 : decode cX12_blamed 13 = .ok (.iload_n 3, 1) := by decide +kernel
theorem dX12_blamed_14 : decode cX12_blamed 14 = .ok (.iload 4, 2) := by decide +kernel
theorem dX12_blamed_16 : decode cX12_blamed 16 = .ok (.invokevirtual 515, 3) := by decide +kernel
theorem dX12_blamed_19 : decode cX12_blamed 19 = .ok (.ifCond .eq 28, 3) := by decide +kernel
theorem dX12_blamed_22 : decode cX12_blamed 22 = .ok (.aload_n 0, 1) := by decide +kernel
theorem dX12_blamed_23 : decode cX12_blamed 23 = .ok (.iload_n 1, 1) := by decide +kernel
theorem dX12_blamed_24 : decode cX12_blamed 24 = .ok (.iload_n 2, 1) := by decide +kernel
theorem dX12_blamed_25 : decode cX12_blamed 25 = .ok (.iload_n 3, 1) := by decide +kernel
theorem dX12_blamed_26 : decode cX12_blamed 26 = .ok (.iload 4, 2) := by decide +kernel
theorem dX12_blamed_28 : decode cX12_blamed 28 = .ok (.invokevirtual 520, 3) := by decide +kernel
theorem dX12_blamed_31 : decode cX12_blamed 31 = .ok (.aload_n 0, 1) := by decide +kernel
theorem dX12_blamed_32 : decode cX12_blamed 32 = .ok (.getfield 21, 3) := by decide +kernel
theorem dX12_blamed_35 : decode cX12_blamed 35 = .ok (.bipush 11, 2) := by decide +kernel
theorem dX12_blamed_37 : decode cX12_blamed 37 = .ok (.iaload, 1) := by decide +kernel
theorem dX12_blamed_38 : decode cX12_blamed 38 = .ok (.i2l, 1) := by decide +kernel
theorem dX12_blamed_39 : decode cX12_blamed 39 = .ok (.lcmp, 1) := by decide +kernel
theorem dX12_blamed_40 : decode cX12_blamed 40 = .ok (.ifCond .le 7, 3) := by decide +kernel
theorem dX12_blamed_43 : decode cX12_blamed 43 = .ok (.iconst 1, 1) := by decide +kernel
theorem dX12_blamed_44 : decode cX12_blamed 44 = .ok (.goto 4, 3) := by decide +kernel
theorem dX12_blamed_47 : decode cX12_blamed 47 = .ok (.iconst 0, 1) := by decide +kernel
theorem dX12_blamed_48 : decode cX12_blamed 48 = .ok (.ireturn, 1) := by decide +kernel
theorem dX12_count_0 : decode cX12_count 0 = .ok (.aload_n 0, 1) := by decide +kernel
theorem dX12_count_1 : decode cX12_count 1 = .ok (.iconst 0, 1) := by decide +kernel
theorem dX12_count_2 : decode cX12_count 2 = .ok (.putfield 199, 3) := by decide +kernel
theorem dX12_count_5 : decode cX12_count 5 = .ok (.iload_n 1, 1) := by decide +kernel
theorem dX12_count_6 : decode cX12_count 6 = .ok (.tableswitch 122 0 11 #[62, 67, 72, 77, 82, 87, 92, 97, 102, 107, 112, 117], 62) := by decide +kernel
theorem dX12_count_68 : decode cX12_count 68 = .ok (.aload_n 0, 1) := by decide +kernel
theorem dX12_count_69 : decode cX12_count 69 = .ok (.getfield 202, 3) := by decide +kernel
theorem dX12_count_72 : decode cX12_count 72 = .ok (.ireturn, 1) := by decide +kernel
theorem dX12_count_73 : decode cX12_count 73 = .ok (.aload_n 0, 1) := by decide +kernel
theorem dX12_count_74 : decode cX12_count 74 = .ok (.getfield 209, 3) := by decide +kernel
theorem dX12_count_77 : decode cX12_count 77 = .ok (.ireturn, 1) := by decide +kernel
theorem dX12_count_78 : decode cX12_count 78 = .ok (.aload_n 0, 1) := by decide +kernel
theorem dX12_count_79 : decode cX12_count 79 = .ok (.getfield 368, 3) := by decide +kernel
theorem dX12_count_82 : decode cX12_count 82 = .ok (.ireturn, 1) := by decide +kernel
theorem dX12_count_83 : decode cX12_count 83 = .ok (.aload_n 0, 1) := by decide +kernel
theorem dX12_count_84 : decode cX12_count 84 = .ok (.getfield 222, 3) := by decide +kernel
theorem dX12_count_87 : decode cX12_count 87 = .ok (.ireturn, 1) := by decide +kernel
theorem dX12_count_88 : decode cX12_count 88 = .ok (.aload_n 0, 1) := by decide +kernel
theorem dX12_count_89 : decode cX12_count 89 = .ok (.getfield 361, 3) := by decide +kernel
theorem dX12_count_92 : decode cX12_count 92 = .ok (.ireturn, 1) := by decide +kernel
theorem dX12_count_93 : decode cX12_count 93 = .ok (.aload_n 0, 1) := by decide +kernel
theorem dX12_count_94 : decode cX12_count 94 = .ok (.getfield 226, 3) := by decide +kernel
theorem dX12_count_97 : decode cX12_count 97 = .ok (.ireturn, 1) := by decide +kernel
theorem dX12_count_98 : decode cX12_count 98 = .ok (.aload_n 0, 1) := by decide +kernel
theorem dX12_count_99 : decode cX12_count 99 = .ok (.getfield 465, 3) := by decide +kernel
theorem dX12_count_102 : decode cX12_count 102 = .ok (.ireturn, 1) := by decide +kernel
theorem dX12_count_103 : decode cX12_count 103 = .ok (.aload_n 0, 1) := by decide +kernel
theorem dX12_count_104 : decode cX12_count 104 = .ok (.getfield 468, 3) := by decide +kernel
theorem dX12_count_107 : decode cX12_count 107 = .ok (.ireturn, 1) := by decide +kernel
theorem dX12_count_108 : decode cX12_count 108 = .ok (.aload_n 0, 1) := by decide +kernel
theorem dX12_count_109 : decode cX12_count 109 = .ok (.getfield 414, 3) := by decide +kernel
theorem dX12_count_112 : decode cX12_count 112 = .ok (.ireturn, 1) := by decide +kernel
theorem dX12_count_113 : decode cX12_count 113 = .ok (.aload_n 0, 1) := by decide +kernel
theorem dX12_count_114 : decode cX12_count 114 = .ok (.getfield 427, 3) := by decide +kernel
theorem dX12_count_117 : decode cX12_count 117 = .ok (.ireturn, 1) := by decide +kernel
theorem dX12_count_118 : decode cX12_count 118 = .ok (.aload_n 0, 1) := by decide +kernel
theorem dX12_count_119 : decode cX12_count 119 = .ok (.getfield 490, 3) := by decide +kernel
theorem dX12_count_122 : decode cX12_count 122 = .ok (.ireturn, 1) := by decide +kernel
theorem dX12_count_123 : decode cX12_count 123 = .ok (.aload_n 0, 1) := by decide +kernel
theorem dX12_count_124 : decode cX12_count 124 = .ok (.getfield 430, 3) := by decide +kernel
theorem dX12_count_127 : decode cX12_count 127 = .ok (.ireturn, 1) := by decide +kernel
theorem dX12_count_128 : decode cX12_count 128 = .ok (.iconst (-1), 1) := by decide +kernel
theorem dX12_count_129 : decode cX12_count 129 = .ok (.ireturn, 1) := by decide +kernel
theorem dJx29ce0_ordinal_8abf5_0 : decode cJx29ce0_ordinal_8abf5 0 = .ok (.aload_n 0, 1) := by decide +kernel
theorem dJx29ce0_ordinal_8abf5_1 : decode cJx29ce0_ordinal_8abf5 1 = .ok (.getfield 7, 3) := by decide +kernel
theorem dJx29ce0_ordinal_8abf5_4 : decode cJx29ce0_ordinal_8abf5 4 = .ok (.ireturn, 1) := by decide +kernel
theorem dJ9_floorDiv_f86c9_0 : decode cJ9_floorDiv_f86c9 0 = .ok (.lload_n 0, 1) := by decide +kernel
theorem dJ9_floorDiv_f86c9_1 : decode cJ9_floorDiv_f86c9 1 = .ok (.lload_n 2, 1) := by decide +kernel
theorem dJ9_floorDiv_f86c9_2 : decode cJ9_floorDiv_f86c9 2 = .ok (.ldiv, 1) := by decide +kernel
theorem dJ9_floorDiv_f86c9_3 : decode cJ9_floorDiv_f86c9 3 = .ok (.lstore 4, 2) := by decide +kernel
theorem dJ9_floorDiv_f86c9_5 : decode cJ9_floorDiv_f86c9 5 = .ok (.lload_n 0, 1) := by decide +kernel
theorem dJ9_floorDiv_f86c9_6 : decode cJ9_floorDiv_f86c9 6 = .ok (.lload_n 2, 1) := by decide +kernel
theorem dJ9_floorDiv_f86c9_7 : decode cJ9_floorDiv_f86c9 7 = .ok (.lxor, 1) := by decide +kernel
theorem dJ9_floorDiv_f86c9_8 : decode cJ9_floorDiv_f86c9 8 = .ok (.lconst 0, 1) := by decide +kernel
theorem dJ9_floorDiv_f86c9_9 : decode cJ9_floorDiv_f86c9 9 = .ok (.lcmp, 1) := by decide +kernel
theorem dJ9_floorDiv_f86c9_10 : decode cJ9_floorDiv_f86c9 10 = .ok (.ifCond .ge 17, 3) := by decide +kernel
theorem dJ9_floorDiv_f86c9_13 : decode cJ9_floorDiv_f86c9 13 = .ok (.lload 4, 2) := by decide +kernel
theorem dJ9_floorDiv_f86c9_15 : decode cJ9_floorDiv_f86c9 15 = .ok (.lload_n 2, 1) := by decide +kernel
theorem dJ9_floorDiv_f86c9_16 : decode cJ9_floorDiv_f86c9 16 = .ok (.lmul, 1) := by decide +kernel
theorem dJ9_floorDiv_f86c9_17 : decode cJ9_floorDiv_f86c9 17 = .ok (.lload_n 0, 1) := by decide +kernel
theorem dJ9_floorDiv_f86c9_18 : decode cJ9_floorDiv_f86c9 18 = .ok (.lcmp, 1) := by decide +kernel
theorem dJ9_floorDiv_f86c9_19 : decode cJ9_floorDiv_f86c9 19 = .ok (.ifCond .eq 8, 3) := by decide +kernel
theorem dJ9_floorDiv_f86c9_22 : decode cJ9_floorDiv_f86c9 22 = .ok (.lload 4, 2) := by decide +kernel
theorem dJ9_floorDiv_f86c9_24 : decode cJ9_floorDiv_f86c9 24 = .ok (.lconst 1, 1) := by decide +kernel
theorem dJ9_floorDiv_f86c9_25 : decode cJ9_floorDiv_f86c9 25 = .ok (.lsub, 1) := by decide +kernel
theorem dJ9_floorDiv_f86c9_26 : decode cJ9_floorDiv_f86c9 26 = .ok (.lreturn, 1) := by decide +kernel
theorem dJ9_floorDiv_f86c9_27 : decode cJ9_floorDiv_f86c9 27 = .ok (.lload 4, 2) := by decide +kernel
theorem dJ9_floorDiv_f86c9_29 : decode cJ9_floorDiv_f86c9 29 = .ok (.lreturn, 1) := by decide +kernel
theorem dJ9_abs_0f7a4_0 : decode cJ9_abs_0f7a4 0 = .ok (.iload_n 0, 1) := by decide +kernel
theorem dJ9_abs_0f7a4_1 : decode cJ9_abs_0f7a4 1 = .ok (.ifCond .ge 8, 3) := by decide +kernel
theorem dJ9_abs_0f7a4_4 : decode cJ9_abs_0f7a4 4 = .ok (.iload_n 0, 1) := by decide +kernel
theorem dJ9_abs_0f7a4_5 : decode cJ9_abs_0f7a4 5 = .ok (.ineg, 1) := by decide +kernel
theorem dJ9_abs_0f7a4_6 : decode cJ9_abs_0f7a4 6 = .ok (.goto 4, 3) := by decide +kernel
theorem dJ9_abs_0f7a4_9 : decode cJ9_abs_0f7a4 9 = .ok (.iload_n 0, 1) := by decide +kernel
theorem dJ9_abs_0f7a4_10 : decode cJ9_abs_0f7a4 10 = .ok (.ireturn, 1) := by decide +kernel
theorem dJ9_max_7cf53_0 : decode cJ9_max_7cf53 0 = .ok (.iload_n 0, 1) := by decide +kernel
theorem dJ9_max_7cf53_1 : decode cJ9_max_7cf53 1 = .ok (.iload_n 1, 1) := by decide +kernel
theorem dJ9_max_7cf53_2 : decode cJ9_max_7cf53 2 = .ok (.if_icmp .lt 7, 3) := by decide +kernel
theorem dJ9_max_7cf53_5 : decode cJ9_max_7cf53 5 = .ok (.iload_n 0, 1) := by decide +kernel
theorem dJ9_max_7cf53_6 : decode cJ9_max_7cf53 6 = .ok (.goto 4, 3) := by decide +kernel
theorem dJ9_max_7cf53_9 : decode cJ9_max_7cf53 9 = .ok (.iload_n 1, 1) := by decide +kernel
theorem dJ9_max_7cf53_10 : decode cJ9_max_7cf53 10 = .ok (.ireturn, 1) := by decide +kernel
theorem dJ9_min_7cf53_0 : decode cJ9_min_7cf53 0 = .ok (.iload_n 0, 1) := by decide +kernel
theorem dJ9_min_7cf53_1 : decode cJ9_min_7cf53 1 = .ok (.iload_n 1, 1) := by decide +kernel
theorem dJ9_min_7cf53_2 : decode cJ9_min_7cf53 2 = .ok (.if_icmp .gt 7, 3) := by decide +kernel
theorem dJ9_min_7cf53_5 : decode cJ9_min_7cf53 5 = .ok (.iload_n 0, 1) := by decide +kernel
theorem dJ9_min_7cf53_6 : decode cJ9_min_7cf53 6 = .ok (.goto 4, 3) := by decide +kernel
theorem dJ9_min_7cf53_9 : decode cJ9_min_7cf53 9 = .ok (.iload_n 1, 1) := by decide +kernel
theorem dJ9_min_7cf53_10 : decode cJ9_min_7cf53 10 = .ok (.ireturn, 1) := by decide +kernel
theorem dJ0_length_8abf5_0 : decode cJ0_length_8abf5 0 = .ok (.aload_n 0, 1) := by decide +kernel
theorem dJ0_length_8abf5_1 : decode cJ0_length_8abf5 1 = .ok (.getfield 9, 3) := by decide +kernel
theorem dJ0_length_8abf5_4 : decode cJ0_length_8abf5 4 = .ok (.arraylength, 1) := by decide +kernel
theorem dJ0_length_8abf5_5 : decode cJ0_length_8abf5 5 = .ok (.aload_n 0, 1) := by decide +kernel
theorem dJ0_length_8abf5_6 : decode cJ0_length_8abf5 6 = .ok (.invokevirtual 335, 3) := by decide +kernel
theorem dJ0_length_8abf5_9 : decode cJ0_length_8abf5 9 = .ok (.ishr, 1) := by decide +kernel
theorem dJ0_length_8abf5_10 : decode cJ0_length_8abf5 10 = .ok (.ireturn, 1) := by decide +kernel
theorem dJ0_charAt_5068e_0 : decode cJ0_charAt_5068e 0 = .ok (.aload_n 0, 1) := by decide +kernel
theorem dJ0_charAt_5068e_1 : decode cJ0_charAt_5068e 1 = .ok (.invokevirtual 492, 3) := by decide +kernel
theorem dJ0_charAt_5068e_4 : decode cJ0_charAt_5068e 4 = .ok (.ifCond .eq 12, 3) := by decide +kernel
theorem dJ0_charAt_5068e_7 : decode cJ0_charAt_5068e 7 = .ok (.aload_n 0, 1) := by decide +kernel
theorem dJ0_charAt_5068e_8 : decode cJ0_charAt_5068e 8 = .ok (.getfield 9, 3) := by decide +kernel
theorem dJ0_charAt_5068e_11 : decode cJ0_charAt_5068e 11 = .ok (.iload_n 1, 1) := by decide +kernel
theorem dJ0_charAt_5068e_12 : decode cJ0_charAt_5068e 12 = .ok (.invokestatic 495, 3) := by decide +kernel
theorem dJ0_charAt_5068e_15 : decode cJ0_charAt_5068e 15 = .ok (.ireturn, 1) := by decide +kernel
theorem dJ0_charAt_5068e_16 : decode cJ0_charAt_5068e 16 = .ok (.aload_n 0, 1) := by decide +kernel
theorem dJ0_charAt_5068e_17 : decode cJ0_charAt_5068e 17 = .ok (.getfield 9, 3) := by decide +kernel
theorem dJ0_charAt_5068e_20 : decode cJ0_charAt_5068e 20 = .ok (.iload_n 1, 1) := by decide +kernel
theorem dJ0_charAt_5068e_21 : decode cJ0_charAt_5068e 21 = .ok (.invokestatic 498, 3) := by decide +kernel
theorem dJ0_charAt_5068e_24 : decode cJ0_charAt_5068e 24 = .ok (.ireturn, 1) := by decide +kernel
theorem dJ0_coder_7d493_0 : decode cJ0_coder_7d493 0 = .ok (.getstatic 38, 3) := by decide +kernel
theorem dJ0_coder_7d493_3 : decode cJ0_coder_7d493 3 = .ok (.ifCond .eq 10, 3) := by decide +kernel
theorem dJ0_coder_7d493_6 : decode cJ0_coder_7d493 6 = .ok (.aload_n 0, 1) := by decide +kernel
theorem dJ0_coder_7d493_7 : decode cJ0_coder_7d493 7 = .ok (.getfield 15, 3) := by decide +kernel
theorem dJ0_coder_7d493_10 : decode cJ0_coder_7d493 10 = .ok (.goto 4, 3) := by decide +kernel
theorem dJ0_coder_7d493_13 : decode cJ0_coder_7d493 13 = .ok (.iconst 1, 1) := by decide +kernel
theorem dJ0_coder_7d493_14 : decode cJ0_coder_7d493 14 = .ok (.ireturn, 1) := by decide +kernel
theorem dJ0_isLatin1_aae02_0 : decode cJ0_isLatin1_aae02 0 = .ok (.getstatic 38, 3) := by decide +kernel
theorem dJ0_isLatin1_aae02_3 : decode cJ0_isLatin1_aae02 3 = .ok (.ifCond .eq 14, 3) := by decide +kernel
theorem dJ0_isLatin1_aae02_6 : decode cJ0_isLatin1_aae02 6 = .ok (.aload_n 0, 1) := by decide +kernel
theorem dJ0_isLatin1_aae02_7 : decode cJ0_isLatin1_aae02 7 = .ok (.getfield 15, 3) := by decide +kernel
theorem dJ0_isLatin1_aae02_10 : decode cJ0_isLatin1_aae02 10 = .ok (.ifCond .ne 7, 3) := by decide +kernel
theorem dJ0_isLatin1_aae02_13 : decode cJ0_isLatin1_aae02 13 = .ok (.iconst 1, 1) := by decide +kernel
theorem dJ0_isLatin1_aae02_14 : decode cJ0_isLatin1_aae02 14 = .ok (.goto 4, 3) := by decide +kernel
theorem dJ0_isLatin1_aae02_17 : decode cJ0_isLatin1_aae02 17 = .ok (.iconst 0, 1) := by decide +kernel
theorem dJ0_isLatin1_aae02_18 : decode cJ0_isLatin1_aae02 18 = .ok (.ireturn, 1) := by decide +kernel
theorem dJ0_checkIndex_df160_0 : decode cJ0_checkIndex_df160 0 = .ok (.iload_n 0, 1) := by decide +kernel
theorem dJ0_checkIndex_df160_1 : decode cJ0_checkIndex_df160 1 = .ok (.iload_n 1, 1) := by decide +kernel
theorem dJ0_checkIndex_df160_2 : decode cJ0_checkIndex_df160 2 = .ok (.getstatic 1053, 3) := by decide +kernel
theorem dJ0_checkIndex_df160_5 : decode cJ0_checkIndex_df160 5 = .ok (.invokestatic 1059, 3) := by decide +kernel
theorem dJ0_checkIndex_df160_8 : decode cJ0_checkIndex_df160 8 = .ok (.pop, 1) := by decide +kernel
theorem dJ0_checkIndex_df160_9 : decode cJ0_checkIndex_df160 9 = .ok (.return_, 1) := by decide +kernel
theorem dJ1_charAt_3b067_0 : decode cJ1_charAt_3b067 0 = .ok (.iload_n 1, 1) := by decide +kernel
theorem dJ1_charAt_3b067_1 : decode cJ1_charAt_3b067 1 = .ok (.aload_n 0, 1) := by decide +kernel
theorem dJ1_charAt_3b067_2 : decode cJ1_charAt_3b067 2 = .ok (.arraylength, 1) := by decide +kernel
theorem dJ1_charAt_3b067_3 : decode cJ1_charAt_3b067 3 = .ok (.invokestatic 9, 3) := by decide +kernel
theorem dJ1_charAt_3b067_6 : decode cJ1_charAt_3b067 6 = .ok (.aload_n 0, 1) := by decide +kernel
theorem dJ1_charAt_3b067_7 : decode cJ1_charAt_3b067 7 = .ok (.iload_n 1, 1) := by decide +kernel
theorem dJ1_charAt_3b067_8 : decode cJ1_charAt_3b067 8 = .ok (.baload, 1) := by decide +kernel
theorem dJ1_charAt_3b067_9 : decode cJ1_charAt_3b067 9 = .ok (.sipush 255, 3) := by decide +kernel
theorem dJ1_charAt_3b067_12 : decode cJ1_charAt_3b067 12 = .ok (.iand, 1) := by decide +kernel
theorem dJ1_charAt_3b067_13 : decode cJ1_charAt_3b067 13 = .ok (.i2c, 1) := by decide +kernel
theorem dJ1_charAt_3b067_14 : decode cJ1_charAt_3b067 14 = .ok (.ireturn, 1) := by decide +kernel
theorem dJ2_getChar_3b067_0 : decode cJ2_getChar_3b067 0 = .ok (.getstatic 44, 3) := by decide +kernel
theorem dJ2_getChar_3b067_3 : decode cJ2_getChar_3b067 3 = .ok (.ifCond .ne 25, 3) := by decide +kernel
theorem dJ2_getChar_3b067_6 : decode cJ2_getChar_3b067 6 = .ok (.iload_n 1, 1) := by decide +kernel
theorem dJ2_getChar_3b067_7 : decode cJ2_getChar_3b067 7 = .ok (.ifCond .lt 11, 3) := by decide +kernel
theorem dJ2_getChar_3b067_10 : decode cJ2_getChar_3b067 10 = .ok (.iload_n 1, 1) := by decide +kernel
theorem dJ2_getChar_3b067_11 : decode cJ2_getChar_3b067 11 = .ok (.aload_n 0, 1) := by decide +kernel
theorem dJ2_getChar_3b067_12 : decode cJ2_getChar_3b067 12 = .ok (.invokestatic 48, 3) := by decide +kernel
theorem dJ2_getChar_3b067_15 : decode cJ2_getChar_3b067 15 = .ok (.if_icmp .lt 13, 3) := by decide +kernel
theorem dJ2_getChar_3b067_18 : decode cJ2_getChar_3b067 18 = .ok (.new 52, 3) := by decide +kernel
theorem dJ2_getChar_3b067_21 : decode cJ2_getChar_3b067 21 = .ok (.dup, 1) := by decide +kernel
theorem dJ2_getChar_3b067_22 : decode cJ2_getChar_3b067 22 = .ok (.ldc 54, 2) := by decide +kernel
theorem dJ2_getChar_3b067_24 : decode cJ2_getChar_3b067 24 = .ok (.invokespecial 56, 3) := by decide +kernel
theorem dJ2_getChar_3b067_27 : decode cJ2_getChar_3b067 27 = .ok (.athrow, 1) := by decide +kernel
theorem dJ2_getChar_3b067_28 : decode cJ2_getChar_3b067 28 = .ok (.iload_n 1, 1) := by decide +kernel
theorem dJ2_getChar_3b067_29 : decode cJ2_getChar_3b067 29 = .ok (.iconst 1, 1) := by decide +kernel
theorem dJ2_getChar_3b067_30 : decode cJ2_getChar_3b067 30 = .ok (.ishl, 1) := by decide +kernel
theorem dJ2_getChar_3b067_31 : decode cJ2_getChar_3b067 31 = .ok (.istore_n 1, 1) := by decide +kernel
theorem dJ2_getChar_3b067_32 : decode cJ2_getChar_3b067 32 = .ok (.aload_n 0, 1) := by decide +kernel
theorem dJ2_getChar_3b067_33 : decode cJ2_getChar_3b067 33 = .ok (.iload_n 1, 1) := by decide +kernel
theorem dJ2_getChar_3b067_34 : decode cJ2_getChar_3b067 34 = .ok (.iinc 1 1, 3) := by decide +kernel
theorem dJ2_getChar_3b067_37 : decode cJ2_getChar_3b067 37 = .ok (.baload, 1) := by decide +kernel
theorem dJ2_getChar_3b067_38 : decode cJ2_getChar_3b067 38 = .ok (.sipush 255, 3) := by decide +kernel
theorem dJ2_getChar_3b067_41 : decode cJ2_getChar_3b067 41 = .ok (.iand, 1) := by decide +kernel
theorem dJ2_getChar_3b067_42 : decode cJ2_getChar_3b067 42 = .ok (.getstatic 59, 3) := by decide +kernel
theorem dJ2_getChar_3b067_45 : decode cJ2_getChar_3b067 45 = .ok (.ishl, 1) := by decide +kernel
theorem dJ2_getChar_3b067_46 : decode cJ2_getChar_3b067 46 = .ok (.aload_n 0, 1) := by decide +kernel
theorem dJ2_getChar_3b067_47 : decode cJ2_getChar_3b067 47 = .ok (.iload_n 1, 1) := by decide +kernel
theorem dJ2_getChar_3b067_48 : decode cJ2_getChar_3b067 48 = .ok (.baload, 1) := by decide +kernel
theorem dJ2_getChar_3b067_49 : decode cJ2_getChar_3b067 49 = .ok (.sipush 255, 3) := by decide +kernel
theorem dJ2_getChar_3b067_52 : decode cJ2_getChar_3b067 52 = .ok (.iand, 1) := by decide +kernel
theorem dJ2_getChar_3b067_53 : decode cJ2_getChar_3b067 53 = .ok (.getstatic 63, 3) := by decide +kernel
theorem dJ2_getChar_3b067_56 : decode cJ2_getChar_3b067 56 = .ok (.ishl, 1) := by decide +kernel
theorem dJ2_getChar_3b067_57 : decode cJ2_getChar_3b067 57 = .ok (.ior, 1) := by decide +kernel
theorem dJ2_getChar_3b067_58 : decode cJ2_getChar_3b067 58 = .ok (.i2c, 1) := by decide +kernel
theorem dJ2_getChar_3b067_59 : decode cJ2_getChar_3b067 59 = .ok (.ireturn, 1) := by decide +kernel
theorem dJ2_length_9d52b_0 : decode cJ2_length_9d52b 0 = .ok (.aload_n 0, 1) := by decide +kernel
theorem dJ2_length_9d52b_1 : decode cJ2_length_9d52b 1 = .ok (.arraylength, 1) := by decide +kernel
theorem dJ2_length_9d52b_2 : decode cJ2_length_9d52b 2 = .ok (.iconst 1, 1) := by decide +kernel
theorem dJ2_length_9d52b_3 : decode cJ2_length_9d52b 3 = .ok (.ishr, 1) := by decide +kernel
theorem dJ2_length_9d52b_4 : decode cJ2_length_9d52b 4 = .ok (.ireturn, 1) := by decide +kernel
theorem dJ2_charAt_3b067_0 : decode cJ2_charAt_3b067 0 = .ok (.iload_n 1, 1) := by decide +kernel
theorem dJ2_charAt_3b067_1 : decode cJ2_charAt_3b067 1 = .ok (.aload_n 0, 1) := by decide +kernel
theorem dJ2_charAt_3b067_2 : decode cJ2_charAt_3b067 2 = .ok (.invokestatic 67, 3) := by decide +kernel
theorem dJ2_charAt_3b067_5 : decode cJ2_charAt_3b067 5 = .ok (.aload_n 0, 1) := by decide +kernel
theorem dJ2_charAt_3b067_6 : decode cJ2_charAt_3b067 6 = .ok (.iload_n 1, 1) := by decide +kernel
theorem dJ2_charAt_3b067_7 : decode cJ2_charAt_3b067 7 = .ok (.invokestatic 71, 3) := by decide +kernel
theorem dJ2_charAt_3b067_10 : decode cJ2_charAt_3b067 10 = .ok (.ireturn, 1) := by decide +kernel
theorem dJ2_checkIndex_2214a_0 : decode cJ2_checkIndex_2214a 0 = .ok (.iload_n 0, 1) := by decide +kernel
theorem dJ2_checkIndex_2214a_1 : decode cJ2_checkIndex_2214a 1 = .ok (.aload_n 1, 1) := by decide +kernel
theorem dJ2_checkIndex_2214a_2 : decode cJ2_checkIndex_2214a 2 = .ok (.invokestatic 48, 3) := by decide +kernel
theorem dJ2_checkIndex_2214a_5 : decode cJ2_checkIndex_2214a 5 = .ok (.invokestatic 414, 3) := by decide +kernel
theorem dJ2_checkIndex_2214a_8 : decode cJ2_checkIndex_2214a 8 = .ok (.return_, 1) := by decide +kernel
theorem dJxa1e45_init_da8c8_0 : decode cJxa1e45_init_da8c8 0 = .ok (.aload_n 0, 1) := by decide +kernel
theorem dJxa1e45_init_da8c8_1 : decode cJxa1e45_init_da8c8 1 = .ok (.invokespecial 1, 3) := by decide +kernel
theorem dJxa1e45_init_da8c8_4 : decode cJxa1e45_init_da8c8 4 = .ok (.return_, 1) := by decide +kernel
theorem dJxc12de_init_da8c8_0 : decode cJxc12de_init_da8c8 0 = .ok (.aload_n 0, 1) := by decide +kernel
theorem dJxc12de_init_da8c8_1 : decode cJxc12de_init_da8c8 1 = .ok (.invokespecial 1, 3) := by decide +kernel
theorem dJxc12de_init_da8c8_4 : decode cJxc12de_init_da8c8 4 = .ok (.aload_n 0, 1) := by decide +kernel
theorem dJxc12de_init_da8c8_5 : decode cJxc12de_init_da8c8 5 = .ok (.iconst 0, 1) := by decide +kernel
theorem dJxc12de_init_da8c8_6 : decode cJxc12de_init_da8c8 6 = .ok (.putfield 7, 3) := by decide +kernel
theorem dJxc12de_init_da8c8_9 : decode cJxc12de_init_da8c8 9 = .ok (.return_, 1) := by decide +kernel
theorem dJx4a65c_init_da8c8_0 : decode cJx4a65c_init_da8c8 0 = .ok (.aload_n 0, 1) := by decide +kernel
theorem dJx4a65c_init_da8c8_1 : decode cJx4a65c_init_da8c8 1 = .ok (.invokespecial 1, 3) := by decide +kernel
theorem dJx4a65c_init_da8c8_4 : decode cJx4a65c_init_da8c8 4 = .ok (.aload_n 0, 1) := by decide +kernel
theorem dJx4a65c_init_da8c8_5 : decode cJx4a65c_init_da8c8 5 = .ok (.getstatic 39, 3) := by decide +kernel
theorem dJx4a65c_init_da8c8_8 : decode cJx4a65c_init_da8c8 8 = .ok (.putfield 9, 3) := by decide +kernel
theorem dJx4a65c_init_da8c8_11 : decode cJx4a65c_init_da8c8 11 = .ok (.return_, 1) := by decide +kernel
theorem dJx4a65c_grow_92f84_0 : decode cJx4a65c_grow_92f84 0 = .ok (.aload_n 0, 1) := by decide +kernel
theorem dJx4a65c_grow_92f84_1 : decode cJx4a65c_grow_92f84 1 = .ok (.getfield 9, 3) := by decide +kernel
theorem dJx4a65c_grow_92f84_4 : decode cJx4a65c_grow_92f84 4 = .ok (.arraylength, 1) := by decide +kernel
theorem dJx4a65c_grow_92f84_5 : decode cJx4a65c_grow_92f84 5 = .ok (.istore_n 2, 1) := by decide +kernel
theorem dJx4a65c_grow_92f84_6 : decode cJx4a65c_grow_92f84 6 = .ok (.iload_n 2, 1) := by decide +kernel
theorem dJx4a65c_grow_92f84_7 : decode cJx4a65c_grow_92f84 7 = .ok (.ifCond .gt 13, 3) := by decide +kernel
theorem dJx4a65c_grow_92f84_10 : decode cJx4a65c_grow_92f84 10 = .ok (.aload_n 0, 1) := by decide +kernel
theorem dJx4a65c_grow_92f84_11 : decode cJx4a65c_grow_92f84 11 = .ok (.getfield 9, 3) := by decide +kernel
theorem dJx4a65c_grow_92f84_14 : decode cJx4a65c_grow_92f84 14 = .ok (.getstatic 39, 3) := by decide +kernel
theorem dJx4a65c_grow_92f84_17 : decode cJx4a65c_grow_92f84 17 = .ok (.if_acmp .eq 28, 3) := by decide +kernel
theorem dJx4a65c_grow_92f84_20 : decode cJx4a65c_grow_92f84 20 = .ok (.iload_n 2, 1) := by decide +kernel
theorem dJx4a65c_grow_92f84_21 : decode cJx4a65c_grow_92f84 21 = .ok (.iload_n 1, 1) := by decide +kernel
theorem dJx4a65c_grow_92f84_22 : decode cJx4a65c_grow_92f84 22 = .ok (.iload_n 2, 1) := by decide +kernel
theorem dJx4a65c_grow_92f84_23 : decode cJx4a65c_grow_92f84 23 = .ok (.isub, 1) := by decide +kernel
theorem dJx4a65c_grow_92f84_24 : decode cJx4a65c_grow_92f84 24 = .ok (.iload_n 2, 1) := by decide +kernel
theorem dJx4a65c_grow_92f84_25 : decode cJx4a65c_grow_92f84 25 = .ok (.iconst 1, 1) := by decide +kernel
theorem dJx4a65c_grow_92f84_26 : decode cJx4a65c_grow_92f84 26 = .ok (.ishr, 1) := by decide +kernel
theorem dJx4a65c_grow_92f84_27 : decode cJx4a65c_grow_92f84 27 = .ok (.invokestatic 73, 3) := by decide +kernel
theorem dJx4a65c_grow_92f84_30 : decode cJx4a65c_grow_92f84 30 = .ok (.istore_n 3, 1) := by decide +kernel
theorem dJx4a65c_grow_92f84_31 : decode cJx4a65c_grow_92f84 31 = .ok (.aload_n 0, 1) := by decide +kernel
theorem dJx4a65c_grow_92f84_32 : decode cJx4a65c_grow_92f84 32 = .ok (.aload_n 0, 1) := by decide +kernel
theorem dJx4a65c_grow_92f84_33 : decode cJx4a65c_grow_92f84 33 = .ok (.getfield 9, 3) := by decide +kernel
theorem dJx4a65c_grow_92f84_36 : decode cJx4a65c_grow_92f84 36 = .ok (.iload_n 3, 1) := by decide +kernel
theorem dJx4a65c_grow_92f84_37 : decode cJx4a65c_grow_92f84 37 = .ok (.invokestatic 66, 3) := by decide +kernel
theorem dJx4a65c_grow_92f84_40 : decode cJx4a65c_grow_92f84 40 = .ok (.dup_x1, 1) := by decide +kernel
theorem dJx4a65c_grow_92f84_41 : decode cJx4a65c_grow_92f84 41 = .ok (.putfield 9, 3) := by decide +kernel
theorem dJx4a65c_grow_92f84_44 : decode cJx4a65c_grow_92f84 44 = .ok (.areturn, 1) := by decide +kernel
theorem dJx4a65c_grow_92f84_45 : decode cJx4a65c_grow_92f84 45 = .ok (.aload_n 0, 1) := by decide +kernel
theorem dJx4a65c_grow_92f84_46 : decode cJx4a65c_grow_92f84 46 = .ok (.bipush 10, 2) := by decide +kernel
theorem dJx4a65c_grow_92f84_48 : decode cJx4a65c_grow_92f84 48 = .ok (.iload_n 1, 1) := by decide +kernel
theorem dJx4a65c_grow_92f84_49 : decode cJx4a65c_grow_92f84 49 = .ok (.invokestatic 79, 3) := by decide +kernel
theorem dJx4a65c_grow_92f84_52 : decode cJx4a65c_grow_92f84 52 = .ok (.anewarray 7, 3) := by decide +kernel
theorem dJx4a65c_grow_92f84_55 : decode cJx4a65c_grow_92f84 55 = .ok (.dup_x1, 1) := by decide +kernel
theorem dJx4a65c_grow_92f84_56 : decode cJx4a65c_grow_92f84 56 = .ok (.putfield 9, 3) := by decide +kernel
theorem dJx4a65c_grow_92f84_59 : decode cJx4a65c_grow_92f84 59 = .ok (.areturn, 1) := by decide +kernel
theorem dJx4a65c_grow_d5877_0 : decode cJx4a65c_grow_d5877 0 = .ok (.aload_n 0, 1) := by decide +kernel
theorem dJx4a65c_grow_d5877_1 : decode cJx4a65c_grow_d5877 1 = .ok (.aload_n 0, 1) := by decide +kernel
theorem dJx4a65c_grow_d5877_2 : decode cJx4a65c_grow_d5877 2 = .ok (.getfield 48, 3) := by decide +kernel
theorem dJx4a65c_grow_d5877_5 : decode cJx4a65c_grow_d5877 5 = .ok (.iconst 1, 1) := by decide +kernel
theorem dJx4a65c_grow_d5877_6 : decode cJx4a65c_grow_d5877 6 = .ok (.iadd, 1) := by decide +kernel
theorem dJx4a65c_grow_d5877_7 : decode cJx4a65c_grow_d5877 7 = .ok (.invokevirtual 69, 3) := by decide +kernel
theorem dJx4a65c_grow_d5877_10 : decode cJx4a65c_grow_d5877 10 = .ok (.areturn, 1) := by decide +kernel
theorem dJx4a65c_size_8abf5_0 : decode cJx4a65c_size_8abf5 0 = .ok (.aload_n 0, 1) := by decide +kernel
theorem dJx4a65c_size_8abf5_1 : decode cJx4a65c_size_8abf5 1 = .ok (.getfield 48, 3) := by decide +kernel
theorem dJx4a65c_size_8abf5_4 : decode cJx4a65c_size_8abf5 4 = .ok (.ireturn, 1) := by decide +kernel
theorem dJx4a65c_elementData_915e3_0 : decode cJx4a65c_elementData_915e3 0 = .ok (.aload_n 0, 1) := by decide +kernel
theorem dJx4a65c_elementData_915e3_1 : decode cJx4a65c_elementData_915e3 1 = .ok (.getfield 9, 3) := by decide +kernel
theorem dJx4a65c_elementData_915e3_4 : decode cJx4a65c_elementData_915e3 4 = .ok (.iload_n 1, 1) := by decide +kernel
theorem dJx4a65c_elementData_915e3_5 : decode cJx4a65c_elementData_915e3 5 = .ok (.aaload, 1) := by decide +kernel
theorem dJx4a65c_elementData_915e3_6 : decode cJx4a65c_elementData_915e3 6 = .ok (.areturn, 1) := by decide +kernel
theorem dJx4a65c_get_915e3_0 : decode cJx4a65c_get_915e3 0 = .ok (.iload_n 1, 1) := by decide +kernel
theorem dJx4a65c_get_915e3_1 : decode cJx4a65c_get_915e3 1 = .ok (.aload_n 0, 1) := by decide +kernel
theorem dJx4a65c_get_915e3_2 : decode cJx4a65c_get_915e3 2 = .ok (.getfield 48, 3) := by decide +kernel
theorem dJx4a65c_get_915e3_5 : decode cJx4a65c_get_915e3 5 = .ok (.invokestatic 118, 3) := by decide +kernel
theorem dJx4a65c_get_915e3_8 : decode cJx4a65c_get_915e3 8 = .ok (.pop, 1) := by decide +kernel
theorem dJx4a65c_get_915e3_9 : decode cJx4a65c_get_915e3 9 = .ok (.aload_n 0, 1) := by decide +kernel
theorem dJx4a65c_get_915e3_10 : decode cJx4a65c_get_915e3 10 = .ok (.iload_n 1, 1) := by decide +kernel
theorem dJx4a65c_get_915e3_11 : decode cJx4a65c_get_915e3 11 = .ok (.invokevirtual 123, 3) := by decide +kernel
theorem dJx4a65c_get_915e3_14 : decode cJx4a65c_get_915e3 14 = .ok (.areturn, 1) := by decide +kernel
theorem dJx4a65c_add_72be8_0 : decode cJx4a65c_add_72be8 0 = .ok (.iload_n 3, 1) := by decide +kernel
theorem dJx4a65c_add_72be8_1 : decode cJx4a65c_add_72be8 1 = .ok (.aload_n 2, 1) := by decide +kernel
theorem dJx4a65c_add_72be8_2 : decode cJx4a65c_add_72be8 2 = .ok (.arraylength, 1) := by decide +kernel
theorem dJx4a65c_add_72be8_3 : decode cJx4a65c_add_72be8 3 = .ok (.if_icmp .ne 8, 3) := by decide +kernel
theorem dJx4a65c_add_72be8_6 : decode cJx4a65c_add_72be8 6 = .ok (.aload_n 0, 1) := by decide +kernel
theorem dJx4a65c_add_72be8_7 : decode cJx4a65c_add_72be8 7 = .ok (.invokevirtual 129, 3) := by decide +kernel
theorem dJx4a65c_add_72be8_10 : decode cJx4a65c_add_72be8 10 = .ok (.astore_n 2, 1) := by decide +kernel
theorem dJx4a65c_add_72be8_11 : decode cJx4a65c_add_72be8 11 = .ok (.aload_n 2, 1) := by decide +kernel
theorem dJx4a65c_add_72be8_12 : decode cJx4a65c_add_72be8 12 = .ok (.iload_n 3, 1) := by decide +kernel
theorem dJx4a65c_add_72be8_13 : decode cJx4a65c_add_72be8 13 = .ok (.aload_n 1, 1) := by decide +kernel
theorem dJx4a65c_add_72be8_14 : decode cJx4a65c_add_72be8 14 = .ok (.aastore, 1) := by decide +kernel
theorem dJx4a65c_add_72be8_15 : decode cJx4a65c_add_72be8 15 = .ok (.aload_n 0, 1) := by decide +kernel
theorem dJx4a65c_add_72be8_16 : decode cJx4a65c_add_72be8 16 = .ok (.iload_n 3, 1) := by decide +kernel
theorem dJx4a65c_add_72be8_17 : decode cJx4a65c_add_72be8 17 = .ok (.iconst 1, 1) := by decide +kernel
theorem dJx4a65c_add_72be8_18 : decode cJx4a65c_add_72be8 18 = .ok (.iadd, 1) := by decide +kernel
theorem dJx4a65c_add_72be8_19 : decode cJx4a65c_add_72be8 19 = .ok (.putfield 48, 3) := by decide +kernel
theorem dJx4a65c_add_72be8_22 : decode cJx4a65c_add_72be8 22 = .ok (.return_, 1) := by decide +kernel
theorem dJx4a65c_add_9ea2d_0 : decode cJx4a65c_add_9ea2d 0 = .ok (.aload_n 0, 1) := by decide +kernel
theorem dJx4a65c_add_9ea2d_1 : decode cJx4a65c_add_9ea2d 1 = .ok (.dup, 1) := by decide +kernel
theorem dJx4a65c_add_9ea2d_2 : decode cJx4a65c_add_9ea2d 2 = .ok (.getfield 63, 3) := by decide +kernel
theorem dJx4a65c_add_9ea2d_5 : decode cJx4a65c_add_9ea2d 5 = .ok (.iconst 1, 1) := by decide +kernel
theorem dJx4a65c_add_9ea2d_6 : decode cJx4a65c_add_9ea2d 6 = .ok (.iadd, 1) := by decide +kernel
theorem dJx4a65c_add_9ea2d_7 : decode cJx4a65c_add_9ea2d 7 = .ok (.putfield 63, 3) := by decide +kernel
theorem dJx4a65c_add_9ea2d_10 : decode cJx4a65c_add_9ea2d 10 = .ok (.aload_n 0, 1) := by decide +kernel
theorem dJx4a65c_add_9ea2d_11 : decode cJx4a65c_add_9ea2d 11 = .ok (.aload_n 1, 1) := by decide +kernel
theorem dJx4a65c_add_9ea2d_12 : decode cJx4a65c_add_9ea2d 12 = .ok (.aload_n 0, 1) := by decide +kernel
theorem dJx4a65c_add_9ea2d_13 : decode cJx4a65c_add_9ea2d 13 = .ok (.getfield 9, 3) := by decide +kernel
theorem dJx4a65c_add_9ea2d_16 : decode cJx4a65c_add_9ea2d 16 = .ok (.aload_n 0, 1) := by decide +kernel
theorem dJx4a65c_add_9ea2d_17 : decode cJx4a65c_add_9ea2d 17 = .ok (.getfield 48, 3) := by decide +kernel
theorem dJx4a65c_add_9ea2d_20 : decode cJx4a65c_add_9ea2d 20 = .ok (.invokevirtual 131, 3) := by decide +kernel
theorem dJx4a65c_add_9ea2d_23 : decode cJx4a65c_add_9ea2d 23 = .ok (.iconst 1, 1) := by decide +kernel
theorem dJx4a65c_add_9ea2d_24 : decode cJx4a65c_add_9ea2d 24 = .ok (.ireturn, 1) := by decide +kernel
theorem dJ7_copyOf_1904c_0 : decode cJ7_copyOf_1904c 0 = .ok (.aload_n 0, 1) := by decide +kernel
theorem dJ7_copyOf_1904c_1 : decode cJ7_copyOf_1904c 1 = .ok (.iload_n 1, 1) := by decide +kernel
theorem dJ7_copyOf_1904c_2 : decode cJ7_copyOf_1904c 2 = .ok (.aload_n 0, 1) := by decide +kernel
theorem dJ7_copyOf_1904c_3 : decode cJ7_copyOf_1904c 3 = .ok (.invokevirtual 86, 3) := by decide +kernel
theorem dJ7_copyOf_1904c_6 : decode cJ7_copyOf_1904c 6 = .ok (.invokestatic 300, 3) := by decide +kernel
theorem dJ7_copyOf_1904c_9 : decode cJ7_copyOf_1904c 9 = .ok (.areturn, 1) := by decide +kernel
theorem dJ7_copyOf_6403c_0 : decode cJ7_copyOf_6403c 0 = .ok (.aload_n 2, 1) := by decide +kernel
theorem dJ7_copyOf_6403c_1 : decode cJ7_copyOf_6403c 1 = .ok (.ldc 110, 2) := by decide +kernel
theorem dJ7_copyOf_6403c_3 : decode cJ7_copyOf_6403c 3 = .ok (.if_acmp .ne 10, 3) := by decide +kernel
theorem dJ7_copyOf_6403c_6 : decode cJ7_copyOf_6403c 6 = .ok (.iload_n 1, 1) := by decide +kernel
theorem dJ7_copyOf_6403c_7 : decode cJ7_copyOf_6403c 7 = .ok (.anewarray 2, 3) := by decide +kernel
theorem dJ7_copyOf_6403c_10 : decode cJ7_copyOf_6403c 10 = .ok (.goto 14, 3) := by decide +kernel
theorem dJ7_copyOf_6403c_13 : decode cJ7_copyOf_6403c 13 = .ok (.aload_n 2, 1) := by decide +kernel
theorem dJ7_copyOf_6403c_14 : decode cJ7_copyOf_6403c 14 = .ok (.invokevirtual 90, 3) := by decide +kernel
theorem dJ7_copyOf_6403c_17 : decode cJ7_copyOf_6403c 17 = .ok (.iload_n 1, 1) := by decide +kernel
theorem dJ7_copyOf_6403c_18 : decode cJ7_copyOf_6403c 18 = .ok (.invokestatic 95, 3) := by decide +kernel
theorem dJ7_copyOf_6403c_21 : decode cJ7_copyOf_6403c 21 = .ok (.checkcast 110, 3) := by decide +kernel
theorem dJ7_copyOf_6403c_24 : decode cJ7_copyOf_6403c 24 = .ok (.astore_n 3, 1) := by decide +kernel
theorem dJ7_copyOf_6403c_25 : decode cJ7_copyOf_6403c 25 = .ok (.aload_n 0, 1) := by decide +kernel
theorem dJ7_copyOf_6403c_26 : decode cJ7_copyOf_6403c 26 = .ok (.iconst 0, 1) := by decide +kernel
theorem dJ7_copyOf_6403c_27 : decode cJ7_copyOf_6403c 27 = .ok (.aload_n 3, 1) := by decide +kernel
theorem dJ7_copyOf_6403c_28 : decode cJ7_copyOf_6403c 28 = .ok (.iconst 0, 1) := by decide +kernel
theorem dJ7_copyOf_6403c_29 : decode cJ7_copyOf_6403c 29 = .ok (.aload_n 0, 1) := by decide +kernel
theorem dJ7_copyOf_6403c_30 : decode cJ7_copyOf_6403c 30 = .ok (.arraylength, 1) := by decide +kernel
theorem dJ7_copyOf_6403c_31 : decode cJ7_copyOf_6403c 31 = .ok (.iload_n 1, 1) := by decide +kernel
theorem dJ7_copyOf_6403c_32 : decode cJ7_copyOf_6403c 32 = .ok (.invokestatic 304, 3) := by decide +kernel
theorem dJ7_copyOf_6403c_35 : decode cJ7_copyOf_6403c 35 = .ok (.invokestatic 150, 3) := by decide +kernel
theorem dJ7_copyOf_6403c_38 : decode cJ7_copyOf_6403c 38 = .ok (.aload_n 3, 1) := by decide +kernel
theorem dJ7_copyOf_6403c_39 : decode cJ7_copyOf_6403c 39 = .ok (.areturn, 1) := by decide +kernel
theorem dJ7_copyOf_59c91_0 : decode cJ7_copyOf_59c91 0 = .ok (.iload_n 1, 1) := by decide +kernel
theorem dJ7_copyOf_59c91_1 : decode cJ7_copyOf_59c91 1 = .ok (.aload_n 0, 1) := by decide +kernel
theorem dJ7_copyOf_59c91_2 : decode cJ7_copyOf_59c91 2 = .ok (.arraylength, 1) := by decide +kernel
theorem dJ7_copyOf_59c91_3 : decode cJ7_copyOf_59c91 3 = .ok (.if_icmp .ne 11, 3) := by decide +kernel
theorem dJ7_copyOf_59c91_6 : decode cJ7_copyOf_59c91 6 = .ok (.aload_n 0, 1) := by decide +kernel
theorem dJ7_copyOf_59c91_7 : decode cJ7_copyOf_59c91 7 = .ok (.invokevirtual 316, 3) := by decide +kernel
theorem dJ7_copyOf_59c91_10 : decode cJ7_copyOf_59c91 10 = .ok (.checkcast 317, 3) := by decide +kernel
theorem dJ7_copyOf_59c91_13 : decode cJ7_copyOf_59c91 13 = .ok (.areturn, 1) := by decide +kernel
theorem dJ7_copyOf_59c91_14 : decode cJ7_copyOf_59c91 14 = .ok (.iload_n 1, 1) := by decide +kernel
theorem dJ7_copyOf_59c91_15 : decode cJ7_copyOf_59c91 15 = .ok (.newarray .int, 2) := by decide +kernel
theorem dJ7_copyOf_59c91_17 : decode cJ7_copyOf_59c91 17 = .ok (.astore_n 2, 1) := by decide +kernel
theorem dJ7_copyOf_59c91_18 : decode cJ7_copyOf_59c91 18 = .ok (.aload_n 0, 1) := by decide +kernel
theorem dJ7_copyOf_59c91_19 : decode cJ7_copyOf_59c91 19 = .ok (.iconst 0, 1) := by decide +kernel
theorem dJ7_copyOf_59c91_20 : decode cJ7_copyOf_59c91 20 = .ok (.aload_n 2, 1) := by decide +kernel
theorem dJ7_copyOf_59c91_21 : decode cJ7_copyOf_59c91 21 = .ok (.iconst 0, 1) := by decide +kernel
theorem dJ7_copyOf_59c91_22 : decode cJ7_copyOf_59c91 22 = .ok (.aload_n 0, 1) := by decide +kernel
theorem dJ7_copyOf_59c91_23 : decode cJ7_copyOf_59c91 23 = .ok (.arraylength, 1) := by decide +kernel
theorem dJ7_copyOf_59c91_24 : decode cJ7_copyOf_59c91 24 = .ok (.iload_n 1, 1) := by decide +kernel
theorem dJ7_copyOf_59c91_25 : decode cJ7_copyOf_59c91 25 = .ok (.invokestatic 304, 3) := by decide +kernel
theorem dJ7_copyOf_59c91_28 : decode cJ7_copyOf_59c91 28 = .ok (.invokestatic 150, 3) := by decide +kernel
theorem dJ7_copyOf_59c91_31 : decode cJ7_copyOf_59c91 31 = .ok (.aload_n 2, 1) := by decide +kernel
theorem dJ7_copyOf_59c91_32 : decode cJ7_copyOf_59c91 32 = .ok (.areturn, 1) := by decide +kernel
theorem dJ15_checkIndex_7cf53_0 : decode cJ15_checkIndex_7cf53 0 = .ok (.iload_n 0, 1) := by decide +kernel
theorem dJ15_checkIndex_7cf53_1 : decode cJ15_checkIndex_7cf53 1 = .ok (.iload_n 1, 1) := by decide +kernel
theorem dJ15_checkIndex_7cf53_2 : decode cJ15_checkIndex_7cf53 2 = .ok (.aconst_null, 1) := by decide +kernel
theorem dJ15_checkIndex_7cf53_3 : decode cJ15_checkIndex_7cf53 3 = .ok (.invokestatic 105, 3) := by decide +kernel
theorem dJ15_checkIndex_7cf53_6 : decode cJ15_checkIndex_7cf53 6 = .ok (.ireturn, 1) := by decide +kernel
theorem dJ8_newLength_cabcc_0 : decode cJ8_newLength_cabcc 0 = .ok (.iload_n 0, 1) := by decide +kernel
theorem dJ8_newLength_cabcc_1 : decode cJ8_newLength_cabcc 1 = .ok (.iload_n 1, 1) := by decide +kernel
theorem dJ8_newLength_cabcc_2 : decode cJ8_newLength_cabcc 2 = .ok (.iload_n 2, 1) := by decide +kernel
theorem dJ8_newLength_cabcc_3 : decode cJ8_newLength_cabcc 3 = .ok (.invokestatic 194, 3) := by decide +kernel
theorem dJ8_newLength_cabcc_6 : decode cJ8_newLength_cabcc 6 = .ok (.iadd, 1) := by decide +kernel
theorem dJ8_newLength_cabcc_7 : decode cJ8_newLength_cabcc 7 = .ok (.istore_n 3, 1) := by decide +kernel
theorem dJ8_newLength_cabcc_8 : decode cJ8_newLength_cabcc 8 = .ok (.iconst 0, 1) := by decide +kernel
theorem dJ8_newLength_cabcc_9 : decode cJ8_newLength_cabcc 9 = .ok (.iload_n 3, 1) := by decide +kernel
theorem dJ8_newLength_cabcc_10 : decode cJ8_newLength_cabcc 10 = .ok (.if_icmp .ge 11, 3) := by decide +kernel
theorem dJ8_newLength_cabcc_13 : decode cJ8_newLength_cabcc 13 = .ok (.iload_n 3, 1) := by decide +kernel
theorem dJ8_newLength_cabcc_14 : decode cJ8_newLength_cabcc 14 = .ok (.ldc 200, 2) := by decide +kernel
theorem dJ8_newLength_cabcc_16 : decode cJ8_newLength_cabcc 16 = .ok (.if_icmp .gt 5, 3) := by decide +kernel
theorem dJ8_newLength_cabcc_19 : decode cJ8_newLength_cabcc 19 = .ok (.iload_n 3, 1) := by decide +kernel
theorem dJ8_newLength_cabcc_20 : decode cJ8_newLength_cabcc 20 = .ok (.ireturn, 1) := by decide +kernel
theorem dJ8_newLength_cabcc_21 : decode cJ8_newLength_cabcc 21 = .ok (.iload_n 0, 1) := by decide +kernel
theorem dJ8_newLength_cabcc_22 : decode cJ8_newLength_cabcc 22 = .ok (.iload_n 1, 1) := by decide +kernel
theorem dJ8_newLength_cabcc_23 : decode cJ8_newLength_cabcc 23 = .ok (.invokestatic 201, 3) := by decide +kernel
theorem dJ8_newLength_cabcc_26 : decode cJ8_newLength_cabcc 26 = .ok (.ireturn, 1) := by decide +kernel
theorem dJ8_hugeLength_7cf53_0 : decode cJ8_hugeLength_7cf53 0 = .ok (.iload_n 0, 1) := by decide +kernel
theorem dJ8_hugeLength_7cf53_1 : decode cJ8_hugeLength_7cf53 1 = .ok (.iload_n 1, 1) := by decide +kernel
theorem dJ8_hugeLength_7cf53_2 : decode cJ8_hugeLength_7cf53 2 = .ok (.iadd, 1) := by decide +kernel
theorem dJ8_hugeLength_7cf53_3 : decode cJ8_hugeLength_7cf53 3 = .ok (.istore_n 2, 1) := by decide +kernel
theorem dJ8_hugeLength_7cf53_4 : decode cJ8_hugeLength_7cf53 4 = .ok (.iload_n 2, 1) := by decide +kernel
theorem dJ8_hugeLength_7cf53_5 : decode cJ8_hugeLength_7cf53 5 = .ok (.ifCond .ge 44, 3) := by decide +kernel
theorem dJ8_hugeLength_7cf53_8 : decode cJ8_hugeLength_7cf53 8 = .ok (.new 204, 3) := by decide +kernel
theorem dJ8_hugeLength_7cf53_11 : decode cJ8_hugeLength_7cf53 11 = .ok (.dup, 1) := by decide +kernel
theorem dJ8_hugeLength_7cf53_12 : decode cJ8_hugeLength_7cf53 12 = .ok (.new 89, 3) := by decide +kernel
theorem dJ8_hugeLength_7cf53_15 : decode cJ8_hugeLength_7cf53 15 = .ok (.dup, 1) := by decide +kernel
theorem dJ8_hugeLength_7cf53_16 : decode cJ8_hugeLength_7cf53 16 = .ok (.invokespecial 91, 3) := by decide +kernel
theorem dJ8_hugeLength_7cf53_19 : decode cJ8_hugeLength_7cf53 19 = .ok (.ldc 206, 2) := by decide +kernel
theorem dJ8_hugeLength_7cf53_21 : decode cJ8_hugeLength_7cf53 21 = .ok (.invokevirtual 94, 3) := by decide +kernel
theorem dJ8_hugeLength_7cf53_24 : decode cJ8_hugeLength_7cf53 24 = .ok (.iload_n 0, 1) := by decide +kernel
theorem dJ8_hugeLength_7cf53_25 : decode cJ8_hugeLength_7cf53 25 = .ok (.invokevirtual 98, 3) := by decide +kernel
theorem dJ8_hugeLength_7cf53_28 : decode cJ8_hugeLength_7cf53 28 = .ok (.ldc 208, 2) := by decide +kernel
theorem dJ8_hugeLength_7cf53_30 : decode cJ8_hugeLength_7cf53 30 = .ok (.invokevirtual 94, 3) := by decide +kernel
theorem dJ8_hugeLength_7cf53_33 : decode cJ8_hugeLength_7cf53 33 = .ok (.iload_n 1, 1) := by decide +kernel
theorem dJ8_hugeLength_7cf53_34 : decode cJ8_hugeLength_7cf53 34 = .ok (.invokevirtual 98, 3) := by decide +kernel
theorem dJ8_hugeLength_7cf53_37 : decode cJ8_hugeLength_7cf53 37 = .ok (.ldc 210, 2) := by decide +kernel
theorem dJ8_hugeLength_7cf53_39 : decode cJ8_hugeLength_7cf53 39 = .ok (.invokevirtual 94, 3) := by decide +kernel
theorem dJ8_hugeLength_7cf53_42 : decode cJ8_hugeLength_7cf53 42 = .ok (.invokevirtual 101, 3) := by decide +kernel
theorem dJ8_hugeLength_7cf53_45 : decode cJ8_hugeLength_7cf53 45 = .ok (.invokespecial 212, 3) := by decide +kernel
theorem dJ8_hugeLength_7cf53_48 : decode cJ8_hugeLength_7cf53 48 = .ok (.athrow, 1) := by decide +kernel
theorem dJ8_hugeLength_7cf53_49 : decode cJ8_hugeLength_7cf53 49 = .ok (.iload_n 2, 1) := by decide +kernel
theorem dJ8_hugeLength_7cf53_50 : decode cJ8_hugeLength_7cf53 50 = .ok (.ldc 200, 2) := by decide +kernel
theorem dJ8_hugeLength_7cf53_52 : decode cJ8_hugeLength_7cf53 52 = .ok (.if_icmp .gt 6, 3) := by decide +kernel
theorem dJ8_hugeLength_7cf53_55 : decode cJ8_hugeLength_7cf53 55 = .ok (.ldc 200, 2) := by decide +kernel
theorem dJ8_hugeLength_7cf53_57 : decode cJ8_hugeLength_7cf53 57 = .ok (.ireturn, 1) := by decide +kernel
theorem dJ8_hugeLength_7cf53_58 : decode cJ8_hugeLength_7cf53 58 = .ok (.iload_n 2, 1) := by decide +kernel
theorem dJ8_hugeLength_7cf53_59 : decode cJ8_hugeLength_7cf53 59 = .ok (.ireturn, 1) := by decide +kernel
theorem dJ3_checkIndex_8e157_0 : decode cJ3_checkIndex_8e157 0 = .ok (.iload_n 0, 1) := by decide +kernel
theorem dJ3_checkIndex_8e157_1 : decode cJ3_checkIndex_8e157 1 = .ok (.ifCond .lt 8, 3) := by decide +kernel
theorem dJ3_checkIndex_8e157_4 : decode cJ3_checkIndex_8e157 4 = .ok (.iload_n 0, 1) := by decide +kernel
theorem dJ3_checkIndex_8e157_5 : decode cJ3_checkIndex_8e157 5 = .ok (.iload_n 1, 1) := by decide +kernel
theorem dJ3_checkIndex_8e157_6 : decode cJ3_checkIndex_8e157 6 = .ok (.if_icmp .lt 10, 3) := by decide +kernel
theorem dJ3_checkIndex_8e157_9 : decode cJ3_checkIndex_8e157 9 = .ok (.aload_n 2, 1) := by decide +kernel
theorem dJ3_checkIndex_8e157_10 : decode cJ3_checkIndex_8e157 10 = .ok (.iload_n 0, 1) := by decide +kernel
theorem dJ3_checkIndex_8e157_11 : decode cJ3_checkIndex_8e157 11 = .ok (.iload_n 1, 1) := by decide +kernel
theorem dJ3_checkIndex_8e157_12 : decode cJ3_checkIndex_8e157 12 = .ok (.invokestatic 95, 3) := by decide +kernel
theorem dJ3_checkIndex_8e157_15 : decode cJ3_checkIndex_8e157 15 = .ok (.athrow, 1) := by decide +kernel
theorem dJ3_checkIndex_8e157_16 : decode cJ3_checkIndex_8e157 16 = .ok (.iload_n 0, 1) := by decide +kernel
theorem dJ3_checkIndex_8e157_17 : decode cJ3_checkIndex_8e157 17 = .ok (.ireturn, 1) := by decide +kernel
theorem dL_owner_0 : decode cL_owner 0 = .ok (.aload_n 1, 1) := by decide +kernel
theorem dL_owner_1 : decode cL_owner 1 = .ok (.iconst 0, 1) := by decide +kernel
theorem dL_owner_2 : decode cL_owner 2 = .ok (.aload_n 0, 1) := by decide +kernel
theorem dL_owner_3 : decode cL_owner 3 = .ok (.invokevirtual 7, 3) := by decide +kernel
theorem dL_owner_6 : decode cL_owner 6 = .ok (.i2l, 1) := by decide +kernel
theorem dL_owner_7 : decode cL_owner 7 = .ok (.lastore, 1) := by decide +kernel
theorem dL_owner_8 : decode cL_owner 8 = .ok (.goto 6, 3) := by decide +kernel
theorem dL_owner_11 : decode cL_owner 11 = .ok (.astore_n 2, 1) := by decide +kernel
theorem dL_owner_12 : decode cL_owner 12 = .ok (.iconst 1, 1) := by decide +kernel
theorem dL_owner_13 : decode cL_owner 13 = .ok (.ireturn, 1) := by decide +kernel
theorem dL_owner_14 : decode cL_owner 14 = .ok (.iconst 0, 1) := by decide +kernel
theorem dL_owner_15 : decode cL_owner 15 = .ok (.ireturn, 1) := by decide +kernel
theorem dL_wall_0 : decode cL_wall 0 = .ok (.aload_n 3, 1) := by decide +kernel
theorem dL_wall_1 : decode cL_wall 1 = .ok (.iconst 0, 1) := by decide +kernel
theorem dL_wall_2 : decode cL_wall 2 = .ok (.aload_n 0, 1) := by decide +kernel
theorem dL_wall_3 : decode cL_wall 3 = .ok (.iload_n 1, 1) := by decide +kernel
theorem dL_wall_4 : decode cL_wall 4 = .ok (.iload_n 2, 1) := by decide +kernel
theorem dL_wall_5 : decode cL_wall 5 = .ok (.invokevirtual 15, 3) := by decide +kernel
theorem dL_wall_8 : decode cL_wall 8 = .ok (.i2l, 1) := by decide +kernel
theorem dL_wall_9 : decode cL_wall 9 = .ok (.lastore, 1) := by decide +kernel
theorem dL_wall_10 : decode cL_wall 10 = .ok (.goto 11, 3) := by decide +kernel
theorem dL_wall_13 : decode cL_wall 13 = .ok (.astore 4, 2) := by decide +kernel
theorem dL_wall_15 : decode cL_wall 15 = .ok (.iconst 1, 1) := by decide +kernel
theorem dL_wall_16 : decode cL_wall 16 = .ok (.ireturn, 1) := by decide +kernel
theorem dL_wall_17 : decode cL_wall 17 = .ok (.astore 4, 2) := by decide +kernel
theorem dL_wall_19 : decode cL_wall 19 = .ok (.iconst 2, 1) := by decide +kernel
theorem dL_wall_20 : decode cL_wall 20 = .ok (.ireturn, 1) := by decide +kernel
theorem dL_wall_21 : decode cL_wall 21 = .ok (.iconst 0, 1) := by decide +kernel
theorem dL_wall_22 : decode cL_wall 22 = .ok (.ireturn, 1) := by decide +kernel
theorem dL_sell_0 : decode cL_sell 0 = .ok (.aload 4, 2) := by decide +kernel
theorem dL_sell_2 : decode cL_sell 2 = .ok (.iconst 0, 1) := by decide +kernel
theorem dL_sell_3 : decode cL_sell 3 = .ok (.aload_n 0, 1) := by decide +kernel
theorem dL_sell_4 : decode cL_sell 4 = .ok (.iload_n 1, 1) := by decide +kernel
theorem dL_sell_5 : decode cL_sell 5 = .ok (.iload_n 2, 1) := by decide +kernel
theorem dL_sell_6 : decode cL_sell 6 = .ok (.iload_n 3, 1) := by decide +kernel
theorem dL_sell_7 : decode cL_sell 7 = .ok (.invokevirtual 21, 3) := by decide +kernel
theorem dL_sell_10 : decode cL_sell 10 = .ok (.i2l, 1) := by decide +kernel
theorem dL_sell_11 : decode cL_sell 11 = .ok (.lastore, 1) := by decide +kernel
theorem dL_sell_12 : decode cL_sell 12 = .ok (.goto 11, 3) := by decide +kernel
theorem dL_sell_15 : decode cL_sell 15 = .ok (.astore 5, 2) := by decide +kernel
theorem dL_sell_17 : decode cL_sell 17 = .ok (.iconst 1, 1) := by decide +kernel
theorem dL_sell_18 : decode cL_sell 18 = .ok (.ireturn, 1) := by decide +kernel
theorem dL_sell_19 : decode cL_sell 19 = .ok (.astore 5, 2) := by decide +kernel
theorem dL_sell_21 : decode cL_sell 21 = .ok (.iconst 2, 1) := by decide +kernel
theorem dL_sell_22 : decode cL_sell 22 = .ok (.ireturn, 1) := by decide +kernel
theorem dL_sell_23 : decode cL_sell 23 = .ok (.iconst 0, 1) := by decide +kernel
theorem dL_sell_24 : decode cL_sell 24 = .ok (.ireturn, 1) := by decide +kernel
theorem dL_wait_0 : decode cL_wait 0 = .ok (.aload_n 2, 1) := by decide +kernel
theorem dL_wait_1 : decode cL_wait 1 = .ok (.iconst 0, 1) := by decide +kernel
theorem dL_wait_2 : decode cL_wait 2 = .ok (.aload_n 0, 1) := by decide +kernel
theorem dL_wait_3 : decode cL_wait 3 = .ok (.iload_n 1, 1) := by decide +kernel
theorem dL_wait_4 : decode cL_wait 4 = .ok (.invokevirtual 27, 3) := by decide +kernel
theorem dL_wait_7 : decode cL_wait 7 = .ok (.i2l, 1) := by decide +kernel
theorem dL_wait_8 : decode cL_wait 8 = .ok (.lastore, 1) := by decide +kernel
theorem dL_wait_9 : decode cL_wait 9 = .ok (.goto 9, 3) := by decide +kernel
theorem dL_wait_12 : decode cL_wait 12 = .ok (.astore_n 3, 1) := by decide +kernel
theorem dL_wait_13 : decode cL_wait 13 = .ok (.iconst 1, 1) := by decide +kernel
theorem dL_wait_14 : decode cL_wait 14 = .ok (.ireturn, 1) := by decide +kernel
theorem dL_wait_15 : decode cL_wait 15 = .ok (.astore_n 3, 1) := by decide +kernel
theorem dL_wait_16 : decode cL_wait 16 = .ok (.iconst 2, 1) := by decide +kernel
theorem dL_wait_17 : decode cL_wait 17 = .ok (.ireturn, 1) := by decide +kernel
theorem dL_wait_18 : decode cL_wait 18 = .ok (.iconst 0, 1) := by decide +kernel
theorem dL_wait_19 : decode cL_wait 19 = .ok (.ireturn, 1) := by decide +kernel
theorem dL_rule_0 : decode cL_rule 0 = .ok (.aload_n 2, 1) := by decide +kernel
theorem dL_rule_1 : decode cL_rule 1 = .ok (.iconst 0, 1) := by decide +kernel
theorem dL_rule_2 : decode cL_rule 2 = .ok (.aload_n 0, 1) := by decide +kernel
theorem dL_rule_3 : decode cL_rule 3 = .ok (.iload_n 1, 1) := by decide +kernel
theorem dL_rule_4 : decode cL_rule 4 = .ok (.invokevirtual 31, 3) := by decide +kernel
theorem dL_rule_7 : decode cL_rule 7 = .ok (.i2l, 1) := by decide +kernel
theorem dL_rule_8 : decode cL_rule 8 = .ok (.lastore, 1) := by decide +kernel
theorem dL_rule_9 : decode cL_rule 9 = .ok (.goto 6, 3) := by decide +kernel
theorem dL_rule_12 : decode cL_rule 12 = .ok (.astore_n 3, 1) := by decide +kernel
theorem dL_rule_13 : decode cL_rule 13 = .ok (.iconst 1, 1) := by decide +kernel
theorem dL_rule_14 : decode cL_rule 14 = .ok (.ireturn, 1) := by decide +kernel
theorem dL_rule_15 : decode cL_rule 15 = .ok (.iconst 0, 1) := by decide +kernel
theorem dL_rule_16 : decode cL_rule 16 = .ok (.ireturn, 1) := by decide +kernel
theorem dL_counted_0 : decode cL_counted 0 = .ok (.aload_n 3, 1) := by decide +kernel
theorem dL_counted_1 : decode cL_counted 1 = .ok (.iconst 0, 1) := by decide +kernel
theorem dL_counted_2 : decode cL_counted 2 = .ok (.aload_n 0, 1) := by decide +kernel
theorem dL_counted_3 : decode cL_counted 3 = .ok (.iload_n 1, 1) := by decide +kernel
theorem dL_counted_4 : decode cL_counted 4 = .ok (.iload_n 2, 1) := by decide +kernel
theorem dL_counted_5 : decode cL_counted 5 = .ok (.invokevirtual 34, 3) := by decide +kernel
theorem dL_counted_8 : decode cL_counted 8 = .ok (.i2l, 1) := by decide +kernel
theorem dL_counted_9 : decode cL_counted 9 = .ok (.lastore, 1) := by decide +kernel
theorem dL_counted_10 : decode cL_counted 10 = .ok (.goto 11, 3) := by decide +kernel
theorem dL_counted_13 : decode cL_counted 13 = .ok (.astore 4, 2) := by decide +kernel
theorem dL_counted_15 : decode cL_counted 15 = .ok (.iconst 1, 1) := by decide +kernel
theorem dL_counted_16 : decode cL_counted 16 = .ok (.ireturn, 1) := by decide +kernel
theorem dL_counted_17 : decode cL_counted 17 = .ok (.astore 4, 2) := by decide +kernel
theorem dL_counted_19 : decode cL_counted 19 = .ok (.iconst 2, 1) := by decide +kernel
theorem dL_counted_20 : decode cL_counted 20 = .ok (.ireturn, 1) := by decide +kernel
theorem dL_counted_21 : decode cL_counted 21 = .ok (.iconst 0, 1) := by decide +kernel
theorem dL_counted_22 : decode cL_counted 22 = .ok (.ireturn, 1) := by decide +kernel
theorem dL_work_0 : decode cL_work 0 = .ok (.aload 7, 2) := by decide +kernel
theorem dL_work_2 : decode cL_work 2 = .ok (.iconst 0, 1) := by decide +kernel
theorem dL_work_3 : decode cL_work 3 = .ok (.aload_n 0, 1) := by decide +kernel
theorem dL_work_4 : decode cL_work 4 = .ok (.iload_n 1, 1) := by decide +kernel
theorem dL_work_5 : decode cL_work 5 = .ok (.iload_n 2, 1) := by decide +kernel
theorem dL_work_6 : decode cL_work 6 = .ok (.iload_n 3, 1) := by decide +kernel
theorem dL_work_7 : decode cL_work 7 = .ok (.iload 4, 2) := by decide +kernel
theorem dL_work_9 : decode cL_work 9 = .ok (.iload 5, 2) := by decide +kernel
theorem dL_work_11 : decode cL_work 11 = .ok (.iload 6, 2) := by decide +kernel
theorem dL_work_13 : decode cL_work 13 = .ok (.invokevirtual 37, 3) := by decide +kernel
theorem dL_work_16 : decode cL_work 16 = .ok (.i2l, 1) := by decide +kernel
theorem dL_work_17 : decode cL_work 17 = .ok (.lastore, 1) := by decide +kernel
theorem dL_work_18 : decode cL_work 18 = .ok (.goto 15, 3) := by decide +kernel
theorem dL_work_21 : decode cL_work 21 = .ok (.astore 8, 2) := by decide +kernel
theorem dL_work_23 : decode cL_work 23 = .ok (.iconst 1, 1) := by decide +kernel
theorem dL_work_24 : decode cL_work 24 = .ok (.ireturn, 1) := by decide +kernel
theorem dL_work_25 : decode cL_work 25 = .ok (.astore 8, 2) := by decide +kernel
theorem dL_work_27 : decode cL_work 27 = .ok (.iconst 2, 1) := by decide +kernel
theorem dL_work_28 : decode cL_work 28 = .ok (.ireturn, 1) := by decide +kernel
theorem dL_work_29 : decode cL_work 29 = .ok (.astore 8, 2) := by decide +kernel
theorem dL_work_31 : decode cL_work 31 = .ok (.iconst 3, 1) := by decide +kernel
theorem dL_work_32 : decode cL_work 32 = .ok (.ireturn, 1) := by decide +kernel
theorem dL_work_33 : decode cL_work 33 = .ok (.iconst 0, 1) := by decide +kernel
theorem dL_work_34 : decode cL_work 34 = .ok (.ireturn, 1) := by decide +kernel
theorem dL_state_0 : decode cL_state 0 = .ok (.aload_n 2, 1) := by decide +kernel
theorem dL_state_1 : decode cL_state 1 = .ok (.iconst 0, 1) := by decide +kernel
theorem dL_state_2 : decode cL_state 2 = .ok (.aload_n 0, 1) := by decide +kernel
theorem dL_state_3 : decode cL_state 3 = .ok (.iload_n 1, 1) := by decide +kernel
theorem dL_state_4 : decode cL_state 4 = .ok (.invokevirtual 41, 3) := by decide +kernel
theorem dL_state_7 : decode cL_state 7 = .ok (.i2l, 1) := by decide +kernel
theorem dL_state_8 : decode cL_state 8 = .ok (.lastore, 1) := by decide +kernel
theorem dL_state_9 : decode cL_state 9 = .ok (.goto 6, 3) := by decide +kernel
theorem dL_state_12 : decode cL_state 12 = .ok (.astore_n 3, 1) := by decide +kernel
theorem dL_state_13 : decode cL_state 13 = .ok (.iconst 1, 1) := by decide +kernel
theorem dL_state_14 : decode cL_state 14 = .ok (.ireturn, 1) := by decide +kernel
theorem dL_state_15 : decode cL_state 15 = .ok (.iconst 0, 1) := by decide +kernel
theorem dL_state_16 : decode cL_state 16 = .ok (.ireturn, 1) := by decide +kernel
theorem dL_notice_0 : decode cL_notice 0 = .ok (.aload_n 2, 1) := by decide +kernel
theorem dL_notice_1 : decode cL_notice 1 = .ok (.iconst 0, 1) := by decide +kernel
theorem dL_notice_2 : decode cL_notice 2 = .ok (.aload_n 0, 1) := by decide +kernel
theorem dL_notice_3 : decode cL_notice 3 = .ok (.iload_n 1, 1) := by decide +kernel
theorem dL_notice_4 : decode cL_notice 4 = .ok (.invokevirtual 44, 3) := by decide +kernel
theorem dL_notice_7 : decode cL_notice 7 = .ok (.i2l, 1) := by decide +kernel
theorem dL_notice_8 : decode cL_notice 8 = .ok (.lastore, 1) := by decide +kernel
theorem dL_notice_9 : decode cL_notice 9 = .ok (.goto 6, 3) := by decide +kernel
theorem dL_notice_12 : decode cL_notice 12 = .ok (.astore_n 3, 1) := by decide +kernel
theorem dL_notice_13 : decode cL_notice 13 = .ok (.iconst 1, 1) := by decide +kernel
theorem dL_notice_14 : decode cL_notice 14 = .ok (.ireturn, 1) := by decide +kernel
theorem dL_notice_15 : decode cL_notice 15 = .ok (.iconst 0, 1) := by decide +kernel
theorem dL_notice_16 : decode cL_notice 16 = .ok (.ireturn, 1) := by decide +kernel
theorem dL_answer_0 : decode cL_answer 0 = .ok (.aload_n 3, 1) := by decide +kernel
theorem dL_answer_1 : decode cL_answer 1 = .ok (.iconst 0, 1) := by decide +kernel
theorem dL_answer_2 : decode cL_answer 2 = .ok (.aload_n 0, 1) := by decide +kernel
theorem dL_answer_3 : decode cL_answer 3 = .ok (.iload_n 1, 1) := by decide +kernel
theorem dL_answer_4 : decode cL_answer 4 = .ok (.iload_n 2, 1) := by decide +kernel
theorem dL_answer_5 : decode cL_answer 5 = .ok (.invokevirtual 47, 3) := by decide +kernel
theorem dL_answer_8 : decode cL_answer 8 = .ok (.i2l, 1) := by decide +kernel
theorem dL_answer_9 : decode cL_answer 9 = .ok (.lastore, 1) := by decide +kernel
theorem dL_answer_10 : decode cL_answer 10 = .ok (.goto 7, 3) := by decide +kernel
theorem dL_answer_13 : decode cL_answer 13 = .ok (.astore 4, 2) := by decide +kernel
theorem dL_answer_15 : decode cL_answer 15 = .ok (.iconst 1, 1) := by decide +kernel
theorem dL_answer_16 : decode cL_answer 16 = .ok (.ireturn, 1) := by decide +kernel
theorem dL_answer_17 : decode cL_answer 17 = .ok (.iconst 0, 1) := by decide +kernel
theorem dL_answer_18 : decode cL_answer 18 = .ok (.ireturn, 1) := by decide +kernel
theorem dL_told_0 : decode cL_told 0 = .ok (.aload_n 3, 1) := by decide +kernel
theorem dL_told_1 : decode cL_told 1 = .ok (.iconst 0, 1) := by decide +kernel
theorem dL_told_2 : decode cL_told 2 = .ok (.aload_n 0, 1) := by decide +kernel
theorem dL_told_3 : decode cL_told 3 = .ok (.iload_n 1, 1) := by decide +kernel
theorem dL_told_4 : decode cL_told 4 = .ok (.iload_n 2, 1) := by decide +kernel
theorem dL_told_5 : decode cL_told 5 = .ok (.invokevirtual 51, 3) := by decide +kernel
theorem dL_told_8 : decode cL_told 8 = .ok (.i2l, 1) := by decide +kernel
theorem dL_told_9 : decode cL_told 9 = .ok (.lastore, 1) := by decide +kernel
theorem dL_told_10 : decode cL_told 10 = .ok (.goto 11, 3) := by decide +kernel
theorem dL_told_13 : decode cL_told 13 = .ok (.astore 4, 2) := by decide +kernel
theorem dL_told_15 : decode cL_told 15 = .ok (.iconst 1, 1) := by decide +kernel
theorem dL_told_16 : decode cL_told 16 = .ok (.ireturn, 1) := by decide +kernel
theorem dL_told_17 : decode cL_told 17 = .ok (.astore 4, 2) := by decide +kernel
theorem dL_told_19 : decode cL_told 19 = .ok (.iconst 2, 1) := by decide +kernel
theorem dL_told_20 : decode cL_told 20 = .ok (.ireturn, 1) := by decide +kernel
theorem dL_told_21 : decode cL_told 21 = .ok (.iconst 0, 1) := by decide +kernel
theorem dL_told_22 : decode cL_told 22 = .ok (.ireturn, 1) := by decide +kernel
theorem dL_surveyor_0 : decode cL_surveyor 0 = .ok (.aload_n 2, 1) := by decide +kernel
theorem dL_surveyor_1 : decode cL_surveyor 1 = .ok (.iconst 0, 1) := by decide +kernel
theorem dL_surveyor_2 : decode cL_surveyor 2 = .ok (.aload_n 0, 1) := by decide +kernel
theorem dL_surveyor_3 : decode cL_surveyor 3 = .ok (.iload_n 1, 1) := by decide +kernel
theorem dL_surveyor_4 : decode cL_surveyor 4 = .ok (.invokevirtual 54, 3) := by decide +kernel
theorem dL_surveyor_7 : decode cL_surveyor 7 = .ok (.i2l, 1) := by decide +kernel
theorem dL_surveyor_8 : decode cL_surveyor 8 = .ok (.lastore, 1) := by decide +kernel
theorem dL_surveyor_9 : decode cL_surveyor 9 = .ok (.goto 9, 3) := by decide +kernel
theorem dL_surveyor_12 : decode cL_surveyor 12 = .ok (.astore_n 3, 1) := by decide +kernel
theorem dL_surveyor_13 : decode cL_surveyor 13 = .ok (.iconst 1, 1) := by decide +kernel
theorem dL_surveyor_14 : decode cL_surveyor 14 = .ok (.ireturn, 1) := by decide +kernel
theorem dL_surveyor_15 : decode cL_surveyor 15 = .ok (.astore_n 3, 1) := by decide +kernel
theorem dL_surveyor_16 : decode cL_surveyor 16 = .ok (.iconst 2, 1) := by decide +kernel
theorem dL_surveyor_17 : decode cL_surveyor 17 = .ok (.ireturn, 1) := by decide +kernel
theorem dL_surveyor_18 : decode cL_surveyor 18 = .ok (.iconst 0, 1) := by decide +kernel
theorem dL_surveyor_19 : decode cL_surveyor 19 = .ok (.ireturn, 1) := by decide +kernel
theorem dL_appoint_0 : decode cL_appoint 0 = .ok (.aload 5, 2) := by decide +kernel
theorem dL_appoint_2 : decode cL_appoint 2 = .ok (.iconst 0, 1) := by decide +kernel
theorem dL_appoint_3 : decode cL_appoint 3 = .ok (.aload_n 0, 1) := by decide +kernel
theorem dL_appoint_4 : decode cL_appoint 4 = .ok (.iload_n 1, 1) := by decide +kernel
theorem dL_appoint_5 : decode cL_appoint 5 = .ok (.iload_n 2, 1) := by decide +kernel
theorem dL_appoint_6 : decode cL_appoint 6 = .ok (.iload_n 3, 1) := by decide +kernel
theorem dL_appoint_7 : decode cL_appoint 7 = .ok (.iload 4, 2) := by decide +kernel
theorem dL_appoint_9 : decode cL_appoint 9 = .ok (.invokevirtual 57, 3) := by decide +kernel
theorem dL_appoint_12 : decode cL_appoint 12 = .ok (.i2l, 1) := by decide +kernel
theorem dL_appoint_13 : decode cL_appoint 13 = .ok (.lastore, 1) := by decide +kernel
theorem dL_appoint_14 : decode cL_appoint 14 = .ok (.goto 11, 3) := by decide +kernel
theorem dL_appoint_17 : decode cL_appoint 17 = .ok (.astore 6, 2) := by decide +kernel
theorem dL_appoint_19 : decode cL_appoint 19 = .ok (.iconst 1, 1) := by decide +kernel
theorem dL_appoint_20 : decode cL_appoint 20 = .ok (.ireturn, 1) := by decide +kernel
theorem dL_appoint_21 : decode cL_appoint 21 = .ok (.astore 6, 2) := by decide +kernel
theorem dL_appoint_23 : decode cL_appoint 23 = .ok (.iconst 2, 1) := by decide +kernel
theorem dL_appoint_24 : decode cL_appoint 24 = .ok (.ireturn, 1) := by decide +kernel
theorem dL_appoint_25 : decode cL_appoint 25 = .ok (.iconst 0, 1) := by decide +kernel
theorem dL_appoint_26 : decode cL_appoint 26 = .ok (.ireturn, 1) := by decide +kernel
theorem dL_surveys_0 : decode cL_surveys 0 = .ok (.aload_n 3, 1) := by decide +kernel
theorem dL_surveys_1 : decode cL_surveys 1 = .ok (.iconst 0, 1) := by decide +kernel
theorem dL_surveys_2 : decode cL_surveys 2 = .ok (.aload_n 0, 1) := by decide +kernel
theorem dL_surveys_3 : decode cL_surveys 3 = .ok (.iload_n 1, 1) := by decide +kernel
theorem dL_surveys_4 : decode cL_surveys 4 = .ok (.iload_n 2, 1) := by decide +kernel
theorem dL_surveys_5 : decode cL_surveys 5 = .ok (.invokevirtual 61, 3) := by decide +kernel
theorem dL_surveys_8 : decode cL_surveys 8 = .ok (.i2l, 1) := by decide +kernel
theorem dL_surveys_9 : decode cL_surveys 9 = .ok (.lastore, 1) := by decide +kernel
theorem dL_surveys_10 : decode cL_surveys 10 = .ok (.goto 11, 3) := by decide +kernel
theorem dL_surveys_13 : decode cL_surveys 13 = .ok (.astore 4, 2) := by decide +kernel
theorem dL_surveys_15 : decode cL_surveys 15 = .ok (.iconst 1, 1) := by decide +kernel
theorem dL_surveys_16 : decode cL_surveys 16 = .ok (.ireturn, 1) := by decide +kernel
theorem dL_surveys_17 : decode cL_surveys 17 = .ok (.astore 4, 2) := by decide +kernel
theorem dL_surveys_19 : decode cL_surveys 19 = .ok (.iconst 2, 1) := by decide +kernel
theorem dL_surveys_20 : decode cL_surveys 20 = .ok (.ireturn, 1) := by decide +kernel
theorem dL_surveys_21 : decode cL_surveys 21 = .ok (.iconst 0, 1) := by decide +kernel
theorem dL_surveys_22 : decode cL_surveys 22 = .ok (.ireturn, 1) := by decide +kernel
theorem dL_propose_0 : decode cL_propose 0 = .ok (.aload 6, 2) := by decide +kernel
theorem dL_propose_2 : decode cL_propose 2 = .ok (.iconst 0, 1) := by decide +kernel
theorem dL_propose_3 : decode cL_propose 3 = .ok (.aload_n 0, 1) := by decide +kernel
theorem dL_propose_4 : decode cL_propose 4 = .ok (.iload_n 1, 1) := by decide +kernel
theorem dL_propose_5 : decode cL_propose 5 = .ok (.iload_n 2, 1) := by decide +kernel
theorem dL_propose_6 : decode cL_propose 6 = .ok (.iload_n 3, 1) := by decide +kernel
theorem dL_propose_7 : decode cL_propose 7 = .ok (.iload 4, 2) := by decide +kernel
theorem dL_propose_9 : decode cL_propose 9 = .ok (.iload 5, 2) := by decide +kernel
theorem dL_propose_11 : decode cL_propose 11 = .ok (.invokevirtual 64, 3) := by decide +kernel
theorem dL_propose_14 : decode cL_propose 14 = .ok (.i2l, 1) := by decide +kernel
theorem dL_propose_15 : decode cL_propose 15 = .ok (.lastore, 1) := by decide +kernel
theorem dL_propose_16 : decode cL_propose 16 = .ok (.goto 11, 3) := by decide +kernel
theorem dL_propose_19 : decode cL_propose 19 = .ok (.astore 7, 2) := by decide +kernel
theorem dL_propose_21 : decode cL_propose 21 = .ok (.iconst 1, 1) := by decide +kernel
theorem dL_propose_22 : decode cL_propose 22 = .ok (.ireturn, 1) := by decide +kernel
theorem dL_propose_23 : decode cL_propose 23 = .ok (.astore 7, 2) := by decide +kernel
theorem dL_propose_25 : decode cL_propose 25 = .ok (.iconst 2, 1) := by decide +kernel
theorem dL_propose_26 : decode cL_propose 26 = .ok (.ireturn, 1) := by decide +kernel
theorem dL_propose_27 : decode cL_propose 27 = .ok (.iconst 0, 1) := by decide +kernel
theorem dL_propose_28 : decode cL_propose 28 = .ok (.ireturn, 1) := by decide +kernel
theorem dL_appeal_0 : decode cL_appeal 0 = .ok (.aload_n 2, 1) := by decide +kernel
theorem dL_appeal_1 : decode cL_appeal 1 = .ok (.iconst 0, 1) := by decide +kernel
theorem dL_appeal_2 : decode cL_appeal 2 = .ok (.aload_n 0, 1) := by decide +kernel
theorem dL_appeal_3 : decode cL_appeal 3 = .ok (.iload_n 1, 1) := by decide +kernel
theorem dL_appeal_4 : decode cL_appeal 4 = .ok (.invokevirtual 68, 3) := by decide +kernel
theorem dL_appeal_7 : decode cL_appeal 7 = .ok (.i2l, 1) := by decide +kernel
theorem dL_appeal_8 : decode cL_appeal 8 = .ok (.lastore, 1) := by decide +kernel
theorem dL_appeal_9 : decode cL_appeal 9 = .ok (.goto 6, 3) := by decide +kernel
theorem dL_appeal_12 : decode cL_appeal 12 = .ok (.astore_n 3, 1) := by decide +kernel
theorem dL_appeal_13 : decode cL_appeal 13 = .ok (.iconst 1, 1) := by decide +kernel
theorem dL_appeal_14 : decode cL_appeal 14 = .ok (.ireturn, 1) := by decide +kernel
theorem dL_appeal_15 : decode cL_appeal 15 = .ok (.iconst 0, 1) := by decide +kernel
theorem dL_appeal_16 : decode cL_appeal 16 = .ok (.ireturn, 1) := by decide +kernel
theorem dL_begin_0 : decode cL_begin 0 = .ok (.aload_n 2, 1) := by decide +kernel
theorem dL_begin_1 : decode cL_begin 1 = .ok (.iconst 0, 1) := by decide +kernel
theorem dL_begin_2 : decode cL_begin 2 = .ok (.aload_n 0, 1) := by decide +kernel
theorem dL_begin_3 : decode cL_begin 3 = .ok (.iload_n 1, 1) := by decide +kernel
theorem dL_begin_4 : decode cL_begin 4 = .ok (.invokevirtual 71, 3) := by decide +kernel
theorem dL_begin_7 : decode cL_begin 7 = .ok (.i2l, 1) := by decide +kernel
theorem dL_begin_8 : decode cL_begin 8 = .ok (.lastore, 1) := by decide +kernel
theorem dL_begin_9 : decode cL_begin 9 = .ok (.goto 6, 3) := by decide +kernel
theorem dL_begin_12 : decode cL_begin 12 = .ok (.astore_n 3, 1) := by decide +kernel
theorem dL_begin_13 : decode cL_begin 13 = .ok (.iconst 1, 1) := by decide +kernel
theorem dL_begin_14 : decode cL_begin 14 = .ok (.ireturn, 1) := by decide +kernel
theorem dL_begin_15 : decode cL_begin 15 = .ok (.iconst 0, 1) := by decide +kernel
theorem dL_begin_16 : decode cL_begin 16 = .ok (.ireturn, 1) := by decide +kernel
theorem dL_done_0 : decode cL_done 0 = .ok (.aload_n 2, 1) := by decide +kernel
theorem dL_done_1 : decode cL_done 1 = .ok (.iconst 0, 1) := by decide +kernel
theorem dL_done_2 : decode cL_done 2 = .ok (.aload_n 0, 1) := by decide +kernel
theorem dL_done_3 : decode cL_done 3 = .ok (.iload_n 1, 1) := by decide +kernel
theorem dL_done_4 : decode cL_done 4 = .ok (.invokevirtual 74, 3) := by decide +kernel
theorem dL_done_7 : decode cL_done 7 = .ok (.i2l, 1) := by decide +kernel
theorem dL_done_8 : decode cL_done 8 = .ok (.lastore, 1) := by decide +kernel
theorem dL_done_9 : decode cL_done 9 = .ok (.goto 6, 3) := by decide +kernel
theorem dL_done_12 : decode cL_done 12 = .ok (.astore_n 3, 1) := by decide +kernel
theorem dL_done_13 : decode cL_done 13 = .ok (.iconst 1, 1) := by decide +kernel
theorem dL_done_14 : decode cL_done 14 = .ok (.ireturn, 1) := by decide +kernel
theorem dL_done_15 : decode cL_done 15 = .ok (.iconst 0, 1) := by decide +kernel
theorem dL_done_16 : decode cL_done 16 = .ok (.ireturn, 1) := by decide +kernel
theorem dL_enter_0 : decode cL_enter 0 = .ok (.aload_n 3, 1) := by decide +kernel
theorem dL_enter_1 : decode cL_enter 1 = .ok (.iconst 0, 1) := by decide +kernel
theorem dL_enter_2 : decode cL_enter 2 = .ok (.aload_n 0, 1) := by decide +kernel
theorem dL_enter_3 : decode cL_enter 3 = .ok (.iload_n 1, 1) := by decide +kernel
theorem dL_enter_4 : decode cL_enter 4 = .ok (.iload_n 2, 1) := by decide +kernel
theorem dL_enter_5 : decode cL_enter 5 = .ok (.invokevirtual 77, 3) := by decide +kernel
theorem dL_enter_8 : decode cL_enter 8 = .ok (.i2l, 1) := by decide +kernel
theorem dL_enter_9 : decode cL_enter 9 = .ok (.lastore, 1) := by decide +kernel
theorem dL_enter_10 : decode cL_enter 10 = .ok (.goto 11, 3) := by decide +kernel
theorem dL_enter_13 : decode cL_enter 13 = .ok (.astore 4, 2) := by decide +kernel
theorem dL_enter_15 : decode cL_enter 15 = .ok (.iconst 1, 1) := by decide +kernel
theorem dL_enter_16 : decode cL_enter 16 = .ok (.ireturn, 1) := by decide +kernel
theorem dL_enter_17 : decode cL_enter 17 = .ok (.astore 4, 2) := by decide +kernel
theorem dL_enter_19 : decode cL_enter 19 = .ok (.iconst 2, 1) := by decide +kernel
theorem dL_enter_20 : decode cL_enter 20 = .ok (.ireturn, 1) := by decide +kernel
theorem dL_enter_21 : decode cL_enter 21 = .ok (.iconst 0, 1) := by decide +kernel
theorem dL_enter_22 : decode cL_enter 22 = .ok (.ireturn, 1) := by decide +kernel
theorem dL_entries_0 : decode cL_entries 0 = .ok (.aload_n 3, 1) := by decide +kernel
theorem dL_entries_1 : decode cL_entries 1 = .ok (.iconst 0, 1) := by decide +kernel
theorem dL_entries_2 : decode cL_entries 2 = .ok (.aload_n 0, 1) := by decide +kernel
theorem dL_entries_3 : decode cL_entries 3 = .ok (.iload_n 1, 1) := by decide +kernel
theorem dL_entries_4 : decode cL_entries 4 = .ok (.iload_n 2, 1) := by decide +kernel
theorem dL_entries_5 : decode cL_entries 5 = .ok (.invokevirtual 80, 3) := by decide +kernel
theorem dL_entries_8 : decode cL_entries 8 = .ok (.i2l, 1) := by decide +kernel
theorem dL_entries_9 : decode cL_entries 9 = .ok (.lastore, 1) := by decide +kernel
theorem dL_entries_10 : decode cL_entries 10 = .ok (.goto 11, 3) := by decide +kernel
theorem dL_entries_13 : decode cL_entries 13 = .ok (.astore 4, 2) := by decide +kernel
theorem dL_entries_15 : decode cL_entries 15 = .ok (.iconst 1, 1) := by decide +kernel
theorem dL_entries_16 : decode cL_entries 16 = .ok (.ireturn, 1) := by decide +kernel
theorem dL_entries_17 : decode cL_entries 17 = .ok (.astore 4, 2) := by decide +kernel
theorem dL_entries_19 : decode cL_entries 19 = .ok (.iconst 2, 1) := by decide +kernel
theorem dL_entries_20 : decode cL_entries 20 = .ok (.ireturn, 1) := by decide +kernel
theorem dL_entries_21 : decode cL_entries 21 = .ok (.iconst 0, 1) := by decide +kernel
theorem dL_entries_22 : decode cL_entries 22 = .ok (.ireturn, 1) := by decide +kernel
theorem dL_build_0 : decode cL_build 0 = .ok (.aload 6, 2) := by decide +kernel
theorem dL_build_2 : decode cL_build 2 = .ok (.iconst 0, 1) := by decide +kernel
theorem dL_build_3 : decode cL_build 3 = .ok (.aload_n 0, 1) := by decide +kernel
theorem dL_build_4 : decode cL_build 4 = .ok (.iload_n 1, 1) := by decide +kernel
theorem dL_build_5 : decode cL_build 5 = .ok (.iload_n 2, 1) := by decide +kernel
theorem dL_build_6 : decode cL_build 6 = .ok (.iload_n 3, 1) := by decide +kernel
theorem dL_build_7 : decode cL_build 7 = .ok (.iload 4, 2) := by decide +kernel
theorem dL_build_9 : decode cL_build 9 = .ok (.iload 5, 2) := by decide +kernel
theorem dL_build_11 : decode cL_build 11 = .ok (.invokevirtual 83, 3) := by decide +kernel
theorem dL_build_14 : decode cL_build 14 = .ok (.i2l, 1) := by decide +kernel
theorem dL_build_15 : decode cL_build 15 = .ok (.lastore, 1) := by decide +kernel
theorem dL_build_16 : decode cL_build 16 = .ok (.goto 11, 3) := by decide +kernel
theorem dL_build_19 : decode cL_build 19 = .ok (.astore 7, 2) := by decide +kernel
theorem dL_build_21 : decode cL_build 21 = .ok (.iconst 1, 1) := by decide +kernel
theorem dL_build_22 : decode cL_build 22 = .ok (.ireturn, 1) := by decide +kernel
theorem dL_build_23 : decode cL_build 23 = .ok (.astore 7, 2) := by decide +kernel
theorem dL_build_25 : decode cL_build 25 = .ok (.iconst 2, 1) := by decide +kernel
theorem dL_build_26 : decode cL_build 26 = .ok (.ireturn, 1) := by decide +kernel
theorem dL_build_27 : decode cL_build 27 = .ok (.iconst 0, 1) := by decide +kernel
theorem dL_build_28 : decode cL_build 28 = .ok (.ireturn, 1) := by decide +kernel
theorem dL_lower_0 : decode cL_lower 0 = .ok (.aload 4, 2) := by decide +kernel
theorem dL_lower_2 : decode cL_lower 2 = .ok (.iconst 0, 1) := by decide +kernel
theorem dL_lower_3 : decode cL_lower 3 = .ok (.aload_n 0, 1) := by decide +kernel
theorem dL_lower_4 : decode cL_lower 4 = .ok (.iload_n 1, 1) := by decide +kernel
theorem dL_lower_5 : decode cL_lower 5 = .ok (.iload_n 2, 1) := by decide +kernel
theorem dL_lower_6 : decode cL_lower 6 = .ok (.iload_n 3, 1) := by decide +kernel
theorem dL_lower_7 : decode cL_lower 7 = .ok (.invokevirtual 86, 3) := by decide +kernel
theorem dL_lower_10 : decode cL_lower 10 = .ok (.i2l, 1) := by decide +kernel
theorem dL_lower_11 : decode cL_lower 11 = .ok (.lastore, 1) := by decide +kernel
theorem dL_lower_12 : decode cL_lower 12 = .ok (.goto 11, 3) := by decide +kernel
theorem dL_lower_15 : decode cL_lower 15 = .ok (.astore 5, 2) := by decide +kernel
theorem dL_lower_17 : decode cL_lower 17 = .ok (.iconst 1, 1) := by decide +kernel
theorem dL_lower_18 : decode cL_lower 18 = .ok (.ireturn, 1) := by decide +kernel
theorem dL_lower_19 : decode cL_lower 19 = .ok (.astore 5, 2) := by decide +kernel
theorem dL_lower_21 : decode cL_lower 21 = .ok (.iconst 2, 1) := by decide +kernel
theorem dL_lower_22 : decode cL_lower 22 = .ok (.ireturn, 1) := by decide +kernel
theorem dL_lower_23 : decode cL_lower 23 = .ok (.iconst 0, 1) := by decide +kernel
theorem dL_lower_24 : decode cL_lower 24 = .ok (.ireturn, 1) := by decide +kernel
theorem dL_use_0 : decode cL_use 0 = .ok (.aload 6, 2) := by decide +kernel
theorem dL_use_2 : decode cL_use 2 = .ok (.iconst 0, 1) := by decide +kernel
theorem dL_use_3 : decode cL_use 3 = .ok (.aload_n 0, 1) := by decide +kernel
theorem dL_use_4 : decode cL_use 4 = .ok (.iload_n 1, 1) := by decide +kernel
theorem dL_use_5 : decode cL_use 5 = .ok (.iload_n 2, 1) := by decide +kernel
theorem dL_use_6 : decode cL_use 6 = .ok (.iload_n 3, 1) := by decide +kernel
theorem dL_use_7 : decode cL_use 7 = .ok (.iload 4, 2) := by decide +kernel
theorem dL_use_9 : decode cL_use 9 = .ok (.iload 5, 2) := by decide +kernel
theorem dL_use_11 : decode cL_use 11 = .ok (.invokevirtual 89, 3) := by decide +kernel
theorem dL_use_14 : decode cL_use 14 = .ok (.i2l, 1) := by decide +kernel
theorem dL_use_15 : decode cL_use 15 = .ok (.lastore, 1) := by decide +kernel
theorem dL_use_16 : decode cL_use 16 = .ok (.goto 11, 3) := by decide +kernel
theorem dL_use_19 : decode cL_use 19 = .ok (.astore 7, 2) := by decide +kernel
theorem dL_use_21 : decode cL_use 21 = .ok (.iconst 1, 1) := by decide +kernel
theorem dL_use_22 : decode cL_use 22 = .ok (.ireturn, 1) := by decide +kernel
theorem dL_use_23 : decode cL_use 23 = .ok (.astore 7, 2) := by decide +kernel
theorem dL_use_25 : decode cL_use 25 = .ok (.iconst 2, 1) := by decide +kernel
theorem dL_use_26 : decode cL_use 26 = .ok (.ireturn, 1) := by decide +kernel
theorem dL_use_27 : decode cL_use 27 = .ok (.iconst 0, 1) := by decide +kernel
theorem dL_use_28 : decode cL_use 28 = .ok (.ireturn, 1) := by decide +kernel
theorem dL_cell_0 : decode cL_cell 0 = .ok (.aload 5, 2) := by decide +kernel
theorem dL_cell_2 : decode cL_cell 2 = .ok (.iconst 0, 1) := by decide +kernel
theorem dL_cell_3 : decode cL_cell 3 = .ok (.aload_n 0, 1) := by decide +kernel
theorem dL_cell_4 : decode cL_cell 4 = .ok (.iload_n 1, 1) := by decide +kernel
theorem dL_cell_5 : decode cL_cell 5 = .ok (.iload_n 2, 1) := by decide +kernel
theorem dL_cell_6 : decode cL_cell 6 = .ok (.iload_n 3, 1) := by decide +kernel
theorem dL_cell_7 : decode cL_cell 7 = .ok (.iload 4, 2) := by decide +kernel
theorem dL_cell_9 : decode cL_cell 9 = .ok (.invokevirtual 92, 3) := by decide +kernel
theorem dL_cell_12 : decode cL_cell 12 = .ok (.i2l, 1) := by decide +kernel
theorem dL_cell_13 : decode cL_cell 13 = .ok (.lastore, 1) := by decide +kernel
theorem dL_cell_14 : decode cL_cell 14 = .ok (.goto 11, 3) := by decide +kernel
theorem dL_cell_17 : decode cL_cell 17 = .ok (.astore 6, 2) := by decide +kernel
theorem dL_cell_19 : decode cL_cell 19 = .ok (.iconst 1, 1) := by decide +kernel
theorem dL_cell_20 : decode cL_cell 20 = .ok (.ireturn, 1) := by decide +kernel
theorem dL_cell_21 : decode cL_cell 21 = .ok (.astore 6, 2) := by decide +kernel
theorem dL_cell_23 : decode cL_cell 23 = .ok (.iconst 2, 1) := by decide +kernel
theorem dL_cell_24 : decode cL_cell 24 = .ok (.ireturn, 1) := by decide +kernel
theorem dL_cell_25 : decode cL_cell 25 = .ok (.iconst 0, 1) := by decide +kernel
theorem dL_cell_26 : decode cL_cell 26 = .ok (.ireturn, 1) := by decide +kernel
theorem dL_spend_0 : decode cL_spend 0 = .ok (.aload_n 3, 1) := by decide +kernel
theorem dL_spend_1 : decode cL_spend 1 = .ok (.iconst 0, 1) := by decide +kernel
theorem dL_spend_2 : decode cL_spend 2 = .ok (.aload_n 0, 1) := by decide +kernel
theorem dL_spend_3 : decode cL_spend 3 = .ok (.iload_n 1, 1) := by decide +kernel
theorem dL_spend_4 : decode cL_spend 4 = .ok (.iload_n 2, 1) := by decide +kernel
theorem dL_spend_5 : decode cL_spend 5 = .ok (.invokevirtual 95, 3) := by decide +kernel
theorem dL_spend_8 : decode cL_spend 8 = .ok (.i2l, 1) := by decide +kernel
theorem dL_spend_9 : decode cL_spend 9 = .ok (.lastore, 1) := by decide +kernel
theorem dL_spend_10 : decode cL_spend 10 = .ok (.goto 11, 3) := by decide +kernel
theorem dL_spend_13 : decode cL_spend 13 = .ok (.astore 4, 2) := by decide +kernel
theorem dL_spend_15 : decode cL_spend 15 = .ok (.iconst 1, 1) := by decide +kernel
theorem dL_spend_16 : decode cL_spend 16 = .ok (.ireturn, 1) := by decide +kernel
theorem dL_spend_17 : decode cL_spend 17 = .ok (.astore 4, 2) := by decide +kernel
theorem dL_spend_19 : decode cL_spend 19 = .ok (.iconst 2, 1) := by decide +kernel
theorem dL_spend_20 : decode cL_spend 20 = .ok (.ireturn, 1) := by decide +kernel
theorem dL_spend_21 : decode cL_spend 21 = .ok (.iconst 0, 1) := by decide +kernel
theorem dL_spend_22 : decode cL_spend 22 = .ok (.ireturn, 1) := by decide +kernel
theorem dL_secure_0 : decode cL_secure 0 = .ok (.aload_n 3, 1) := by decide +kernel
theorem dL_secure_1 : decode cL_secure 1 = .ok (.iconst 0, 1) := by decide +kernel
theorem dL_secure_2 : decode cL_secure 2 = .ok (.aload_n 0, 1) := by decide +kernel
theorem dL_secure_3 : decode cL_secure 3 = .ok (.iload_n 1, 1) := by decide +kernel
theorem dL_secure_4 : decode cL_secure 4 = .ok (.iload_n 2, 1) := by decide +kernel
theorem dL_secure_5 : decode cL_secure 5 = .ok (.invokevirtual 98, 3) := by decide +kernel
theorem dL_secure_8 : decode cL_secure 8 = .ok (.i2l, 1) := by decide +kernel
theorem dL_secure_9 : decode cL_secure 9 = .ok (.lastore, 1) := by decide +kernel
theorem dL_secure_10 : decode cL_secure 10 = .ok (.goto 11, 3) := by decide +kernel
theorem dL_secure_13 : decode cL_secure 13 = .ok (.astore 4, 2) := by decide +kernel
theorem dL_secure_15 : decode cL_secure 15 = .ok (.iconst 1, 1) := by decide +kernel
theorem dL_secure_16 : decode cL_secure 16 = .ok (.ireturn, 1) := by decide +kernel
theorem dL_secure_17 : decode cL_secure 17 = .ok (.astore 4, 2) := by decide +kernel
theorem dL_secure_19 : decode cL_secure 19 = .ok (.iconst 2, 1) := by decide +kernel
theorem dL_secure_20 : decode cL_secure 20 = .ok (.ireturn, 1) := by decide +kernel
theorem dL_secure_21 : decode cL_secure 21 = .ok (.iconst 0, 1) := by decide +kernel
theorem dL_secure_22 : decode cL_secure 22 = .ok (.ireturn, 1) := by decide +kernel
theorem dL_settle_0 : decode cL_settle 0 = .ok (.aload_n 3, 1) := by decide +kernel
theorem dL_settle_1 : decode cL_settle 1 = .ok (.iconst 0, 1) := by decide +kernel
theorem dL_settle_2 : decode cL_settle 2 = .ok (.aload_n 0, 1) := by decide +kernel
theorem dL_settle_3 : decode cL_settle 3 = .ok (.iload_n 1, 1) := by decide +kernel
theorem dL_settle_4 : decode cL_settle 4 = .ok (.iload_n 2, 1) := by decide +kernel
theorem dL_settle_5 : decode cL_settle 5 = .ok (.invokevirtual 101, 3) := by decide +kernel
theorem dL_settle_8 : decode cL_settle 8 = .ok (.i2l, 1) := by decide +kernel
theorem dL_settle_9 : decode cL_settle 9 = .ok (.lastore, 1) := by decide +kernel
theorem dL_settle_10 : decode cL_settle 10 = .ok (.goto 11, 3) := by decide +kernel
theorem dL_settle_13 : decode cL_settle 13 = .ok (.astore 4, 2) := by decide +kernel
theorem dL_settle_15 : decode cL_settle 15 = .ok (.iconst 1, 1) := by decide +kernel
theorem dL_settle_16 : decode cL_settle 16 = .ok (.ireturn, 1) := by decide +kernel
theorem dL_settle_17 : decode cL_settle 17 = .ok (.astore 4, 2) := by decide +kernel
theorem dL_settle_19 : decode cL_settle 19 = .ok (.iconst 2, 1) := by decide +kernel
theorem dL_settle_20 : decode cL_settle 20 = .ok (.ireturn, 1) := by decide +kernel
theorem dL_settle_21 : decode cL_settle 21 = .ok (.iconst 0, 1) := by decide +kernel
theorem dL_settle_22 : decode cL_settle 22 = .ok (.ireturn, 1) := by decide +kernel
theorem dL_mend_0 : decode cL_mend 0 = .ok (.aload_n 3, 1) := by decide +kernel
theorem dL_mend_1 : decode cL_mend 1 = .ok (.iconst 0, 1) := by decide +kernel
theorem dL_mend_2 : decode cL_mend 2 = .ok (.aload_n 0, 1) := by decide +kernel
theorem dL_mend_3 : decode cL_mend 3 = .ok (.iload_n 1, 1) := by decide +kernel
theorem dL_mend_4 : decode cL_mend 4 = .ok (.iload_n 2, 1) := by decide +kernel
theorem dL_mend_5 : decode cL_mend 5 = .ok (.invokevirtual 104, 3) := by decide +kernel
theorem dL_mend_8 : decode cL_mend 8 = .ok (.i2l, 1) := by decide +kernel
theorem dL_mend_9 : decode cL_mend 9 = .ok (.lastore, 1) := by decide +kernel
theorem dL_mend_10 : decode cL_mend 10 = .ok (.goto 11, 3) := by decide +kernel
theorem dL_mend_13 : decode cL_mend 13 = .ok (.astore 4, 2) := by decide +kernel
theorem dL_mend_15 : decode cL_mend 15 = .ok (.iconst 1, 1) := by decide +kernel
theorem dL_mend_16 : decode cL_mend 16 = .ok (.ireturn, 1) := by decide +kernel
theorem dL_mend_17 : decode cL_mend 17 = .ok (.astore 4, 2) := by decide +kernel
theorem dL_mend_19 : decode cL_mend 19 = .ok (.iconst 2, 1) := by decide +kernel
theorem dL_mend_20 : decode cL_mend 20 = .ok (.ireturn, 1) := by decide +kernel
theorem dL_mend_21 : decode cL_mend 21 = .ok (.iconst 0, 1) := by decide +kernel
theorem dL_mend_22 : decode cL_mend 22 = .ok (.ireturn, 1) := by decide +kernel
theorem dL_payment_0 : decode cL_payment 0 = .ok (.aload_n 3, 1) := by decide +kernel
theorem dL_payment_1 : decode cL_payment 1 = .ok (.iconst 0, 1) := by decide +kernel
theorem dL_payment_2 : decode cL_payment 2 = .ok (.aload_n 0, 1) := by decide +kernel
theorem dL_payment_3 : decode cL_payment 3 = .ok (.iload_n 1, 1) := by decide +kernel
theorem dL_payment_4 : decode cL_payment 4 = .ok (.iload_n 2, 1) := by decide +kernel
theorem dL_payment_5 : decode cL_payment 5 = .ok (.invokevirtual 107, 3) := by decide +kernel
theorem dL_payment_8 : decode cL_payment 8 = .ok (.i2l, 1) := by decide +kernel
theorem dL_payment_9 : decode cL_payment 9 = .ok (.lastore, 1) := by decide +kernel
theorem dL_payment_10 : decode cL_payment 10 = .ok (.goto 11, 3) := by decide +kernel
theorem dL_payment_13 : decode cL_payment 13 = .ok (.astore 4, 2) := by decide +kernel
theorem dL_payment_15 : decode cL_payment 15 = .ok (.iconst 1, 1) := by decide +kernel
theorem dL_payment_16 : decode cL_payment 16 = .ok (.ireturn, 1) := by decide +kernel
theorem dL_payment_17 : decode cL_payment 17 = .ok (.astore 4, 2) := by decide +kernel
theorem dL_payment_19 : decode cL_payment 19 = .ok (.iconst 2, 1) := by decide +kernel
theorem dL_payment_20 : decode cL_payment 20 = .ok (.ireturn, 1) := by decide +kernel
theorem dL_payment_21 : decode cL_payment 21 = .ok (.iconst 0, 1) := by decide +kernel
theorem dL_payment_22 : decode cL_payment 22 = .ok (.ireturn, 1) := by decide +kernel
theorem dL_balance_0 : decode cL_balance 0 = .ok (.aload 4, 2) := by decide +kernel
theorem dL_balance_2 : decode cL_balance 2 = .ok (.iconst 0, 1) := by decide +kernel
theorem dL_balance_3 : decode cL_balance 3 = .ok (.aload_n 0, 1) := by decide +kernel
theorem dL_balance_4 : decode cL_balance 4 = .ok (.iload_n 1, 1) := by decide +kernel
theorem dL_balance_5 : decode cL_balance 5 = .ok (.iload_n 2, 1) := by decide +kernel
theorem dL_balance_6 : decode cL_balance 6 = .ok (.iload_n 3, 1) := by decide +kernel
theorem dL_balance_7 : decode cL_balance 7 = .ok (.invokevirtual 110, 3) := by decide +kernel
theorem dL_balance_10 : decode cL_balance 10 = .ok (.lastore, 1) := by decide +kernel
theorem dL_balance_11 : decode cL_balance 11 = .ok (.goto 7, 3) := by decide +kernel
theorem dL_balance_14 : decode cL_balance 14 = .ok (.astore 5, 2) := by decide +kernel
theorem dL_balance_16 : decode cL_balance 16 = .ok (.iconst 1, 1) := by decide +kernel
theorem dL_balance_17 : decode cL_balance 17 = .ok (.ireturn, 1) := by decide +kernel
theorem dL_balance_18 : decode cL_balance 18 = .ok (.iconst 0, 1) := by decide +kernel
theorem dL_balance_19 : decode cL_balance 19 = .ok (.ireturn, 1) := by decide +kernel
theorem dL_hand_0 : decode cL_hand 0 = .ok (.aload_n 2, 1) := by decide +kernel
theorem dL_hand_1 : decode cL_hand 1 = .ok (.iconst 0, 1) := by decide +kernel
theorem dL_hand_2 : decode cL_hand 2 = .ok (.aload_n 0, 1) := by decide +kernel
theorem dL_hand_3 : decode cL_hand 3 = .ok (.iload_n 1, 1) := by decide +kernel
theorem dL_hand_4 : decode cL_hand 4 = .ok (.invokevirtual 114, 3) := by decide +kernel
theorem dL_hand_7 : decode cL_hand 7 = .ok (.i2l, 1) := by decide +kernel
theorem dL_hand_8 : decode cL_hand 8 = .ok (.lastore, 1) := by decide +kernel
theorem dL_hand_9 : decode cL_hand 9 = .ok (.goto 9, 3) := by decide +kernel
theorem dL_hand_12 : decode cL_hand 12 = .ok (.astore_n 3, 1) := by decide +kernel
theorem dL_hand_13 : decode cL_hand 13 = .ok (.iconst 1, 1) := by decide +kernel
theorem dL_hand_14 : decode cL_hand 14 = .ok (.ireturn, 1) := by decide +kernel
theorem dL_hand_15 : decode cL_hand 15 = .ok (.astore_n 3, 1) := by decide +kernel
theorem dL_hand_16 : decode cL_hand 16 = .ok (.iconst 2, 1) := by decide +kernel
theorem dL_hand_17 : decode cL_hand 17 = .ok (.ireturn, 1) := by decide +kernel
theorem dL_hand_18 : decode cL_hand 18 = .ok (.iconst 0, 1) := by decide +kernel
theorem dL_hand_19 : decode cL_hand 19 = .ok (.ireturn, 1) := by decide +kernel
theorem dL_survey_0 : decode cL_survey 0 = .ok (.aload_n 2, 1) := by decide +kernel
theorem dL_survey_1 : decode cL_survey 1 = .ok (.iconst 0, 1) := by decide +kernel
theorem dL_survey_2 : decode cL_survey 2 = .ok (.aload_n 0, 1) := by decide +kernel
theorem dL_survey_3 : decode cL_survey 3 = .ok (.iload_n 1, 1) := by decide +kernel
theorem dL_survey_4 : decode cL_survey 4 = .ok (.invokevirtual 117, 3) := by decide +kernel
theorem dL_survey_7 : decode cL_survey 7 = .ok (.i2l, 1) := by decide +kernel
theorem dL_survey_8 : decode cL_survey 8 = .ok (.lastore, 1) := by decide +kernel
theorem dL_survey_9 : decode cL_survey 9 = .ok (.goto 9, 3) := by decide +kernel
theorem dL_survey_12 : decode cL_survey 12 = .ok (.astore_n 3, 1) := by decide +kernel
theorem dL_survey_13 : decode cL_survey 13 = .ok (.iconst 1, 1) := by decide +kernel
theorem dL_survey_14 : decode cL_survey 14 = .ok (.ireturn, 1) := by decide +kernel
theorem dL_survey_15 : decode cL_survey 15 = .ok (.astore_n 3, 1) := by decide +kernel
theorem dL_survey_16 : decode cL_survey 16 = .ok (.iconst 2, 1) := by decide +kernel
theorem dL_survey_17 : decode cL_survey 17 = .ok (.ireturn, 1) := by decide +kernel
theorem dL_survey_18 : decode cL_survey 18 = .ok (.iconst 0, 1) := by decide +kernel
theorem dL_survey_19 : decode cL_survey 19 = .ok (.ireturn, 1) := by decide +kernel
theorem dL_crack_0 : decode cL_crack 0 = .ok (.aload 4, 2) := by decide +kernel
theorem dL_crack_2 : decode cL_crack 2 = .ok (.iconst 0, 1) := by decide +kernel
theorem dL_crack_3 : decode cL_crack 3 = .ok (.aload_n 0, 1) := by decide +kernel
theorem dL_crack_4 : decode cL_crack 4 = .ok (.iload_n 1, 1) := by decide +kernel
theorem dL_crack_5 : decode cL_crack 5 = .ok (.iload_n 2, 1) := by decide +kernel
theorem dL_crack_6 : decode cL_crack 6 = .ok (.iload_n 3, 1) := by decide +kernel
theorem dL_crack_7 : decode cL_crack 7 = .ok (.invokevirtual 120, 3) := by decide +kernel
theorem dL_crack_10 : decode cL_crack 10 = .ok (.i2l, 1) := by decide +kernel
theorem dL_crack_11 : decode cL_crack 11 = .ok (.lastore, 1) := by decide +kernel
theorem dL_crack_12 : decode cL_crack 12 = .ok (.goto 11, 3) := by decide +kernel
theorem dL_crack_15 : decode cL_crack 15 = .ok (.astore 5, 2) := by decide +kernel
theorem dL_crack_17 : decode cL_crack 17 = .ok (.iconst 1, 1) := by decide +kernel
theorem dL_crack_18 : decode cL_crack 18 = .ok (.ireturn, 1) := by decide +kernel
theorem dL_crack_19 : decode cL_crack 19 = .ok (.astore 5, 2) := by decide +kernel
theorem dL_crack_21 : decode cL_crack 21 = .ok (.iconst 2, 1) := by decide +kernel
theorem dL_crack_22 : decode cL_crack 22 = .ok (.ireturn, 1) := by decide +kernel
theorem dL_crack_23 : decode cL_crack 23 = .ok (.iconst 0, 1) := by decide +kernel
theorem dL_crack_24 : decode cL_crack 24 = .ok (.ireturn, 1) := by decide +kernel
theorem dL_joined_0 : decode cL_joined 0 = .ok (.aload 4, 2) := by decide +kernel
theorem dL_joined_2 : decode cL_joined 2 = .ok (.iconst 0, 1) := by decide +kernel
theorem dL_joined_3 : decode cL_joined 3 = .ok (.aload_n 0, 1) := by decide +kernel
theorem dL_joined_4 : decode cL_joined 4 = .ok (.iload_n 1, 1) := by decide +kernel
theorem dL_joined_5 : decode cL_joined 5 = .ok (.iload_n 2, 1) := by decide +kernel
theorem dL_joined_6 : decode cL_joined 6 = .ok (.iload_n 3, 1) := by decide +kernel
theorem dL_joined_7 : decode cL_joined 7 = .ok (.invokevirtual 123, 3) := by decide +kernel
theorem dL_joined_10 : decode cL_joined 10 = .ok (.i2l, 1) := by decide +kernel
theorem dL_joined_11 : decode cL_joined 11 = .ok (.lastore, 1) := by decide +kernel
theorem dL_joined_12 : decode cL_joined 12 = .ok (.goto 11, 3) := by decide +kernel
theorem dL_joined_15 : decode cL_joined 15 = .ok (.astore 5, 2) := by decide +kernel
theorem dL_joined_17 : decode cL_joined 17 = .ok (.iconst 1, 1) := by decide +kernel
theorem dL_joined_18 : decode cL_joined 18 = .ok (.ireturn, 1) := by decide +kernel
theorem dL_joined_19 : decode cL_joined 19 = .ok (.astore 5, 2) := by decide +kernel
theorem dL_joined_21 : decode cL_joined 21 = .ok (.iconst 2, 1) := by decide +kernel
theorem dL_joined_22 : decode cL_joined 22 = .ok (.ireturn, 1) := by decide +kernel
theorem dL_joined_23 : decode cL_joined 23 = .ok (.iconst 0, 1) := by decide +kernel
theorem dL_joined_24 : decode cL_joined 24 = .ok (.ireturn, 1) := by decide +kernel
theorem dL_pair_0 : decode cL_pair 0 = .ok (.aload 4, 2) := by decide +kernel
theorem dL_pair_2 : decode cL_pair 2 = .ok (.iconst 0, 1) := by decide +kernel
theorem dL_pair_3 : decode cL_pair 3 = .ok (.aload_n 0, 1) := by decide +kernel
theorem dL_pair_4 : decode cL_pair 4 = .ok (.iload_n 1, 1) := by decide +kernel
theorem dL_pair_5 : decode cL_pair 5 = .ok (.iload_n 2, 1) := by decide +kernel
theorem dL_pair_6 : decode cL_pair 6 = .ok (.iload_n 3, 1) := by decide +kernel
theorem dL_pair_7 : decode cL_pair 7 = .ok (.invokevirtual 126, 3) := by decide +kernel
theorem dL_pair_10 : decode cL_pair 10 = .ok (.i2l, 1) := by decide +kernel
theorem dL_pair_11 : decode cL_pair 11 = .ok (.lastore, 1) := by decide +kernel
theorem dL_pair_12 : decode cL_pair 12 = .ok (.goto 7, 3) := by decide +kernel
theorem dL_pair_15 : decode cL_pair 15 = .ok (.astore 5, 2) := by decide +kernel
theorem dL_pair_17 : decode cL_pair 17 = .ok (.iconst 1, 1) := by decide +kernel
theorem dL_pair_18 : decode cL_pair 18 = .ok (.ireturn, 1) := by decide +kernel
theorem dL_pair_19 : decode cL_pair 19 = .ok (.iconst 0, 1) := by decide +kernel
theorem dL_pair_20 : decode cL_pair 20 = .ok (.ireturn, 1) := by decide +kernel
theorem dL_gauge_0 : decode cL_gauge 0 = .ok (.aload_n 1, 1) := by decide +kernel
theorem dL_gauge_1 : decode cL_gauge 1 = .ok (.iconst 0, 1) := by decide +kernel
theorem dL_gauge_2 : decode cL_gauge 2 = .ok (.aload_n 0, 1) := by decide +kernel
theorem dL_gauge_3 : decode cL_gauge 3 = .ok (.invokevirtual 129, 3) := by decide +kernel
theorem dL_gauge_6 : decode cL_gauge 6 = .ok (.i2l, 1) := by decide +kernel
theorem dL_gauge_7 : decode cL_gauge 7 = .ok (.lastore, 1) := by decide +kernel
theorem dL_gauge_8 : decode cL_gauge 8 = .ok (.goto 6, 3) := by decide +kernel
theorem dL_gauge_11 : decode cL_gauge 11 = .ok (.astore_n 2, 1) := by decide +kernel
theorem dL_gauge_12 : decode cL_gauge 12 = .ok (.iconst 1, 1) := by decide +kernel
theorem dL_gauge_13 : decode cL_gauge 13 = .ok (.ireturn, 1) := by decide +kernel
theorem dL_gauge_14 : decode cL_gauge 14 = .ok (.iconst 0, 1) := by decide +kernel
theorem dL_gauge_15 : decode cL_gauge 15 = .ok (.ireturn, 1) := by decide +kernel
theorem dL_read_0 : decode cL_read 0 = .ok (.aload 4, 2) := by decide +kernel
theorem dL_read_2 : decode cL_read 2 = .ok (.iconst 0, 1) := by decide +kernel
theorem dL_read_3 : decode cL_read 3 = .ok (.aload_n 0, 1) := by decide +kernel
theorem dL_read_4 : decode cL_read 4 = .ok (.iload_n 1, 1) := by decide +kernel
theorem dL_read_5 : decode cL_read 5 = .ok (.iload_n 2, 1) := by decide +kernel
theorem dL_read_6 : decode cL_read 6 = .ok (.iload_n 3, 1) := by decide +kernel
theorem dL_read_7 : decode cL_read 7 = .ok (.invokevirtual 132, 3) := by decide +kernel
theorem dL_read_10 : decode cL_read 10 = .ok (.i2l, 1) := by decide +kernel
theorem dL_read_11 : decode cL_read 11 = .ok (.lastore, 1) := by decide +kernel
theorem dL_read_12 : decode cL_read 12 = .ok (.goto 11, 3) := by decide +kernel
theorem dL_read_15 : decode cL_read 15 = .ok (.astore 5, 2) := by decide +kernel
theorem dL_read_17 : decode cL_read 17 = .ok (.iconst 1, 1) := by decide +kernel
theorem dL_read_18 : decode cL_read 18 = .ok (.ireturn, 1) := by decide +kernel
theorem dL_read_19 : decode cL_read 19 = .ok (.astore 5, 2) := by decide +kernel
theorem dL_read_21 : decode cL_read 21 = .ok (.iconst 2, 1) := by decide +kernel
theorem dL_read_22 : decode cL_read 22 = .ok (.ireturn, 1) := by decide +kernel
theorem dL_read_23 : decode cL_read 23 = .ok (.iconst 0, 1) := by decide +kernel
theorem dL_read_24 : decode cL_read 24 = .ok (.ireturn, 1) := by decide +kernel
theorem dL_at_0 : decode cL_at 0 = .ok (.aload_n 3, 1) := by decide +kernel
theorem dL_at_1 : decode cL_at 1 = .ok (.iconst 0, 1) := by decide +kernel
theorem dL_at_2 : decode cL_at 2 = .ok (.aload_n 0, 1) := by decide +kernel
theorem dL_at_3 : decode cL_at 3 = .ok (.iload_n 1, 1) := by decide +kernel
theorem dL_at_4 : decode cL_at 4 = .ok (.iload_n 2, 1) := by decide +kernel
theorem dL_at_5 : decode cL_at 5 = .ok (.invokevirtual 135, 3) := by decide +kernel
theorem dL_at_8 : decode cL_at 8 = .ok (.i2l, 1) := by decide +kernel
theorem dL_at_9 : decode cL_at 9 = .ok (.lastore, 1) := by decide +kernel
theorem dL_at_10 : decode cL_at 10 = .ok (.goto 7, 3) := by decide +kernel
theorem dL_at_13 : decode cL_at 13 = .ok (.astore 4, 2) := by decide +kernel
theorem dL_at_15 : decode cL_at 15 = .ok (.iconst 1, 1) := by decide +kernel
theorem dL_at_16 : decode cL_at 16 = .ok (.ireturn, 1) := by decide +kernel
theorem dL_at_17 : decode cL_at 17 = .ok (.iconst 0, 1) := by decide +kernel
theorem dL_at_18 : decode cL_at 18 = .ok (.ireturn, 1) := by decide +kernel
theorem dL_cause_0 : decode cL_cause 0 = .ok (.aload 6, 2) := by decide +kernel
theorem dL_cause_2 : decode cL_cause 2 = .ok (.iconst 0, 1) := by decide +kernel
theorem dL_cause_3 : decode cL_cause 3 = .ok (.aload_n 0, 1) := by decide +kernel
theorem dL_cause_4 : decode cL_cause 4 = .ok (.iload_n 1, 1) := by decide +kernel
theorem dL_cause_5 : decode cL_cause 5 = .ok (.iload_n 2, 1) := by decide +kernel
theorem dL_cause_6 : decode cL_cause 6 = .ok (.iload_n 3, 1) := by decide +kernel
theorem dL_cause_7 : decode cL_cause 7 = .ok (.iload 4, 2) := by decide +kernel
theorem dL_cause_9 : decode cL_cause 9 = .ok (.iload 5, 2) := by decide +kernel
theorem dL_cause_11 : decode cL_cause 11 = .ok (.invokevirtual 138, 3) := by decide +kernel
theorem dL_cause_14 : decode cL_cause 14 = .ok (.lastore, 1) := by decide +kernel
theorem dL_cause_15 : decode cL_cause 15 = .ok (.goto 11, 3) := by decide +kernel
theorem dL_cause_18 : decode cL_cause 18 = .ok (.astore 7, 2) := by decide +kernel
theorem dL_cause_20 : decode cL_cause 20 = .ok (.iconst 1, 1) := by decide +kernel
theorem dL_cause_21 : decode cL_cause 21 = .ok (.ireturn, 1) := by decide +kernel
theorem dL_cause_22 : decode cL_cause 22 = .ok (.astore 7, 2) := by decide +kernel
theorem dL_cause_24 : decode cL_cause 24 = .ok (.iconst 2, 1) := by decide +kernel
theorem dL_cause_25 : decode cL_cause 25 = .ok (.ireturn, 1) := by decide +kernel
theorem dL_cause_26 : decode cL_cause 26 = .ok (.iconst 0, 1) := by decide +kernel
theorem dL_cause_27 : decode cL_cause 27 = .ok (.ireturn, 1) := by decide +kernel
theorem dL_blamed_0 : decode cL_blamed 0 = .ok (.aload 5, 2) := by decide +kernel
theorem dL_blamed_2 : decode cL_blamed 2 = .ok (.iconst 0, 1) := by decide +kernel
theorem dL_blamed_3 : decode cL_blamed 3 = .ok (.aload_n 0, 1) := by decide +kernel
theorem dL_blamed_4 : decode cL_blamed 4 = .ok (.iload_n 1, 1) := by decide +kernel
theorem dL_blamed_5 : decode cL_blamed 5 = .ok (.iload_n 2, 1) := by decide +kernel
theorem dL_blamed_6 : decode cL_blamed 6 = .ok (.iload_n 3, 1) := by decide +kernel
theorem dL_blamed_7 : decode cL_blamed 7 = .ok (.iload 4, 2) := by decide +kernel
theorem dL_blamed_9 : decode cL_blamed 9 = .ok (.invokevirtual 142, 3) := by decide +kernel
theorem dL_blamed_12 : decode cL_blamed 12 = .ok (.ifCond .eq 7, 3) := by decide +kernel
theorem dL_blamed_15 : decode cL_blamed 15 = .ok (.lconst 1, 1) := by decide +kernel
theorem dL_blamed_16 : decode cL_blamed 16 = .ok (.goto 4, 3) := by decide +kernel
theorem dL_blamed_19 : decode cL_blamed 19 = .ok (.lconst 0, 1) := by decide +kernel
theorem dL_blamed_20 : decode cL_blamed 20 = .ok (.lastore, 1) := by decide +kernel
theorem dL_blamed_21 : decode cL_blamed 21 = .ok (.goto 7, 3) := by decide +kernel
theorem dL_blamed_24 : decode cL_blamed 24 = .ok (.astore 6, 2) := by decide +kernel
theorem dL_blamed_26 : decode cL_blamed 26 = .ok (.iconst 1, 1) := by decide +kernel
theorem dL_blamed_27 : decode cL_blamed 27 = .ok (.ireturn, 1) := by decide +kernel
theorem dL_blamed_28 : decode cL_blamed 28 = .ok (.iconst 0, 1) := by decide +kernel
theorem dL_blamed_29 : decode cL_blamed 29 = .ok (.ireturn, 1) := by decide +kernel
theorem dL_law_0 : decode cL_law 0 = .ok (.new 8, 3) := by decide +kernel
theorem dL_law_3 : decode cL_law 3 = .ok (.dup, 1) := by decide +kernel
theorem dL_law_4 : decode cL_law 4 = .ok (.invokespecial 146, 3) := by decide +kernel
theorem dL_law_7 : decode cL_law 7 = .ok (.astore_n 1, 1) := by decide +kernel
theorem dL_law_8 : decode cL_law 8 = .ok (.new 147, 3) := by decide +kernel
theorem dL_law_11 : decode cL_law 11 = .ok (.dup, 1) := by decide +kernel
theorem dL_law_12 : decode cL_law 12 = .ok (.invokespecial 149, 3) := by decide +kernel
theorem dL_law_15 : decode cL_law 15 = .ok (.astore_n 2, 1) := by decide +kernel
theorem dL_law_16 : decode cL_law 16 = .ok (.iconst 1, 1) := by decide +kernel
theorem dL_law_17 : decode cL_law 17 = .ok (.newarray .long, 2) := by decide +kernel
theorem dL_law_19 : decode cL_law 19 = .ok (.astore_n 3, 1) := by decide +kernel
theorem dL_law_20 : decode cL_law 20 = .ok (.iconst 0, 1) := by decide +kernel
theorem dL_law_21 : decode cL_law 21 = .ok (.istore 4, 2) := by decide +kernel
theorem dL_law_23 : decode cL_law 23 = .ok (.iload 4, 2) := by decide +kernel
theorem dL_law_25 : decode cL_law 25 = .ok (.aload_n 0, 1) := by decide +kernel
theorem dL_law_26 : decode cL_law 26 = .ok (.arraylength, 1) := by decide +kernel
theorem dL_law_27 : decode cL_law 27 = .ok (.bipush 7, 2) := by decide +kernel
theorem dL_law_29 : decode cL_law 29 = .ok (.isub, 1) := by decide +kernel
theorem dL_law_30 : decode cL_law 30 = .ok (.if_icmp .gt 3238, 3) := by decide +kernel
theorem dL_law_33 : decode cL_law 33 = .ok (.aload_n 0, 1) := by decide +kernel
theorem dL_law_34 : decode cL_law 34 = .ok (.iload 4, 2) := by decide +kernel
theorem dL_law_36 : decode cL_law 36 = .ok (.iaload, 1) := by decide +kernel
theorem dL_law_37 : decode cL_law 37 = .ok (.bipush 63, 2) := by decide +kernel
theorem dL_law_39 : decode cL_law 39 = .ok (.iand, 1) := by decide +kernel
theorem dL_law_40 : decode cL_law 40 = .ok (.tableswitch 3222 0 42 #[188, 232, 300, 380, 436, 509, 565, 578, 646, 764, 820, 876, 960, 1028, 1084, 1176, 1244, 1348, 1404, 1460, 1516, 1584, 1652, 1756, 1836, 1940, 2032, 2100, 2168, 2236, 2304, 2372, 2451, 2507, 2563, 2643, 2723, 2803, 2847, 2927, 2995, 3098, 3197], 188) := by decide +kernel
theorem dL_law_228 : decode cL_law 228 = .ok (.aload_n 1, 1) := by decide +kernel
theorem dL_law_229 : decode cL_law 229 = .ok (.aload_n 3, 1) := by decide +kernel
theorem dL_law_230 : decode cL_law 230 = .ok (.invokestatic 150, 3) := by decide +kernel
theorem dL_law_233 : decode cL_law 233 = .ok (.istore 5, 2) := by decide +kernel
theorem dL_law_235 : decode cL_law 235 = .ok (.aload_n 2, 1) := by decide +kernel
theorem dL_law_236 : decode cL_law 236 = .ok (.invokevirtual 155, 3) := by decide +kernel
theorem dL_law_239 : decode cL_law 239 = .ok (.istore 6, 2) := by decide +kernel
theorem dL_law_241 : decode cL_law 241 = .ok (.aload_n 2, 1) := by decide +kernel
theorem dL_law_242 : decode cL_law 242 = .ok (.invokevirtual 156, 3) := by decide +kernel
theorem dL_law_245 : decode cL_law 245 = .ok (.iload 5, 2) := by decide +kernel
theorem dL_law_247 : decode cL_law 247 = .ok (.if_icmp .eq 5, 3) := by decide +kernel
theorem dL_law_250 : decode cL_law 250 = .ok (.iconst 0, 1) := by decide +kernel
theorem dL_law_251 : decode cL_law 251 = .ok (.ireturn, 1) := by decide +kernel
theorem dL_law_252 : decode cL_law 252 = .ok (.iload 5, 2) := by decide +kernel
theorem dL_law_254 : decode cL_law 254 = .ok (.ifCond .ne 15, 3) := by decide +kernel
theorem dL_law_257 : decode cL_law 257 = .ok (.aload_n 3, 1) := by decide +kernel
theorem dL_law_258 : decode cL_law 258 = .ok (.iconst 0, 1) := by decide +kernel
theorem dL_law_259 : decode cL_law 259 = .ok (.laload, 1) := by decide +kernel
theorem dL_law_260 : decode cL_law 260 = .ok (.iload 6, 2) := by decide +kernel
theorem dL_law_262 : decode cL_law 262 = .ok (.i2l, 1) := by decide +kernel
theorem dL_law_263 : decode cL_law 263 = .ok (.lcmp, 1) := by decide +kernel
theorem dL_law_264 : decode cL_law 264 = .ok (.ifCond .eq 5, 3) := by decide +kernel
theorem dL_law_267 : decode cL_law 267 = .ok (.iconst 0, 1) := by decide +kernel
theorem dL_law_268 : decode cL_law 268 = .ok (.ireturn, 1) := by decide +kernel
theorem dL_law_269 : decode cL_law 269 = .ok (.goto 2993, 3) := by decide +kernel
theorem dL_law_272 : decode cL_law 272 = .ok (.aload_n 1, 1) := by decide +kernel
theorem dL_law_273 : decode cL_law 273 = .ok (.aload_n 0, 1) := by decide +kernel
theorem dL_law_274 : decode cL_law 274 = .ok (.iload 4, 2) := by decide +kernel
theorem dL_law_276 : decode cL_law 276 = .ok (.iconst 1, 1) := by decide +kernel
theorem dL_law_277 : decode cL_law 277 = .ok (.iadd, 1) := by decide +kernel
theorem dL_law_278 : decode cL_law 278 = .ok (.iaload, 1) := by decide +kernel
theorem dL_law_279 : decode cL_law 279 = .ok (.aload_n 0, 1) := by decide +kernel
theorem dL_law_280 : decode cL_law 280 = .ok (.iload 4, 2) := by decide +kernel
theorem dL_law_282 : decode cL_law 282 = .ok (.iconst 2, 1) := by decide +kernel
theorem dL_law_283 : decode cL_law 283 = .ok (.iadd, 1) := by decide +kernel
theorem dL_law_284 : decode cL_law 284 = .ok (.iaload, 1) := by decide +kernel
theorem dL_law_285 : decode cL_law 285 = .ok (.aload_n 3, 1) := by decide +kernel
theorem dL_law_286 : decode cL_law 286 = .ok (.invokestatic 159, 3) := by decide +kernel
theorem dL_law_289 : decode cL_law 289 = .ok (.istore 5, 2) := by decide +kernel
theorem dL_law_291 : decode cL_law 291 = .ok (.aload_n 2, 1) := by decide +kernel
theorem dL_law_292 : decode cL_law 292 = .ok (.aload_n 0, 1) := by decide +kernel
theorem dL_law_293 : decode cL_law 293 = .ok (.iload 4, 2) := by decide +kernel
theorem dL_law_295 : decode cL_law 295 = .ok (.iconst 1, 1) := by decide +kernel
theorem dL_law_296 : decode cL_law 296 = .ok (.iadd, 1) := by decide +kernel
theorem dL_law_297 : decode cL_law 297 = .ok (.iaload, 1) := by decide +kernel
theorem dL_law_298 : decode cL_law 298 = .ok (.aload_n 0, 1) := by decide +kernel
theorem dL_law_299 : decode cL_law 299 = .ok (.iload 4, 2) := by decide +kernel
theorem dL_law_301 : decode cL_law 301 = .ok (.iconst 2, 1) := by decide +kernel
theorem dL_law_302 : decode cL_law 302 = .ok (.iadd, 1) := by decide +kernel
theorem dL_law_303 : decode cL_law 303 = .ok (.iaload, 1) := by decide +kernel
theorem dL_law_304 : decode cL_law 304 = .ok (.invokevirtual 162, 3) := by decide +kernel
theorem dL_law_307 : decode cL_law 307 = .ok (.istore 6, 2) := by decide +kernel
theorem dL_law_309 : decode cL_law 309 = .ok (.aload_n 2, 1) := by decide +kernel
theorem dL_law_310 : decode cL_law 310 = .ok (.invokevirtual 156, 3) := by decide +kernel
theorem dL_law_313 : decode cL_law 313 = .ok (.iload 5, 2) := by decide +kernel
theorem dL_law_315 : decode cL_law 315 = .ok (.if_icmp .eq 5, 3) := by decide +kernel
theorem dL_law_318 : decode cL_law 318 = .ok (.iconst 0, 1) := by decide +kernel
theorem dL_law_319 : decode cL_law 319 = .ok (.ireturn, 1) := by decide +kernel
theorem dL_law_320 : decode cL_law 320 = .ok (.iload 5, 2) := by decide +kernel
theorem dL_law_322 : decode cL_law 322 = .ok (.ifCond .ne 15, 3) := by decide +kernel
theorem dL_law_325 : decode cL_law 325 = .ok (.aload_n 3, 1) := by decide +kernel
theorem dL_law_326 : decode cL_law 326 = .ok (.iconst 0, 1) := by decide +kernel
theorem dL_law_327 : decode cL_law 327 = .ok (.laload, 1) := by decide +kernel
theorem dL_law_328 : decode cL_law 328 = .ok (.iload 6, 2) := by decide +kernel
theorem dL_law_330 : decode cL_law 330 = .ok (.i2l, 1) := by decide +kernel
theorem dL_law_331 : decode cL_law 331 = .ok (.lcmp, 1) := by decide +kernel
theorem dL_law_332 : decode cL_law 332 = .ok (.ifCond .eq 5, 3) := by decide +kernel
theorem dL_law_335 : decode cL_law 335 = .ok (.iconst 0, 1) := by decide +kernel
theorem dL_law_336 : decode cL_law 336 = .ok (.ireturn, 1) := by decide +kernel
theorem dL_law_337 : decode cL_law 337 = .ok (.goto 2925, 3) := by decide +kernel
theorem dL_law_340 : decode cL_law 340 = .ok (.aload_n 1, 1) := by decide +kernel
theorem dL_law_341 : decode cL_law 341 = .ok (.aload_n 0, 1) := by decide +kernel
theorem dL_law_342 : decode cL_law 342 = .ok (.iload 4, 2) := by decide +kernel
theorem dL_law_344 : decode cL_law 344 = .ok (.iconst 1, 1) := by decide +kernel
theorem dL_law_345 : decode cL_law 345 = .ok (.iadd, 1) := by decide +kernel
theorem dL_law_346 : decode cL_law 346 = .ok (.iaload, 1) := by decide +kernel
theorem dL_law_347 : decode cL_law 347 = .ok (.aload_n 0, 1) := by decide +kernel
theorem dL_law_348 : decode cL_law 348 = .ok (.iload 4, 2) := by decide +kernel
theorem dL_law_350 : decode cL_law 350 = .ok (.iconst 2, 1) := by decide +kernel
theorem dL_law_351 : decode cL_law 351 = .ok (.iadd, 1) := by decide +kernel
theorem dL_law_352 : decode cL_law 352 = .ok (.iaload, 1) := by decide +kernel
theorem dL_law_353 : decode cL_law 353 = .ok (.aload_n 0, 1) := by decide +kernel
theorem dL_law_354 : decode cL_law 354 = .ok (.iload 4, 2) := by decide +kernel
theorem dL_law_356 : decode cL_law 356 = .ok (.iconst 3, 1) := by decide +kernel
theorem dL_law_357 : decode cL_law 357 = .ok (.iadd, 1) := by decide +kernel
theorem dL_law_358 : decode cL_law 358 = .ok (.iaload, 1) := by decide +kernel
theorem dL_law_359 : decode cL_law 359 = .ok (.aload_n 3, 1) := by decide +kernel
theorem dL_law_360 : decode cL_law 360 = .ok (.invokestatic 163, 3) := by decide +kernel
theorem dL_law_363 : decode cL_law 363 = .ok (.istore 5, 2) := by decide +kernel
theorem dL_law_365 : decode cL_law 365 = .ok (.aload_n 2, 1) := by decide +kernel
theorem dL_law_366 : decode cL_law 366 = .ok (.aload_n 0, 1) := by decide +kernel
theorem dL_law_367 : decode cL_law 367 = .ok (.iload 4, 2) := by decide +kernel
theorem dL_law_369 : decode cL_law 369 = .ok (.iconst 1, 1) := by decide +kernel
theorem dL_law_370 : decode cL_law 370 = .ok (.iadd, 1) := by decide +kernel
theorem dL_law_371 : decode cL_law 371 = .ok (.iaload, 1) := by decide +kernel
theorem dL_law_372 : decode cL_law 372 = .ok (.aload_n 0, 1) := by decide +kernel
theorem dL_law_373 : decode cL_law 373 = .ok (.iload 4, 2) := by decide +kernel
theorem dL_law_375 : decode cL_law 375 = .ok (.iconst 2, 1) := by decide +kernel
theorem dL_law_376 : decode cL_law 376 = .ok (.iadd, 1) := by decide +kernel
theorem dL_law_377 : decode cL_law 377 = .ok (.iaload, 1) := by decide +kernel
theorem dL_law_378 : decode cL_law 378 = .ok (.aload_n 0, 1) := by decide +kernel
theorem dL_law_379 : decode cL_law 379 = .ok (.iload 4, 2) := by decide +kernel
theorem dL_law_381 : decode cL_law 381 = .ok (.iconst 3, 1) := by decide +kernel
theorem dL_law_382 : decode cL_law 382 = .ok (.iadd, 1) := by decide +kernel
theorem dL_law_383 : decode cL_law 383 = .ok (.iaload, 1) := by decide +kernel
theorem dL_law_384 : decode cL_law 384 = .ok (.invokevirtual 166, 3) := by decide +kernel
theorem dL_law_387 : decode cL_law 387 = .ok (.istore 6, 2) := by decide +kernel
theorem dL_law_389 : decode cL_law 389 = .ok (.aload_n 2, 1) := by decide +kernel
theorem dL_law_390 : decode cL_law 390 = .ok (.invokevirtual 156, 3) := by decide +kernel
theorem dL_law_393 : decode cL_law 393 = .ok (.iload 5, 2) := by decide +kernel
theorem dL_law_395 : decode cL_law 395 = .ok (.if_icmp .eq 5, 3) := by decide +kernel
theorem dL_law_398 : decode cL_law 398 = .ok (.iconst 0, 1) := by decide +kernel
theorem dL_law_399 : decode cL_law 399 = .ok (.ireturn, 1) := by decide +kernel
theorem dL_law_400 : decode cL_law 400 = .ok (.iload 5, 2) := by decide +kernel
theorem dL_law_402 : decode cL_law 402 = .ok (.ifCond .ne 15, 3) := by decide +kernel
theorem dL_law_405 : decode cL_law 405 = .ok (.aload_n 3, 1) := by decide +kernel
theorem dL_law_406 : decode cL_law 406 = .ok (.iconst 0, 1) := by decide +kernel
theorem dL_law_407 : decode cL_law 407 = .ok (.laload, 1) := by decide +kernel
theorem dL_law_408 : decode cL_law 408 = .ok (.iload 6, 2) := by decide +kernel
theorem dL_law_410 : decode cL_law 410 = .ok (.i2l, 1) := by decide +kernel
theorem dL_law_411 : decode cL_law 411 = .ok (.lcmp, 1) := by decide +kernel
theorem dL_law_412 : decode cL_law 412 = .ok (.ifCond .eq 5, 3) := by decide +kernel
theorem dL_law_415 : decode cL_law 415 = .ok (.iconst 0, 1) := by decide +kernel
theorem dL_law_416 : decode cL_law 416 = .ok (.ireturn, 1) := by decide +kernel
theorem dL_law_417 : decode cL_law 417 = .ok (.goto 2845, 3) := by decide +kernel
theorem dL_law_420 : decode cL_law 420 = .ok (.aload_n 1, 1) := by decide +kernel
theorem dL_law_421 : decode cL_law 421 = .ok (.aload_n 0, 1) := by decide +kernel
theorem dL_law_422 : decode cL_law 422 = .ok (.iload 4, 2) := by decide +kernel
theorem dL_law_424 : decode cL_law 424 = .ok (.iconst 1, 1) := by decide +kernel
theorem dL_law_425 : decode cL_law 425 = .ok (.iadd, 1) := by decide +kernel
theorem dL_law_426 : decode cL_law 426 = .ok (.iaload, 1) := by decide +kernel
theorem dL_law_427 : decode cL_law 427 = .ok (.aload_n 3, 1) := by decide +kernel
theorem dL_law_428 : decode cL_law 428 = .ok (.invokestatic 167, 3) := by decide +kernel
theorem dL_law_431 : decode cL_law 431 = .ok (.istore 5, 2) := by decide +kernel
theorem dL_law_433 : decode cL_law 433 = .ok (.aload_n 2, 1) := by decide +kernel
theorem dL_law_434 : decode cL_law 434 = .ok (.aload_n 0, 1) := by decide +kernel
theorem dL_law_435 : decode cL_law 435 = .ok (.iload 4, 2) := by decide +kernel
theorem dL_law_437 : decode cL_law 437 = .ok (.iconst 1, 1) := by decide +kernel
theorem dL_law_438 : decode cL_law 438 = .ok (.iadd, 1) := by decide +kernel
theorem dL_law_439 : decode cL_law 439 = .ok (.iaload, 1) := by decide +kernel
theorem dL_law_440 : decode cL_law 440 = .ok (.invokevirtual 170, 3) := by decide +kernel
theorem dL_law_443 : decode cL_law 443 = .ok (.istore 6, 2) := by decide +kernel
theorem dL_law_445 : decode cL_law 445 = .ok (.aload_n 2, 1) := by decide +kernel
theorem dL_law_446 : decode cL_law 446 = .ok (.invokevirtual 156, 3) := by decide +kernel
theorem dL_law_449 : decode cL_law 449 = .ok (.iload 5, 2) := by decide +kernel
theorem dL_law_451 : decode cL_law 451 = .ok (.if_icmp .eq 5, 3) := by decide +kernel
theorem dL_law_454 : decode cL_law 454 = .ok (.iconst 0, 1) := by decide +kernel
theorem dL_law_455 : decode cL_law 455 = .ok (.ireturn, 1) := by decide +kernel
theorem dL_law_456 : decode cL_law 456 = .ok (.iload 5, 2) := by decide +kernel
theorem dL_law_458 : decode cL_law 458 = .ok (.ifCond .ne 15, 3) := by decide +kernel
theorem dL_law_461 : decode cL_law 461 = .ok (.aload_n 3, 1) := by decide +kernel
theorem dL_law_462 : decode cL_law 462 = .ok (.iconst 0, 1) := by decide +kernel
theorem dL_law_463 : decode cL_law 463 = .ok (.laload, 1) := by decide +kernel
theorem dL_law_464 : decode cL_law 464 = .ok (.iload 6, 2) := by decide +kernel
theorem dL_law_466 : decode cL_law 466 = .ok (.i2l, 1) := by decide +kernel
theorem dL_law_467 : decode cL_law 467 = .ok (.lcmp, 1) := by decide +kernel
theorem dL_law_468 : decode cL_law 468 = .ok (.ifCond .eq 5, 3) := by decide +kernel
theorem dL_law_471 : decode cL_law 471 = .ok (.iconst 0, 1) := by decide +kernel
theorem dL_law_472 : decode cL_law 472 = .ok (.ireturn, 1) := by decide +kernel
theorem dL_law_473 : decode cL_law 473 = .ok (.goto 2789, 3) := by decide +kernel
theorem dL_law_476 : decode cL_law 476 = .ok (.aload_n 1, 1) := by decide +kernel
theorem dL_law_477 : decode cL_law 477 = .ok (.aload_n 0, 1) := by decide +kernel
theorem dL_law_478 : decode cL_law 478 = .ok (.iload 4, 2) := by decide +kernel
theorem dL_law_480 : decode cL_law 480 = .ok (.iconst 1, 1) := by decide +kernel
theorem dL_law_481 : decode cL_law 481 = .ok (.iadd, 1) := by decide +kernel
theorem dL_law_482 : decode cL_law 482 = .ok (.iaload, 1) := by decide +kernel
theorem dL_law_483 : decode cL_law 483 = .ok (.aload_n 0, 1) := by decide +kernel
theorem dL_law_484 : decode cL_law 484 = .ok (.iload 4, 2) := by decide +kernel
theorem dL_law_486 : decode cL_law 486 = .ok (.iconst 2, 1) := by decide +kernel
theorem dL_law_487 : decode cL_law 487 = .ok (.iadd, 1) := by decide +kernel
theorem dL_law_488 : decode cL_law 488 = .ok (.iaload, 1) := by decide +kernel
theorem dL_law_489 : decode cL_law 489 = .ok (.aload_n 0, 1) := by decide +kernel
theorem dL_law_490 : decode cL_law 490 = .ok (.iload 4, 2) := by decide +kernel
theorem dL_law_492 : decode cL_law 492 = .ok (.iconst 3, 1) := by decide +kernel
theorem dL_law_493 : decode cL_law 493 = .ok (.iadd, 1) := by decide +kernel
theorem dL_law_494 : decode cL_law 494 = .ok (.iaload, 1) := by decide +kernel
theorem dL_law_495 : decode cL_law 495 = .ok (.aload_n 0, 1) := by decide +kernel
theorem dL_law_496 : decode cL_law 496 = .ok (.iload 4, 2) := by decide +kernel
theorem dL_law_498 : decode cL_law 498 = .ok (.iconst 4, 1) := by decide +kernel
theorem dL_law_499 : decode cL_law 499 = .ok (.iadd, 1) := by decide +kernel
theorem dL_law_500 : decode cL_law 500 = .ok (.iaload, 1) := by decide +kernel
theorem dL_law_501 : decode cL_law 501 = .ok (.aload_n 0, 1) := by decide +kernel
theorem dL_law_502 : decode cL_law 502 = .ok (.iload 4, 2) := by decide +kernel
theorem dL_law_504 : decode cL_law 504 = .ok (.iconst 5, 1) := by decide +kernel
theorem dL_law_505 : decode cL_law 505 = .ok (.iadd, 1) := by decide +kernel
theorem dL_law_506 : decode cL_law 506 = .ok (.iaload, 1) := by decide +kernel
theorem dL_law_507 : decode cL_law 507 = .ok (.invokevirtual 171, 3) := by decide +kernel
theorem dL_law_510 : decode cL_law 510 = .ok (.aload_n 2, 1) := by decide +kernel
theorem dL_law_511 : decode cL_law 511 = .ok (.aload_n 0, 1) := by decide +kernel
theorem dL_law_512 : decode cL_law 512 = .ok (.iload 4, 2) := by decide +kernel
theorem dL_law_514 : decode cL_law 514 = .ok (.iconst 1, 1) := by decide +kernel
theorem dL_law_515 : decode cL_law 515 = .ok (.iadd, 1) := by decide +kernel
theorem dL_law_516 : decode cL_law 516 = .ok (.iaload, 1) := by decide +kernel
theorem dL_law_517 : decode cL_law 517 = .ok (.aload_n 0, 1) := by decide +kernel
theorem dL_law_518 : decode cL_law 518 = .ok (.iload 4, 2) := by decide +kernel
theorem dL_law_520 : decode cL_law 520 = .ok (.iconst 2, 1) := by decide +kernel
theorem dL_law_521 : decode cL_law 521 = .ok (.iadd, 1) := by decide +kernel
theorem dL_law_522 : decode cL_law 522 = .ok (.iaload, 1) := by decide +kernel
theorem dL_law_523 : decode cL_law 523 = .ok (.aload_n 0, 1) := by decide +kernel
theorem dL_law_524 : decode cL_law 524 = .ok (.iload 4, 2) := by decide +kernel
theorem dL_law_526 : decode cL_law 526 = .ok (.iconst 3, 1) := by decide +kernel
theorem dL_law_527 : decode cL_law 527 = .ok (.iadd, 1) := by decide +kernel
theorem dL_law_528 : decode cL_law 528 = .ok (.iaload, 1) := by decide +kernel
theorem dL_law_529 : decode cL_law 529 = .ok (.aload_n 0, 1) := by decide +kernel
theorem dL_law_530 : decode cL_law 530 = .ok (.iload 4, 2) := by decide +kernel
theorem dL_law_532 : decode cL_law 532 = .ok (.iconst 4, 1) := by decide +kernel
theorem dL_law_533 : decode cL_law 533 = .ok (.iadd, 1) := by decide +kernel
theorem dL_law_534 : decode cL_law 534 = .ok (.iaload, 1) := by decide +kernel
theorem dL_law_535 : decode cL_law 535 = .ok (.aload_n 0, 1) := by decide +kernel
theorem dL_law_536 : decode cL_law 536 = .ok (.iload 4, 2) := by decide +kernel
theorem dL_law_538 : decode cL_law 538 = .ok (.iconst 5, 1) := by decide +kernel
theorem dL_law_539 : decode cL_law 539 = .ok (.iadd, 1) := by decide +kernel
theorem dL_law_540 : decode cL_law 540 = .ok (.iaload, 1) := by decide +kernel
theorem dL_law_541 : decode cL_law 541 = .ok (.invokevirtual 174, 3) := by decide +kernel
theorem dL_law_544 : decode cL_law 544 = .ok (.if_icmp .eq 2718, 3) := by decide +kernel
theorem dL_law_547 : decode cL_law 547 = .ok (.iconst 0, 1) := by decide +kernel
theorem dL_law_548 : decode cL_law 548 = .ok (.ireturn, 1) := by decide +kernel
theorem dL_law_549 : decode cL_law 549 = .ok (.aload_n 1, 1) := by decide +kernel
theorem dL_law_550 : decode cL_law 550 = .ok (.aload_n 0, 1) := by decide +kernel
theorem dL_law_551 : decode cL_law 551 = .ok (.iload 4, 2) := by decide +kernel
theorem dL_law_553 : decode cL_law 553 = .ok (.iconst 1, 1) := by decide +kernel
theorem dL_law_554 : decode cL_law 554 = .ok (.iadd, 1) := by decide +kernel
theorem dL_law_555 : decode cL_law 555 = .ok (.iaload, 1) := by decide +kernel
theorem dL_law_556 : decode cL_law 556 = .ok (.aload_n 3, 1) := by decide +kernel
theorem dL_law_557 : decode cL_law 557 = .ok (.invokestatic 175, 3) := by decide +kernel
theorem dL_law_560 : decode cL_law 560 = .ok (.istore 5, 2) := by decide +kernel
theorem dL_law_562 : decode cL_law 562 = .ok (.aload_n 2, 1) := by decide +kernel
theorem dL_law_563 : decode cL_law 563 = .ok (.aload_n 0, 1) := by decide +kernel
theorem dL_law_564 : decode cL_law 564 = .ok (.iload 4, 2) := by decide +kernel
theorem dL_law_566 : decode cL_law 566 = .ok (.iconst 1, 1) := by decide +kernel
theorem dL_law_567 : decode cL_law 567 = .ok (.iadd, 1) := by decide +kernel
theorem dL_law_568 : decode cL_law 568 = .ok (.iaload, 1) := by decide +kernel
theorem dL_law_569 : decode cL_law 569 = .ok (.invokevirtual 177, 3) := by decide +kernel
theorem dL_law_572 : decode cL_law 572 = .ok (.istore 6, 2) := by decide +kernel
theorem dL_law_574 : decode cL_law 574 = .ok (.aload_n 2, 1) := by decide +kernel
theorem dL_law_575 : decode cL_law 575 = .ok (.invokevirtual 156, 3) := by decide +kernel
theorem dL_law_578 : decode cL_law 578 = .ok (.iload 5, 2) := by decide +kernel
theorem dL_law_580 : decode cL_law 580 = .ok (.if_icmp .eq 5, 3) := by decide +kernel
theorem dL_law_583 : decode cL_law 583 = .ok (.iconst 0, 1) := by decide +kernel
theorem dL_law_584 : decode cL_law 584 = .ok (.ireturn, 1) := by decide +kernel
theorem dL_law_585 : decode cL_law 585 = .ok (.iload 5, 2) := by decide +kernel
theorem dL_law_587 : decode cL_law 587 = .ok (.ifCond .ne 15, 3) := by decide +kernel
theorem dL_law_590 : decode cL_law 590 = .ok (.aload_n 3, 1) := by decide +kernel
theorem dL_law_591 : decode cL_law 591 = .ok (.iconst 0, 1) := by decide +kernel
theorem dL_law_592 : decode cL_law 592 = .ok (.laload, 1) := by decide +kernel
theorem dL_law_593 : decode cL_law 593 = .ok (.iload 6, 2) := by decide +kernel
theorem dL_law_595 : decode cL_law 595 = .ok (.i2l, 1) := by decide +kernel
theorem dL_law_596 : decode cL_law 596 = .ok (.lcmp, 1) := by decide +kernel
theorem dL_law_597 : decode cL_law 597 = .ok (.ifCond .eq 5, 3) := by decide +kernel
theorem dL_law_600 : decode cL_law 600 = .ok (.iconst 0, 1) := by decide +kernel
theorem dL_law_601 : decode cL_law 601 = .ok (.ireturn, 1) := by decide +kernel
theorem dL_law_602 : decode cL_law 602 = .ok (.goto 2660, 3) := by decide +kernel
theorem dL_law_605 : decode cL_law 605 = .ok (.aload_n 1, 1) := by decide +kernel
theorem dL_law_606 : decode cL_law 606 = .ok (.invokevirtual 178, 3) := by decide +kernel
theorem dL_law_609 : decode cL_law 609 = .ok (.aload_n 2, 1) := by decide +kernel
theorem dL_law_610 : decode cL_law 610 = .ok (.invokevirtual 181, 3) := by decide +kernel
theorem dL_law_613 : decode cL_law 613 = .ok (.if_icmp .eq 2649, 3) := by decide +kernel
theorem dL_law_616 : decode cL_law 616 = .ok (.iconst 0, 1) := by decide +kernel
theorem dL_law_617 : decode cL_law 617 = .ok (.ireturn, 1) := by decide +kernel
theorem dL_law_618 : decode cL_law 618 = .ok (.aload_n 1, 1) := by decide +kernel
theorem dL_law_619 : decode cL_law 619 = .ok (.aload_n 0, 1) := by decide +kernel
theorem dL_law_620 : decode cL_law 620 = .ok (.iload 4, 2) := by decide +kernel
theorem dL_law_622 : decode cL_law 622 = .ok (.iconst 1, 1) := by decide +kernel
theorem dL_law_623 : decode cL_law 623 = .ok (.iadd, 1) := by decide +kernel
theorem dL_law_624 : decode cL_law 624 = .ok (.iaload, 1) := by decide +kernel
theorem dL_law_625 : decode cL_law 625 = .ok (.aload_n 0, 1) := by decide +kernel
theorem dL_law_626 : decode cL_law 626 = .ok (.iload 4, 2) := by decide +kernel
theorem dL_law_628 : decode cL_law 628 = .ok (.iconst 2, 1) := by decide +kernel
theorem dL_law_629 : decode cL_law 629 = .ok (.iadd, 1) := by decide +kernel
theorem dL_law_630 : decode cL_law 630 = .ok (.iaload, 1) := by decide +kernel
theorem dL_law_631 : decode cL_law 631 = .ok (.aload_n 3, 1) := by decide +kernel
theorem dL_law_632 : decode cL_law 632 = .ok (.invokestatic 182, 3) := by decide +kernel
theorem dL_law_635 : decode cL_law 635 = .ok (.istore 5, 2) := by decide +kernel
theorem dL_law_637 : decode cL_law 637 = .ok (.aload_n 2, 1) := by decide +kernel
theorem dL_law_638 : decode cL_law 638 = .ok (.aload_n 0, 1) := by decide +kernel
theorem dL_law_639 : decode cL_law 639 = .ok (.iload 4, 2) := by decide +kernel
theorem dL_law_641 : decode cL_law 641 = .ok (.iconst 1, 1) := by decide +kernel
theorem dL_law_642 : decode cL_law 642 = .ok (.iadd, 1) := by decide +kernel
theorem dL_law_643 : decode cL_law 643 = .ok (.iaload, 1) := by decide +kernel
theorem dL_law_644 : decode cL_law 644 = .ok (.aload_n 0, 1) := by decide +kernel
theorem dL_law_645 : decode cL_law 645 = .ok (.iload 4, 2) := by decide +kernel
theorem dL_law_647 : decode cL_law 647 = .ok (.iconst 2, 1) := by decide +kernel
theorem dL_law_648 : decode cL_law 648 = .ok (.iadd, 1) := by decide +kernel
theorem dL_law_649 : decode cL_law 649 = .ok (.iaload, 1) := by decide +kernel
theorem dL_law_650 : decode cL_law 650 = .ok (.invokevirtual 184, 3) := by decide +kernel
theorem dL_law_653 : decode cL_law 653 = .ok (.istore 6, 2) := by decide +kernel
theorem dL_law_655 : decode cL_law 655 = .ok (.aload_n 2, 1) := by decide +kernel
theorem dL_law_656 : decode cL_law 656 = .ok (.invokevirtual 156, 3) := by decide +kernel
theorem dL_law_659 : decode cL_law 659 = .ok (.iload 5, 2) := by decide +kernel
theorem dL_law_661 : decode cL_law 661 = .ok (.if_icmp .eq 5, 3) := by decide +kernel
theorem dL_law_664 : decode cL_law 664 = .ok (.iconst 0, 1) := by decide +kernel
theorem dL_law_665 : decode cL_law 665 = .ok (.ireturn, 1) := by decide +kernel
theorem dL_law_666 : decode cL_law 666 = .ok (.iload 5, 2) := by decide +kernel
theorem dL_law_668 : decode cL_law 668 = .ok (.ifCond .ne 15, 3) := by decide +kernel
theorem dL_law_671 : decode cL_law 671 = .ok (.aload_n 3, 1) := by decide +kernel
theorem dL_law_672 : decode cL_law 672 = .ok (.iconst 0, 1) := by decide +kernel
theorem dL_law_673 : decode cL_law 673 = .ok (.laload, 1) := by decide +kernel
theorem dL_law_674 : decode cL_law 674 = .ok (.iload 6, 2) := by decide +kernel
theorem dL_law_676 : decode cL_law 676 = .ok (.i2l, 1) := by decide +kernel
theorem dL_law_677 : decode cL_law 677 = .ok (.lcmp, 1) := by decide +kernel
theorem dL_law_678 : decode cL_law 678 = .ok (.ifCond .eq 5, 3) := by decide +kernel
theorem dL_law_681 : decode cL_law 681 = .ok (.iconst 0, 1) := by decide +kernel
theorem dL_law_682 : decode cL_law 682 = .ok (.ireturn, 1) := by decide +kernel
theorem dL_law_683 : decode cL_law 683 = .ok (.goto 2579, 3) := by decide +kernel
theorem dL_law_686 : decode cL_law 686 = .ok (.aload_n 1, 1) := by decide +kernel
theorem dL_law_687 : decode cL_law 687 = .ok (.aload_n 0, 1) := by decide +kernel
theorem dL_law_688 : decode cL_law 688 = .ok (.iload 4, 2) := by decide +kernel
theorem dL_law_690 : decode cL_law 690 = .ok (.iconst 1, 1) := by decide +kernel
theorem dL_law_691 : decode cL_law 691 = .ok (.iadd, 1) := by decide +kernel
theorem dL_law_692 : decode cL_law 692 = .ok (.iaload, 1) := by decide +kernel
theorem dL_law_693 : decode cL_law 693 = .ok (.aload_n 0, 1) := by decide +kernel
theorem dL_law_694 : decode cL_law 694 = .ok (.iload 4, 2) := by decide +kernel
theorem dL_law_696 : decode cL_law 696 = .ok (.iconst 2, 1) := by decide +kernel
theorem dL_law_697 : decode cL_law 697 = .ok (.iadd, 1) := by decide +kernel
theorem dL_law_698 : decode cL_law 698 = .ok (.iaload, 1) := by decide +kernel
theorem dL_law_699 : decode cL_law 699 = .ok (.aload_n 0, 1) := by decide +kernel
theorem dL_law_700 : decode cL_law 700 = .ok (.iload 4, 2) := by decide +kernel
theorem dL_law_702 : decode cL_law 702 = .ok (.iconst 3, 1) := by decide +kernel
theorem dL_law_703 : decode cL_law 703 = .ok (.iadd, 1) := by decide +kernel
theorem dL_law_704 : decode cL_law 704 = .ok (.iaload, 1) := by decide +kernel
theorem dL_law_705 : decode cL_law 705 = .ok (.aload_n 0, 1) := by decide +kernel
theorem dL_law_706 : decode cL_law 706 = .ok (.iload 4, 2) := by decide +kernel
theorem dL_law_708 : decode cL_law 708 = .ok (.iconst 4, 1) := by decide +kernel
theorem dL_law_709 : decode cL_law 709 = .ok (.iadd, 1) := by decide +kernel
theorem dL_law_710 : decode cL_law 710 = .ok (.iaload, 1) := by decide +kernel
theorem dL_law_711 : decode cL_law 711 = .ok (.aload_n 0, 1) := by decide +kernel
theorem dL_law_712 : decode cL_law 712 = .ok (.iload 4, 2) := by decide +kernel
theorem dL_law_714 : decode cL_law 714 = .ok (.iconst 5, 1) := by decide +kernel
theorem dL_law_715 : decode cL_law 715 = .ok (.iadd, 1) := by decide +kernel
theorem dL_law_716 : decode cL_law 716 = .ok (.iaload, 1) := by decide +kernel
theorem dL_law_717 : decode cL_law 717 = .ok (.aload_n 0, 1) := by decide +kernel
theorem dL_law_718 : decode cL_law 718 = .ok (.iload 4, 2) := by decide +kernel
theorem dL_law_720 : decode cL_law 720 = .ok (.bipush 6, 2) := by decide +kernel
theorem dL_law_722 : decode cL_law 722 = .ok (.iadd, 1) := by decide +kernel
theorem dL_law_723 : decode cL_law 723 = .ok (.iaload, 1) := by decide +kernel
theorem dL_law_724 : decode cL_law 724 = .ok (.aload_n 3, 1) := by decide +kernel
theorem dL_law_725 : decode cL_law 725 = .ok (.invokestatic 185, 3) := by decide +kernel
theorem dL_law_728 : decode cL_law 728 = .ok (.istore 5, 2) := by decide +kernel
theorem dL_law_730 : decode cL_law 730 = .ok (.aload_n 2, 1) := by decide +kernel
theorem dL_law_731 : decode cL_law 731 = .ok (.aload_n 0, 1) := by decide +kernel
theorem dL_law_732 : decode cL_law 732 = .ok (.iload 4, 2) := by decide +kernel
theorem dL_law_734 : decode cL_law 734 = .ok (.iconst 1, 1) := by decide +kernel
theorem dL_law_735 : decode cL_law 735 = .ok (.iadd, 1) := by decide +kernel
theorem dL_law_736 : decode cL_law 736 = .ok (.iaload, 1) := by decide +kernel
theorem dL_law_737 : decode cL_law 737 = .ok (.aload_n 0, 1) := by decide +kernel
theorem dL_law_738 : decode cL_law 738 = .ok (.iload 4, 2) := by decide +kernel
theorem dL_law_740 : decode cL_law 740 = .ok (.iconst 2, 1) := by decide +kernel
theorem dL_law_741 : decode cL_law 741 = .ok (.iadd, 1) := by decide +kernel
theorem dL_law_742 : decode cL_law 742 = .ok (.iaload, 1) := by decide +kernel
theorem dL_law_743 : decode cL_law 743 = .ok (.aload_n 0, 1) := by decide +kernel
theorem dL_law_744 : decode cL_law 744 = .ok (.iload 4, 2) := by decide +kernel
theorem dL_law_746 : decode cL_law 746 = .ok (.iconst 3, 1) := by decide +kernel
theorem dL_law_747 : decode cL_law 747 = .ok (.iadd, 1) := by decide +kernel
theorem dL_law_748 : decode cL_law 748 = .ok (.iaload, 1) := by decide +kernel
theorem dL_law_749 : decode cL_law 749 = .ok (.aload_n 0, 1) := by decide +kernel
theorem dL_law_750 : decode cL_law 750 = .ok (.iload 4, 2) := by decide +kernel
theorem dL_law_752 : decode cL_law 752 = .ok (.iconst 4, 1) := by decide +kernel
theorem dL_law_753 : decode cL_law 753 = .ok (.iadd, 1) := by decide +kernel
theorem dL_law_754 : decode cL_law 754 = .ok (.iaload, 1) := by decide +kernel
theorem dL_law_755 : decode cL_law 755 = .ok (.aload_n 0, 1) := by decide +kernel
theorem dL_law_756 : decode cL_law 756 = .ok (.iload 4, 2) := by decide +kernel
theorem dL_law_758 : decode cL_law 758 = .ok (.iconst 5, 1) := by decide +kernel
theorem dL_law_759 : decode cL_law 759 = .ok (.iadd, 1) := by decide +kernel
theorem dL_law_760 : decode cL_law 760 = .ok (.iaload, 1) := by decide +kernel
theorem dL_law_761 : decode cL_law 761 = .ok (.aload_n 0, 1) := by decide +kernel
theorem dL_law_762 : decode cL_law 762 = .ok (.iload 4, 2) := by decide +kernel
theorem dL_law_764 : decode cL_law 764 = .ok (.bipush 6, 2) := by decide +kernel
theorem dL_law_766 : decode cL_law 766 = .ok (.iadd, 1) := by decide +kernel
theorem dL_law_767 : decode cL_law 767 = .ok (.iaload, 1) := by decide +kernel
theorem dL_law_768 : decode cL_law 768 = .ok (.invokevirtual 188, 3) := by decide +kernel
theorem dL_law_771 : decode cL_law 771 = .ok (.istore 6, 2) := by decide +kernel
theorem dL_law_773 : decode cL_law 773 = .ok (.aload_n 2, 1) := by decide +kernel
theorem dL_law_774 : decode cL_law 774 = .ok (.invokevirtual 156, 3) := by decide +kernel
theorem dL_law_777 : decode cL_law 777 = .ok (.iload 5, 2) := by decide +kernel
theorem dL_law_779 : decode cL_law 779 = .ok (.if_icmp .eq 5, 3) := by decide +kernel
theorem dL_law_782 : decode cL_law 782 = .ok (.iconst 0, 1) := by decide +kernel
theorem dL_law_783 : decode cL_law 783 = .ok (.ireturn, 1) := by decide +kernel
theorem dL_law_784 : decode cL_law 784 = .ok (.iload 5, 2) := by decide +kernel
theorem dL_law_786 : decode cL_law 786 = .ok (.ifCond .ne 15, 3) := by decide +kernel
theorem dL_law_789 : decode cL_law 789 = .ok (.aload_n 3, 1) := by decide +kernel
theorem dL_law_790 : decode cL_law 790 = .ok (.iconst 0, 1) := by decide +kernel
theorem dL_law_791 : decode cL_law 791 = .ok (.laload, 1) := by decide +kernel
theorem dL_law_792 : decode cL_law 792 = .ok (.iload 6, 2) := by decide +kernel
theorem dL_law_794 : decode cL_law 794 = .ok (.i2l, 1) := by decide +kernel
theorem dL_law_795 : decode cL_law 795 = .ok (.lcmp, 1) := by decide +kernel
theorem dL_law_796 : decode cL_law 796 = .ok (.ifCond .eq 5, 3) := by decide +kernel
theorem dL_law_799 : decode cL_law 799 = .ok (.iconst 0, 1) := by decide +kernel
theorem dL_law_800 : decode cL_law 800 = .ok (.ireturn, 1) := by decide +kernel
theorem dL_law_801 : decode cL_law 801 = .ok (.goto 2461, 3) := by decide +kernel
theorem dL_law_804 : decode cL_law 804 = .ok (.aload_n 1, 1) := by decide +kernel
theorem dL_law_805 : decode cL_law 805 = .ok (.aload_n 0, 1) := by decide +kernel
theorem dL_law_806 : decode cL_law 806 = .ok (.iload 4, 2) := by decide +kernel
theorem dL_law_808 : decode cL_law 808 = .ok (.iconst 1, 1) := by decide +kernel
theorem dL_law_809 : decode cL_law 809 = .ok (.iadd, 1) := by decide +kernel
theorem dL_law_810 : decode cL_law 810 = .ok (.iaload, 1) := by decide +kernel
theorem dL_law_811 : decode cL_law 811 = .ok (.aload_n 3, 1) := by decide +kernel
theorem dL_law_812 : decode cL_law 812 = .ok (.invokestatic 189, 3) := by decide +kernel
theorem dL_law_815 : decode cL_law 815 = .ok (.istore 5, 2) := by decide +kernel
theorem dL_law_817 : decode cL_law 817 = .ok (.aload_n 2, 1) := by decide +kernel
theorem dL_law_818 : decode cL_law 818 = .ok (.aload_n 0, 1) := by decide +kernel
theorem dL_law_819 : decode cL_law 819 = .ok (.iload 4, 2) := by decide +kernel
theorem dL_law_821 : decode cL_law 821 = .ok (.iconst 1, 1) := by decide +kernel
theorem dL_law_822 : decode cL_law 822 = .ok (.iadd, 1) := by decide +kernel
theorem dL_law_823 : decode cL_law 823 = .ok (.iaload, 1) := by decide +kernel
theorem dL_law_824 : decode cL_law 824 = .ok (.invokevirtual 191, 3) := by decide +kernel
theorem dL_law_827 : decode cL_law 827 = .ok (.istore 6, 2) := by decide +kernel
theorem dL_law_829 : decode cL_law 829 = .ok (.aload_n 2, 1) := by decide +kernel
theorem dL_law_830 : decode cL_law 830 = .ok (.invokevirtual 156, 3) := by decide +kernel
theorem dL_law_833 : decode cL_law 833 = .ok (.iload 5, 2) := by decide +kernel
theorem dL_law_835 : decode cL_law 835 = .ok (.if_icmp .eq 5, 3) := by decide +kernel
theorem dL_law_838 : decode cL_law 838 = .ok (.iconst 0, 1) := by decide +kernel
theorem dL_law_839 : decode cL_law 839 = .ok (.ireturn, 1) := by decide +kernel
theorem dL_law_840 : decode cL_law 840 = .ok (.iload 5, 2) := by decide +kernel
theorem dL_law_842 : decode cL_law 842 = .ok (.ifCond .ne 15, 3) := by decide +kernel
theorem dL_law_845 : decode cL_law 845 = .ok (.aload_n 3, 1) := by decide +kernel
theorem dL_law_846 : decode cL_law 846 = .ok (.iconst 0, 1) := by decide +kernel
theorem dL_law_847 : decode cL_law 847 = .ok (.laload, 1) := by decide +kernel
theorem dL_law_848 : decode cL_law 848 = .ok (.iload 6, 2) := by decide +kernel
theorem dL_law_850 : decode cL_law 850 = .ok (.i2l, 1) := by decide +kernel
theorem dL_law_851 : decode cL_law 851 = .ok (.lcmp, 1) := by decide +kernel
theorem dL_law_852 : decode cL_law 852 = .ok (.ifCond .eq 5, 3) := by decide +kernel
theorem dL_law_855 : decode cL_law 855 = .ok (.iconst 0, 1) := by decide +kernel
theorem dL_law_856 : decode cL_law 856 = .ok (.ireturn, 1) := by decide +kernel
theorem dL_law_857 : decode cL_law 857 = .ok (.goto 2405, 3) := by decide +kernel
theorem dL_law_860 : decode cL_law 860 = .ok (.aload_n 1, 1) := by decide +kernel
theorem dL_law_861 : decode cL_law 861 = .ok (.aload_n 0, 1) := by decide +kernel
theorem dL_law_862 : decode cL_law 862 = .ok (.iload 4, 2) := by decide +kernel
theorem dL_law_864 : decode cL_law 864 = .ok (.iconst 1, 1) := by decide +kernel
theorem dL_law_865 : decode cL_law 865 = .ok (.iadd, 1) := by decide +kernel
theorem dL_law_866 : decode cL_law 866 = .ok (.iaload, 1) := by decide +kernel
theorem dL_law_867 : decode cL_law 867 = .ok (.aload_n 3, 1) := by decide +kernel
theorem dL_law_868 : decode cL_law 868 = .ok (.invokestatic 192, 3) := by decide +kernel
theorem dL_law_871 : decode cL_law 871 = .ok (.istore 5, 2) := by decide +kernel
theorem dL_law_873 : decode cL_law 873 = .ok (.aload_n 2, 1) := by decide +kernel
theorem dL_law_874 : decode cL_law 874 = .ok (.aload_n 0, 1) := by decide +kernel
theorem dL_law_875 : decode cL_law 875 = .ok (.iload 4, 2) := by decide +kernel
theorem dL_law_877 : decode cL_law 877 = .ok (.iconst 1, 1) := by decide +kernel
theorem dL_law_878 : decode cL_law 878 = .ok (.iadd, 1) := by decide +kernel
theorem dL_law_879 : decode cL_law 879 = .ok (.iaload, 1) := by decide +kernel
theorem dL_law_880 : decode cL_law 880 = .ok (.invokevirtual 194, 3) := by decide +kernel
theorem dL_law_883 : decode cL_law 883 = .ok (.istore 6, 2) := by decide +kernel
theorem dL_law_885 : decode cL_law 885 = .ok (.aload_n 2, 1) := by decide +kernel
theorem dL_law_886 : decode cL_law 886 = .ok (.invokevirtual 156, 3) := by decide +kernel
theorem dL_law_889 : decode cL_law 889 = .ok (.iload 5, 2) := by decide +kernel
theorem dL_law_891 : decode cL_law 891 = .ok (.if_icmp .eq 5, 3) := by decide +kernel
theorem dL_law_894 : decode cL_law 894 = .ok (.iconst 0, 1) := by decide +kernel
theorem dL_law_895 : decode cL_law 895 = .ok (.ireturn, 1) := by decide +kernel
theorem dL_law_896 : decode cL_law 896 = .ok (.iload 5, 2) := by decide +kernel
theorem dL_law_898 : decode cL_law 898 = .ok (.ifCond .ne 15, 3) := by decide +kernel
theorem dL_law_901 : decode cL_law 901 = .ok (.aload_n 3, 1) := by decide +kernel
theorem dL_law_902 : decode cL_law 902 = .ok (.iconst 0, 1) := by decide +kernel
theorem dL_law_903 : decode cL_law 903 = .ok (.laload, 1) := by decide +kernel
theorem dL_law_904 : decode cL_law 904 = .ok (.iload 6, 2) := by decide +kernel
theorem dL_law_906 : decode cL_law 906 = .ok (.i2l, 1) := by decide +kernel
theorem dL_law_907 : decode cL_law 907 = .ok (.lcmp, 1) := by decide +kernel
theorem dL_law_908 : decode cL_law 908 = .ok (.ifCond .eq 5, 3) := by decide +kernel
theorem dL_law_911 : decode cL_law 911 = .ok (.iconst 0, 1) := by decide +kernel
theorem dL_law_912 : decode cL_law 912 = .ok (.ireturn, 1) := by decide +kernel
theorem dL_law_913 : decode cL_law 913 = .ok (.goto 2349, 3) := by decide +kernel
theorem dL_law_916 : decode cL_law 916 = .ok (.aload_n 1, 1) := by decide +kernel
theorem dL_law_917 : decode cL_law 917 = .ok (.aload_n 0, 1) := by decide +kernel
theorem dL_law_918 : decode cL_law 918 = .ok (.iload 4, 2) := by decide +kernel
theorem dL_law_920 : decode cL_law 920 = .ok (.iconst 1, 1) := by decide +kernel
theorem dL_law_921 : decode cL_law 921 = .ok (.iadd, 1) := by decide +kernel
theorem dL_law_922 : decode cL_law 922 = .ok (.iaload, 1) := by decide +kernel
theorem dL_law_923 : decode cL_law 923 = .ok (.aload_n 0, 1) := by decide +kernel
theorem dL_law_924 : decode cL_law 924 = .ok (.iload 4, 2) := by decide +kernel
theorem dL_law_926 : decode cL_law 926 = .ok (.iconst 2, 1) := by decide +kernel
theorem dL_law_927 : decode cL_law 927 = .ok (.iadd, 1) := by decide +kernel
theorem dL_law_928 : decode cL_law 928 = .ok (.iaload, 1) := by decide +kernel
theorem dL_law_929 : decode cL_law 929 = .ok (.ifCond .eq 7, 3) := by decide +kernel
theorem dL_law_932 : decode cL_law 932 = .ok (.iconst 1, 1) := by decide +kernel
theorem dL_law_933 : decode cL_law 933 = .ok (.goto 4, 3) := by decide +kernel
theorem dL_law_936 : decode cL_law 936 = .ok (.iconst 0, 1) := by decide +kernel
theorem dL_law_937 : decode cL_law 937 = .ok (.aload_n 3, 1) := by decide +kernel
theorem dL_law_938 : decode cL_law 938 = .ok (.invokestatic 195, 3) := by decide +kernel
theorem dL_law_941 : decode cL_law 941 = .ok (.istore 5, 2) := by decide +kernel
theorem dL_law_943 : decode cL_law 943 = .ok (.aload_n 2, 1) := by decide +kernel
theorem dL_law_944 : decode cL_law 944 = .ok (.aload_n 0, 1) := by decide +kernel
theorem dL_law_945 : decode cL_law 945 = .ok (.iload 4, 2) := by decide +kernel
theorem dL_law_947 : decode cL_law 947 = .ok (.iconst 1, 1) := by decide +kernel
theorem dL_law_948 : decode cL_law 948 = .ok (.iadd, 1) := by decide +kernel
theorem dL_law_949 : decode cL_law 949 = .ok (.iaload, 1) := by decide +kernel
theorem dL_law_950 : decode cL_law 950 = .ok (.aload_n 0, 1) := by decide +kernel
theorem dL_law_951 : decode cL_law 951 = .ok (.iload 4, 2) := by decide +kernel
theorem dL_law_953 : decode cL_law 953 = .ok (.iconst 2, 1) := by decide +kernel
theorem dL_law_954 : decode cL_law 954 = .ok (.iadd, 1) := by decide +kernel
theorem dL_law_955 : decode cL_law 955 = .ok (.iaload, 1) := by decide +kernel
theorem dL_law_956 : decode cL_law 956 = .ok (.ifCond .eq 7, 3) := by decide +kernel
theorem dL_law_959 : decode cL_law 959 = .ok (.iconst 1, 1) := by decide +kernel
theorem dL_law_960 : decode cL_law 960 = .ok (.goto 4, 3) := by decide +kernel
theorem dL_law_963 : decode cL_law 963 = .ok (.iconst 0, 1) := by decide +kernel
theorem dL_law_964 : decode cL_law 964 = .ok (.invokevirtual 198, 3) := by decide +kernel
theorem dL_law_967 : decode cL_law 967 = .ok (.istore 6, 2) := by decide +kernel
theorem dL_law_969 : decode cL_law 969 = .ok (.aload_n 2, 1) := by decide +kernel
theorem dL_law_970 : decode cL_law 970 = .ok (.invokevirtual 156, 3) := by decide +kernel
theorem dL_law_973 : decode cL_law 973 = .ok (.iload 5, 2) := by decide +kernel
theorem dL_law_975 : decode cL_law 975 = .ok (.if_icmp .eq 5, 3) := by decide +kernel
theorem dL_law_978 : decode cL_law 978 = .ok (.iconst 0, 1) := by decide +kernel
theorem dL_law_979 : decode cL_law 979 = .ok (.ireturn, 1) := by decide +kernel
theorem dL_law_980 : decode cL_law 980 = .ok (.iload 5, 2) := by decide +kernel
theorem dL_law_982 : decode cL_law 982 = .ok (.ifCond .ne 15, 3) := by decide +kernel
theorem dL_law_985 : decode cL_law 985 = .ok (.aload_n 3, 1) := by decide +kernel
theorem dL_law_986 : decode cL_law 986 = .ok (.iconst 0, 1) := by decide +kernel
theorem dL_law_987 : decode cL_law 987 = .ok (.laload, 1) := by decide +kernel
theorem dL_law_988 : decode cL_law 988 = .ok (.iload 6, 2) := by decide +kernel
theorem dL_law_990 : decode cL_law 990 = .ok (.i2l, 1) := by decide +kernel
theorem dL_law_991 : decode cL_law 991 = .ok (.lcmp, 1) := by decide +kernel
theorem dL_law_992 : decode cL_law 992 = .ok (.ifCond .eq 5, 3) := by decide +kernel
theorem dL_law_995 : decode cL_law 995 = .ok (.iconst 0, 1) := by decide +kernel
theorem dL_law_996 : decode cL_law 996 = .ok (.ireturn, 1) := by decide +kernel
theorem dL_law_997 : decode cL_law 997 = .ok (.goto 2265, 3) := by decide +kernel
theorem dL_law_1000 : decode cL_law 1000 = .ok (.aload_n 1, 1) := by decide +kernel
theorem dL_law_1001 : decode cL_law 1001 = .ok (.aload_n 0, 1) := by decide +kernel
theorem dL_law_1002 : decode cL_law 1002 = .ok (.iload 4, 2) := by decide +kernel
theorem dL_law_1004 : decode cL_law 1004 = .ok (.iconst 1, 1) := by decide +kernel
theorem dL_law_1005 : decode cL_law 1005 = .ok (.iadd, 1) := by decide +kernel
theorem dL_law_1006 : decode cL_law 1006 = .ok (.iaload, 1) := by decide +kernel
theorem dL_law_1007 : decode cL_law 1007 = .ok (.aload_n 0, 1) := by decide +kernel
theorem dL_law_1008 : decode cL_law 1008 = .ok (.iload 4, 2) := by decide +kernel
theorem dL_law_1010 : decode cL_law 1010 = .ok (.iconst 2, 1) := by decide +kernel
theorem dL_law_1011 : decode cL_law 1011 = .ok (.iadd, 1) := by decide +kernel
theorem dL_law_1012 : decode cL_law 1012 = .ok (.iaload, 1) := by decide +kernel
theorem dL_law_1013 : decode cL_law 1013 = .ok (.aload_n 3, 1) := by decide +kernel
theorem dL_law_1014 : decode cL_law 1014 = .ok (.invokestatic 199, 3) := by decide +kernel
theorem dL_law_1017 : decode cL_law 1017 = .ok (.istore 5, 2) := by decide +kernel
theorem dL_law_1019 : decode cL_law 1019 = .ok (.aload_n 2, 1) := by decide +kernel
theorem dL_law_1020 : decode cL_law 1020 = .ok (.aload_n 0, 1) := by decide +kernel
theorem dL_law_1021 : decode cL_law 1021 = .ok (.iload 4, 2) := by decide +kernel
theorem dL_law_1023 : decode cL_law 1023 = .ok (.iconst 1, 1) := by decide +kernel
theorem dL_law_1024 : decode cL_law 1024 = .ok (.iadd, 1) := by decide +kernel
theorem dL_law_1025 : decode cL_law 1025 = .ok (.iaload, 1) := by decide +kernel
theorem dL_law_1026 : decode cL_law 1026 = .ok (.aload_n 0, 1) := by decide +kernel
theorem dL_law_1027 : decode cL_law 1027 = .ok (.iload 4, 2) := by decide +kernel
theorem dL_law_1029 : decode cL_law 1029 = .ok (.iconst 2, 1) := by decide +kernel
theorem dL_law_1030 : decode cL_law 1030 = .ok (.iadd, 1) := by decide +kernel
theorem dL_law_1031 : decode cL_law 1031 = .ok (.iaload, 1) := by decide +kernel
theorem dL_law_1032 : decode cL_law 1032 = .ok (.invokevirtual 201, 3) := by decide +kernel
theorem dL_law_1035 : decode cL_law 1035 = .ok (.istore 6, 2) := by decide +kernel
theorem dL_law_1037 : decode cL_law 1037 = .ok (.aload_n 2, 1) := by decide +kernel
theorem dL_law_1038 : decode cL_law 1038 = .ok (.invokevirtual 156, 3) := by decide +kernel
theorem dL_law_1041 : decode cL_law 1041 = .ok (.iload 5, 2) := by decide +kernel
theorem dL_law_1043 : decode cL_law 1043 = .ok (.if_icmp .eq 5, 3) := by decide +kernel
theorem dL_law_1046 : decode cL_law 1046 = .ok (.iconst 0, 1) := by decide +kernel
theorem dL_law_1047 : decode cL_law 1047 = .ok (.ireturn, 1) := by decide +kernel
theorem dL_law_1048 : decode cL_law 1048 = .ok (.iload 5, 2) := by decide +kernel
theorem dL_law_1050 : decode cL_law 1050 = .ok (.ifCond .ne 15, 3) := by decide +kernel
theorem dL_law_1053 : decode cL_law 1053 = .ok (.aload_n 3, 1) := by decide +kernel
theorem dL_law_1054 : decode cL_law 1054 = .ok (.iconst 0, 1) := by decide +kernel
theorem dL_law_1055 : decode cL_law 1055 = .ok (.laload, 1) := by decide +kernel
theorem dL_law_1056 : decode cL_law 1056 = .ok (.iload 6, 2) := by decide +kernel
theorem dL_law_1058 : decode cL_law 1058 = .ok (.i2l, 1) := by decide +kernel
theorem dL_law_1059 : decode cL_law 1059 = .ok (.lcmp, 1) := by decide +kernel
theorem dL_law_1060 : decode cL_law 1060 = .ok (.ifCond .eq 5, 3) := by decide +kernel
theorem dL_law_1063 : decode cL_law 1063 = .ok (.iconst 0, 1) := by decide +kernel
theorem dL_law_1064 : decode cL_law 1064 = .ok (.ireturn, 1) := by decide +kernel
theorem dL_law_1065 : decode cL_law 1065 = .ok (.goto 2197, 3) := by decide +kernel
theorem dL_law_1068 : decode cL_law 1068 = .ok (.aload_n 1, 1) := by decide +kernel
theorem dL_law_1069 : decode cL_law 1069 = .ok (.aload_n 0, 1) := by decide +kernel
theorem dL_law_1070 : decode cL_law 1070 = .ok (.iload 4, 2) := by decide +kernel
theorem dL_law_1072 : decode cL_law 1072 = .ok (.iconst 1, 1) := by decide +kernel
theorem dL_law_1073 : decode cL_law 1073 = .ok (.iadd, 1) := by decide +kernel
theorem dL_law_1074 : decode cL_law 1074 = .ok (.iaload, 1) := by decide +kernel
theorem dL_law_1075 : decode cL_law 1075 = .ok (.aload_n 3, 1) := by decide +kernel
theorem dL_law_1076 : decode cL_law 1076 = .ok (.invokestatic 202, 3) := by decide +kernel
theorem dL_law_1079 : decode cL_law 1079 = .ok (.istore 5, 2) := by decide +kernel
theorem dL_law_1081 : decode cL_law 1081 = .ok (.aload_n 2, 1) := by decide +kernel
theorem dL_law_1082 : decode cL_law 1082 = .ok (.aload_n 0, 1) := by decide +kernel
theorem dL_law_1083 : decode cL_law 1083 = .ok (.iload 4, 2) := by decide +kernel
theorem dL_law_1085 : decode cL_law 1085 = .ok (.iconst 1, 1) := by decide +kernel
theorem dL_law_1086 : decode cL_law 1086 = .ok (.iadd, 1) := by decide +kernel
theorem dL_law_1087 : decode cL_law 1087 = .ok (.iaload, 1) := by decide +kernel
theorem dL_law_1088 : decode cL_law 1088 = .ok (.invokevirtual 204, 3) := by decide +kernel
theorem dL_law_1091 : decode cL_law 1091 = .ok (.istore 6, 2) := by decide +kernel
theorem dL_law_1093 : decode cL_law 1093 = .ok (.aload_n 2, 1) := by decide +kernel
theorem dL_law_1094 : decode cL_law 1094 = .ok (.invokevirtual 156, 3) := by decide +kernel
theorem dL_law_1097 : decode cL_law 1097 = .ok (.iload 5, 2) := by decide +kernel
theorem dL_law_1099 : decode cL_law 1099 = .ok (.if_icmp .eq 5, 3) := by decide +kernel
theorem dL_law_1102 : decode cL_law 1102 = .ok (.iconst 0, 1) := by decide +kernel
theorem dL_law_1103 : decode cL_law 1103 = .ok (.ireturn, 1) := by decide +kernel
theorem dL_law_1104 : decode cL_law 1104 = .ok (.iload 5, 2) := by decide +kernel
theorem dL_law_1106 : decode cL_law 1106 = .ok (.ifCond .ne 15, 3) := by decide +kernel
theorem dL_law_1109 : decode cL_law 1109 = .ok (.aload_n 3, 1) := by decide +kernel
theorem dL_law_1110 : decode cL_law 1110 = .ok (.iconst 0, 1) := by decide +kernel
theorem dL_law_1111 : decode cL_law 1111 = .ok (.laload, 1) := by decide +kernel
theorem dL_law_1112 : decode cL_law 1112 = .ok (.iload 6, 2) := by decide +kernel
theorem dL_law_1114 : decode cL_law 1114 = .ok (.i2l, 1) := by decide +kernel
theorem dL_law_1115 : decode cL_law 1115 = .ok (.lcmp, 1) := by decide +kernel
theorem dL_law_1116 : decode cL_law 1116 = .ok (.ifCond .eq 5, 3) := by decide +kernel
theorem dL_law_1119 : decode cL_law 1119 = .ok (.iconst 0, 1) := by decide +kernel
theorem dL_law_1120 : decode cL_law 1120 = .ok (.ireturn, 1) := by decide +kernel
theorem dL_law_1121 : decode cL_law 1121 = .ok (.goto 2141, 3) := by decide +kernel
theorem dL_law_1124 : decode cL_law 1124 = .ok (.aload_n 1, 1) := by decide +kernel
theorem dL_law_1125 : decode cL_law 1125 = .ok (.aload_n 0, 1) := by decide +kernel
theorem dL_law_1126 : decode cL_law 1126 = .ok (.iload 4, 2) := by decide +kernel
theorem dL_law_1128 : decode cL_law 1128 = .ok (.iconst 1, 1) := by decide +kernel
theorem dL_law_1129 : decode cL_law 1129 = .ok (.iadd, 1) := by decide +kernel
theorem dL_law_1130 : decode cL_law 1130 = .ok (.iaload, 1) := by decide +kernel
theorem dL_law_1131 : decode cL_law 1131 = .ok (.aload_n 0, 1) := by decide +kernel
theorem dL_law_1132 : decode cL_law 1132 = .ok (.iload 4, 2) := by decide +kernel
theorem dL_law_1134 : decode cL_law 1134 = .ok (.iconst 2, 1) := by decide +kernel
theorem dL_law_1135 : decode cL_law 1135 = .ok (.iadd, 1) := by decide +kernel
theorem dL_law_1136 : decode cL_law 1136 = .ok (.iaload, 1) := by decide +kernel
theorem dL_law_1137 : decode cL_law 1137 = .ok (.aload_n 0, 1) := by decide +kernel
theorem dL_law_1138 : decode cL_law 1138 = .ok (.iload 4, 2) := by decide +kernel
theorem dL_law_1140 : decode cL_law 1140 = .ok (.iconst 3, 1) := by decide +kernel
theorem dL_law_1141 : decode cL_law 1141 = .ok (.iadd, 1) := by decide +kernel
theorem dL_law_1142 : decode cL_law 1142 = .ok (.iaload, 1) := by decide +kernel
theorem dL_law_1143 : decode cL_law 1143 = .ok (.aload_n 0, 1) := by decide +kernel
theorem dL_law_1144 : decode cL_law 1144 = .ok (.iload 4, 2) := by decide +kernel
theorem dL_law_1146 : decode cL_law 1146 = .ok (.iconst 4, 1) := by decide +kernel
theorem dL_law_1147 : decode cL_law 1147 = .ok (.iadd, 1) := by decide +kernel
theorem dL_law_1148 : decode cL_law 1148 = .ok (.iaload, 1) := by decide +kernel
theorem dL_law_1149 : decode cL_law 1149 = .ok (.aload_n 3, 1) := by decide +kernel
theorem dL_law_1150 : decode cL_law 1150 = .ok (.invokestatic 205, 3) := by decide +kernel
theorem dL_law_1153 : decode cL_law 1153 = .ok (.istore 5, 2) := by decide +kernel
theorem dL_law_1155 : decode cL_law 1155 = .ok (.aload_n 2, 1) := by decide +kernel
theorem dL_law_1156 : decode cL_law 1156 = .ok (.aload_n 0, 1) := by decide +kernel
theorem dL_law_1157 : decode cL_law 1157 = .ok (.iload 4, 2) := by decide +kernel
theorem dL_law_1159 : decode cL_law 1159 = .ok (.iconst 1, 1) := by decide +kernel
theorem dL_law_1160 : decode cL_law 1160 = .ok (.iadd, 1) := by decide +kernel
theorem dL_law_1161 : decode cL_law 1161 = .ok (.iaload, 1) := by decide +kernel
theorem dL_law_1162 : decode cL_law 1162 = .ok (.aload_n 0, 1) := by decide +kernel
theorem dL_law_1163 : decode cL_law 1163 = .ok (.iload 4, 2) := by decide +kernel
theorem dL_law_1165 : decode cL_law 1165 = .ok (.iconst 2, 1) := by decide +kernel
theorem dL_law_1166 : decode cL_law 1166 = .ok (.iadd, 1) := by decide +kernel
theorem dL_law_1167 : decode cL_law 1167 = .ok (.iaload, 1) := by decide +kernel
theorem dL_law_1168 : decode cL_law 1168 = .ok (.aload_n 0, 1) := by decide +kernel
theorem dL_law_1169 : decode cL_law 1169 = .ok (.iload 4, 2) := by decide +kernel
theorem dL_law_1171 : decode cL_law 1171 = .ok (.iconst 3, 1) := by decide +kernel
theorem dL_law_1172 : decode cL_law 1172 = .ok (.iadd, 1) := by decide +kernel
theorem dL_law_1173 : decode cL_law 1173 = .ok (.iaload, 1) := by decide +kernel
theorem dL_law_1174 : decode cL_law 1174 = .ok (.aload_n 0, 1) := by decide +kernel
theorem dL_law_1175 : decode cL_law 1175 = .ok (.iload 4, 2) := by decide +kernel
theorem dL_law_1177 : decode cL_law 1177 = .ok (.iconst 4, 1) := by decide +kernel
theorem dL_law_1178 : decode cL_law 1178 = .ok (.iadd, 1) := by decide +kernel
theorem dL_law_1179 : decode cL_law 1179 = .ok (.iaload, 1) := by decide +kernel
theorem dL_law_1180 : decode cL_law 1180 = .ok (.invokevirtual 208, 3) := by decide +kernel
theorem dL_law_1183 : decode cL_law 1183 = .ok (.istore 6, 2) := by decide +kernel
theorem dL_law_1185 : decode cL_law 1185 = .ok (.aload_n 2, 1) := by decide +kernel
theorem dL_law_1186 : decode cL_law 1186 = .ok (.invokevirtual 156, 3) := by decide +kernel
theorem dL_law_1189 : decode cL_law 1189 = .ok (.iload 5, 2) := by decide +kernel
theorem dL_law_1191 : decode cL_law 1191 = .ok (.if_icmp .eq 5, 3) := by decide +kernel
theorem dL_law_1194 : decode cL_law 1194 = .ok (.iconst 0, 1) := by decide +kernel
theorem dL_law_1195 : decode cL_law 1195 = .ok (.ireturn, 1) := by decide +kernel
theorem dL_law_1196 : decode cL_law 1196 = .ok (.iload 5, 2) := by decide +kernel
theorem dL_law_1198 : decode cL_law 1198 = .ok (.ifCond .ne 15, 3) := by decide +kernel
theorem dL_law_1201 : decode cL_law 1201 = .ok (.aload_n 3, 1) := by decide +kernel
theorem dL_law_1202 : decode cL_law 1202 = .ok (.iconst 0, 1) := by decide +kernel
theorem dL_law_1203 : decode cL_law 1203 = .ok (.laload, 1) := by decide +kernel
theorem dL_law_1204 : decode cL_law 1204 = .ok (.iload 6, 2) := by decide +kernel
theorem dL_law_1206 : decode cL_law 1206 = .ok (.i2l, 1) := by decide +kernel
theorem dL_law_1207 : decode cL_law 1207 = .ok (.lcmp, 1) := by decide +kernel
theorem dL_law_1208 : decode cL_law 1208 = .ok (.ifCond .eq 5, 3) := by decide +kernel
theorem dL_law_1211 : decode cL_law 1211 = .ok (.iconst 0, 1) := by decide +kernel
theorem dL_law_1212 : decode cL_law 1212 = .ok (.ireturn, 1) := by decide +kernel
theorem dL_law_1213 : decode cL_law 1213 = .ok (.goto 2049, 3) := by decide +kernel
theorem dL_law_1216 : decode cL_law 1216 = .ok (.aload_n 1, 1) := by decide +kernel
theorem dL_law_1217 : decode cL_law 1217 = .ok (.aload_n 0, 1) := by decide +kernel
theorem dL_law_1218 : decode cL_law 1218 = .ok (.iload 4, 2) := by decide +kernel
theorem dL_law_1220 : decode cL_law 1220 = .ok (.iconst 1, 1) := by decide +kernel
theorem dL_law_1221 : decode cL_law 1221 = .ok (.iadd, 1) := by decide +kernel
theorem dL_law_1222 : decode cL_law 1222 = .ok (.iaload, 1) := by decide +kernel
theorem dL_law_1223 : decode cL_law 1223 = .ok (.aload_n 0, 1) := by decide +kernel
theorem dL_law_1224 : decode cL_law 1224 = .ok (.iload 4, 2) := by decide +kernel
theorem dL_law_1226 : decode cL_law 1226 = .ok (.iconst 2, 1) := by decide +kernel
theorem dL_law_1227 : decode cL_law 1227 = .ok (.iadd, 1) := by decide +kernel
theorem dL_law_1228 : decode cL_law 1228 = .ok (.iaload, 1) := by decide +kernel
theorem dL_law_1229 : decode cL_law 1229 = .ok (.aload_n 3, 1) := by decide +kernel
theorem dL_law_1230 : decode cL_law 1230 = .ok (.invokestatic 209, 3) := by decide +kernel
theorem dL_law_1233 : decode cL_law 1233 = .ok (.istore 5, 2) := by decide +kernel
theorem dL_law_1235 : decode cL_law 1235 = .ok (.aload_n 2, 1) := by decide +kernel
theorem dL_law_1236 : decode cL_law 1236 = .ok (.aload_n 0, 1) := by decide +kernel
theorem dL_law_1237 : decode cL_law 1237 = .ok (.iload 4, 2) := by decide +kernel
theorem dL_law_1239 : decode cL_law 1239 = .ok (.iconst 1, 1) := by decide +kernel
theorem dL_law_1240 : decode cL_law 1240 = .ok (.iadd, 1) := by decide +kernel
theorem dL_law_1241 : decode cL_law 1241 = .ok (.iaload, 1) := by decide +kernel
theorem dL_law_1242 : decode cL_law 1242 = .ok (.aload_n 0, 1) := by decide +kernel
theorem dL_law_1243 : decode cL_law 1243 = .ok (.iload 4, 2) := by decide +kernel
theorem dL_law_1245 : decode cL_law 1245 = .ok (.iconst 2, 1) := by decide +kernel
theorem dL_law_1246 : decode cL_law 1246 = .ok (.iadd, 1) := by decide +kernel
theorem dL_law_1247 : decode cL_law 1247 = .ok (.iaload, 1) := by decide +kernel
theorem dL_law_1248 : decode cL_law 1248 = .ok (.invokevirtual 211, 3) := by decide +kernel
theorem dL_law_1251 : decode cL_law 1251 = .ok (.istore 6, 2) := by decide +kernel
theorem dL_law_1253 : decode cL_law 1253 = .ok (.aload_n 2, 1) := by decide +kernel
theorem dL_law_1254 : decode cL_law 1254 = .ok (.invokevirtual 156, 3) := by decide +kernel
theorem dL_law_1257 : decode cL_law 1257 = .ok (.iload 5, 2) := by decide +kernel
theorem dL_law_1259 : decode cL_law 1259 = .ok (.if_icmp .eq 5, 3) := by decide +kernel
theorem dL_law_1262 : decode cL_law 1262 = .ok (.iconst 0, 1) := by decide +kernel
theorem dL_law_1263 : decode cL_law 1263 = .ok (.ireturn, 1) := by decide +kernel
theorem dL_law_1264 : decode cL_law 1264 = .ok (.iload 5, 2) := by decide +kernel
theorem dL_law_1266 : decode cL_law 1266 = .ok (.ifCond .ne 15, 3) := by decide +kernel
theorem dL_law_1269 : decode cL_law 1269 = .ok (.aload_n 3, 1) := by decide +kernel
theorem dL_law_1270 : decode cL_law 1270 = .ok (.iconst 0, 1) := by decide +kernel
theorem dL_law_1271 : decode cL_law 1271 = .ok (.laload, 1) := by decide +kernel
theorem dL_law_1272 : decode cL_law 1272 = .ok (.iload 6, 2) := by decide +kernel
theorem dL_law_1274 : decode cL_law 1274 = .ok (.i2l, 1) := by decide +kernel
theorem dL_law_1275 : decode cL_law 1275 = .ok (.lcmp, 1) := by decide +kernel
theorem dL_law_1276 : decode cL_law 1276 = .ok (.ifCond .eq 5, 3) := by decide +kernel
theorem dL_law_1279 : decode cL_law 1279 = .ok (.iconst 0, 1) := by decide +kernel
theorem dL_law_1280 : decode cL_law 1280 = .ok (.ireturn, 1) := by decide +kernel
theorem dL_law_1281 : decode cL_law 1281 = .ok (.goto 1981, 3) := by decide +kernel
theorem dL_law_1284 : decode cL_law 1284 = .ok (.aload_n 1, 1) := by decide +kernel
theorem dL_law_1285 : decode cL_law 1285 = .ok (.aload_n 0, 1) := by decide +kernel
theorem dL_law_1286 : decode cL_law 1286 = .ok (.iload 4, 2) := by decide +kernel
theorem dL_law_1288 : decode cL_law 1288 = .ok (.iconst 1, 1) := by decide +kernel
theorem dL_law_1289 : decode cL_law 1289 = .ok (.iadd, 1) := by decide +kernel
theorem dL_law_1290 : decode cL_law 1290 = .ok (.iaload, 1) := by decide +kernel
theorem dL_law_1291 : decode cL_law 1291 = .ok (.aload_n 0, 1) := by decide +kernel
theorem dL_law_1292 : decode cL_law 1292 = .ok (.iload 4, 2) := by decide +kernel
theorem dL_law_1294 : decode cL_law 1294 = .ok (.iconst 2, 1) := by decide +kernel
theorem dL_law_1295 : decode cL_law 1295 = .ok (.iadd, 1) := by decide +kernel
theorem dL_law_1296 : decode cL_law 1296 = .ok (.iaload, 1) := by decide +kernel
theorem dL_law_1297 : decode cL_law 1297 = .ok (.aload_n 0, 1) := by decide +kernel
theorem dL_law_1298 : decode cL_law 1298 = .ok (.iload 4, 2) := by decide +kernel
theorem dL_law_1300 : decode cL_law 1300 = .ok (.iconst 3, 1) := by decide +kernel
theorem dL_law_1301 : decode cL_law 1301 = .ok (.iadd, 1) := by decide +kernel
theorem dL_law_1302 : decode cL_law 1302 = .ok (.iaload, 1) := by decide +kernel
theorem dL_law_1303 : decode cL_law 1303 = .ok (.aload_n 0, 1) := by decide +kernel
theorem dL_law_1304 : decode cL_law 1304 = .ok (.iload 4, 2) := by decide +kernel
theorem dL_law_1306 : decode cL_law 1306 = .ok (.iconst 4, 1) := by decide +kernel
theorem dL_law_1307 : decode cL_law 1307 = .ok (.iadd, 1) := by decide +kernel
theorem dL_law_1308 : decode cL_law 1308 = .ok (.iaload, 1) := by decide +kernel
theorem dL_law_1309 : decode cL_law 1309 = .ok (.aload_n 0, 1) := by decide +kernel
theorem dL_law_1310 : decode cL_law 1310 = .ok (.iload 4, 2) := by decide +kernel
theorem dL_law_1312 : decode cL_law 1312 = .ok (.iconst 5, 1) := by decide +kernel
theorem dL_law_1313 : decode cL_law 1313 = .ok (.iadd, 1) := by decide +kernel
theorem dL_law_1314 : decode cL_law 1314 = .ok (.iaload, 1) := by decide +kernel
theorem dL_law_1315 : decode cL_law 1315 = .ok (.aload_n 3, 1) := by decide +kernel
theorem dL_law_1316 : decode cL_law 1316 = .ok (.invokestatic 212, 3) := by decide +kernel
theorem dL_law_1319 : decode cL_law 1319 = .ok (.istore 5, 2) := by decide +kernel
theorem dL_law_1321 : decode cL_law 1321 = .ok (.aload_n 2, 1) := by decide +kernel
theorem dL_law_1322 : decode cL_law 1322 = .ok (.aload_n 0, 1) := by decide +kernel
theorem dL_law_1323 : decode cL_law 1323 = .ok (.iload 4, 2) := by decide +kernel
theorem dL_law_1325 : decode cL_law 1325 = .ok (.iconst 1, 1) := by decide +kernel
theorem dL_law_1326 : decode cL_law 1326 = .ok (.iadd, 1) := by decide +kernel
theorem dL_law_1327 : decode cL_law 1327 = .ok (.iaload, 1) := by decide +kernel
theorem dL_law_1328 : decode cL_law 1328 = .ok (.aload_n 0, 1) := by decide +kernel
theorem dL_law_1329 : decode cL_law 1329 = .ok (.iload 4, 2) := by decide +kernel
theorem dL_law_1331 : decode cL_law 1331 = .ok (.iconst 2, 1) := by decide +kernel
theorem dL_law_1332 : decode cL_law 1332 = .ok (.iadd, 1) := by decide +kernel
theorem dL_law_1333 : decode cL_law 1333 = .ok (.iaload, 1) := by decide +kernel
theorem dL_law_1334 : decode cL_law 1334 = .ok (.aload_n 0, 1) := by decide +kernel
theorem dL_law_1335 : decode cL_law 1335 = .ok (.iload 4, 2) := by decide +kernel
theorem dL_law_1337 : decode cL_law 1337 = .ok (.iconst 3, 1) := by decide +kernel
theorem dL_law_1338 : decode cL_law 1338 = .ok (.iadd, 1) := by decide +kernel
theorem dL_law_1339 : decode cL_law 1339 = .ok (.iaload, 1) := by decide +kernel
theorem dL_law_1340 : decode cL_law 1340 = .ok (.aload_n 0, 1) := by decide +kernel
theorem dL_law_1341 : decode cL_law 1341 = .ok (.iload 4, 2) := by decide +kernel
theorem dL_law_1343 : decode cL_law 1343 = .ok (.iconst 4, 1) := by decide +kernel
theorem dL_law_1344 : decode cL_law 1344 = .ok (.iadd, 1) := by decide +kernel
theorem dL_law_1345 : decode cL_law 1345 = .ok (.iaload, 1) := by decide +kernel
theorem dL_law_1346 : decode cL_law 1346 = .ok (.aload_n 0, 1) := by decide +kernel
theorem dL_law_1347 : decode cL_law 1347 = .ok (.iload 4, 2) := by decide +kernel
theorem dL_law_1349 : decode cL_law 1349 = .ok (.iconst 5, 1) := by decide +kernel
theorem dL_law_1350 : decode cL_law 1350 = .ok (.iadd, 1) := by decide +kernel
theorem dL_law_1351 : decode cL_law 1351 = .ok (.iaload, 1) := by decide +kernel
theorem dL_law_1352 : decode cL_law 1352 = .ok (.invokevirtual 215, 3) := by decide +kernel
theorem dL_law_1355 : decode cL_law 1355 = .ok (.istore 6, 2) := by decide +kernel
theorem dL_law_1357 : decode cL_law 1357 = .ok (.aload_n 2, 1) := by decide +kernel
theorem dL_law_1358 : decode cL_law 1358 = .ok (.invokevirtual 156, 3) := by decide +kernel
theorem dL_law_1361 : decode cL_law 1361 = .ok (.iload 5, 2) := by decide +kernel
theorem dL_law_1363 : decode cL_law 1363 = .ok (.if_icmp .eq 5, 3) := by decide +kernel
theorem dL_law_1366 : decode cL_law 1366 = .ok (.iconst 0, 1) := by decide +kernel
theorem dL_law_1367 : decode cL_law 1367 = .ok (.ireturn, 1) := by decide +kernel
theorem dL_law_1368 : decode cL_law 1368 = .ok (.iload 5, 2) := by decide +kernel
theorem dL_law_1370 : decode cL_law 1370 = .ok (.ifCond .ne 15, 3) := by decide +kernel
theorem dL_law_1373 : decode cL_law 1373 = .ok (.aload_n 3, 1) := by decide +kernel
theorem dL_law_1374 : decode cL_law 1374 = .ok (.iconst 0, 1) := by decide +kernel
theorem dL_law_1375 : decode cL_law 1375 = .ok (.laload, 1) := by decide +kernel
theorem dL_law_1376 : decode cL_law 1376 = .ok (.iload 6, 2) := by decide +kernel
theorem dL_law_1378 : decode cL_law 1378 = .ok (.i2l, 1) := by decide +kernel
theorem dL_law_1379 : decode cL_law 1379 = .ok (.lcmp, 1) := by decide +kernel
theorem dL_law_1380 : decode cL_law 1380 = .ok (.ifCond .eq 5, 3) := by decide +kernel
theorem dL_law_1383 : decode cL_law 1383 = .ok (.iconst 0, 1) := by decide +kernel
theorem dL_law_1384 : decode cL_law 1384 = .ok (.ireturn, 1) := by decide +kernel
theorem dL_law_1385 : decode cL_law 1385 = .ok (.goto 1877, 3) := by decide +kernel
theorem dL_law_1388 : decode cL_law 1388 = .ok (.aload_n 1, 1) := by decide +kernel
theorem dL_law_1389 : decode cL_law 1389 = .ok (.aload_n 0, 1) := by decide +kernel
theorem dL_law_1390 : decode cL_law 1390 = .ok (.iload 4, 2) := by decide +kernel
theorem dL_law_1392 : decode cL_law 1392 = .ok (.iconst 1, 1) := by decide +kernel
theorem dL_law_1393 : decode cL_law 1393 = .ok (.iadd, 1) := by decide +kernel
theorem dL_law_1394 : decode cL_law 1394 = .ok (.iaload, 1) := by decide +kernel
theorem dL_law_1395 : decode cL_law 1395 = .ok (.aload_n 3, 1) := by decide +kernel
theorem dL_law_1396 : decode cL_law 1396 = .ok (.invokestatic 216, 3) := by decide +kernel
theorem dL_law_1399 : decode cL_law 1399 = .ok (.istore 5, 2) := by decide +kernel
theorem dL_law_1401 : decode cL_law 1401 = .ok (.aload_n 2, 1) := by decide +kernel
theorem dL_law_1402 : decode cL_law 1402 = .ok (.aload_n 0, 1) := by decide +kernel
theorem dL_law_1403 : decode cL_law 1403 = .ok (.iload 4, 2) := by decide +kernel
theorem dL_law_1405 : decode cL_law 1405 = .ok (.iconst 1, 1) := by decide +kernel
theorem dL_law_1406 : decode cL_law 1406 = .ok (.iadd, 1) := by decide +kernel
theorem dL_law_1407 : decode cL_law 1407 = .ok (.iaload, 1) := by decide +kernel
theorem dL_law_1408 : decode cL_law 1408 = .ok (.invokevirtual 218, 3) := by decide +kernel
theorem dL_law_1411 : decode cL_law 1411 = .ok (.istore 6, 2) := by decide +kernel
theorem dL_law_1413 : decode cL_law 1413 = .ok (.aload_n 2, 1) := by decide +kernel
theorem dL_law_1414 : decode cL_law 1414 = .ok (.invokevirtual 156, 3) := by decide +kernel
theorem dL_law_1417 : decode cL_law 1417 = .ok (.iload 5, 2) := by decide +kernel
theorem dL_law_1419 : decode cL_law 1419 = .ok (.if_icmp .eq 5, 3) := by decide +kernel
theorem dL_law_1422 : decode cL_law 1422 = .ok (.iconst 0, 1) := by decide +kernel
theorem dL_law_1423 : decode cL_law 1423 = .ok (.ireturn, 1) := by decide +kernel
theorem dL_law_1424 : decode cL_law 1424 = .ok (.iload 5, 2) := by decide +kernel
theorem dL_law_1426 : decode cL_law 1426 = .ok (.ifCond .ne 15, 3) := by decide +kernel
theorem dL_law_1429 : decode cL_law 1429 = .ok (.aload_n 3, 1) := by decide +kernel
theorem dL_law_1430 : decode cL_law 1430 = .ok (.iconst 0, 1) := by decide +kernel
theorem dL_law_1431 : decode cL_law 1431 = .ok (.laload, 1) := by decide +kernel
theorem dL_law_1432 : decode cL_law 1432 = .ok (.iload 6, 2) := by decide +kernel
theorem dL_law_1434 : decode cL_law 1434 = .ok (.i2l, 1) := by decide +kernel
theorem dL_law_1435 : decode cL_law 1435 = .ok (.lcmp, 1) := by decide +kernel
theorem dL_law_1436 : decode cL_law 1436 = .ok (.ifCond .eq 5, 3) := by decide +kernel
theorem dL_law_1439 : decode cL_law 1439 = .ok (.iconst 0, 1) := by decide +kernel
theorem dL_law_1440 : decode cL_law 1440 = .ok (.ireturn, 1) := by decide +kernel
theorem dL_law_1441 : decode cL_law 1441 = .ok (.goto 1821, 3) := by decide +kernel
theorem dL_law_1444 : decode cL_law 1444 = .ok (.aload_n 1, 1) := by decide +kernel
theorem dL_law_1445 : decode cL_law 1445 = .ok (.aload_n 0, 1) := by decide +kernel
theorem dL_law_1446 : decode cL_law 1446 = .ok (.iload 4, 2) := by decide +kernel
theorem dL_law_1448 : decode cL_law 1448 = .ok (.iconst 1, 1) := by decide +kernel
theorem dL_law_1449 : decode cL_law 1449 = .ok (.iadd, 1) := by decide +kernel
theorem dL_law_1450 : decode cL_law 1450 = .ok (.iaload, 1) := by decide +kernel
theorem dL_law_1451 : decode cL_law 1451 = .ok (.aload_n 3, 1) := by decide +kernel
theorem dL_law_1452 : decode cL_law 1452 = .ok (.invokestatic 219, 3) := by decide +kernel
theorem dL_law_1455 : decode cL_law 1455 = .ok (.istore 5, 2) := by decide +kernel
theorem dL_law_1457 : decode cL_law 1457 = .ok (.aload_n 2, 1) := by decide +kernel
theorem dL_law_1458 : decode cL_law 1458 = .ok (.aload_n 0, 1) := by decide +kernel
theorem dL_law_1459 : decode cL_law 1459 = .ok (.iload 4, 2) := by decide +kernel
theorem dL_law_1461 : decode cL_law 1461 = .ok (.iconst 1, 1) := by decide +kernel
theorem dL_law_1462 : decode cL_law 1462 = .ok (.iadd, 1) := by decide +kernel
theorem dL_law_1463 : decode cL_law 1463 = .ok (.iaload, 1) := by decide +kernel
theorem dL_law_1464 : decode cL_law 1464 = .ok (.invokevirtual 221, 3) := by decide +kernel
theorem dL_law_1467 : decode cL_law 1467 = .ok (.istore 6, 2) := by decide +kernel
theorem dL_law_1469 : decode cL_law 1469 = .ok (.aload_n 2, 1) := by decide +kernel
theorem dL_law_1470 : decode cL_law 1470 = .ok (.invokevirtual 156, 3) := by decide +kernel
theorem dL_law_1473 : decode cL_law 1473 = .ok (.iload 5, 2) := by decide +kernel
theorem dL_law_1475 : decode cL_law 1475 = .ok (.if_icmp .eq 5, 3) := by decide +kernel
theorem dL_law_1478 : decode cL_law 1478 = .ok (.iconst 0, 1) := by decide +kernel
theorem dL_law_1479 : decode cL_law 1479 = .ok (.ireturn, 1) := by decide +kernel
theorem dL_law_1480 : decode cL_law 1480 = .ok (.iload 5, 2) := by decide +kernel
theorem dL_law_1482 : decode cL_law 1482 = .ok (.ifCond .ne 15, 3) := by decide +kernel
theorem dL_law_1485 : decode cL_law 1485 = .ok (.aload_n 3, 1) := by decide +kernel
theorem dL_law_1486 : decode cL_law 1486 = .ok (.iconst 0, 1) := by decide +kernel
theorem dL_law_1487 : decode cL_law 1487 = .ok (.laload, 1) := by decide +kernel
theorem dL_law_1488 : decode cL_law 1488 = .ok (.iload 6, 2) := by decide +kernel
theorem dL_law_1490 : decode cL_law 1490 = .ok (.i2l, 1) := by decide +kernel
theorem dL_law_1491 : decode cL_law 1491 = .ok (.lcmp, 1) := by decide +kernel
theorem dL_law_1492 : decode cL_law 1492 = .ok (.ifCond .eq 5, 3) := by decide +kernel
theorem dL_law_1495 : decode cL_law 1495 = .ok (.iconst 0, 1) := by decide +kernel
theorem dL_law_1496 : decode cL_law 1496 = .ok (.ireturn, 1) := by decide +kernel
theorem dL_law_1497 : decode cL_law 1497 = .ok (.goto 1765, 3) := by decide +kernel
theorem dL_law_1500 : decode cL_law 1500 = .ok (.aload_n 1, 1) := by decide +kernel
theorem dL_law_1501 : decode cL_law 1501 = .ok (.aload_n 0, 1) := by decide +kernel
theorem dL_law_1502 : decode cL_law 1502 = .ok (.iload 4, 2) := by decide +kernel
theorem dL_law_1504 : decode cL_law 1504 = .ok (.iconst 1, 1) := by decide +kernel
theorem dL_law_1505 : decode cL_law 1505 = .ok (.iadd, 1) := by decide +kernel
theorem dL_law_1506 : decode cL_law 1506 = .ok (.iaload, 1) := by decide +kernel
theorem dL_law_1507 : decode cL_law 1507 = .ok (.aload_n 3, 1) := by decide +kernel
theorem dL_law_1508 : decode cL_law 1508 = .ok (.invokestatic 222, 3) := by decide +kernel
theorem dL_law_1511 : decode cL_law 1511 = .ok (.istore 5, 2) := by decide +kernel
theorem dL_law_1513 : decode cL_law 1513 = .ok (.aload_n 2, 1) := by decide +kernel
theorem dL_law_1514 : decode cL_law 1514 = .ok (.aload_n 0, 1) := by decide +kernel
theorem dL_law_1515 : decode cL_law 1515 = .ok (.iload 4, 2) := by decide +kernel
theorem dL_law_1517 : decode cL_law 1517 = .ok (.iconst 1, 1) := by decide +kernel
theorem dL_law_1518 : decode cL_law 1518 = .ok (.iadd, 1) := by decide +kernel
theorem dL_law_1519 : decode cL_law 1519 = .ok (.iaload, 1) := by decide +kernel
theorem dL_law_1520 : decode cL_law 1520 = .ok (.invokevirtual 224, 3) := by decide +kernel
theorem dL_law_1523 : decode cL_law 1523 = .ok (.istore 6, 2) := by decide +kernel
theorem dL_law_1525 : decode cL_law 1525 = .ok (.aload_n 2, 1) := by decide +kernel
theorem dL_law_1526 : decode cL_law 1526 = .ok (.invokevirtual 156, 3) := by decide +kernel
theorem dL_law_1529 : decode cL_law 1529 = .ok (.iload 5, 2) := by decide +kernel
theorem dL_law_1531 : decode cL_law 1531 = .ok (.if_icmp .eq 5, 3) := by decide +kernel
theorem dL_law_1534 : decode cL_law 1534 = .ok (.iconst 0, 1) := by decide +kernel
theorem dL_law_1535 : decode cL_law 1535 = .ok (.ireturn, 1) := by decide +kernel
theorem dL_law_1536 : decode cL_law 1536 = .ok (.iload 5, 2) := by decide +kernel
theorem dL_law_1538 : decode cL_law 1538 = .ok (.ifCond .ne 15, 3) := by decide +kernel
theorem dL_law_1541 : decode cL_law 1541 = .ok (.aload_n 3, 1) := by decide +kernel
theorem dL_law_1542 : decode cL_law 1542 = .ok (.iconst 0, 1) := by decide +kernel
theorem dL_law_1543 : decode cL_law 1543 = .ok (.laload, 1) := by decide +kernel
theorem dL_law_1544 : decode cL_law 1544 = .ok (.iload 6, 2) := by decide +kernel
theorem dL_law_1546 : decode cL_law 1546 = .ok (.i2l, 1) := by decide +kernel
theorem dL_law_1547 : decode cL_law 1547 = .ok (.lcmp, 1) := by decide +kernel
theorem dL_law_1548 : decode cL_law 1548 = .ok (.ifCond .eq 5, 3) := by decide +kernel
theorem dL_law_1551 : decode cL_law 1551 = .ok (.iconst 0, 1) := by decide +kernel
theorem dL_law_1552 : decode cL_law 1552 = .ok (.ireturn, 1) := by decide +kernel
theorem dL_law_1553 : decode cL_law 1553 = .ok (.goto 1709, 3) := by decide +kernel
theorem dL_law_1556 : decode cL_law 1556 = .ok (.aload_n 1, 1) := by decide +kernel
theorem dL_law_1557 : decode cL_law 1557 = .ok (.aload_n 0, 1) := by decide +kernel
theorem dL_law_1558 : decode cL_law 1558 = .ok (.iload 4, 2) := by decide +kernel
theorem dL_law_1560 : decode cL_law 1560 = .ok (.iconst 1, 1) := by decide +kernel
theorem dL_law_1561 : decode cL_law 1561 = .ok (.iadd, 1) := by decide +kernel
theorem dL_law_1562 : decode cL_law 1562 = .ok (.iaload, 1) := by decide +kernel
theorem dL_law_1563 : decode cL_law 1563 = .ok (.aload_n 0, 1) := by decide +kernel
theorem dL_law_1564 : decode cL_law 1564 = .ok (.iload 4, 2) := by decide +kernel
theorem dL_law_1566 : decode cL_law 1566 = .ok (.iconst 2, 1) := by decide +kernel
theorem dL_law_1567 : decode cL_law 1567 = .ok (.iadd, 1) := by decide +kernel
theorem dL_law_1568 : decode cL_law 1568 = .ok (.iaload, 1) := by decide +kernel
theorem dL_law_1569 : decode cL_law 1569 = .ok (.aload_n 3, 1) := by decide +kernel
theorem dL_law_1570 : decode cL_law 1570 = .ok (.invokestatic 225, 3) := by decide +kernel
theorem dL_law_1573 : decode cL_law 1573 = .ok (.istore 5, 2) := by decide +kernel
theorem dL_law_1575 : decode cL_law 1575 = .ok (.aload_n 2, 1) := by decide +kernel
theorem dL_law_1576 : decode cL_law 1576 = .ok (.aload_n 0, 1) := by decide +kernel
theorem dL_law_1577 : decode cL_law 1577 = .ok (.iload 4, 2) := by decide +kernel
theorem dL_law_1579 : decode cL_law 1579 = .ok (.iconst 1, 1) := by decide +kernel
theorem dL_law_1580 : decode cL_law 1580 = .ok (.iadd, 1) := by decide +kernel
theorem dL_law_1581 : decode cL_law 1581 = .ok (.iaload, 1) := by decide +kernel
theorem dL_law_1582 : decode cL_law 1582 = .ok (.aload_n 0, 1) := by decide +kernel
theorem dL_law_1583 : decode cL_law 1583 = .ok (.iload 4, 2) := by decide +kernel
theorem dL_law_1585 : decode cL_law 1585 = .ok (.iconst 2, 1) := by decide +kernel
theorem dL_law_1586 : decode cL_law 1586 = .ok (.iadd, 1) := by decide +kernel
theorem dL_law_1587 : decode cL_law 1587 = .ok (.iaload, 1) := by decide +kernel
theorem dL_law_1588 : decode cL_law 1588 = .ok (.invokevirtual 227, 3) := by decide +kernel
theorem dL_law_1591 : decode cL_law 1591 = .ok (.istore 6, 2) := by decide +kernel
theorem dL_law_1593 : decode cL_law 1593 = .ok (.aload_n 2, 1) := by decide +kernel
theorem dL_law_1594 : decode cL_law 1594 = .ok (.invokevirtual 156, 3) := by decide +kernel
theorem dL_law_1597 : decode cL_law 1597 = .ok (.iload 5, 2) := by decide +kernel
theorem dL_law_1599 : decode cL_law 1599 = .ok (.if_icmp .eq 5, 3) := by decide +kernel
theorem dL_law_1602 : decode cL_law 1602 = .ok (.iconst 0, 1) := by decide +kernel
theorem dL_law_1603 : decode cL_law 1603 = .ok (.ireturn, 1) := by decide +kernel
theorem dL_law_1604 : decode cL_law 1604 = .ok (.iload 5, 2) := by decide +kernel
theorem dL_law_1606 : decode cL_law 1606 = .ok (.ifCond .ne 15, 3) := by decide +kernel
theorem dL_law_1609 : decode cL_law 1609 = .ok (.aload_n 3, 1) := by decide +kernel
theorem dL_law_1610 : decode cL_law 1610 = .ok (.iconst 0, 1) := by decide +kernel
theorem dL_law_1611 : decode cL_law 1611 = .ok (.laload, 1) := by decide +kernel
theorem dL_law_1612 : decode cL_law 1612 = .ok (.iload 6, 2) := by decide +kernel
theorem dL_law_1614 : decode cL_law 1614 = .ok (.i2l, 1) := by decide +kernel
theorem dL_law_1615 : decode cL_law 1615 = .ok (.lcmp, 1) := by decide +kernel
theorem dL_law_1616 : decode cL_law 1616 = .ok (.ifCond .eq 5, 3) := by decide +kernel
theorem dL_law_1619 : decode cL_law 1619 = .ok (.iconst 0, 1) := by decide +kernel
theorem dL_law_1620 : decode cL_law 1620 = .ok (.ireturn, 1) := by decide +kernel
theorem dL_law_1621 : decode cL_law 1621 = .ok (.goto 1641, 3) := by decide +kernel
theorem dL_law_1624 : decode cL_law 1624 = .ok (.aload_n 1, 1) := by decide +kernel
theorem dL_law_1625 : decode cL_law 1625 = .ok (.aload_n 0, 1) := by decide +kernel
theorem dL_law_1626 : decode cL_law 1626 = .ok (.iload 4, 2) := by decide +kernel
theorem dL_law_1628 : decode cL_law 1628 = .ok (.iconst 1, 1) := by decide +kernel
theorem dL_law_1629 : decode cL_law 1629 = .ok (.iadd, 1) := by decide +kernel
theorem dL_law_1630 : decode cL_law 1630 = .ok (.iaload, 1) := by decide +kernel
theorem dL_law_1631 : decode cL_law 1631 = .ok (.aload_n 0, 1) := by decide +kernel
theorem dL_law_1632 : decode cL_law 1632 = .ok (.iload 4, 2) := by decide +kernel
theorem dL_law_1634 : decode cL_law 1634 = .ok (.iconst 2, 1) := by decide +kernel
theorem dL_law_1635 : decode cL_law 1635 = .ok (.iadd, 1) := by decide +kernel
theorem dL_law_1636 : decode cL_law 1636 = .ok (.iaload, 1) := by decide +kernel
theorem dL_law_1637 : decode cL_law 1637 = .ok (.aload_n 3, 1) := by decide +kernel
theorem dL_law_1638 : decode cL_law 1638 = .ok (.invokestatic 228, 3) := by decide +kernel
theorem dL_law_1641 : decode cL_law 1641 = .ok (.istore 5, 2) := by decide +kernel
theorem dL_law_1643 : decode cL_law 1643 = .ok (.aload_n 2, 1) := by decide +kernel
theorem dL_law_1644 : decode cL_law 1644 = .ok (.aload_n 0, 1) := by decide +kernel
theorem dL_law_1645 : decode cL_law 1645 = .ok (.iload 4, 2) := by decide +kernel
theorem dL_law_1647 : decode cL_law 1647 = .ok (.iconst 1, 1) := by decide +kernel
theorem dL_law_1648 : decode cL_law 1648 = .ok (.iadd, 1) := by decide +kernel
theorem dL_law_1649 : decode cL_law 1649 = .ok (.iaload, 1) := by decide +kernel
theorem dL_law_1650 : decode cL_law 1650 = .ok (.aload_n 0, 1) := by decide +kernel
theorem dL_law_1651 : decode cL_law 1651 = .ok (.iload 4, 2) := by decide +kernel
theorem dL_law_1653 : decode cL_law 1653 = .ok (.iconst 2, 1) := by decide +kernel
theorem dL_law_1654 : decode cL_law 1654 = .ok (.iadd, 1) := by decide +kernel
theorem dL_law_1655 : decode cL_law 1655 = .ok (.iaload, 1) := by decide +kernel
theorem dL_law_1656 : decode cL_law 1656 = .ok (.invokevirtual 230, 3) := by decide +kernel
theorem dL_law_1659 : decode cL_law 1659 = .ok (.istore 6, 2) := by decide +kernel
theorem dL_law_1661 : decode cL_law 1661 = .ok (.aload_n 2, 1) := by decide +kernel
theorem dL_law_1662 : decode cL_law 1662 = .ok (.invokevirtual 156, 3) := by decide +kernel
theorem dL_law_1665 : decode cL_law 1665 = .ok (.iload 5, 2) := by decide +kernel
theorem dL_law_1667 : decode cL_law 1667 = .ok (.if_icmp .eq 5, 3) := by decide +kernel
theorem dL_law_1670 : decode cL_law 1670 = .ok (.iconst 0, 1) := by decide +kernel
theorem dL_law_1671 : decode cL_law 1671 = .ok (.ireturn, 1) := by decide +kernel
theorem dL_law_1672 : decode cL_law 1672 = .ok (.iload 5, 2) := by decide +kernel
theorem dL_law_1674 : decode cL_law 1674 = .ok (.ifCond .ne 15, 3) := by decide +kernel
theorem dL_law_1677 : decode cL_law 1677 = .ok (.aload_n 3, 1) := by decide +kernel
theorem dL_law_1678 : decode cL_law 1678 = .ok (.iconst 0, 1) := by decide +kernel
theorem dL_law_1679 : decode cL_law 1679 = .ok (.laload, 1) := by decide +kernel
theorem dL_law_1680 : decode cL_law 1680 = .ok (.iload 6, 2) := by decide +kernel
theorem dL_law_1682 : decode cL_law 1682 = .ok (.i2l, 1) := by decide +kernel
theorem dL_law_1683 : decode cL_law 1683 = .ok (.lcmp, 1) := by decide +kernel
theorem dL_law_1684 : decode cL_law 1684 = .ok (.ifCond .eq 5, 3) := by decide +kernel
theorem dL_law_1687 : decode cL_law 1687 = .ok (.iconst 0, 1) := by decide +kernel
theorem dL_law_1688 : decode cL_law 1688 = .ok (.ireturn, 1) := by decide +kernel
theorem dL_law_1689 : decode cL_law 1689 = .ok (.goto 1573, 3) := by decide +kernel
theorem dL_law_1692 : decode cL_law 1692 = .ok (.aload_n 1, 1) := by decide +kernel
theorem dL_law_1693 : decode cL_law 1693 = .ok (.aload_n 0, 1) := by decide +kernel
theorem dL_law_1694 : decode cL_law 1694 = .ok (.iload 4, 2) := by decide +kernel
theorem dL_law_1696 : decode cL_law 1696 = .ok (.iconst 1, 1) := by decide +kernel
theorem dL_law_1697 : decode cL_law 1697 = .ok (.iadd, 1) := by decide +kernel
theorem dL_law_1698 : decode cL_law 1698 = .ok (.iaload, 1) := by decide +kernel
theorem dL_law_1699 : decode cL_law 1699 = .ok (.aload_n 0, 1) := by decide +kernel
theorem dL_law_1700 : decode cL_law 1700 = .ok (.iload 4, 2) := by decide +kernel
theorem dL_law_1702 : decode cL_law 1702 = .ok (.iconst 2, 1) := by decide +kernel
theorem dL_law_1703 : decode cL_law 1703 = .ok (.iadd, 1) := by decide +kernel
theorem dL_law_1704 : decode cL_law 1704 = .ok (.iaload, 1) := by decide +kernel
theorem dL_law_1705 : decode cL_law 1705 = .ok (.aload_n 0, 1) := by decide +kernel
theorem dL_law_1706 : decode cL_law 1706 = .ok (.iload 4, 2) := by decide +kernel
theorem dL_law_1708 : decode cL_law 1708 = .ok (.iconst 3, 1) := by decide +kernel
theorem dL_law_1709 : decode cL_law 1709 = .ok (.iadd, 1) := by decide +kernel
theorem dL_law_1710 : decode cL_law 1710 = .ok (.iaload, 1) := by decide +kernel
theorem dL_law_1711 : decode cL_law 1711 = .ok (.aload_n 0, 1) := by decide +kernel
theorem dL_law_1712 : decode cL_law 1712 = .ok (.iload 4, 2) := by decide +kernel
theorem dL_law_1714 : decode cL_law 1714 = .ok (.iconst 4, 1) := by decide +kernel
theorem dL_law_1715 : decode cL_law 1715 = .ok (.iadd, 1) := by decide +kernel
theorem dL_law_1716 : decode cL_law 1716 = .ok (.iaload, 1) := by decide +kernel
theorem dL_law_1717 : decode cL_law 1717 = .ok (.aload_n 0, 1) := by decide +kernel
theorem dL_law_1718 : decode cL_law 1718 = .ok (.iload 4, 2) := by decide +kernel
theorem dL_law_1720 : decode cL_law 1720 = .ok (.iconst 5, 1) := by decide +kernel
theorem dL_law_1721 : decode cL_law 1721 = .ok (.iadd, 1) := by decide +kernel
theorem dL_law_1722 : decode cL_law 1722 = .ok (.iaload, 1) := by decide +kernel
theorem dL_law_1723 : decode cL_law 1723 = .ok (.aload_n 3, 1) := by decide +kernel
theorem dL_law_1724 : decode cL_law 1724 = .ok (.invokestatic 231, 3) := by decide +kernel
theorem dL_law_1727 : decode cL_law 1727 = .ok (.istore 5, 2) := by decide +kernel
theorem dL_law_1729 : decode cL_law 1729 = .ok (.aload_n 2, 1) := by decide +kernel
theorem dL_law_1730 : decode cL_law 1730 = .ok (.aload_n 0, 1) := by decide +kernel
theorem dL_law_1731 : decode cL_law 1731 = .ok (.iload 4, 2) := by decide +kernel
theorem dL_law_1733 : decode cL_law 1733 = .ok (.iconst 1, 1) := by decide +kernel
theorem dL_law_1734 : decode cL_law 1734 = .ok (.iadd, 1) := by decide +kernel
theorem dL_law_1735 : decode cL_law 1735 = .ok (.iaload, 1) := by decide +kernel
theorem dL_law_1736 : decode cL_law 1736 = .ok (.aload_n 0, 1) := by decide +kernel
theorem dL_law_1737 : decode cL_law 1737 = .ok (.iload 4, 2) := by decide +kernel
theorem dL_law_1739 : decode cL_law 1739 = .ok (.iconst 2, 1) := by decide +kernel
theorem dL_law_1740 : decode cL_law 1740 = .ok (.iadd, 1) := by decide +kernel
theorem dL_law_1741 : decode cL_law 1741 = .ok (.iaload, 1) := by decide +kernel
theorem dL_law_1742 : decode cL_law 1742 = .ok (.aload_n 0, 1) := by decide +kernel
theorem dL_law_1743 : decode cL_law 1743 = .ok (.iload 4, 2) := by decide +kernel
theorem dL_law_1745 : decode cL_law 1745 = .ok (.iconst 3, 1) := by decide +kernel
theorem dL_law_1746 : decode cL_law 1746 = .ok (.iadd, 1) := by decide +kernel
theorem dL_law_1747 : decode cL_law 1747 = .ok (.iaload, 1) := by decide +kernel
theorem dL_law_1748 : decode cL_law 1748 = .ok (.aload_n 0, 1) := by decide +kernel
theorem dL_law_1749 : decode cL_law 1749 = .ok (.iload 4, 2) := by decide +kernel
theorem dL_law_1751 : decode cL_law 1751 = .ok (.iconst 4, 1) := by decide +kernel
theorem dL_law_1752 : decode cL_law 1752 = .ok (.iadd, 1) := by decide +kernel
theorem dL_law_1753 : decode cL_law 1753 = .ok (.iaload, 1) := by decide +kernel
theorem dL_law_1754 : decode cL_law 1754 = .ok (.aload_n 0, 1) := by decide +kernel
theorem dL_law_1755 : decode cL_law 1755 = .ok (.iload 4, 2) := by decide +kernel
theorem dL_law_1757 : decode cL_law 1757 = .ok (.iconst 5, 1) := by decide +kernel
theorem dL_law_1758 : decode cL_law 1758 = .ok (.iadd, 1) := by decide +kernel
theorem dL_law_1759 : decode cL_law 1759 = .ok (.iaload, 1) := by decide +kernel
theorem dL_law_1760 : decode cL_law 1760 = .ok (.invokevirtual 233, 3) := by decide +kernel
theorem dL_law_1763 : decode cL_law 1763 = .ok (.istore 6, 2) := by decide +kernel
theorem dL_law_1765 : decode cL_law 1765 = .ok (.aload_n 2, 1) := by decide +kernel
theorem dL_law_1766 : decode cL_law 1766 = .ok (.invokevirtual 156, 3) := by decide +kernel
theorem dL_law_1769 : decode cL_law 1769 = .ok (.iload 5, 2) := by decide +kernel
theorem dL_law_1771 : decode cL_law 1771 = .ok (.if_icmp .eq 5, 3) := by decide +kernel
theorem dL_law_1774 : decode cL_law 1774 = .ok (.iconst 0, 1) := by decide +kernel
theorem dL_law_1775 : decode cL_law 1775 = .ok (.ireturn, 1) := by decide +kernel
theorem dL_law_1776 : decode cL_law 1776 = .ok (.iload 5, 2) := by decide +kernel
theorem dL_law_1778 : decode cL_law 1778 = .ok (.ifCond .ne 15, 3) := by decide +kernel
theorem dL_law_1781 : decode cL_law 1781 = .ok (.aload_n 3, 1) := by decide +kernel
theorem dL_law_1782 : decode cL_law 1782 = .ok (.iconst 0, 1) := by decide +kernel
theorem dL_law_1783 : decode cL_law 1783 = .ok (.laload, 1) := by decide +kernel
theorem dL_law_1784 : decode cL_law 1784 = .ok (.iload 6, 2) := by decide +kernel
theorem dL_law_1786 : decode cL_law 1786 = .ok (.i2l, 1) := by decide +kernel
theorem dL_law_1787 : decode cL_law 1787 = .ok (.lcmp, 1) := by decide +kernel
theorem dL_law_1788 : decode cL_law 1788 = .ok (.ifCond .eq 5, 3) := by decide +kernel
theorem dL_law_1791 : decode cL_law 1791 = .ok (.iconst 0, 1) := by decide +kernel
theorem dL_law_1792 : decode cL_law 1792 = .ok (.ireturn, 1) := by decide +kernel
theorem dL_law_1793 : decode cL_law 1793 = .ok (.goto 1469, 3) := by decide +kernel
theorem dL_law_1796 : decode cL_law 1796 = .ok (.aload_n 1, 1) := by decide +kernel
theorem dL_law_1797 : decode cL_law 1797 = .ok (.aload_n 0, 1) := by decide +kernel
theorem dL_law_1798 : decode cL_law 1798 = .ok (.iload 4, 2) := by decide +kernel
theorem dL_law_1800 : decode cL_law 1800 = .ok (.iconst 1, 1) := by decide +kernel
theorem dL_law_1801 : decode cL_law 1801 = .ok (.iadd, 1) := by decide +kernel
theorem dL_law_1802 : decode cL_law 1802 = .ok (.iaload, 1) := by decide +kernel
theorem dL_law_1803 : decode cL_law 1803 = .ok (.aload_n 0, 1) := by decide +kernel
theorem dL_law_1804 : decode cL_law 1804 = .ok (.iload 4, 2) := by decide +kernel
theorem dL_law_1806 : decode cL_law 1806 = .ok (.iconst 2, 1) := by decide +kernel
theorem dL_law_1807 : decode cL_law 1807 = .ok (.iadd, 1) := by decide +kernel
theorem dL_law_1808 : decode cL_law 1808 = .ok (.iaload, 1) := by decide +kernel
theorem dL_law_1809 : decode cL_law 1809 = .ok (.aload_n 0, 1) := by decide +kernel
theorem dL_law_1810 : decode cL_law 1810 = .ok (.iload 4, 2) := by decide +kernel
theorem dL_law_1812 : decode cL_law 1812 = .ok (.iconst 3, 1) := by decide +kernel
theorem dL_law_1813 : decode cL_law 1813 = .ok (.iadd, 1) := by decide +kernel
theorem dL_law_1814 : decode cL_law 1814 = .ok (.iaload, 1) := by decide +kernel
theorem dL_law_1815 : decode cL_law 1815 = .ok (.aload_n 3, 1) := by decide +kernel
theorem dL_law_1816 : decode cL_law 1816 = .ok (.invokestatic 234, 3) := by decide +kernel
theorem dL_law_1819 : decode cL_law 1819 = .ok (.istore 5, 2) := by decide +kernel
theorem dL_law_1821 : decode cL_law 1821 = .ok (.aload_n 2, 1) := by decide +kernel
theorem dL_law_1822 : decode cL_law 1822 = .ok (.aload_n 0, 1) := by decide +kernel
theorem dL_law_1823 : decode cL_law 1823 = .ok (.iload 4, 2) := by decide +kernel
theorem dL_law_1825 : decode cL_law 1825 = .ok (.iconst 1, 1) := by decide +kernel
theorem dL_law_1826 : decode cL_law 1826 = .ok (.iadd, 1) := by decide +kernel
theorem dL_law_1827 : decode cL_law 1827 = .ok (.iaload, 1) := by decide +kernel
theorem dL_law_1828 : decode cL_law 1828 = .ok (.aload_n 0, 1) := by decide +kernel
theorem dL_law_1829 : decode cL_law 1829 = .ok (.iload 4, 2) := by decide +kernel
theorem dL_law_1831 : decode cL_law 1831 = .ok (.iconst 2, 1) := by decide +kernel
theorem dL_law_1832 : decode cL_law 1832 = .ok (.iadd, 1) := by decide +kernel
theorem dL_law_1833 : decode cL_law 1833 = .ok (.iaload, 1) := by decide +kernel
theorem dL_law_1834 : decode cL_law 1834 = .ok (.aload_n 0, 1) := by decide +kernel
theorem dL_law_1835 : decode cL_law 1835 = .ok (.iload 4, 2) := by decide +kernel
theorem dL_law_1837 : decode cL_law 1837 = .ok (.iconst 3, 1) := by decide +kernel
theorem dL_law_1838 : decode cL_law 1838 = .ok (.iadd, 1) := by decide +kernel
theorem dL_law_1839 : decode cL_law 1839 = .ok (.iaload, 1) := by decide +kernel
theorem dL_law_1840 : decode cL_law 1840 = .ok (.invokevirtual 236, 3) := by decide +kernel
theorem dL_law_1843 : decode cL_law 1843 = .ok (.istore 6, 2) := by decide +kernel
theorem dL_law_1845 : decode cL_law 1845 = .ok (.aload_n 2, 1) := by decide +kernel
theorem dL_law_1846 : decode cL_law 1846 = .ok (.invokevirtual 156, 3) := by decide +kernel
theorem dL_law_1849 : decode cL_law 1849 = .ok (.iload 5, 2) := by decide +kernel
theorem dL_law_1851 : decode cL_law 1851 = .ok (.if_icmp .eq 5, 3) := by decide +kernel
theorem dL_law_1854 : decode cL_law 1854 = .ok (.iconst 0, 1) := by decide +kernel
theorem dL_law_1855 : decode cL_law 1855 = .ok (.ireturn, 1) := by decide +kernel
theorem dL_law_1856 : decode cL_law 1856 = .ok (.iload 5, 2) := by decide +kernel
theorem dL_law_1858 : decode cL_law 1858 = .ok (.ifCond .ne 15, 3) := by decide +kernel
theorem dL_law_1861 : decode cL_law 1861 = .ok (.aload_n 3, 1) := by decide +kernel
theorem dL_law_1862 : decode cL_law 1862 = .ok (.iconst 0, 1) := by decide +kernel
theorem dL_law_1863 : decode cL_law 1863 = .ok (.laload, 1) := by decide +kernel
theorem dL_law_1864 : decode cL_law 1864 = .ok (.iload 6, 2) := by decide +kernel
theorem dL_law_1866 : decode cL_law 1866 = .ok (.i2l, 1) := by decide +kernel
theorem dL_law_1867 : decode cL_law 1867 = .ok (.lcmp, 1) := by decide +kernel
theorem dL_law_1868 : decode cL_law 1868 = .ok (.ifCond .eq 5, 3) := by decide +kernel
theorem dL_law_1871 : decode cL_law 1871 = .ok (.iconst 0, 1) := by decide +kernel
theorem dL_law_1872 : decode cL_law 1872 = .ok (.ireturn, 1) := by decide +kernel
theorem dL_law_1873 : decode cL_law 1873 = .ok (.goto 1389, 3) := by decide +kernel
theorem dL_law_1876 : decode cL_law 1876 = .ok (.aload_n 1, 1) := by decide +kernel
theorem dL_law_1877 : decode cL_law 1877 = .ok (.aload_n 0, 1) := by decide +kernel
theorem dL_law_1878 : decode cL_law 1878 = .ok (.iload 4, 2) := by decide +kernel
theorem dL_law_1880 : decode cL_law 1880 = .ok (.iconst 1, 1) := by decide +kernel
theorem dL_law_1881 : decode cL_law 1881 = .ok (.iadd, 1) := by decide +kernel
theorem dL_law_1882 : decode cL_law 1882 = .ok (.iaload, 1) := by decide +kernel
theorem dL_law_1883 : decode cL_law 1883 = .ok (.aload_n 0, 1) := by decide +kernel
theorem dL_law_1884 : decode cL_law 1884 = .ok (.iload 4, 2) := by decide +kernel
theorem dL_law_1886 : decode cL_law 1886 = .ok (.iconst 2, 1) := by decide +kernel
theorem dL_law_1887 : decode cL_law 1887 = .ok (.iadd, 1) := by decide +kernel
theorem dL_law_1888 : decode cL_law 1888 = .ok (.iaload, 1) := by decide +kernel
theorem dL_law_1889 : decode cL_law 1889 = .ok (.aload_n 0, 1) := by decide +kernel
theorem dL_law_1890 : decode cL_law 1890 = .ok (.iload 4, 2) := by decide +kernel
theorem dL_law_1892 : decode cL_law 1892 = .ok (.iconst 3, 1) := by decide +kernel
theorem dL_law_1893 : decode cL_law 1893 = .ok (.iadd, 1) := by decide +kernel
theorem dL_law_1894 : decode cL_law 1894 = .ok (.iaload, 1) := by decide +kernel
theorem dL_law_1895 : decode cL_law 1895 = .ok (.aload_n 0, 1) := by decide +kernel
theorem dL_law_1896 : decode cL_law 1896 = .ok (.iload 4, 2) := by decide +kernel
theorem dL_law_1898 : decode cL_law 1898 = .ok (.iconst 4, 1) := by decide +kernel
theorem dL_law_1899 : decode cL_law 1899 = .ok (.iadd, 1) := by decide +kernel
theorem dL_law_1900 : decode cL_law 1900 = .ok (.iaload, 1) := by decide +kernel
theorem dL_law_1901 : decode cL_law 1901 = .ok (.aload_n 0, 1) := by decide +kernel
theorem dL_law_1902 : decode cL_law 1902 = .ok (.iload 4, 2) := by decide +kernel
theorem dL_law_1904 : decode cL_law 1904 = .ok (.iconst 5, 1) := by decide +kernel
theorem dL_law_1905 : decode cL_law 1905 = .ok (.iadd, 1) := by decide +kernel
theorem dL_law_1906 : decode cL_law 1906 = .ok (.iaload, 1) := by decide +kernel
theorem dL_law_1907 : decode cL_law 1907 = .ok (.aload_n 3, 1) := by decide +kernel
theorem dL_law_1908 : decode cL_law 1908 = .ok (.invokestatic 237, 3) := by decide +kernel
theorem dL_law_1911 : decode cL_law 1911 = .ok (.istore 5, 2) := by decide +kernel
theorem dL_law_1913 : decode cL_law 1913 = .ok (.aload_n 2, 1) := by decide +kernel
theorem dL_law_1914 : decode cL_law 1914 = .ok (.aload_n 0, 1) := by decide +kernel
theorem dL_law_1915 : decode cL_law 1915 = .ok (.iload 4, 2) := by decide +kernel
theorem dL_law_1917 : decode cL_law 1917 = .ok (.iconst 1, 1) := by decide +kernel
theorem dL_law_1918 : decode cL_law 1918 = .ok (.iadd, 1) := by decide +kernel
theorem dL_law_1919 : decode cL_law 1919 = .ok (.iaload, 1) := by decide +kernel
theorem dL_law_1920 : decode cL_law 1920 = .ok (.aload_n 0, 1) := by decide +kernel
theorem dL_law_1921 : decode cL_law 1921 = .ok (.iload 4, 2) := by decide +kernel
theorem dL_law_1923 : decode cL_law 1923 = .ok (.iconst 2, 1) := by decide +kernel
theorem dL_law_1924 : decode cL_law 1924 = .ok (.iadd, 1) := by decide +kernel
theorem dL_law_1925 : decode cL_law 1925 = .ok (.iaload, 1) := by decide +kernel
theorem dL_law_1926 : decode cL_law 1926 = .ok (.aload_n 0, 1) := by decide +kernel
theorem dL_law_1927 : decode cL_law 1927 = .ok (.iload 4, 2) := by decide +kernel
theorem dL_law_1929 : decode cL_law 1929 = .ok (.iconst 3, 1) := by decide +kernel
theorem dL_law_1930 : decode cL_law 1930 = .ok (.iadd, 1) := by decide +kernel
theorem dL_law_1931 : decode cL_law 1931 = .ok (.iaload, 1) := by decide +kernel
theorem dL_law_1932 : decode cL_law 1932 = .ok (.aload_n 0, 1) := by decide +kernel
theorem dL_law_1933 : decode cL_law 1933 = .ok (.iload 4, 2) := by decide +kernel
theorem dL_law_1935 : decode cL_law 1935 = .ok (.iconst 4, 1) := by decide +kernel
theorem dL_law_1936 : decode cL_law 1936 = .ok (.iadd, 1) := by decide +kernel
theorem dL_law_1937 : decode cL_law 1937 = .ok (.iaload, 1) := by decide +kernel
theorem dL_law_1938 : decode cL_law 1938 = .ok (.aload_n 0, 1) := by decide +kernel
theorem dL_law_1939 : decode cL_law 1939 = .ok (.iload 4, 2) := by decide +kernel
theorem dL_law_1941 : decode cL_law 1941 = .ok (.iconst 5, 1) := by decide +kernel
theorem dL_law_1942 : decode cL_law 1942 = .ok (.iadd, 1) := by decide +kernel
theorem dL_law_1943 : decode cL_law 1943 = .ok (.iaload, 1) := by decide +kernel
theorem dL_law_1944 : decode cL_law 1944 = .ok (.invokevirtual 239, 3) := by decide +kernel
theorem dL_law_1947 : decode cL_law 1947 = .ok (.istore 6, 2) := by decide +kernel
theorem dL_law_1949 : decode cL_law 1949 = .ok (.aload_n 2, 1) := by decide +kernel
theorem dL_law_1950 : decode cL_law 1950 = .ok (.invokevirtual 156, 3) := by decide +kernel
theorem dL_law_1953 : decode cL_law 1953 = .ok (.iload 5, 2) := by decide +kernel
theorem dL_law_1955 : decode cL_law 1955 = .ok (.if_icmp .eq 5, 3) := by decide +kernel
theorem dL_law_1958 : decode cL_law 1958 = .ok (.iconst 0, 1) := by decide +kernel
theorem dL_law_1959 : decode cL_law 1959 = .ok (.ireturn, 1) := by decide +kernel
theorem dL_law_1960 : decode cL_law 1960 = .ok (.iload 5, 2) := by decide +kernel
theorem dL_law_1962 : decode cL_law 1962 = .ok (.ifCond .ne 15, 3) := by decide +kernel
theorem dL_law_1965 : decode cL_law 1965 = .ok (.aload_n 3, 1) := by decide +kernel
theorem dL_law_1966 : decode cL_law 1966 = .ok (.iconst 0, 1) := by decide +kernel
theorem dL_law_1967 : decode cL_law 1967 = .ok (.laload, 1) := by decide +kernel
theorem dL_law_1968 : decode cL_law 1968 = .ok (.iload 6, 2) := by decide +kernel
theorem dL_law_1970 : decode cL_law 1970 = .ok (.i2l, 1) := by decide +kernel
theorem dL_law_1971 : decode cL_law 1971 = .ok (.lcmp, 1) := by decide +kernel
theorem dL_law_1972 : decode cL_law 1972 = .ok (.ifCond .eq 5, 3) := by decide +kernel
theorem dL_law_1975 : decode cL_law 1975 = .ok (.iconst 0, 1) := by decide +kernel
theorem dL_law_1976 : decode cL_law 1976 = .ok (.ireturn, 1) := by decide +kernel
theorem dL_law_1977 : decode cL_law 1977 = .ok (.goto 1285, 3) := by decide +kernel
theorem dL_law_1980 : decode cL_law 1980 = .ok (.aload_n 1, 1) := by decide +kernel
theorem dL_law_1981 : decode cL_law 1981 = .ok (.aload_n 0, 1) := by decide +kernel
theorem dL_law_1982 : decode cL_law 1982 = .ok (.iload 4, 2) := by decide +kernel
theorem dL_law_1984 : decode cL_law 1984 = .ok (.iconst 1, 1) := by decide +kernel
theorem dL_law_1985 : decode cL_law 1985 = .ok (.iadd, 1) := by decide +kernel
theorem dL_law_1986 : decode cL_law 1986 = .ok (.iaload, 1) := by decide +kernel
theorem dL_law_1987 : decode cL_law 1987 = .ok (.aload_n 0, 1) := by decide +kernel
theorem dL_law_1988 : decode cL_law 1988 = .ok (.iload 4, 2) := by decide +kernel
theorem dL_law_1990 : decode cL_law 1990 = .ok (.iconst 2, 1) := by decide +kernel
theorem dL_law_1991 : decode cL_law 1991 = .ok (.iadd, 1) := by decide +kernel
theorem dL_law_1992 : decode cL_law 1992 = .ok (.iaload, 1) := by decide +kernel
theorem dL_law_1993 : decode cL_law 1993 = .ok (.aload_n 0, 1) := by decide +kernel
theorem dL_law_1994 : decode cL_law 1994 = .ok (.iload 4, 2) := by decide +kernel
theorem dL_law_1996 : decode cL_law 1996 = .ok (.iconst 3, 1) := by decide +kernel
theorem dL_law_1997 : decode cL_law 1997 = .ok (.iadd, 1) := by decide +kernel
theorem dL_law_1998 : decode cL_law 1998 = .ok (.iaload, 1) := by decide +kernel
theorem dL_law_1999 : decode cL_law 1999 = .ok (.aload_n 0, 1) := by decide +kernel
theorem dL_law_2000 : decode cL_law 2000 = .ok (.iload 4, 2) := by decide +kernel
theorem dL_law_2002 : decode cL_law 2002 = .ok (.iconst 4, 1) := by decide +kernel
theorem dL_law_2003 : decode cL_law 2003 = .ok (.iadd, 1) := by decide +kernel
theorem dL_law_2004 : decode cL_law 2004 = .ok (.iaload, 1) := by decide +kernel
theorem dL_law_2005 : decode cL_law 2005 = .ok (.aload_n 3, 1) := by decide +kernel
theorem dL_law_2006 : decode cL_law 2006 = .ok (.invokestatic 240, 3) := by decide +kernel
theorem dL_law_2009 : decode cL_law 2009 = .ok (.istore 5, 2) := by decide +kernel
theorem dL_law_2011 : decode cL_law 2011 = .ok (.aload_n 2, 1) := by decide +kernel
theorem dL_law_2012 : decode cL_law 2012 = .ok (.aload_n 0, 1) := by decide +kernel
theorem dL_law_2013 : decode cL_law 2013 = .ok (.iload 4, 2) := by decide +kernel
theorem dL_law_2015 : decode cL_law 2015 = .ok (.iconst 1, 1) := by decide +kernel
theorem dL_law_2016 : decode cL_law 2016 = .ok (.iadd, 1) := by decide +kernel
theorem dL_law_2017 : decode cL_law 2017 = .ok (.iaload, 1) := by decide +kernel
theorem dL_law_2018 : decode cL_law 2018 = .ok (.aload_n 0, 1) := by decide +kernel
theorem dL_law_2019 : decode cL_law 2019 = .ok (.iload 4, 2) := by decide +kernel
theorem dL_law_2021 : decode cL_law 2021 = .ok (.iconst 2, 1) := by decide +kernel
theorem dL_law_2022 : decode cL_law 2022 = .ok (.iadd, 1) := by decide +kernel
theorem dL_law_2023 : decode cL_law 2023 = .ok (.iaload, 1) := by decide +kernel
theorem dL_law_2024 : decode cL_law 2024 = .ok (.aload_n 0, 1) := by decide +kernel
theorem dL_law_2025 : decode cL_law 2025 = .ok (.iload 4, 2) := by decide +kernel
theorem dL_law_2027 : decode cL_law 2027 = .ok (.iconst 3, 1) := by decide +kernel
theorem dL_law_2028 : decode cL_law 2028 = .ok (.iadd, 1) := by decide +kernel
theorem dL_law_2029 : decode cL_law 2029 = .ok (.iaload, 1) := by decide +kernel
theorem dL_law_2030 : decode cL_law 2030 = .ok (.aload_n 0, 1) := by decide +kernel
theorem dL_law_2031 : decode cL_law 2031 = .ok (.iload 4, 2) := by decide +kernel
theorem dL_law_2033 : decode cL_law 2033 = .ok (.iconst 4, 1) := by decide +kernel
theorem dL_law_2034 : decode cL_law 2034 = .ok (.iadd, 1) := by decide +kernel
theorem dL_law_2035 : decode cL_law 2035 = .ok (.iaload, 1) := by decide +kernel
theorem dL_law_2036 : decode cL_law 2036 = .ok (.invokevirtual 242, 3) := by decide +kernel
theorem dL_law_2039 : decode cL_law 2039 = .ok (.istore 6, 2) := by decide +kernel
theorem dL_law_2041 : decode cL_law 2041 = .ok (.aload_n 2, 1) := by decide +kernel
theorem dL_law_2042 : decode cL_law 2042 = .ok (.invokevirtual 156, 3) := by decide +kernel
theorem dL_law_2045 : decode cL_law 2045 = .ok (.iload 5, 2) := by decide +kernel
theorem dL_law_2047 : decode cL_law 2047 = .ok (.if_icmp .eq 5, 3) := by decide +kernel
theorem dL_law_2050 : decode cL_law 2050 = .ok (.iconst 0, 1) := by decide +kernel
theorem dL_law_2051 : decode cL_law 2051 = .ok (.ireturn, 1) := by decide +kernel
theorem dL_law_2052 : decode cL_law 2052 = .ok (.iload 5, 2) := by decide +kernel
theorem dL_law_2054 : decode cL_law 2054 = .ok (.ifCond .ne 15, 3) := by decide +kernel
theorem dL_law_2057 : decode cL_law 2057 = .ok (.aload_n 3, 1) := by decide +kernel
theorem dL_law_2058 : decode cL_law 2058 = .ok (.iconst 0, 1) := by decide +kernel
theorem dL_law_2059 : decode cL_law 2059 = .ok (.laload, 1) := by decide +kernel
theorem dL_law_2060 : decode cL_law 2060 = .ok (.iload 6, 2) := by decide +kernel
theorem dL_law_2062 : decode cL_law 2062 = .ok (.i2l, 1) := by decide +kernel
theorem dL_law_2063 : decode cL_law 2063 = .ok (.lcmp, 1) := by decide +kernel
theorem dL_law_2064 : decode cL_law 2064 = .ok (.ifCond .eq 5, 3) := by decide +kernel
theorem dL_law_2067 : decode cL_law 2067 = .ok (.iconst 0, 1) := by decide +kernel
theorem dL_law_2068 : decode cL_law 2068 = .ok (.ireturn, 1) := by decide +kernel
theorem dL_law_2069 : decode cL_law 2069 = .ok (.goto 1193, 3) := by decide +kernel
theorem dL_law_2072 : decode cL_law 2072 = .ok (.aload_n 1, 1) := by decide +kernel
theorem dL_law_2073 : decode cL_law 2073 = .ok (.aload_n 0, 1) := by decide +kernel
theorem dL_law_2074 : decode cL_law 2074 = .ok (.iload 4, 2) := by decide +kernel
theorem dL_law_2076 : decode cL_law 2076 = .ok (.iconst 1, 1) := by decide +kernel
theorem dL_law_2077 : decode cL_law 2077 = .ok (.iadd, 1) := by decide +kernel
theorem dL_law_2078 : decode cL_law 2078 = .ok (.iaload, 1) := by decide +kernel
theorem dL_law_2079 : decode cL_law 2079 = .ok (.aload_n 0, 1) := by decide +kernel
theorem dL_law_2080 : decode cL_law 2080 = .ok (.iload 4, 2) := by decide +kernel
theorem dL_law_2082 : decode cL_law 2082 = .ok (.iconst 2, 1) := by decide +kernel
theorem dL_law_2083 : decode cL_law 2083 = .ok (.iadd, 1) := by decide +kernel
theorem dL_law_2084 : decode cL_law 2084 = .ok (.iaload, 1) := by decide +kernel
theorem dL_law_2085 : decode cL_law 2085 = .ok (.aload_n 3, 1) := by decide +kernel
theorem dL_law_2086 : decode cL_law 2086 = .ok (.invokestatic 243, 3) := by decide +kernel
theorem dL_law_2089 : decode cL_law 2089 = .ok (.istore 5, 2) := by decide +kernel
theorem dL_law_2091 : decode cL_law 2091 = .ok (.aload_n 2, 1) := by decide +kernel
theorem dL_law_2092 : decode cL_law 2092 = .ok (.aload_n 0, 1) := by decide +kernel
theorem dL_law_2093 : decode cL_law 2093 = .ok (.iload 4, 2) := by decide +kernel
theorem dL_law_2095 : decode cL_law 2095 = .ok (.iconst 1, 1) := by decide +kernel
theorem dL_law_2096 : decode cL_law 2096 = .ok (.iadd, 1) := by decide +kernel
theorem dL_law_2097 : decode cL_law 2097 = .ok (.iaload, 1) := by decide +kernel
theorem dL_law_2098 : decode cL_law 2098 = .ok (.aload_n 0, 1) := by decide +kernel
theorem dL_law_2099 : decode cL_law 2099 = .ok (.iload 4, 2) := by decide +kernel
theorem dL_law_2101 : decode cL_law 2101 = .ok (.iconst 2, 1) := by decide +kernel
theorem dL_law_2102 : decode cL_law 2102 = .ok (.iadd, 1) := by decide +kernel
theorem dL_law_2103 : decode cL_law 2103 = .ok (.iaload, 1) := by decide +kernel
theorem dL_law_2104 : decode cL_law 2104 = .ok (.invokevirtual 245, 3) := by decide +kernel
theorem dL_law_2107 : decode cL_law 2107 = .ok (.istore 6, 2) := by decide +kernel
theorem dL_law_2109 : decode cL_law 2109 = .ok (.aload_n 2, 1) := by decide +kernel
theorem dL_law_2110 : decode cL_law 2110 = .ok (.invokevirtual 156, 3) := by decide +kernel
theorem dL_law_2113 : decode cL_law 2113 = .ok (.iload 5, 2) := by decide +kernel
theorem dL_law_2115 : decode cL_law 2115 = .ok (.if_icmp .eq 5, 3) := by decide +kernel
theorem dL_law_2118 : decode cL_law 2118 = .ok (.iconst 0, 1) := by decide +kernel
theorem dL_law_2119 : decode cL_law 2119 = .ok (.ireturn, 1) := by decide +kernel
theorem dL_law_2120 : decode cL_law 2120 = .ok (.iload 5, 2) := by decide +kernel
theorem dL_law_2122 : decode cL_law 2122 = .ok (.ifCond .ne 15, 3) := by decide +kernel
theorem dL_law_2125 : decode cL_law 2125 = .ok (.aload_n 3, 1) := by decide +kernel
theorem dL_law_2126 : decode cL_law 2126 = .ok (.iconst 0, 1) := by decide +kernel
theorem dL_law_2127 : decode cL_law 2127 = .ok (.laload, 1) := by decide +kernel
theorem dL_law_2128 : decode cL_law 2128 = .ok (.iload 6, 2) := by decide +kernel
theorem dL_law_2130 : decode cL_law 2130 = .ok (.i2l, 1) := by decide +kernel
theorem dL_law_2131 : decode cL_law 2131 = .ok (.lcmp, 1) := by decide +kernel
theorem dL_law_2132 : decode cL_law 2132 = .ok (.ifCond .eq 5, 3) := by decide +kernel
theorem dL_law_2135 : decode cL_law 2135 = .ok (.iconst 0, 1) := by decide +kernel
theorem dL_law_2136 : decode cL_law 2136 = .ok (.ireturn, 1) := by decide +kernel
theorem dL_law_2137 : decode cL_law 2137 = .ok (.goto 1125, 3) := by decide +kernel
theorem dL_law_2140 : decode cL_law 2140 = .ok (.aload_n 1, 1) := by decide +kernel
theorem dL_law_2141 : decode cL_law 2141 = .ok (.aload_n 0, 1) := by decide +kernel
theorem dL_law_2142 : decode cL_law 2142 = .ok (.iload 4, 2) := by decide +kernel
theorem dL_law_2144 : decode cL_law 2144 = .ok (.iconst 1, 1) := by decide +kernel
theorem dL_law_2145 : decode cL_law 2145 = .ok (.iadd, 1) := by decide +kernel
theorem dL_law_2146 : decode cL_law 2146 = .ok (.iaload, 1) := by decide +kernel
theorem dL_law_2147 : decode cL_law 2147 = .ok (.aload_n 0, 1) := by decide +kernel
theorem dL_law_2148 : decode cL_law 2148 = .ok (.iload 4, 2) := by decide +kernel
theorem dL_law_2150 : decode cL_law 2150 = .ok (.iconst 2, 1) := by decide +kernel
theorem dL_law_2151 : decode cL_law 2151 = .ok (.iadd, 1) := by decide +kernel
theorem dL_law_2152 : decode cL_law 2152 = .ok (.iaload, 1) := by decide +kernel
theorem dL_law_2153 : decode cL_law 2153 = .ok (.aload_n 3, 1) := by decide +kernel
theorem dL_law_2154 : decode cL_law 2154 = .ok (.invokestatic 246, 3) := by decide +kernel
theorem dL_law_2157 : decode cL_law 2157 = .ok (.istore 5, 2) := by decide +kernel
theorem dL_law_2159 : decode cL_law 2159 = .ok (.aload_n 2, 1) := by decide +kernel
theorem dL_law_2160 : decode cL_law 2160 = .ok (.aload_n 0, 1) := by decide +kernel
theorem dL_law_2161 : decode cL_law 2161 = .ok (.iload 4, 2) := by decide +kernel
theorem dL_law_2163 : decode cL_law 2163 = .ok (.iconst 1, 1) := by decide +kernel
theorem dL_law_2164 : decode cL_law 2164 = .ok (.iadd, 1) := by decide +kernel
theorem dL_law_2165 : decode cL_law 2165 = .ok (.iaload, 1) := by decide +kernel
theorem dL_law_2166 : decode cL_law 2166 = .ok (.aload_n 0, 1) := by decide +kernel
theorem dL_law_2167 : decode cL_law 2167 = .ok (.iload 4, 2) := by decide +kernel
theorem dL_law_2169 : decode cL_law 2169 = .ok (.iconst 2, 1) := by decide +kernel
theorem dL_law_2170 : decode cL_law 2170 = .ok (.iadd, 1) := by decide +kernel
theorem dL_law_2171 : decode cL_law 2171 = .ok (.iaload, 1) := by decide +kernel
theorem dL_law_2172 : decode cL_law 2172 = .ok (.invokevirtual 248, 3) := by decide +kernel
theorem dL_law_2175 : decode cL_law 2175 = .ok (.istore 6, 2) := by decide +kernel
theorem dL_law_2177 : decode cL_law 2177 = .ok (.aload_n 2, 1) := by decide +kernel
theorem dL_law_2178 : decode cL_law 2178 = .ok (.invokevirtual 156, 3) := by decide +kernel
theorem dL_law_2181 : decode cL_law 2181 = .ok (.iload 5, 2) := by decide +kernel
theorem dL_law_2183 : decode cL_law 2183 = .ok (.if_icmp .eq 5, 3) := by decide +kernel
theorem dL_law_2186 : decode cL_law 2186 = .ok (.iconst 0, 1) := by decide +kernel
theorem dL_law_2187 : decode cL_law 2187 = .ok (.ireturn, 1) := by decide +kernel
theorem dL_law_2188 : decode cL_law 2188 = .ok (.iload 5, 2) := by decide +kernel
theorem dL_law_2190 : decode cL_law 2190 = .ok (.ifCond .ne 15, 3) := by decide +kernel
theorem dL_law_2193 : decode cL_law 2193 = .ok (.aload_n 3, 1) := by decide +kernel
theorem dL_law_2194 : decode cL_law 2194 = .ok (.iconst 0, 1) := by decide +kernel
theorem dL_law_2195 : decode cL_law 2195 = .ok (.laload, 1) := by decide +kernel
theorem dL_law_2196 : decode cL_law 2196 = .ok (.iload 6, 2) := by decide +kernel
theorem dL_law_2198 : decode cL_law 2198 = .ok (.i2l, 1) := by decide +kernel
theorem dL_law_2199 : decode cL_law 2199 = .ok (.lcmp, 1) := by decide +kernel
theorem dL_law_2200 : decode cL_law 2200 = .ok (.ifCond .eq 5, 3) := by decide +kernel
theorem dL_law_2203 : decode cL_law 2203 = .ok (.iconst 0, 1) := by decide +kernel
theorem dL_law_2204 : decode cL_law 2204 = .ok (.ireturn, 1) := by decide +kernel
theorem dL_law_2205 : decode cL_law 2205 = .ok (.goto 1057, 3) := by decide +kernel
theorem dL_law_2208 : decode cL_law 2208 = .ok (.aload_n 1, 1) := by decide +kernel
theorem dL_law_2209 : decode cL_law 2209 = .ok (.aload_n 0, 1) := by decide +kernel
theorem dL_law_2210 : decode cL_law 2210 = .ok (.iload 4, 2) := by decide +kernel
theorem dL_law_2212 : decode cL_law 2212 = .ok (.iconst 1, 1) := by decide +kernel
theorem dL_law_2213 : decode cL_law 2213 = .ok (.iadd, 1) := by decide +kernel
theorem dL_law_2214 : decode cL_law 2214 = .ok (.iaload, 1) := by decide +kernel
theorem dL_law_2215 : decode cL_law 2215 = .ok (.aload_n 0, 1) := by decide +kernel
theorem dL_law_2216 : decode cL_law 2216 = .ok (.iload 4, 2) := by decide +kernel
theorem dL_law_2218 : decode cL_law 2218 = .ok (.iconst 2, 1) := by decide +kernel
theorem dL_law_2219 : decode cL_law 2219 = .ok (.iadd, 1) := by decide +kernel
theorem dL_law_2220 : decode cL_law 2220 = .ok (.iaload, 1) := by decide +kernel
theorem dL_law_2221 : decode cL_law 2221 = .ok (.aload_n 3, 1) := by decide +kernel
theorem dL_law_2222 : decode cL_law 2222 = .ok (.invokestatic 249, 3) := by decide +kernel
theorem dL_law_2225 : decode cL_law 2225 = .ok (.istore 5, 2) := by decide +kernel
theorem dL_law_2227 : decode cL_law 2227 = .ok (.aload_n 2, 1) := by decide +kernel
theorem dL_law_2228 : decode cL_law 2228 = .ok (.aload_n 0, 1) := by decide +kernel
theorem dL_law_2229 : decode cL_law 2229 = .ok (.iload 4, 2) := by decide +kernel
theorem dL_law_2231 : decode cL_law 2231 = .ok (.iconst 1, 1) := by decide +kernel
theorem dL_law_2232 : decode cL_law 2232 = .ok (.iadd, 1) := by decide +kernel
theorem dL_law_2233 : decode cL_law 2233 = .ok (.iaload, 1) := by decide +kernel
theorem dL_law_2234 : decode cL_law 2234 = .ok (.aload_n 0, 1) := by decide +kernel
theorem dL_law_2235 : decode cL_law 2235 = .ok (.iload 4, 2) := by decide +kernel
theorem dL_law_2237 : decode cL_law 2237 = .ok (.iconst 2, 1) := by decide +kernel
theorem dL_law_2238 : decode cL_law 2238 = .ok (.iadd, 1) := by decide +kernel
theorem dL_law_2239 : decode cL_law 2239 = .ok (.iaload, 1) := by decide +kernel
theorem dL_law_2240 : decode cL_law 2240 = .ok (.invokevirtual 251, 3) := by decide +kernel
theorem dL_law_2243 : decode cL_law 2243 = .ok (.istore 6, 2) := by decide +kernel
theorem dL_law_2245 : decode cL_law 2245 = .ok (.aload_n 2, 1) := by decide +kernel
theorem dL_law_2246 : decode cL_law 2246 = .ok (.invokevirtual 156, 3) := by decide +kernel
theorem dL_law_2249 : decode cL_law 2249 = .ok (.iload 5, 2) := by decide +kernel
theorem dL_law_2251 : decode cL_law 2251 = .ok (.if_icmp .eq 5, 3) := by decide +kernel
theorem dL_law_2254 : decode cL_law 2254 = .ok (.iconst 0, 1) := by decide +kernel
theorem dL_law_2255 : decode cL_law 2255 = .ok (.ireturn, 1) := by decide +kernel
theorem dL_law_2256 : decode cL_law 2256 = .ok (.iload 5, 2) := by decide +kernel
theorem dL_law_2258 : decode cL_law 2258 = .ok (.ifCond .ne 15, 3) := by decide +kernel
theorem dL_law_2261 : decode cL_law 2261 = .ok (.aload_n 3, 1) := by decide +kernel
theorem dL_law_2262 : decode cL_law 2262 = .ok (.iconst 0, 1) := by decide +kernel
theorem dL_law_2263 : decode cL_law 2263 = .ok (.laload, 1) := by decide +kernel
theorem dL_law_2264 : decode cL_law 2264 = .ok (.iload 6, 2) := by decide +kernel
theorem dL_law_2266 : decode cL_law 2266 = .ok (.i2l, 1) := by decide +kernel
theorem dL_law_2267 : decode cL_law 2267 = .ok (.lcmp, 1) := by decide +kernel
theorem dL_law_2268 : decode cL_law 2268 = .ok (.ifCond .eq 5, 3) := by decide +kernel
theorem dL_law_2271 : decode cL_law 2271 = .ok (.iconst 0, 1) := by decide +kernel
theorem dL_law_2272 : decode cL_law 2272 = .ok (.ireturn, 1) := by decide +kernel
theorem dL_law_2273 : decode cL_law 2273 = .ok (.goto 989, 3) := by decide +kernel
theorem dL_law_2276 : decode cL_law 2276 = .ok (.aload_n 1, 1) := by decide +kernel
theorem dL_law_2277 : decode cL_law 2277 = .ok (.aload_n 0, 1) := by decide +kernel
theorem dL_law_2278 : decode cL_law 2278 = .ok (.iload 4, 2) := by decide +kernel
theorem dL_law_2280 : decode cL_law 2280 = .ok (.iconst 1, 1) := by decide +kernel
theorem dL_law_2281 : decode cL_law 2281 = .ok (.iadd, 1) := by decide +kernel
theorem dL_law_2282 : decode cL_law 2282 = .ok (.iaload, 1) := by decide +kernel
theorem dL_law_2283 : decode cL_law 2283 = .ok (.aload_n 0, 1) := by decide +kernel
theorem dL_law_2284 : decode cL_law 2284 = .ok (.iload 4, 2) := by decide +kernel
theorem dL_law_2286 : decode cL_law 2286 = .ok (.iconst 2, 1) := by decide +kernel
theorem dL_law_2287 : decode cL_law 2287 = .ok (.iadd, 1) := by decide +kernel
theorem dL_law_2288 : decode cL_law 2288 = .ok (.iaload, 1) := by decide +kernel
theorem dL_law_2289 : decode cL_law 2289 = .ok (.aload_n 3, 1) := by decide +kernel
theorem dL_law_2290 : decode cL_law 2290 = .ok (.invokestatic 252, 3) := by decide +kernel
theorem dL_law_2293 : decode cL_law 2293 = .ok (.istore 5, 2) := by decide +kernel
theorem dL_law_2295 : decode cL_law 2295 = .ok (.aload_n 2, 1) := by decide +kernel
theorem dL_law_2296 : decode cL_law 2296 = .ok (.aload_n 0, 1) := by decide +kernel
theorem dL_law_2297 : decode cL_law 2297 = .ok (.iload 4, 2) := by decide +kernel
theorem dL_law_2299 : decode cL_law 2299 = .ok (.iconst 1, 1) := by decide +kernel
theorem dL_law_2300 : decode cL_law 2300 = .ok (.iadd, 1) := by decide +kernel
theorem dL_law_2301 : decode cL_law 2301 = .ok (.iaload, 1) := by decide +kernel
theorem dL_law_2302 : decode cL_law 2302 = .ok (.aload_n 0, 1) := by decide +kernel
theorem dL_law_2303 : decode cL_law 2303 = .ok (.iload 4, 2) := by decide +kernel
theorem dL_law_2305 : decode cL_law 2305 = .ok (.iconst 2, 1) := by decide +kernel
theorem dL_law_2306 : decode cL_law 2306 = .ok (.iadd, 1) := by decide +kernel
theorem dL_law_2307 : decode cL_law 2307 = .ok (.iaload, 1) := by decide +kernel
theorem dL_law_2308 : decode cL_law 2308 = .ok (.invokevirtual 254, 3) := by decide +kernel
theorem dL_law_2311 : decode cL_law 2311 = .ok (.istore 6, 2) := by decide +kernel
theorem dL_law_2313 : decode cL_law 2313 = .ok (.aload_n 2, 1) := by decide +kernel
theorem dL_law_2314 : decode cL_law 2314 = .ok (.invokevirtual 156, 3) := by decide +kernel
theorem dL_law_2317 : decode cL_law 2317 = .ok (.iload 5, 2) := by decide +kernel
theorem dL_law_2319 : decode cL_law 2319 = .ok (.if_icmp .eq 5, 3) := by decide +kernel
theorem dL_law_2322 : decode cL_law 2322 = .ok (.iconst 0, 1) := by decide +kernel
theorem dL_law_2323 : decode cL_law 2323 = .ok (.ireturn, 1) := by decide +kernel
theorem dL_law_2324 : decode cL_law 2324 = .ok (.iload 5, 2) := by decide +kernel
theorem dL_law_2326 : decode cL_law 2326 = .ok (.ifCond .ne 15, 3) := by decide +kernel
theorem dL_law_2329 : decode cL_law 2329 = .ok (.aload_n 3, 1) := by decide +kernel
theorem dL_law_2330 : decode cL_law 2330 = .ok (.iconst 0, 1) := by decide +kernel
theorem dL_law_2331 : decode cL_law 2331 = .ok (.laload, 1) := by decide +kernel
theorem dL_law_2332 : decode cL_law 2332 = .ok (.iload 6, 2) := by decide +kernel
theorem dL_law_2334 : decode cL_law 2334 = .ok (.i2l, 1) := by decide +kernel
theorem dL_law_2335 : decode cL_law 2335 = .ok (.lcmp, 1) := by decide +kernel
theorem dL_law_2336 : decode cL_law 2336 = .ok (.ifCond .eq 5, 3) := by decide +kernel
theorem dL_law_2339 : decode cL_law 2339 = .ok (.iconst 0, 1) := by decide +kernel
theorem dL_law_2340 : decode cL_law 2340 = .ok (.ireturn, 1) := by decide +kernel
theorem dL_law_2341 : decode cL_law 2341 = .ok (.goto 921, 3) := by decide +kernel
theorem dL_law_2344 : decode cL_law 2344 = .ok (.aload_n 1, 1) := by decide +kernel
theorem dL_law_2345 : decode cL_law 2345 = .ok (.aload_n 0, 1) := by decide +kernel
theorem dL_law_2346 : decode cL_law 2346 = .ok (.iload 4, 2) := by decide +kernel
theorem dL_law_2348 : decode cL_law 2348 = .ok (.iconst 1, 1) := by decide +kernel
theorem dL_law_2349 : decode cL_law 2349 = .ok (.iadd, 1) := by decide +kernel
theorem dL_law_2350 : decode cL_law 2350 = .ok (.iaload, 1) := by decide +kernel
theorem dL_law_2351 : decode cL_law 2351 = .ok (.aload_n 0, 1) := by decide +kernel
theorem dL_law_2352 : decode cL_law 2352 = .ok (.iload 4, 2) := by decide +kernel
theorem dL_law_2354 : decode cL_law 2354 = .ok (.iconst 2, 1) := by decide +kernel
theorem dL_law_2355 : decode cL_law 2355 = .ok (.iadd, 1) := by decide +kernel
theorem dL_law_2356 : decode cL_law 2356 = .ok (.iaload, 1) := by decide +kernel
theorem dL_law_2357 : decode cL_law 2357 = .ok (.aload_n 3, 1) := by decide +kernel
theorem dL_law_2358 : decode cL_law 2358 = .ok (.invokestatic 255, 3) := by decide +kernel
theorem dL_law_2361 : decode cL_law 2361 = .ok (.istore 5, 2) := by decide +kernel
theorem dL_law_2363 : decode cL_law 2363 = .ok (.aload_n 2, 1) := by decide +kernel
theorem dL_law_2364 : decode cL_law 2364 = .ok (.aload_n 0, 1) := by decide +kernel
theorem dL_law_2365 : decode cL_law 2365 = .ok (.iload 4, 2) := by decide +kernel
theorem dL_law_2367 : decode cL_law 2367 = .ok (.iconst 1, 1) := by decide +kernel
theorem dL_law_2368 : decode cL_law 2368 = .ok (.iadd, 1) := by decide +kernel
theorem dL_law_2369 : decode cL_law 2369 = .ok (.iaload, 1) := by decide +kernel
theorem dL_law_2370 : decode cL_law 2370 = .ok (.aload_n 0, 1) := by decide +kernel
theorem dL_law_2371 : decode cL_law 2371 = .ok (.iload 4, 2) := by decide +kernel
theorem dL_law_2373 : decode cL_law 2373 = .ok (.iconst 2, 1) := by decide +kernel
theorem dL_law_2374 : decode cL_law 2374 = .ok (.iadd, 1) := by decide +kernel
theorem dL_law_2375 : decode cL_law 2375 = .ok (.iaload, 1) := by decide +kernel
theorem dL_law_2376 : decode cL_law 2376 = .ok (.invokevirtual 257, 3) := by decide +kernel
theorem dL_law_2379 : decode cL_law 2379 = .ok (.istore 6, 2) := by decide +kernel
theorem dL_law_2381 : decode cL_law 2381 = .ok (.aload_n 2, 1) := by decide +kernel
theorem dL_law_2382 : decode cL_law 2382 = .ok (.invokevirtual 156, 3) := by decide +kernel
theorem dL_law_2385 : decode cL_law 2385 = .ok (.iload 5, 2) := by decide +kernel
theorem dL_law_2387 : decode cL_law 2387 = .ok (.if_icmp .eq 5, 3) := by decide +kernel
theorem dL_law_2390 : decode cL_law 2390 = .ok (.iconst 0, 1) := by decide +kernel
theorem dL_law_2391 : decode cL_law 2391 = .ok (.ireturn, 1) := by decide +kernel
theorem dL_law_2392 : decode cL_law 2392 = .ok (.iload 5, 2) := by decide +kernel
theorem dL_law_2394 : decode cL_law 2394 = .ok (.ifCond .ne 15, 3) := by decide +kernel
theorem dL_law_2397 : decode cL_law 2397 = .ok (.aload_n 3, 1) := by decide +kernel
theorem dL_law_2398 : decode cL_law 2398 = .ok (.iconst 0, 1) := by decide +kernel
theorem dL_law_2399 : decode cL_law 2399 = .ok (.laload, 1) := by decide +kernel
theorem dL_law_2400 : decode cL_law 2400 = .ok (.iload 6, 2) := by decide +kernel
theorem dL_law_2402 : decode cL_law 2402 = .ok (.i2l, 1) := by decide +kernel
theorem dL_law_2403 : decode cL_law 2403 = .ok (.lcmp, 1) := by decide +kernel
theorem dL_law_2404 : decode cL_law 2404 = .ok (.ifCond .eq 5, 3) := by decide +kernel
theorem dL_law_2407 : decode cL_law 2407 = .ok (.iconst 0, 1) := by decide +kernel
theorem dL_law_2408 : decode cL_law 2408 = .ok (.ireturn, 1) := by decide +kernel
theorem dL_law_2409 : decode cL_law 2409 = .ok (.goto 853, 3) := by decide +kernel
theorem dL_law_2412 : decode cL_law 2412 = .ok (.aload_n 1, 1) := by decide +kernel
theorem dL_law_2413 : decode cL_law 2413 = .ok (.aload_n 0, 1) := by decide +kernel
theorem dL_law_2414 : decode cL_law 2414 = .ok (.iload 4, 2) := by decide +kernel
theorem dL_law_2416 : decode cL_law 2416 = .ok (.iconst 1, 1) := by decide +kernel
theorem dL_law_2417 : decode cL_law 2417 = .ok (.iadd, 1) := by decide +kernel
theorem dL_law_2418 : decode cL_law 2418 = .ok (.iaload, 1) := by decide +kernel
theorem dL_law_2419 : decode cL_law 2419 = .ok (.aload_n 0, 1) := by decide +kernel
theorem dL_law_2420 : decode cL_law 2420 = .ok (.iload 4, 2) := by decide +kernel
theorem dL_law_2422 : decode cL_law 2422 = .ok (.iconst 2, 1) := by decide +kernel
theorem dL_law_2423 : decode cL_law 2423 = .ok (.iadd, 1) := by decide +kernel
theorem dL_law_2424 : decode cL_law 2424 = .ok (.iaload, 1) := by decide +kernel
theorem dL_law_2425 : decode cL_law 2425 = .ok (.aload_n 0, 1) := by decide +kernel
theorem dL_law_2426 : decode cL_law 2426 = .ok (.iload 4, 2) := by decide +kernel
theorem dL_law_2428 : decode cL_law 2428 = .ok (.iconst 3, 1) := by decide +kernel
theorem dL_law_2429 : decode cL_law 2429 = .ok (.iadd, 1) := by decide +kernel
theorem dL_law_2430 : decode cL_law 2430 = .ok (.iaload, 1) := by decide +kernel
theorem dL_law_2431 : decode cL_law 2431 = .ok (.aload_n 3, 1) := by decide +kernel
theorem dL_law_2432 : decode cL_law 2432 = .ok (.invokestatic 258, 3) := by decide +kernel
theorem dL_law_2435 : decode cL_law 2435 = .ok (.istore 5, 2) := by decide +kernel
theorem dL_law_2437 : decode cL_law 2437 = .ok (.aload_n 2, 1) := by decide +kernel
theorem dL_law_2438 : decode cL_law 2438 = .ok (.aload_n 0, 1) := by decide +kernel
theorem dL_law_2439 : decode cL_law 2439 = .ok (.iload 4, 2) := by decide +kernel
theorem dL_law_2441 : decode cL_law 2441 = .ok (.iconst 1, 1) := by decide +kernel
theorem dL_law_2442 : decode cL_law 2442 = .ok (.iadd, 1) := by decide +kernel
theorem dL_law_2443 : decode cL_law 2443 = .ok (.iaload, 1) := by decide +kernel
theorem dL_law_2444 : decode cL_law 2444 = .ok (.aload_n 0, 1) := by decide +kernel
theorem dL_law_2445 : decode cL_law 2445 = .ok (.iload 4, 2) := by decide +kernel
theorem dL_law_2447 : decode cL_law 2447 = .ok (.iconst 2, 1) := by decide +kernel
theorem dL_law_2448 : decode cL_law 2448 = .ok (.iadd, 1) := by decide +kernel
theorem dL_law_2449 : decode cL_law 2449 = .ok (.iaload, 1) := by decide +kernel
theorem dL_law_2450 : decode cL_law 2450 = .ok (.aload_n 0, 1) := by decide +kernel
theorem dL_law_2451 : decode cL_law 2451 = .ok (.iload 4, 2) := by decide +kernel
theorem dL_law_2453 : decode cL_law 2453 = .ok (.iconst 3, 1) := by decide +kernel
theorem dL_law_2454 : decode cL_law 2454 = .ok (.iadd, 1) := by decide +kernel
theorem dL_law_2455 : decode cL_law 2455 = .ok (.iaload, 1) := by decide +kernel
theorem dL_law_2456 : decode cL_law 2456 = .ok (.invokevirtual 260, 3) := by decide +kernel
theorem dL_law_2459 : decode cL_law 2459 = .ok (.lstore 6, 2) := by decide +kernel
theorem dL_law_2461 : decode cL_law 2461 = .ok (.aload_n 2, 1) := by decide +kernel
theorem dL_law_2462 : decode cL_law 2462 = .ok (.invokevirtual 156, 3) := by decide +kernel
theorem dL_law_2465 : decode cL_law 2465 = .ok (.iload 5, 2) := by decide +kernel
theorem dL_law_2467 : decode cL_law 2467 = .ok (.if_icmp .eq 5, 3) := by decide +kernel
theorem dL_law_2470 : decode cL_law 2470 = .ok (.iconst 0, 1) := by decide +kernel
theorem dL_law_2471 : decode cL_law 2471 = .ok (.ireturn, 1) := by decide +kernel
theorem dL_law_2472 : decode cL_law 2472 = .ok (.iload 5, 2) := by decide +kernel
theorem dL_law_2474 : decode cL_law 2474 = .ok (.ifCond .ne 14, 3) := by decide +kernel
theorem dL_law_2477 : decode cL_law 2477 = .ok (.aload_n 3, 1) := by decide +kernel
theorem dL_law_2478 : decode cL_law 2478 = .ok (.iconst 0, 1) := by decide +kernel
theorem dL_law_2479 : decode cL_law 2479 = .ok (.laload, 1) := by decide +kernel
theorem dL_law_2480 : decode cL_law 2480 = .ok (.lload 6, 2) := by decide +kernel
theorem dL_law_2482 : decode cL_law 2482 = .ok (.lcmp, 1) := by decide +kernel
theorem dL_law_2483 : decode cL_law 2483 = .ok (.ifCond .eq 5, 3) := by decide +kernel
theorem dL_law_2486 : decode cL_law 2486 = .ok (.iconst 0, 1) := by decide +kernel
theorem dL_law_2487 : decode cL_law 2487 = .ok (.ireturn, 1) := by decide +kernel
theorem dL_law_2488 : decode cL_law 2488 = .ok (.goto 774, 3) := by decide +kernel
theorem dL_law_2491 : decode cL_law 2491 = .ok (.aload_n 1, 1) := by decide +kernel
theorem dL_law_2492 : decode cL_law 2492 = .ok (.aload_n 0, 1) := by decide +kernel
theorem dL_law_2493 : decode cL_law 2493 = .ok (.iload 4, 2) := by decide +kernel
theorem dL_law_2495 : decode cL_law 2495 = .ok (.iconst 1, 1) := by decide +kernel
theorem dL_law_2496 : decode cL_law 2496 = .ok (.iadd, 1) := by decide +kernel
theorem dL_law_2497 : decode cL_law 2497 = .ok (.iaload, 1) := by decide +kernel
theorem dL_law_2498 : decode cL_law 2498 = .ok (.aload_n 3, 1) := by decide +kernel
theorem dL_law_2499 : decode cL_law 2499 = .ok (.invokestatic 261, 3) := by decide +kernel
theorem dL_law_2502 : decode cL_law 2502 = .ok (.istore 5, 2) := by decide +kernel
theorem dL_law_2504 : decode cL_law 2504 = .ok (.aload_n 2, 1) := by decide +kernel
theorem dL_law_2505 : decode cL_law 2505 = .ok (.aload_n 0, 1) := by decide +kernel
theorem dL_law_2506 : decode cL_law 2506 = .ok (.iload 4, 2) := by decide +kernel
theorem dL_law_2508 : decode cL_law 2508 = .ok (.iconst 1, 1) := by decide +kernel
theorem dL_law_2509 : decode cL_law 2509 = .ok (.iadd, 1) := by decide +kernel
theorem dL_law_2510 : decode cL_law 2510 = .ok (.iaload, 1) := by decide +kernel
theorem dL_law_2511 : decode cL_law 2511 = .ok (.invokevirtual 263, 3) := by decide +kernel
theorem dL_law_2514 : decode cL_law 2514 = .ok (.istore 6, 2) := by decide +kernel
theorem dL_law_2516 : decode cL_law 2516 = .ok (.aload_n 2, 1) := by decide +kernel
theorem dL_law_2517 : decode cL_law 2517 = .ok (.invokevirtual 156, 3) := by decide +kernel
theorem dL_law_2520 : decode cL_law 2520 = .ok (.iload 5, 2) := by decide +kernel
theorem dL_law_2522 : decode cL_law 2522 = .ok (.if_icmp .eq 5, 3) := by decide +kernel
theorem dL_law_2525 : decode cL_law 2525 = .ok (.iconst 0, 1) := by decide +kernel
theorem dL_law_2526 : decode cL_law 2526 = .ok (.ireturn, 1) := by decide +kernel
theorem dL_law_2527 : decode cL_law 2527 = .ok (.iload 5, 2) := by decide +kernel
theorem dL_law_2529 : decode cL_law 2529 = .ok (.ifCond .ne 15, 3) := by decide +kernel
theorem dL_law_2532 : decode cL_law 2532 = .ok (.aload_n 3, 1) := by decide +kernel
theorem dL_law_2533 : decode cL_law 2533 = .ok (.iconst 0, 1) := by decide +kernel
theorem dL_law_2534 : decode cL_law 2534 = .ok (.laload, 1) := by decide +kernel
theorem dL_law_2535 : decode cL_law 2535 = .ok (.iload 6, 2) := by decide +kernel
theorem dL_law_2537 : decode cL_law 2537 = .ok (.i2l, 1) := by decide +kernel
theorem dL_law_2538 : decode cL_law 2538 = .ok (.lcmp, 1) := by decide +kernel
theorem dL_law_2539 : decode cL_law 2539 = .ok (.ifCond .eq 5, 3) := by decide +kernel
theorem dL_law_2542 : decode cL_law 2542 = .ok (.iconst 0, 1) := by decide +kernel
theorem dL_law_2543 : decode cL_law 2543 = .ok (.ireturn, 1) := by decide +kernel
theorem dL_law_2544 : decode cL_law 2544 = .ok (.goto 718, 3) := by decide +kernel
theorem dL_law_2547 : decode cL_law 2547 = .ok (.aload_n 1, 1) := by decide +kernel
theorem dL_law_2548 : decode cL_law 2548 = .ok (.aload_n 0, 1) := by decide +kernel
theorem dL_law_2549 : decode cL_law 2549 = .ok (.iload 4, 2) := by decide +kernel
theorem dL_law_2551 : decode cL_law 2551 = .ok (.iconst 1, 1) := by decide +kernel
theorem dL_law_2552 : decode cL_law 2552 = .ok (.iadd, 1) := by decide +kernel
theorem dL_law_2553 : decode cL_law 2553 = .ok (.iaload, 1) := by decide +kernel
theorem dL_law_2554 : decode cL_law 2554 = .ok (.aload_n 3, 1) := by decide +kernel
theorem dL_law_2555 : decode cL_law 2555 = .ok (.invokestatic 264, 3) := by decide +kernel
theorem dL_law_2558 : decode cL_law 2558 = .ok (.istore 5, 2) := by decide +kernel
theorem dL_law_2560 : decode cL_law 2560 = .ok (.aload_n 2, 1) := by decide +kernel
theorem dL_law_2561 : decode cL_law 2561 = .ok (.aload_n 0, 1) := by decide +kernel
theorem dL_law_2562 : decode cL_law 2562 = .ok (.iload 4, 2) := by decide +kernel
theorem dL_law_2564 : decode cL_law 2564 = .ok (.iconst 1, 1) := by decide +kernel
theorem dL_law_2565 : decode cL_law 2565 = .ok (.iadd, 1) := by decide +kernel
theorem dL_law_2566 : decode cL_law 2566 = .ok (.iaload, 1) := by decide +kernel
theorem dL_law_2567 : decode cL_law 2567 = .ok (.invokevirtual 266, 3) := by decide +kernel
theorem dL_law_2570 : decode cL_law 2570 = .ok (.istore 6, 2) := by decide +kernel
theorem dL_law_2572 : decode cL_law 2572 = .ok (.aload_n 2, 1) := by decide +kernel
theorem dL_law_2573 : decode cL_law 2573 = .ok (.invokevirtual 156, 3) := by decide +kernel
theorem dL_law_2576 : decode cL_law 2576 = .ok (.iload 5, 2) := by decide +kernel
theorem dL_law_2578 : decode cL_law 2578 = .ok (.if_icmp .eq 5, 3) := by decide +kernel
theorem dL_law_2581 : decode cL_law 2581 = .ok (.iconst 0, 1) := by decide +kernel
theorem dL_law_2582 : decode cL_law 2582 = .ok (.ireturn, 1) := by decide +kernel
theorem dL_law_2583 : decode cL_law 2583 = .ok (.iload 5, 2) := by decide +kernel
theorem dL_law_2585 : decode cL_law 2585 = .ok (.ifCond .ne 15, 3) := by decide +kernel
theorem dL_law_2588 : decode cL_law 2588 = .ok (.aload_n 3, 1) := by decide +kernel
theorem dL_law_2589 : decode cL_law 2589 = .ok (.iconst 0, 1) := by decide +kernel
theorem dL_law_2590 : decode cL_law 2590 = .ok (.laload, 1) := by decide +kernel
theorem dL_law_2591 : decode cL_law 2591 = .ok (.iload 6, 2) := by decide +kernel
