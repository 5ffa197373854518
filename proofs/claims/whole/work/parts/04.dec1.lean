theorem dX11_hasCauses_22 : decode cX11_hasCauses 22 = .ok (.iload 4, 2) := by decide +kernel
theorem dX11_hasCauses_24 : decode cX11_hasCauses 24 = .ok (.if_icmp .le 41, 3) := by decide +kernel
theorem dX11_hasCauses_27 : decode cX11_hasCauses 27 = .ok (.aload_n 0, 1) := by decide +kernel
theorem dX11_hasCauses_28 : decode cX11_hasCauses 28 = .ok (.iload 4, 2) := by decide +kernel
theorem dX11_hasCauses_30 : decode cX11_hasCauses 30 = .ok (.invokevirtual 421, 3) := by decide +kernel
theorem dX11_hasCauses_33 : decode cX11_hasCauses 33 = .ok (.ifCond .eq 32, 3) := by decide +kernel
theorem dX11_hasCauses_36 : decode cX11_hasCauses 36 = .ok (.aload_n 0, 1) := by decide +kernel
theorem dX11_hasCauses_37 : decode cX11_hasCauses 37 = .ok (.iload_n 3, 1) := by decide +kernel
theorem dX11_hasCauses_38 : decode cX11_hasCauses 38 = .ok (.invokevirtual 421, 3) := by decide +kernel
theorem dX11_hasCauses_41 : decode cX11_hasCauses 41 = .ok (.ifCond .eq 24, 3) := by decide +kernel
theorem dX11_hasCauses_44 : decode cX11_hasCauses 44 = .ok (.aload_n 1, 1) := by decide +kernel
theorem dX11_hasCauses_45 : decode cX11_hasCauses 45 = .ok (.iload 4, 2) := by decide +kernel
theorem dX11_hasCauses_47 : decode cX11_hasCauses 47 = .ok (.invokevirtual 421, 3) := by decide +kernel
theorem dX11_hasCauses_50 : decode cX11_hasCauses 50 = .ok (.ifCond .eq 15, 3) := by decide +kernel
theorem dX11_hasCauses_53 : decode cX11_hasCauses 53 = .ok (.aload_n 1, 1) := by decide +kernel
theorem dX11_hasCauses_54 : decode cX11_hasCauses 54 = .ok (.iload_n 3, 1) := by decide +kernel
theorem dX11_hasCauses_55 : decode cX11_hasCauses 55 = .ok (.invokevirtual 421, 3) := by decide +kernel
theorem dX11_hasCauses_58 : decode cX11_hasCauses 58 = .ok (.ifCond .eq 7, 3) := by decide +kernel
theorem dX11_hasCauses_61 : decode cX11_hasCauses 61 = .ok (.iconst 1, 1) := by decide +kernel
theorem dX11_hasCauses_62 : decode cX11_hasCauses 62 = .ok (.goto 4, 3) := by decide +kernel
theorem dX11_hasCauses_65 : decode cX11_hasCauses 65 = .ok (.iconst 0, 1) := by decide +kernel
theorem dX11_hasCauses_66 : decode cX11_hasCauses 66 = .ok (.ireturn, 1) := by decide +kernel
theorem dX11_byWorks_0 : decode cX11_byWorks 0 = .ok (.aload_n 0, 1) := by decide +kernel
theorem dX11_byWorks_1 : decode cX11_byWorks 1 = .ok (.iload_n 2, 1) := by decide +kernel
theorem dX11_byWorks_2 : decode cX11_byWorks 2 = .ok (.iload_n 3, 1) := by decide +kernel
theorem dX11_byWorks_3 : decode cX11_byWorks 3 = .ok (.invokevirtual 434, 3) := by decide +kernel
theorem dX11_byWorks_6 : decode cX11_byWorks 6 = .ok (.aload_n 1, 1) := by decide +kernel
theorem dX11_byWorks_7 : decode cX11_byWorks 7 = .ok (.iload_n 2, 1) := by decide +kernel
theorem dX11_byWorks_8 : decode cX11_byWorks 8 = .ok (.iload_n 3, 1) := by decide +kernel
theorem dX11_byWorks_9 : decode cX11_byWorks 9 = .ok (.invokevirtual 434, 3) := by decide +kernel
theorem dX11_byWorks_12 : decode cX11_byWorks 12 = .ok (.lsub, 1) := by decide +kernel
theorem dX11_byWorks_13 : decode cX11_byWorks 13 = .ok (.aload_n 0, 1) := by decide +kernel
theorem dX11_byWorks_14 : decode cX11_byWorks 14 = .ok (.iload_n 2, 1) := by decide +kernel
theorem dX11_byWorks_15 : decode cX11_byWorks 15 = .ok (.iload_n 3, 1) := by decide +kernel
theorem dX11_byWorks_16 : decode cX11_byWorks 16 = .ok (.invokevirtual 438, 3) := by decide +kernel
theorem dX11_byWorks_19 : decode cX11_byWorks 19 = .ok (.lsub, 1) := by decide +kernel
theorem dX11_byWorks_20 : decode cX11_byWorks 20 = .ok (.lreturn, 1) := by decide +kernel
theorem dX11_count_0 : decode cX11_count 0 = .ok (.iload_n 1, 1) := by decide +kernel
theorem dX11_count_1 : decode cX11_count 1 = .ok (.tableswitch 144 0 11 #[63, 68, 76, 84, 89, 97, 102, 107, 115, 120, 128, 136], 63) := by decide +kernel
theorem dX11_count_64 : decode cX11_count 64 = .ok (.aload_n 0, 1) := by decide +kernel
theorem dX11_count_65 : decode cX11_count 65 = .ok (.getfield 69, 3) := by decide +kernel
theorem dX11_count_68 : decode cX11_count 68 = .ok (.ireturn, 1) := by decide +kernel
theorem dX11_count_69 : decode cX11_count 69 = .ok (.aload_n 0, 1) := by decide +kernel
theorem dX11_count_70 : decode cX11_count 70 = .ok (.getfield 10, 3) := by decide +kernel
theorem dX11_count_73 : decode cX11_count 73 = .ok (.invokevirtual 80, 3) := by decide +kernel
theorem dX11_count_76 : decode cX11_count 76 = .ok (.ireturn, 1) := by decide +kernel
theorem dX11_count_77 : decode cX11_count 77 = .ok (.aload_n 0, 1) := by decide +kernel
theorem dX11_count_78 : decode cX11_count 78 = .ok (.getfield 16, 3) := by decide +kernel
theorem dX11_count_81 : decode cX11_count 81 = .ok (.invokevirtual 80, 3) := by decide +kernel
theorem dX11_count_84 : decode cX11_count 84 = .ok (.ireturn, 1) := by decide +kernel
theorem dX11_count_85 : decode cX11_count 85 = .ok (.aload_n 0, 1) := by decide +kernel
theorem dX11_count_86 : decode cX11_count 86 = .ok (.getfield 111, 3) := by decide +kernel
theorem dX11_count_89 : decode cX11_count 89 = .ok (.ireturn, 1) := by decide +kernel
theorem dX11_count_90 : decode cX11_count 90 = .ok (.aload_n 0, 1) := by decide +kernel
theorem dX11_count_91 : decode cX11_count 91 = .ok (.getfield 65, 3) := by decide +kernel
theorem dX11_count_94 : decode cX11_count 94 = .ok (.getfield 135, 3) := by decide +kernel
theorem dX11_count_97 : decode cX11_count 97 = .ok (.ireturn, 1) := by decide +kernel
theorem dX11_count_98 : decode cX11_count 98 = .ok (.aload_n 0, 1) := by decide +kernel
theorem dX11_count_99 : decode cX11_count 99 = .ok (.getfield 122, 3) := by decide +kernel
theorem dX11_count_102 : decode cX11_count 102 = .ok (.ireturn, 1) := by decide +kernel
theorem dX11_count_103 : decode cX11_count 103 = .ok (.aload_n 0, 1) := by decide +kernel
theorem dX11_count_104 : decode cX11_count 104 = .ok (.getfield 361, 3) := by decide +kernel
theorem dX11_count_107 : decode cX11_count 107 = .ok (.ireturn, 1) := by decide +kernel
theorem dX11_count_108 : decode cX11_count 108 = .ok (.aload_n 0, 1) := by decide +kernel
theorem dX11_count_109 : decode cX11_count 109 = .ok (.getfield 19, 3) := by decide +kernel
theorem dX11_count_112 : decode cX11_count 112 = .ok (.invokevirtual 80, 3) := by decide +kernel
theorem dX11_count_115 : decode cX11_count 115 = .ok (.ireturn, 1) := by decide +kernel
theorem dX11_count_116 : decode cX11_count 116 = .ok (.aload_n 0, 1) := by decide +kernel
theorem dX11_count_117 : decode cX11_count 117 = .ok (.getfield 206, 3) := by decide +kernel
theorem dX11_count_120 : decode cX11_count 120 = .ok (.ireturn, 1) := by decide +kernel
theorem dX11_count_121 : decode cX11_count 121 = .ok (.aload_n 0, 1) := by decide +kernel
theorem dX11_count_122 : decode cX11_count 122 = .ok (.getfield 38, 3) := by decide +kernel
theorem dX11_count_125 : decode cX11_count 125 = .ok (.invokevirtual 335, 3) := by decide +kernel
theorem dX11_count_128 : decode cX11_count 128 = .ok (.ireturn, 1) := by decide +kernel
theorem dX11_count_129 : decode cX11_count 129 = .ok (.aload_n 0, 1) := by decide +kernel
theorem dX11_count_130 : decode cX11_count 130 = .ok (.getfield 22, 3) := by decide +kernel
theorem dX11_count_133 : decode cX11_count 133 = .ok (.invokevirtual 80, 3) := by decide +kernel
theorem dX11_count_136 : decode cX11_count 136 = .ok (.ireturn, 1) := by decide +kernel
theorem dX11_count_137 : decode cX11_count 137 = .ok (.aload_n 0, 1) := by decide +kernel
theorem dX11_count_138 : decode cX11_count 138 = .ok (.getfield 38, 3) := by decide +kernel
theorem dX11_count_141 : decode cX11_count 141 = .ok (.invokevirtual 339, 3) := by decide +kernel
theorem dX11_count_144 : decode cX11_count 144 = .ok (.ireturn, 1) := by decide +kernel
theorem dX11_count_145 : decode cX11_count 145 = .ok (.iconst (-1), 1) := by decide +kernel
theorem dX11_count_146 : decode cX11_count 146 = .ok (.ireturn, 1) := by decide +kernel
theorem dX11_wallAt_0 : decode cX11_wallAt 0 = .ok (.iload_n 1, 1) := by decide +kernel
theorem dX11_wallAt_1 : decode cX11_wallAt 1 = .ok (.ifCond .lt 14, 3) := by decide +kernel
theorem dX11_wallAt_4 : decode cX11_wallAt 4 = .ok (.iload_n 1, 1) := by decide +kernel
theorem dX11_wallAt_5 : decode cX11_wallAt 5 = .ok (.aload_n 0, 1) := by decide +kernel
theorem dX11_wallAt_6 : decode cX11_wallAt 6 = .ok (.getfield 10, 3) := by decide +kernel
theorem dX11_wallAt_9 : decode cX11_wallAt 9 = .ok (.invokevirtual 80, 3) := by decide +kernel
theorem dX11_wallAt_12 : decode cX11_wallAt 12 = .ok (.if_icmp .lt 14, 3) := by decide +kernel
theorem dX11_wallAt_15 : decode cX11_wallAt 15 = .ok (.new 445, 3) := by decide +kernel
theorem dX11_wallAt_18 : decode cX11_wallAt 18 = .ok (.dup, 1) := by decide +kernel
theorem dX11_wallAt_19 : decode cX11_wallAt 19 = .ok (.ldc_w 447, 3) := by decide +kernel
theorem dX11_wallAt_22 : decode cX11_wallAt 22 = .ok (.invokespecial 449, 3) := by decide +kernel
theorem dX11_wallAt_25 : decode cX11_wallAt 25 = .ok (.athrow, 1) := by decide +kernel
theorem dX11_wallAt_26 : decode cX11_wallAt 26 = .ok (.aload_n 0, 1) := by decide +kernel
theorem dX11_wallAt_27 : decode cX11_wallAt 27 = .ok (.getfield 10, 3) := by decide +kernel
theorem dX11_wallAt_30 : decode cX11_wallAt 30 = .ok (.iload_n 1, 1) := by decide +kernel
theorem dX11_wallAt_31 : decode cX11_wallAt 31 = .ok (.invokevirtual 450, 3) := by decide +kernel
theorem dX11_wallAt_34 : decode cX11_wallAt 34 = .ok (.checkcast 84, 3) := by decide +kernel
theorem dX11_wallAt_37 : decode cX11_wallAt 37 = .ok (.areturn, 1) := by decide +kernel
theorem dX11_workAt_0 : decode cX11_workAt 0 = .ok (.iload_n 1, 1) := by decide +kernel
theorem dX11_workAt_1 : decode cX11_workAt 1 = .ok (.ifCond .lt 14, 3) := by decide +kernel
theorem dX11_workAt_4 : decode cX11_workAt 4 = .ok (.iload_n 1, 1) := by decide +kernel
theorem dX11_workAt_5 : decode cX11_workAt 5 = .ok (.aload_n 0, 1) := by decide +kernel
theorem dX11_workAt_6 : decode cX11_workAt 6 = .ok (.getfield 16, 3) := by decide +kernel
theorem dX11_workAt_9 : decode cX11_workAt 9 = .ok (.invokevirtual 80, 3) := by decide +kernel
theorem dX11_workAt_12 : decode cX11_workAt 12 = .ok (.if_icmp .lt 14, 3) := by decide +kernel
theorem dX11_workAt_15 : decode cX11_workAt 15 = .ok (.new 445, 3) := by decide +kernel
theorem dX11_workAt_18 : decode cX11_workAt 18 = .ok (.dup, 1) := by decide +kernel
theorem dX11_workAt_19 : decode cX11_workAt 19 = .ok (.ldc_w 454, 3) := by decide +kernel
theorem dX11_workAt_22 : decode cX11_workAt 22 = .ok (.invokespecial 449, 3) := by decide +kernel
theorem dX11_workAt_25 : decode cX11_workAt 25 = .ok (.athrow, 1) := by decide +kernel
theorem dX11_workAt_26 : decode cX11_workAt 26 = .ok (.aload_n 0, 1) := by decide +kernel
theorem dX11_workAt_27 : decode cX11_workAt 27 = .ok (.getfield 16, 3) := by decide +kernel
theorem dX11_workAt_30 : decode cX11_workAt 30 = .ok (.iload_n 1, 1) := by decide +kernel
theorem dX11_workAt_31 : decode cX11_workAt 31 = .ok (.invokevirtual 450, 3) := by decide +kernel
theorem dX11_workAt_34 : decode cX11_workAt 34 = .ok (.checkcast 155, 3) := by decide +kernel
theorem dX11_workAt_37 : decode cX11_workAt 37 = .ok (.astore_n 2, 1) := by decide +kernel
theorem dX11_workAt_38 : decode cX11_workAt 38 = .ok (.aload_n 2, 1) := by decide +kernel
theorem dX11_workAt_39 : decode cX11_workAt 39 = .ok (.aload_n 0, 1) := by decide +kernel
theorem dX11_workAt_40 : decode cX11_workAt 40 = .ok (.getfield 111, 3) := by decide +kernel
theorem dX11_workAt_43 : decode cX11_workAt 43 = .ok (.invokevirtual 456, 3) := by decide +kernel
theorem dX11_workAt_46 : decode cX11_workAt 46 = .ok (.aload_n 2, 1) := by decide +kernel
theorem dX11_workAt_47 : decode cX11_workAt 47 = .ok (.areturn, 1) := by decide +kernel
theorem dX11_surveyAt_0 : decode cX11_surveyAt 0 = .ok (.iload_n 1, 1) := by decide +kernel
theorem dX11_surveyAt_1 : decode cX11_surveyAt 1 = .ok (.ifCond .lt 14, 3) := by decide +kernel
theorem dX11_surveyAt_4 : decode cX11_surveyAt 4 = .ok (.iload_n 1, 1) := by decide +kernel
theorem dX11_surveyAt_5 : decode cX11_surveyAt 5 = .ok (.aload_n 0, 1) := by decide +kernel
theorem dX11_surveyAt_6 : decode cX11_surveyAt 6 = .ok (.getfield 19, 3) := by decide +kernel
theorem dX11_surveyAt_9 : decode cX11_surveyAt 9 = .ok (.invokevirtual 80, 3) := by decide +kernel
theorem dX11_surveyAt_12 : decode cX11_surveyAt 12 = .ok (.if_icmp .lt 14, 3) := by decide +kernel
theorem dX11_surveyAt_15 : decode cX11_surveyAt 15 = .ok (.new 445, 3) := by decide +kernel
theorem dX11_surveyAt_18 : decode cX11_surveyAt 18 = .ok (.dup, 1) := by decide +kernel
theorem dX11_surveyAt_19 : decode cX11_surveyAt 19 = .ok (.ldc_w 459, 3) := by decide +kernel
theorem dX11_surveyAt_22 : decode cX11_surveyAt 22 = .ok (.invokespecial 449, 3) := by decide +kernel
theorem dX11_surveyAt_25 : decode cX11_surveyAt 25 = .ok (.athrow, 1) := by decide +kernel
theorem dX11_surveyAt_26 : decode cX11_surveyAt 26 = .ok (.aload_n 0, 1) := by decide +kernel
theorem dX11_surveyAt_27 : decode cX11_surveyAt 27 = .ok (.getfield 19, 3) := by decide +kernel
theorem dX11_surveyAt_30 : decode cX11_surveyAt 30 = .ok (.iload_n 1, 1) := by decide +kernel
theorem dX11_surveyAt_31 : decode cX11_surveyAt 31 = .ok (.invokevirtual 450, 3) := by decide +kernel
theorem dX11_surveyAt_34 : decode cX11_surveyAt 34 = .ok (.checkcast 364, 3) := by decide +kernel
theorem dX11_surveyAt_37 : decode cX11_surveyAt 37 = .ok (.areturn, 1) := by decide +kernel
theorem dX11_gaugeAt_0 : decode cX11_gaugeAt 0 = .ok (.iload_n 1, 1) := by decide +kernel
theorem dX11_gaugeAt_1 : decode cX11_gaugeAt 1 = .ok (.ifCond .lt 14, 3) := by decide +kernel
theorem dX11_gaugeAt_4 : decode cX11_gaugeAt 4 = .ok (.iload_n 1, 1) := by decide +kernel
theorem dX11_gaugeAt_5 : decode cX11_gaugeAt 5 = .ok (.aload_n 0, 1) := by decide +kernel
theorem dX11_gaugeAt_6 : decode cX11_gaugeAt 6 = .ok (.getfield 22, 3) := by decide +kernel
theorem dX11_gaugeAt_9 : decode cX11_gaugeAt 9 = .ok (.invokevirtual 80, 3) := by decide +kernel
theorem dX11_gaugeAt_12 : decode cX11_gaugeAt 12 = .ok (.if_icmp .lt 14, 3) := by decide +kernel
theorem dX11_gaugeAt_15 : decode cX11_gaugeAt 15 = .ok (.new 445, 3) := by decide +kernel
theorem dX11_gaugeAt_18 : decode cX11_gaugeAt 18 = .ok (.dup, 1) := by decide +kernel
theorem dX11_gaugeAt_19 : decode cX11_gaugeAt 19 = .ok (.ldc_w 461, 3) := by decide +kernel
theorem dX11_gaugeAt_22 : decode cX11_gaugeAt 22 = .ok (.invokespecial 449, 3) := by decide +kernel
theorem dX11_gaugeAt_25 : decode cX11_gaugeAt 25 = .ok (.athrow, 1) := by decide +kernel
theorem dX11_gaugeAt_26 : decode cX11_gaugeAt 26 = .ok (.aload_n 0, 1) := by decide +kernel
theorem dX11_gaugeAt_27 : decode cX11_gaugeAt 27 = .ok (.getfield 22, 3) := by decide +kernel
theorem dX11_gaugeAt_30 : decode cX11_gaugeAt 30 = .ok (.iload_n 1, 1) := by decide +kernel
theorem dX11_gaugeAt_31 : decode cX11_gaugeAt 31 = .ok (.invokevirtual 450, 3) := by decide +kernel
theorem dX11_gaugeAt_34 : decode cX11_gaugeAt 34 = .ok (.checkcast 405, 3) := by decide +kernel
theorem dX11_gaugeAt_37 : decode cX11_gaugeAt 37 = .ok (.areturn, 1) := by decide +kernel
theorem dX11_checkIndex_0 : decode cX11_checkIndex 0 = .ok (.iload_n 0, 1) := by decide +kernel
theorem dX11_checkIndex_1 : decode cX11_checkIndex 1 = .ok (.ifCond .lt 8, 3) := by decide +kernel
theorem dX11_checkIndex_4 : decode cX11_checkIndex 4 = .ok (.iload_n 0, 1) := by decide +kernel
theorem dX11_checkIndex_5 : decode cX11_checkIndex 5 = .ok (.iload_n 1, 1) := by decide +kernel
theorem dX11_checkIndex_6 : decode cX11_checkIndex 6 = .ok (.if_icmp .lt 14, 3) := by decide +kernel
theorem dX11_checkIndex_9 : decode cX11_checkIndex 9 = .ok (.new 445, 3) := by decide +kernel
theorem dX11_checkIndex_12 : decode cX11_checkIndex 12 = .ok (.dup, 1) := by decide +kernel
theorem dX11_checkIndex_13 : decode cX11_checkIndex 13 = .ok (.ldc_w 463, 3) := by decide +kernel
theorem dX11_checkIndex_16 : decode cX11_checkIndex 16 = .ok (.invokespecial 449, 3) := by decide +kernel
theorem dX11_checkIndex_19 : decode cX11_checkIndex 19 = .ok (.athrow, 1) := by decide +kernel
theorem dX11_checkIndex_20 : decode cX11_checkIndex 20 = .ok (.return_, 1) := by decide +kernel
theorem dX11_checkRoom_0 : decode cX11_checkRoom 0 = .ok (.iload_n 0, 1) := by decide +kernel
theorem dX11_checkRoom_1 : decode cX11_checkRoom 1 = .ok (.iload_n 1, 1) := by decide +kernel
theorem dX11_checkRoom_2 : decode cX11_checkRoom 2 = .ok (.if_icmp .lt 14, 3) := by decide +kernel
theorem dX11_checkRoom_5 : decode cX11_checkRoom 5 = .ok (.new 115, 3) := by decide +kernel
theorem dX11_checkRoom_8 : decode cX11_checkRoom 8 = .ok (.dup, 1) := by decide +kernel
theorem dX11_checkRoom_9 : decode cX11_checkRoom 9 = .ok (.ldc_w 465, 3) := by decide +kernel
theorem dX11_checkRoom_12 : decode cX11_checkRoom 12 = .ok (.invokespecial 119, 3) := by decide +kernel
theorem dX11_checkRoom_15 : decode cX11_checkRoom 15 = .ok (.athrow, 1) := by decide +kernel
theorem dX11_checkRoom_16 : decode cX11_checkRoom 16 = .ok (.return_, 1) := by decide +kernel
theorem dX11_checkSide_0 : decode cX11_checkSide 0 = .ok (.iload_n 0, 1) := by decide +kernel
theorem dX11_checkSide_1 : decode cX11_checkSide 1 = .ok (.iconst 0, 1) := by decide +kernel
theorem dX11_checkSide_2 : decode cX11_checkSide 2 = .ok (.iconst 1, 1) := by decide +kernel
theorem dX11_checkSide_3 : decode cX11_checkSide 3 = .ok (.invokestatic 107, 3) := by decide +kernel
theorem dX11_checkSide_6 : decode cX11_checkSide 6 = .ok (.return_, 1) := by decide +kernel
theorem dX11_checkSegments_0 : decode cX11_checkSegments 0 = .ok (.iload_n 0, 1) := by decide +kernel
theorem dX11_checkSegments_1 : decode cX11_checkSegments 1 = .ok (.iconst 0, 1) := by decide +kernel
theorem dX11_checkSegments_2 : decode cX11_checkSegments 2 = .ok (.bipush 11, 2) := by decide +kernel
theorem dX11_checkSegments_4 : decode cX11_checkSegments 4 = .ok (.invokestatic 107, 3) := by decide +kernel
theorem dX11_checkSegments_7 : decode cX11_checkSegments 7 = .ok (.iload_n 1, 1) := by decide +kernel
theorem dX11_checkSegments_8 : decode cX11_checkSegments 8 = .ok (.iload_n 0, 1) := by decide +kernel
theorem dX11_checkSegments_9 : decode cX11_checkSegments 9 = .ok (.bipush 11, 2) := by decide +kernel
theorem dX11_checkSegments_11 : decode cX11_checkSegments 11 = .ok (.invokestatic 107, 3) := by decide +kernel
theorem dX11_checkSegments_14 : decode cX11_checkSegments 14 = .ok (.return_, 1) := by decide +kernel
theorem dX11_checkLeast_0 : decode cX11_checkLeast 0 = .ok (.iload_n 0, 1) := by decide +kernel
theorem dX11_checkLeast_1 : decode cX11_checkLeast 1 = .ok (.iload_n 1, 1) := by decide +kernel
theorem dX11_checkLeast_2 : decode cX11_checkLeast 2 = .ok (.if_icmp .ge 14, 3) := by decide +kernel
theorem dX11_checkLeast_5 : decode cX11_checkLeast 5 = .ok (.new 467, 3) := by decide +kernel
theorem dX11_checkLeast_8 : decode cX11_checkLeast 8 = .ok (.dup, 1) := by decide +kernel
theorem dX11_checkLeast_9 : decode cX11_checkLeast 9 = .ok (.ldc_w 469, 3) := by decide +kernel
theorem dX11_checkLeast_12 : decode cX11_checkLeast 12 = .ok (.invokespecial 471, 3) := by decide +kernel
theorem dX11_checkLeast_15 : decode cX11_checkLeast 15 = .ok (.athrow, 1) := by decide +kernel
theorem dX11_checkLeast_16 : decode cX11_checkLeast 16 = .ok (.return_, 1) := by decide +kernel
theorem dX11_checkRange_0 : decode cX11_checkRange 0 = .ok (.iload_n 0, 1) := by decide +kernel
theorem dX11_checkRange_1 : decode cX11_checkRange 1 = .ok (.iload_n 1, 1) := by decide +kernel
theorem dX11_checkRange_2 : decode cX11_checkRange 2 = .ok (.if_icmp .lt 8, 3) := by decide +kernel
theorem dX11_checkRange_5 : decode cX11_checkRange 5 = .ok (.iload_n 0, 1) := by decide +kernel
theorem dX11_checkRange_6 : decode cX11_checkRange 6 = .ok (.iload_n 2, 1) := by decide +kernel
theorem dX11_checkRange_7 : decode cX11_checkRange 7 = .ok (.if_icmp .le 14, 3) := by decide +kernel
theorem dX11_checkRange_10 : decode cX11_checkRange 10 = .ok (.new 467, 3) := by decide +kernel
theorem dX11_checkRange_13 : decode cX11_checkRange 13 = .ok (.dup, 1) := by decide +kernel
theorem dX11_checkRange_14 : decode cX11_checkRange 14 = .ok (.ldc_w 472, 3) := by decide +kernel
theorem dX11_checkRange_17 : decode cX11_checkRange 17 = .ok (.invokespecial 471, 3) := by decide +kernel
theorem dX11_checkRange_20 : decode cX11_checkRange 20 = .ok (.athrow, 1) := by decide +kernel
theorem dX11_checkRange_21 : decode cX11_checkRange 21 = .ok (.return_, 1) := by decide +kernel
theorem dX12_init_0 : decode cX12_init 0 = .ok (.aload_n 0, 1) := by decide +kernel
theorem dX12_init_1 : decode cX12_init 1 = .ok (.invokespecial 1, 3) := by decide +kernel
theorem dX12_init_4 : decode cX12_init 4 = .ok (.aload_n 0, 1) := by decide +kernel
theorem dX12_init_5 : decode cX12_init 5 = .ok (.bipush 12, 2) := by decide +kernel
theorem dX12_init_7 : decode cX12_init 7 = .ok (.newarray .int, 2) := by decide +kernel
theorem dX12_init_9 : decode cX12_init 9 = .ok (.putfield 9, 3) := by decide +kernel
theorem dX12_init_12 : decode cX12_init 12 = .ok (.aload_n 0, 1) := by decide +kernel
theorem dX12_init_13 : decode cX12_init 13 = .ok (.sipush 400, 3) := by decide +kernel
theorem dX12_init_16 : decode cX12_init 16 = .ok (.newarray .byte, 2) := by decide +kernel
theorem dX12_init_18 : decode cX12_init 18 = .ok (.putfield 13, 3) := by decide +kernel
theorem dX12_init_21 : decode cX12_init 21 = .ok (.aload_n 0, 1) := by decide +kernel
theorem dX12_init_22 : decode cX12_init 22 = .ok (.iconst (-1), 1) := by decide +kernel
theorem dX12_init_23 : decode cX12_init 23 = .ok (.putfield 17, 3) := by decide +kernel
theorem dX12_init_26 : decode cX12_init 26 = .ok (.aload_n 0, 1) := by decide +kernel
theorem dX12_init_27 : decode cX12_init 27 = .ok (.bipush 15, 2) := by decide +kernel
theorem dX12_init_29 : decode cX12_init 29 = .ok (.newarray .int, 2) := by decide +kernel
theorem dX12_init_31 : decode cX12_init 31 = .ok (.dup, 1) := by decide +kernel
theorem dX12_init_32 : decode cX12_init 32 = .ok (.iconst 0, 1) := by decide +kernel
theorem dX12_init_33 : decode cX12_init 33 = .ok (.bipush 30, 2) := by decide +kernel
theorem dX12_init_35 : decode cX12_init 35 = .ok (.iastore, 1) := by decide +kernel
theorem dX12_init_36 : decode cX12_init 36 = .ok (.dup, 1) := by decide +kernel
theorem dX12_init_37 : decode cX12_init 37 = .ok (.iconst 1, 1) := by decide +kernel
theorem dX12_init_38 : decode cX12_init 38 = .ok (.bipush 30, 2) := by decide +kernel
theorem dX12_init_40 : decode cX12_init 40 = .ok (.iastore, 1) := by decide +kernel
theorem dX12_init_41 : decode cX12_init 41 = .ok (.dup, 1) := by decide +kernel
theorem dX12_init_42 : decode cX12_init 42 = .ok (.iconst 2, 1) := by decide +kernel
theorem dX12_init_43 : decode cX12_init 43 = .ok (.bipush 30, 2) := by decide +kernel
theorem dX12_init_45 : decode cX12_init 45 = .ok (.iastore, 1) := by decide +kernel
theorem dX12_init_46 : decode cX12_init 46 = .ok (.dup, 1) := by decide +kernel
theorem dX12_init_47 : decode cX12_init 47 = .ok (.iconst 3, 1) := by decide +kernel
theorem dX12_init_48 : decode cX12_init 48 = .ok (.bipush 30, 2) := by decide +kernel
theorem dX12_init_50 : decode cX12_init 50 = .ok (.iastore, 1) := by decide +kernel
theorem dX12_init_51 : decode cX12_init 51 = .ok (.dup, 1) := by decide +kernel
theorem dX12_init_52 : decode cX12_init 52 = .ok (.iconst 4, 1) := by decide +kernel
theorem dX12_init_53 : decode cX12_init 53 = .ok (.iconst 0, 1) := by decide +kernel
theorem dX12_init_54 : decode cX12_init 54 = .ok (.iastore, 1) := by decide +kernel
theorem dX12_init_55 : decode cX12_init 55 = .ok (.dup, 1) := by decide +kernel
theorem dX12_init_56 : decode cX12_init 56 = .ok (.iconst 5, 1) := by decide +kernel
theorem dX12_init_57 : decode cX12_init 57 = .ok (.iconst 0, 1) := by decide +kernel
theorem dX12_init_58 : decode cX12_init 58 = .ok (.iastore, 1) := by decide +kernel
theorem dX12_init_59 : decode cX12_init 59 = .ok (.dup, 1) := by decide +kernel
theorem dX12_init_60 : decode cX12_init 60 = .ok (.bipush 6, 2) := by decide +kernel
theorem dX12_init_62 : decode cX12_init 62 = .ok (.bipush 14, 2) := by decide +kernel
theorem dX12_init_64 : decode cX12_init 64 = .ok (.iastore, 1) := by decide +kernel
theorem dX12_init_65 : decode cX12_init 65 = .ok (.dup, 1) := by decide +kernel
theorem dX12_init_66 : decode cX12_init 66 = .ok (.bipush 7, 2) := by decide +kernel
theorem dX12_init_68 : decode cX12_init 68 = .ok (.iconst 1, 1) := by decide +kernel
theorem dX12_init_69 : decode cX12_init 69 = .ok (.iastore, 1) := by decide +kernel
theorem dX12_init_70 : decode cX12_init 70 = .ok (.dup, 1) := by decide +kernel
theorem dX12_init_71 : decode cX12_init 71 = .ok (.bipush 8, 2) := by decide +kernel
theorem dX12_init_73 : decode cX12_init 73 = .ok (.bipush 10, 2) := by decide +kernel
theorem dX12_init_75 : decode cX12_init 75 = .ok (.iastore, 1) := by decide +kernel
theorem dX12_init_76 : decode cX12_init 76 = .ok (.dup, 1) := by decide +kernel
theorem dX12_init_77 : decode cX12_init 77 = .ok (.bipush 9, 2) := by decide +kernel
theorem dX12_init_79 : decode cX12_init 79 = .ok (.bipush 14, 2) := by decide +kernel
theorem dX12_init_81 : decode cX12_init 81 = .ok (.iastore, 1) := by decide +kernel
theorem dX12_init_82 : decode cX12_init 82 = .ok (.dup, 1) := by decide +kernel
theorem dX12_init_83 : decode cX12_init 83 = .ok (.bipush 10, 2) := by decide +kernel
theorem dX12_init_85 : decode cX12_init 85 = .ok (.iconst 0, 1) := by decide +kernel
theorem dX12_init_86 : decode cX12_init 86 = .ok (.iastore, 1) := by decide +kernel
theorem dX12_init_87 : decode cX12_init 87 = .ok (.dup, 1) := by decide +kernel
theorem dX12_init_88 : decode cX12_init 88 = .ok (.bipush 11, 2) := by decide +kernel
theorem dX12_init_90 : decode cX12_init 90 = .ok (.bipush 10, 2) := by decide +kernel
theorem dX12_init_92 : decode cX12_init 92 = .ok (.iastore, 1) := by decide +kernel
theorem dX12_init_93 : decode cX12_init 93 = .ok (.dup, 1) := by decide +kernel
theorem dX12_init_94 : decode cX12_init 94 = .ok (.bipush 12, 2) := by decide +kernel
theorem dX12_init_96 : decode cX12_init 96 = .ok (.bipush 50, 2) := by decide +kernel
theorem dX12_init_98 : decode cX12_init 98 = .ok (.iastore, 1) := by decide +kernel
theorem dX12_init_99 : decode cX12_init 99 = .ok (.dup, 1) := by decide +kernel
theorem dX12_init_100 : decode cX12_init 100 = .ok (.bipush 13, 2) := by decide +kernel
theorem dX12_init_102 : decode cX12_init 102 = .ok (.bipush 8, 2) := by decide +kernel
theorem dX12_init_104 : decode cX12_init 104 = .ok (.iastore, 1) := by decide +kernel
theorem dX12_init_105 : decode cX12_init 105 = .ok (.dup, 1) := by decide +kernel
theorem dX12_init_106 : decode cX12_init 106 = .ok (.bipush 14, 2) := by decide +kernel
theorem dX12_init_108 : decode cX12_init 108 = .ok (.bipush 17, 2) := by decide +kernel
theorem dX12_init_110 : decode cX12_init 110 = .ok (.iastore, 1) := by decide +kernel
theorem dX12_init_111 : decode cX12_init 111 = .ok (.putfield 21, 3) := by decide +kernel
theorem dX12_init_114 : decode cX12_init 114 = .ok (.aload_n 0, 1) := by decide +kernel
theorem dX12_init_115 : decode cX12_init 115 = .ok (.bipush 15, 2) := by decide +kernel
theorem dX12_init_117 : decode cX12_init 117 = .ok (.newarray .int, 2) := by decide +kernel
theorem dX12_init_119 : decode cX12_init 119 = .ok (.putfield 24, 3) := by decide +kernel
theorem dX12_init_122 : decode cX12_init 122 = .ok (.aload_n 0, 1) := by decide +kernel
theorem dX12_init_123 : decode cX12_init 123 = .ok (.iconst 4, 1) := by decide +kernel
theorem dX12_init_124 : decode cX12_init 124 = .ok (.newarray .int, 2) := by decide +kernel
theorem dX12_init_126 : decode cX12_init 126 = .ok (.dup, 1) := by decide +kernel
theorem dX12_init_127 : decode cX12_init 127 = .ok (.iconst 0, 1) := by decide +kernel
theorem dX12_init_128 : decode cX12_init 128 = .ok (.iconst (-1), 1) := by decide +kernel
theorem dX12_init_129 : decode cX12_init 129 = .ok (.iastore, 1) := by decide +kernel
theorem dX12_init_130 : decode cX12_init 130 = .ok (.dup, 1) := by decide +kernel
theorem dX12_init_131 : decode cX12_init 131 = .ok (.iconst 1, 1) := by decide +kernel
theorem dX12_init_132 : decode cX12_init 132 = .ok (.iconst (-1), 1) := by decide +kernel
theorem dX12_init_133 : decode cX12_init 133 = .ok (.iastore, 1) := by decide +kernel
theorem dX12_init_134 : decode cX12_init 134 = .ok (.dup, 1) := by decide +kernel
theorem dX12_init_135 : decode cX12_init 135 = .ok (.iconst 2, 1) := by decide +kernel
theorem dX12_init_136 : decode cX12_init 136 = .ok (.iconst (-1), 1) := by decide +kernel
theorem dX12_init_137 : decode cX12_init 137 = .ok (.iastore, 1) := by decide +kernel
theorem dX12_init_138 : decode cX12_init 138 = .ok (.dup, 1) := by decide +kernel
theorem dX12_init_139 : decode cX12_init 139 = .ok (.iconst 3, 1) := by decide +kernel
theorem dX12_init_140 : decode cX12_init 140 = .ok (.iconst (-1), 1) := by decide +kernel
theorem dX12_init_141 : decode cX12_init 141 = .ok (.iastore, 1) := by decide +kernel
theorem dX12_init_142 : decode cX12_init 142 = .ok (.putfield 27, 3) := by decide +kernel
theorem dX12_init_145 : decode cX12_init 145 = .ok (.aload_n 0, 1) := by decide +kernel
theorem dX12_init_146 : decode cX12_init 146 = .ok (.iconst 4, 1) := by decide +kernel
theorem dX12_init_147 : decode cX12_init 147 = .ok (.newarray .int, 2) := by decide +kernel
theorem dX12_init_149 : decode cX12_init 149 = .ok (.putfield 30, 3) := by decide +kernel
theorem dX12_init_152 : decode cX12_init 152 = .ok (.aload_n 0, 1) := by decide +kernel
theorem dX12_init_153 : decode cX12_init 153 = .ok (.sipush 800, 3) := by decide +kernel
theorem dX12_init_156 : decode cX12_init 156 = .ok (.newarray .int, 2) := by decide +kernel
theorem dX12_init_158 : decode cX12_init 158 = .ok (.putfield 33, 3) := by decide +kernel
theorem dX12_init_161 : decode cX12_init 161 = .ok (.aload_n 0, 1) := by decide +kernel
theorem dX12_init_162 : decode cX12_init 162 = .ok (.sipush 800, 3) := by decide +kernel
theorem dX12_init_165 : decode cX12_init 165 = .ok (.newarray .int, 2) := by decide +kernel
theorem dX12_init_167 : decode cX12_init 167 = .ok (.putfield 36, 3) := by decide +kernel
theorem dX12_init_170 : decode cX12_init 170 = .ok (.aload_n 0, 1) := by decide +kernel
theorem dX12_init_171 : decode cX12_init 171 = .ok (.sipush 800, 3) := by decide +kernel
theorem dX12_init_174 : decode cX12_init 174 = .ok (.newarray .int, 2) := by decide +kernel
theorem dX12_init_176 : decode cX12_init 176 = .ok (.putfield 39, 3) := by decide +kernel
theorem dX12_init_179 : decode cX12_init 179 = .ok (.aload_n 0, 1) := by decide +kernel
theorem dX12_init_180 : decode cX12_init 180 = .ok (.sipush 800, 3) := by decide +kernel
theorem dX12_init_183 : decode cX12_init 183 = .ok (.newarray .int, 2) := by decide +kernel
theorem dX12_init_185 : decode cX12_init 185 = .ok (.putfield 42, 3) := by decide +kernel
theorem dX12_init_188 : decode cX12_init 188 = .ok (.aload_n 0, 1) := by decide +kernel
theorem dX12_init_189 : decode cX12_init 189 = .ok (.sipush 800, 3) := by decide +kernel
theorem dX12_init_192 : decode cX12_init 192 = .ok (.newarray .boolean, 2) := by decide +kernel
theorem dX12_init_194 : decode cX12_init 194 = .ok (.putfield 45, 3) := by decide +kernel
theorem dX12_init_197 : decode cX12_init 197 = .ok (.aload_n 0, 1) := by decide +kernel
theorem dX12_init_198 : decode cX12_init 198 = .ok (.bipush 30, 2) := by decide +kernel
theorem dX12_init_200 : decode cX12_init 200 = .ok (.newarray .int, 2) := by decide +kernel
theorem dX12_init_202 : decode cX12_init 202 = .ok (.putfield 49, 3) := by decide +kernel
theorem dX12_init_205 : decode cX12_init 205 = .ok (.aload_n 0, 1) := by decide +kernel
theorem dX12_init_206 : decode cX12_init 206 = .ok (.bipush 30, 2) := by decide +kernel
theorem dX12_init_208 : decode cX12_init 208 = .ok (.newarray .int, 2) := by decide +kernel
theorem dX12_init_210 : decode cX12_init 210 = .ok (.putfield 52, 3) := by decide +kernel
theorem dX12_init_213 : decode cX12_init 213 = .ok (.aload_n 0, 1) := by decide +kernel
theorem dX12_init_214 : decode cX12_init 214 = .ok (.bipush 30, 2) := by decide +kernel
theorem dX12_init_216 : decode cX12_init 216 = .ok (.newarray .int, 2) := by decide +kernel
theorem dX12_init_218 : decode cX12_init 218 = .ok (.putfield 55, 3) := by decide +kernel
theorem dX12_init_221 : decode cX12_init 221 = .ok (.aload_n 0, 1) := by decide +kernel
theorem dX12_init_222 : decode cX12_init 222 = .ok (.bipush 30, 2) := by decide +kernel
theorem dX12_init_224 : decode cX12_init 224 = .ok (.newarray .boolean, 2) := by decide +kernel
theorem dX12_init_226 : decode cX12_init 226 = .ok (.putfield 58, 3) := by decide +kernel
theorem dX12_init_229 : decode cX12_init 229 = .ok (.aload_n 0, 1) := by decide +kernel
theorem dX12_init_230 : decode cX12_init 230 = .ok (.sipush 450, 3) := by decide +kernel
theorem dX12_init_233 : decode cX12_init 233 = .ok (.newarray .int, 2) := by decide +kernel
theorem dX12_init_235 : decode cX12_init 235 = .ok (.putfield 61, 3) := by decide +kernel
theorem dX12_init_238 : decode cX12_init 238 = .ok (.aload_n 0, 1) := by decide +kernel
theorem dX12_init_239 : decode cX12_init 239 = .ok (.bipush 30, 2) := by decide +kernel
theorem dX12_init_241 : decode cX12_init 241 = .ok (.newarray .int, 2) := by decide +kernel
theorem dX12_init_243 : decode cX12_init 243 = .ok (.putfield 64, 3) := by decide +kernel
theorem dX12_init_246 : decode cX12_init 246 = .ok (.aload_n 0, 1) := by decide +kernel
theorem dX12_init_247 : decode cX12_init 247 = .ok (.bipush 30, 2) := by decide +kernel
theorem dX12_init_249 : decode cX12_init 249 = .ok (.newarray .int, 2) := by decide +kernel
theorem dX12_init_251 : decode cX12_init 251 = .ok (.putfield 67, 3) := by decide +kernel
theorem dX12_init_254 : decode cX12_init 254 = .ok (.aload_n 0, 1) := by decide +kernel
theorem dX12_init_255 : decode cX12_init 255 = .ok (.bipush 30, 2) := by decide +kernel
theorem dX12_init_257 : decode cX12_init 257 = .ok (.newarray .int, 2) := by decide +kernel
theorem dX12_init_259 : decode cX12_init 259 = .ok (.putfield 70, 3) := by decide +kernel
theorem dX12_init_262 : decode cX12_init 262 = .ok (.aload_n 0, 1) := by decide +kernel
theorem dX12_init_263 : decode cX12_init 263 = .ok (.bipush 30, 2) := by decide +kernel
theorem dX12_init_265 : decode cX12_init 265 = .ok (.newarray .boolean, 2) := by decide +kernel
theorem dX12_init_267 : decode cX12_init 267 = .ok (.putfield 73, 3) := by decide +kernel
theorem dX12_init_270 : decode cX12_init 270 = .ok (.aload_n 0, 1) := by decide +kernel
theorem dX12_init_271 : decode cX12_init 271 = .ok (.bipush 30, 2) := by decide +kernel
theorem dX12_init_273 : decode cX12_init 273 = .ok (.newarray .int, 2) := by decide +kernel
theorem dX12_init_275 : decode cX12_init 275 = .ok (.putfield 76, 3) := by decide +kernel
theorem dX12_init_278 : decode cX12_init 278 = .ok (.aload_n 0, 1) := by decide +kernel
theorem dX12_init_279 : decode cX12_init 279 = .ok (.bipush 30, 2) := by decide +kernel
theorem dX12_init_281 : decode cX12_init 281 = .ok (.newarray .int, 2) := by decide +kernel
theorem dX12_init_283 : decode cX12_init 283 = .ok (.putfield 79, 3) := by decide +kernel
theorem dX12_init_286 : decode cX12_init 286 = .ok (.aload_n 0, 1) := by decide +kernel
theorem dX12_init_287 : decode cX12_init 287 = .ok (.bipush 30, 2) := by decide +kernel
theorem dX12_init_289 : decode cX12_init 289 = .ok (.newarray .int, 2) := by decide +kernel
theorem dX12_init_291 : decode cX12_init 291 = .ok (.putfield 82, 3) := by decide +kernel
theorem dX12_init_294 : decode cX12_init 294 = .ok (.aload_n 0, 1) := by decide +kernel
theorem dX12_init_295 : decode cX12_init 295 = .ok (.bipush 30, 2) := by decide +kernel
theorem dX12_init_297 : decode cX12_init 297 = .ok (.newarray .int, 2) := by decide +kernel
theorem dX12_init_299 : decode cX12_init 299 = .ok (.putfield 85, 3) := by decide +kernel
theorem dX12_init_302 : decode cX12_init 302 = .ok (.aload_n 0, 1) := by decide +kernel
theorem dX12_init_303 : decode cX12_init 303 = .ok (.bipush 30, 2) := by decide +kernel
theorem dX12_init_305 : decode cX12_init 305 = .ok (.newarray .int, 2) := by decide +kernel
theorem dX12_init_307 : decode cX12_init 307 = .ok (.putfield 88, 3) := by decide +kernel
theorem dX12_init_310 : decode cX12_init 310 = .ok (.aload_n 0, 1) := by decide +kernel
theorem dX12_init_311 : decode cX12_init 311 = .ok (.bipush 30, 2) := by decide +kernel
theorem dX12_init_313 : decode cX12_init 313 = .ok (.newarray .int, 2) := by decide +kernel
theorem dX12_init_315 : decode cX12_init 315 = .ok (.putfield 91, 3) := by decide +kernel
theorem dX12_init_318 : decode cX12_init 318 = .ok (.aload_n 0, 1) := by decide +kernel
theorem dX12_init_319 : decode cX12_init 319 = .ok (.bipush 30, 2) := by decide +kernel
theorem dX12_init_321 : decode cX12_init 321 = .ok (.newarray .int, 2) := by decide +kernel
theorem dX12_init_323 : decode cX12_init 323 = .ok (.putfield 94, 3) := by decide +kernel
theorem dX12_init_326 : decode cX12_init 326 = .ok (.aload_n 0, 1) := by decide +kernel
theorem dX12_init_327 : decode cX12_init 327 = .ok (.bipush 30, 2) := by decide +kernel
theorem dX12_init_329 : decode cX12_init 329 = .ok (.newarray .int, 2) := by decide +kernel
theorem dX12_init_331 : decode cX12_init 331 = .ok (.putfield 97, 3) := by decide +kernel
theorem dX12_init_334 : decode cX12_init 334 = .ok (.aload_n 0, 1) := by decide +kernel
theorem dX12_init_335 : decode cX12_init 335 = .ok (.bipush 12, 2) := by decide +kernel
theorem dX12_init_337 : decode cX12_init 337 = .ok (.newarray .int, 2) := by decide +kernel
theorem dX12_init_339 : decode cX12_init 339 = .ok (.putfield 100, 3) := by decide +kernel
theorem dX12_init_342 : decode cX12_init 342 = .ok (.aload_n 0, 1) := by decide +kernel
theorem dX12_init_343 : decode cX12_init 343 = .ok (.bipush 12, 2) := by decide +kernel
theorem dX12_init_345 : decode cX12_init 345 = .ok (.newarray .int, 2) := by decide +kernel
theorem dX12_init_347 : decode cX12_init 347 = .ok (.putfield 103, 3) := by decide +kernel
theorem dX12_init_350 : decode cX12_init 350 = .ok (.aload_n 0, 1) := by decide +kernel
theorem dX12_init_351 : decode cX12_init 351 = .ok (.bipush 90, 2) := by decide +kernel
theorem dX12_init_353 : decode cX12_init 353 = .ok (.newarray .int, 2) := by decide +kernel
theorem dX12_init_355 : decode cX12_init 355 = .ok (.putfield 106, 3) := by decide +kernel
theorem dX12_init_358 : decode cX12_init 358 = .ok (.aload_n 0, 1) := by decide +kernel
theorem dX12_init_359 : decode cX12_init 359 = .ok (.bipush 90, 2) := by decide +kernel
theorem dX12_init_361 : decode cX12_init 361 = .ok (.newarray .int, 2) := by decide +kernel
theorem dX12_init_363 : decode cX12_init 363 = .ok (.putfield 109, 3) := by decide +kernel
theorem dX12_init_366 : decode cX12_init 366 = .ok (.aload_n 0, 1) := by decide +kernel
theorem dX12_init_367 : decode cX12_init 367 = .ok (.bipush 90, 2) := by decide +kernel
theorem dX12_init_369 : decode cX12_init 369 = .ok (.newarray .int, 2) := by decide +kernel
theorem dX12_init_371 : decode cX12_init 371 = .ok (.putfield 112, 3) := by decide +kernel
theorem dX12_init_374 : decode cX12_init 374 = .ok (.aload_n 0, 1) := by decide +kernel
theorem dX12_init_375 : decode cX12_init 375 = .ok (.bipush 90, 2) := by decide +kernel
theorem dX12_init_377 : decode cX12_init 377 = .ok (.newarray .int, 2) := by decide +kernel
theorem dX12_init_379 : decode cX12_init 379 = .ok (.putfield 115, 3) := by decide +kernel
theorem dX12_init_382 : decode cX12_init 382 = .ok (.aload_n 0, 1) := by decide +kernel
theorem dX12_init_383 : decode cX12_init 383 = .ok (.sipush 300, 3) := by decide +kernel
theorem dX12_init_386 : decode cX12_init 386 = .ok (.newarray .int, 2) := by decide +kernel
theorem dX12_init_388 : decode cX12_init 388 = .ok (.putfield 118, 3) := by decide +kernel
theorem dX12_init_391 : decode cX12_init 391 = .ok (.aload_n 0, 1) := by decide +kernel
theorem dX12_init_392 : decode cX12_init 392 = .ok (.sipush 300, 3) := by decide +kernel
theorem dX12_init_395 : decode cX12_init 395 = .ok (.newarray .int, 2) := by decide +kernel
theorem dX12_init_397 : decode cX12_init 397 = .ok (.putfield 121, 3) := by decide +kernel
theorem dX12_init_400 : decode cX12_init 400 = .ok (.aload_n 0, 1) := by decide +kernel
theorem dX12_init_401 : decode cX12_init 401 = .ok (.sipush 300, 3) := by decide +kernel
theorem dX12_init_404 : decode cX12_init 404 = .ok (.newarray .int, 2) := by decide +kernel
theorem dX12_init_406 : decode cX12_init 406 = .ok (.putfield 124, 3) := by decide +kernel
theorem dX12_init_409 : decode cX12_init 409 = .ok (.aload_n 0, 1) := by decide +kernel
theorem dX12_init_410 : decode cX12_init 410 = .ok (.sipush 300, 3) := by decide +kernel
theorem dX12_init_413 : decode cX12_init 413 = .ok (.newarray .int, 2) := by decide +kernel
theorem dX12_init_415 : decode cX12_init 415 = .ok (.putfield 127, 3) := by decide +kernel
theorem dX12_init_418 : decode cX12_init 418 = .ok (.aload_n 0, 1) := by decide +kernel
theorem dX12_init_419 : decode cX12_init 419 = .ok (.bipush 60, 2) := by decide +kernel
theorem dX12_init_421 : decode cX12_init 421 = .ok (.newarray .int, 2) := by decide +kernel
theorem dX12_init_423 : decode cX12_init 423 = .ok (.putfield 130, 3) := by decide +kernel
theorem dX12_init_426 : decode cX12_init 426 = .ok (.aload_n 0, 1) := by decide +kernel
theorem dX12_init_427 : decode cX12_init 427 = .ok (.bipush 60, 2) := by decide +kernel
theorem dX12_init_429 : decode cX12_init 429 = .ok (.newarray .int, 2) := by decide +kernel
theorem dX12_init_431 : decode cX12_init 431 = .ok (.putfield 133, 3) := by decide +kernel
theorem dX12_init_434 : decode cX12_init 434 = .ok (.aload_n 0, 1) := by decide +kernel
theorem dX12_init_435 : decode cX12_init 435 = .ok (.bipush 60, 2) := by decide +kernel
theorem dX12_init_437 : decode cX12_init 437 = .ok (.newarray .int, 2) := by decide +kernel
theorem dX12_init_439 : decode cX12_init 439 = .ok (.putfield 136, 3) := by decide +kernel
theorem dX12_init_442 : decode cX12_init 442 = .ok (.aload_n 0, 1) := by decide +kernel
theorem dX12_init_443 : decode cX12_init 443 = .ok (.bipush 30, 2) := by decide +kernel
theorem dX12_init_445 : decode cX12_init 445 = .ok (.newarray .int, 2) := by decide +kernel
theorem dX12_init_447 : decode cX12_init 447 = .ok (.putfield 139, 3) := by decide +kernel
theorem dX12_init_450 : decode cX12_init 450 = .ok (.aload_n 0, 1) := by decide +kernel
theorem dX12_init_451 : decode cX12_init 451 = .ok (.bipush 30, 2) := by decide +kernel
theorem dX12_init_453 : decode cX12_init 453 = .ok (.newarray .int, 2) := by decide +kernel
theorem dX12_init_455 : decode cX12_init 455 = .ok (.putfield 142, 3) := by decide +kernel
theorem dX12_init_458 : decode cX12_init 458 = .ok (.aload_n 0, 1) := by decide +kernel
theorem dX12_init_459 : decode cX12_init 459 = .ok (.bipush 72, 2) := by decide +kernel
theorem dX12_init_461 : decode cX12_init 461 = .ok (.newarray .int, 2) := by decide +kernel
theorem dX12_init_463 : decode cX12_init 463 = .ok (.putfield 145, 3) := by decide +kernel
theorem dX12_init_466 : decode cX12_init 466 = .ok (.aload_n 0, 1) := by decide +kernel
theorem dX12_init_467 : decode cX12_init 467 = .ok (.sipush 1440, 3) := by decide +kernel
theorem dX12_init_470 : decode cX12_init 470 = .ok (.newarray .int, 2) := by decide +kernel
theorem dX12_init_472 : decode cX12_init 472 = .ok (.putfield 148, 3) := by decide +kernel
theorem dX12_init_475 : decode cX12_init 475 = .ok (.aload_n 0, 1) := by decide +kernel
theorem dX12_init_476 : decode cX12_init 476 = .ok (.sipush 1440, 3) := by decide +kernel
theorem dX12_init_479 : decode cX12_init 479 = .ok (.newarray .int, 2) := by decide +kernel
theorem dX12_init_481 : decode cX12_init 481 = .ok (.putfield 151, 3) := by decide +kernel
theorem dX12_init_484 : decode cX12_init 484 = .ok (.aload_n 0, 1) := by decide +kernel
theorem dX12_init_485 : decode cX12_init 485 = .ok (.sipush 1440, 3) := by decide +kernel
theorem dX12_init_488 : decode cX12_init 488 = .ok (.newarray .int, 2) := by decide +kernel
theorem dX12_init_490 : decode cX12_init 490 = .ok (.putfield 154, 3) := by decide +kernel
theorem dX12_init_493 : decode cX12_init 493 = .ok (.aload_n 0, 1) := by decide +kernel
theorem dX12_init_494 : decode cX12_init 494 = .ok (.sipush 1440, 3) := by decide +kernel
theorem dX12_init_497 : decode cX12_init 497 = .ok (.newarray .int, 2) := by decide +kernel
theorem dX12_init_499 : decode cX12_init 499 = .ok (.putfield 157, 3) := by decide +kernel
theorem dX12_init_502 : decode cX12_init 502 = .ok (.aload_n 0, 1) := by decide +kernel
theorem dX12_init_503 : decode cX12_init 503 = .ok (.bipush 30, 2) := by decide +kernel
theorem dX12_init_505 : decode cX12_init 505 = .ok (.newarray .int, 2) := by decide +kernel
theorem dX12_init_507 : decode cX12_init 507 = .ok (.putfield 160, 3) := by decide +kernel
theorem dX12_init_510 : decode cX12_init 510 = .ok (.aload_n 0, 1) := by decide +kernel
theorem dX12_init_511 : decode cX12_init 511 = .ok (.bipush 30, 2) := by decide +kernel
theorem dX12_init_513 : decode cX12_init 513 = .ok (.newarray .boolean, 2) := by decide +kernel
theorem dX12_init_515 : decode cX12_init 515 = .ok (.putfield 163, 3) := by decide +kernel
theorem dX12_init_518 : decode cX12_init 518 = .ok (.aload_n 0, 1) := by decide +kernel
theorem dX12_init_519 : decode cX12_init 519 = .ok (.iconst 5, 1) := by decide +kernel
theorem dX12_init_520 : decode cX12_init 520 = .ok (.newarray .int, 2) := by decide +kernel
theorem dX12_init_522 : decode cX12_init 522 = .ok (.putfield 166, 3) := by decide +kernel
theorem dX12_init_525 : decode cX12_init 525 = .ok (.aload_n 0, 1) := by decide +kernel
theorem dX12_init_526 : decode cX12_init 526 = .ok (.bipush 10, 2) := by decide +kernel
theorem dX12_init_528 : decode cX12_init 528 = .ok (.newarray .int, 2) := by decide +kernel
theorem dX12_init_530 : decode cX12_init 530 = .ok (.putfield 169, 3) := by decide +kernel
theorem dX12_init_533 : decode cX12_init 533 = .ok (.aload_n 0, 1) := by decide +kernel
theorem dX12_init_534 : decode cX12_init 534 = .ok (.bipush 10, 2) := by decide +kernel
theorem dX12_init_536 : decode cX12_init 536 = .ok (.newarray .int, 2) := by decide +kernel
theorem dX12_init_538 : decode cX12_init 538 = .ok (.putfield 172, 3) := by decide +kernel
theorem dX12_init_541 : decode cX12_init 541 = .ok (.aload_n 0, 1) := by decide +kernel
theorem dX12_init_542 : decode cX12_init 542 = .ok (.sipush 200, 3) := by decide +kernel
theorem dX12_init_545 : decode cX12_init 545 = .ok (.newarray .int, 2) := by decide +kernel
theorem dX12_init_547 : decode cX12_init 547 = .ok (.putfield 175, 3) := by decide +kernel
theorem dX12_init_550 : decode cX12_init 550 = .ok (.aload_n 0, 1) := by decide +kernel
theorem dX12_init_551 : decode cX12_init 551 = .ok (.sipush 200, 3) := by decide +kernel
theorem dX12_init_554 : decode cX12_init 554 = .ok (.newarray .int, 2) := by decide +kernel
theorem dX12_init_556 : decode cX12_init 556 = .ok (.putfield 178, 3) := by decide +kernel
theorem dX12_init_559 : decode cX12_init 559 = .ok (.aload_n 0, 1) := by decide +kernel
theorem dX12_init_560 : decode cX12_init 560 = .ok (.sipush 441, 3) := by decide +kernel
theorem dX12_init_563 : decode cX12_init 563 = .ok (.newarray .int, 2) := by decide +kernel
theorem dX12_init_565 : decode cX12_init 565 = .ok (.putfield 181, 3) := by decide +kernel
theorem dX12_init_568 : decode cX12_init 568 = .ok (.aload_n 0, 1) := by decide +kernel
theorem dX12_init_569 : decode cX12_init 569 = .ok (.sipush 441, 3) := by decide +kernel
theorem dX12_init_572 : decode cX12_init 572 = .ok (.newarray .int, 2) := by decide +kernel
theorem dX12_init_574 : decode cX12_init 574 = .ok (.putfield 184, 3) := by decide +kernel
theorem dX12_init_577 : decode cX12_init 577 = .ok (.aload_n 0, 1) := by decide +kernel
theorem dX12_init_578 : decode cX12_init 578 = .ok (.bipush 20, 2) := by decide +kernel
theorem dX12_init_580 : decode cX12_init 580 = .ok (.newarray .int, 2) := by decide +kernel
theorem dX12_init_582 : decode cX12_init 582 = .ok (.putfield 187, 3) := by decide +kernel
theorem dX12_init_585 : decode cX12_init 585 = .ok (.aload_n 0, 1) := by decide +kernel
theorem dX12_init_586 : decode cX12_init 586 = .ok (.bipush 10, 2) := by decide +kernel
theorem dX12_init_588 : decode cX12_init 588 = .ok (.newarray .int, 2) := by decide +kernel
theorem dX12_init_590 : decode cX12_init 590 = .ok (.putfield 190, 3) := by decide +kernel
theorem dX12_init_593 : decode cX12_init 593 = .ok (.aload_n 0, 1) := by decide +kernel
theorem dX12_init_594 : decode cX12_init 594 = .ok (.sipush 400, 3) := by decide +kernel
theorem dX12_init_597 : decode cX12_init 597 = .ok (.newarray .int, 2) := by decide +kernel
theorem dX12_init_599 : decode cX12_init 599 = .ok (.putfield 193, 3) := by decide +kernel
theorem dX12_init_602 : decode cX12_init 602 = .ok (.aload_n 0, 1) := by decide +kernel
theorem dX12_init_603 : decode cX12_init 603 = .ok (.sipush 400, 3) := by decide +kernel
theorem dX12_init_606 : decode cX12_init 606 = .ok (.newarray .int, 2) := by decide +kernel
theorem dX12_init_608 : decode cX12_init 608 = .ok (.putfield 196, 3) := by decide +kernel
theorem dX12_init_611 : decode cX12_init 611 = .ok (.return_, 1) := by decide +kernel
theorem dX12_thrown_0 : decode cX12_thrown 0 = .ok (.aload_n 0, 1) := by decide +kernel
theorem dX12_thrown_1 : decode cX12_thrown 1 = .ok (.getfield 199, 3) := by decide +kernel
theorem dX12_thrown_4 : decode cX12_thrown 4 = .ok (.ireturn, 1) := by decide +kernel
theorem dX12_bad_0 : decode cX12_bad 0 = .ok (.iload_n 1, 1) := by decide +kernel
theorem dX12_bad_1 : decode cX12_bad 1 = .ok (.ifCond .eq 8, 3) := by decide +kernel
theorem dX12_bad_4 : decode cX12_bad 4 = .ok (.aload_n 0, 1) := by decide +kernel
theorem dX12_bad_5 : decode cX12_bad 5 = .ok (.iload_n 2, 1) := by decide +kernel
theorem dX12_bad_6 : decode cX12_bad 6 = .ok (.putfield 199, 3) := by decide +kernel
theorem dX12_bad_9 : decode cX12_bad 9 = .ok (.iload_n 1, 1) := by decide +kernel
theorem dX12_bad_10 : decode cX12_bad 10 = .ok (.ireturn, 1) := by decide +kernel
theorem dX12_owner_0 : decode cX12_owner 0 = .ok (.aload_n 0, 1) := by decide +kernel
theorem dX12_owner_1 : decode cX12_owner 1 = .ok (.iconst 0, 1) := by decide +kernel
theorem dX12_owner_2 : decode cX12_owner 2 = .ok (.putfield 199, 3) := by decide +kernel
theorem dX12_owner_5 : decode cX12_owner 5 = .ok (.aload_n 0, 1) := by decide +kernel
theorem dX12_owner_6 : decode cX12_owner 6 = .ok (.aload_n 0, 1) := by decide +kernel
theorem dX12_owner_7 : decode cX12_owner 7 = .ok (.getfield 202, 3) := by decide +kernel
theorem dX12_owner_10 : decode cX12_owner 10 = .ok (.bipush 20, 2) := by decide +kernel
theorem dX12_owner_12 : decode cX12_owner 12 = .ok (.if_icmp .ne 7, 3) := by decide +kernel
theorem dX12_owner_15 : decode cX12_owner 15 = .ok (.iconst 1, 1) := by decide +kernel
theorem dX12_owner_16 : decode cX12_owner 16 = .ok (.goto 4, 3) := by decide +kernel
theorem dX12_owner_19 : decode cX12_owner 19 = .ok (.iconst 0, 1) := by decide +kernel
theorem dX12_owner_20 : decode cX12_owner 20 = .ok (.iconst 1, 1) := by decide +kernel
theorem dX12_owner_21 : decode cX12_owner 21 = .ok (.invokevirtual 205, 3) := by decide +kernel
theorem dX12_owner_24 : decode cX12_owner 24 = .ok (.ifCond .eq 5, 3) := by decide +kernel
theorem dX12_owner_27 : decode cX12_owner 27 = .ok (.iconst 0, 1) := by decide +kernel
theorem dX12_owner_28 : decode cX12_owner 28 = .ok (.ireturn, 1) := by decide +kernel
theorem dX12_owner_29 : decode cX12_owner 29 = .ok (.aload_n 0, 1) := by decide +kernel
theorem dX12_owner_30 : decode cX12_owner 30 = .ok (.dup, 1) := by decide +kernel
theorem dX12_owner_31 : decode cX12_owner 31 = .ok (.getfield 202, 3) := by decide +kernel
theorem dX12_owner_34 : decode cX12_owner 34 = .ok (.iconst 1, 1) := by decide +kernel
theorem dX12_owner_35 : decode cX12_owner 35 = .ok (.iadd, 1) := by decide +kernel
theorem dX12_owner_36 : decode cX12_owner 36 = .ok (.putfield 202, 3) := by decide +kernel
theorem dX12_owner_39 : decode cX12_owner 39 = .ok (.aload_n 0, 1) := by decide +kernel
theorem dX12_owner_40 : decode cX12_owner 40 = .ok (.getfield 202, 3) := by decide +kernel
theorem dX12_owner_43 : decode cX12_owner 43 = .ok (.iconst 1, 1) := by decide +kernel
theorem dX12_owner_44 : decode cX12_owner 44 = .ok (.isub, 1) := by decide +kernel
theorem dX12_owner_45 : decode cX12_owner 45 = .ok (.ireturn, 1) := by decide +kernel
theorem dX12_isOwner_0 : decode cX12_isOwner 0 = .ok (.iload_n 1, 1) := by decide +kernel
theorem dX12_isOwner_1 : decode cX12_isOwner 1 = .ok (.ifCond .lt 15, 3) := by decide +kernel
theorem dX12_isOwner_4 : decode cX12_isOwner 4 = .ok (.iload_n 1, 1) := by decide +kernel
theorem dX12_isOwner_5 : decode cX12_isOwner 5 = .ok (.aload_n 0, 1) := by decide +kernel
theorem dX12_isOwner_6 : decode cX12_isOwner 6 = .ok (.getfield 202, 3) := by decide +kernel
theorem dX12_isOwner_9 : decode cX12_isOwner 9 = .ok (.if_icmp .ge 7, 3) := by decide +kernel
theorem dX12_isOwner_12 : decode cX12_isOwner 12 = .ok (.iconst 1, 1) := by decide +kernel
theorem dX12_isOwner_13 : decode cX12_isOwner 13 = .ok (.goto 4, 3) := by decide +kernel
theorem dX12_isOwner_16 : decode cX12_isOwner 16 = .ok (.iconst 0, 1) := by decide +kernel
theorem dX12_isOwner_17 : decode cX12_isOwner 17 = .ok (.ireturn, 1) := by decide +kernel
theorem dX12_isWall_0 : decode cX12_isWall 0 = .ok (.iload_n 1, 1) := by decide +kernel
theorem dX12_isWall_1 : decode cX12_isWall 1 = .ok (.ifCond .lt 15, 3) := by decide +kernel
theorem dX12_isWall_4 : decode cX12_isWall 4 = .ok (.iload_n 1, 1) := by decide +kernel
theorem dX12_isWall_5 : decode cX12_isWall 5 = .ok (.aload_n 0, 1) := by decide +kernel
theorem dX12_isWall_6 : decode cX12_isWall 6 = .ok (.getfield 209, 3) := by decide +kernel
theorem dX12_isWall_9 : decode cX12_isWall 9 = .ok (.if_icmp .ge 7, 3) := by decide +kernel
theorem dX12_isWall_12 : decode cX12_isWall 12 = .ok (.iconst 1, 1) := by decide +kernel
theorem dX12_isWall_13 : decode cX12_isWall 13 = .ok (.goto 4, 3) := by decide +kernel
theorem dX12_isWall_16 : decode cX12_isWall 16 = .ok (.iconst 0, 1) := by decide +kernel
theorem dX12_isWall_17 : decode cX12_isWall 17 = .ok (.ireturn, 1) := by decide +kernel
theorem dX12_isSide_0 : decode cX12_isSide 0 = .ok (.iload_n 0, 1) := by decide +kernel
theorem dX12_isSide_1 : decode cX12_isSide 1 = .ok (.ifCond .eq 8, 3) := by decide +kernel
theorem dX12_isSide_4 : decode cX12_isSide 4 = .ok (.iload_n 0, 1) := by decide +kernel
theorem dX12_isSide_5 : decode cX12_isSide 5 = .ok (.iconst 1, 1) := by decide +kernel
theorem dX12_isSide_6 : decode cX12_isSide 6 = .ok (.if_icmp .ne 7, 3) := by decide +kernel
theorem dX12_isSide_9 : decode cX12_isSide 9 = .ok (.iconst 1, 1) := by decide +kernel
theorem dX12_isSide_10 : decode cX12_isSide 10 = .ok (.goto 4, 3) := by decide +kernel
theorem dX12_isSide_13 : decode cX12_isSide 13 = .ok (.iconst 0, 1) := by decide +kernel
theorem dX12_isSide_14 : decode cX12_isSide 14 = .ok (.ireturn, 1) := by decide +kernel
theorem dX12_wall_0 : decode cX12_wall 0 = .ok (.aload_n 0, 1) := by decide +kernel
theorem dX12_wall_1 : decode cX12_wall 1 = .ok (.iconst 0, 1) := by decide +kernel
theorem dX12_wall_2 : decode cX12_wall 2 = .ok (.putfield 199, 3) := by decide +kernel
theorem dX12_wall_5 : decode cX12_wall 5 = .ok (.aload_n 0, 1) := by decide +kernel
theorem dX12_wall_6 : decode cX12_wall 6 = .ok (.aload_n 0, 1) := by decide +kernel
theorem dX12_wall_7 : decode cX12_wall 7 = .ok (.iload_n 1, 1) := by decide +kernel
theorem dX12_wall_8 : decode cX12_wall 8 = .ok (.invokevirtual 212, 3) := by decide +kernel
theorem dX12_wall_11 : decode cX12_wall 11 = .ok (.ifCond .eq 11, 3) := by decide +kernel
theorem dX12_wall_14 : decode cX12_wall 14 = .ok (.aload_n 0, 1) := by decide +kernel
theorem dX12_wall_15 : decode cX12_wall 15 = .ok (.iload_n 2, 1) := by decide +kernel
theorem dX12_wall_16 : decode cX12_wall 16 = .ok (.invokevirtual 212, 3) := by decide +kernel
theorem dX12_wall_19 : decode cX12_wall 19 = .ok (.ifCond .ne 7, 3) := by decide +kernel
theorem dX12_wall_22 : decode cX12_wall 22 = .ok (.iconst 1, 1) := by decide +kernel
theorem dX12_wall_23 : decode cX12_wall 23 = .ok (.goto 4, 3) := by decide +kernel
theorem dX12_wall_26 : decode cX12_wall 26 = .ok (.iconst 0, 1) := by decide +kernel
theorem dX12_wall_27 : decode cX12_wall 27 = .ok (.iconst 1, 1) := by decide +kernel
theorem dX12_wall_28 : decode cX12_wall 28 = .ok (.invokevirtual 205, 3) := by decide +kernel
theorem dX12_wall_31 : decode cX12_wall 31 = .ok (.ifCond .ne 25, 3) := by decide +kernel
theorem dX12_wall_34 : decode cX12_wall 34 = .ok (.aload_n 0, 1) := by decide +kernel
theorem dX12_wall_35 : decode cX12_wall 35 = .ok (.aload_n 0, 1) := by decide +kernel
theorem dX12_wall_36 : decode cX12_wall 36 = .ok (.getfield 209, 3) := by decide +kernel
theorem dX12_wall_39 : decode cX12_wall 39 = .ok (.bipush 6, 2) := by decide +kernel
theorem dX12_wall_41 : decode cX12_wall 41 = .ok (.if_icmp .ne 7, 3) := by decide +kernel
theorem dX12_wall_44 : decode cX12_wall 44 = .ok (.iconst 1, 1) := by decide +kernel
theorem dX12_wall_45 : decode cX12_wall 45 = .ok (.goto 4, 3) := by decide +kernel
theorem dX12_wall_48 : decode cX12_wall 48 = .ok (.iconst 0, 1) := by decide +kernel
theorem dX12_wall_49 : decode cX12_wall 49 = .ok (.iconst 2, 1) := by decide +kernel
theorem dX12_wall_50 : decode cX12_wall 50 = .ok (.invokevirtual 205, 3) := by decide +kernel
theorem dX12_wall_53 : decode cX12_wall 53 = .ok (.ifCond .eq 5, 3) := by decide +kernel
theorem dX12_wall_56 : decode cX12_wall 56 = .ok (.iconst 0, 1) := by decide +kernel
theorem dX12_wall_57 : decode cX12_wall 57 = .ok (.ireturn, 1) := by decide +kernel
theorem dX12_wall_58 : decode cX12_wall 58 = .ok (.aload_n 0, 1) := by decide +kernel
theorem dX12_wall_59 : decode cX12_wall 59 = .ok (.getfield 9, 3) := by decide +kernel
theorem dX12_wall_62 : decode cX12_wall 62 = .ok (.iconst 2, 1) := by decide +kernel
theorem dX12_wall_63 : decode cX12_wall 63 = .ok (.aload_n 0, 1) := by decide +kernel
theorem dX12_wall_64 : decode cX12_wall 64 = .ok (.getfield 209, 3) := by decide +kernel
theorem dX12_wall_67 : decode cX12_wall 67 = .ok (.imul, 1) := by decide +kernel
theorem dX12_wall_68 : decode cX12_wall 68 = .ok (.iload_n 1, 1) := by decide +kernel
theorem dX12_wall_69 : decode cX12_wall 69 = .ok (.iastore, 1) := by decide +kernel
theorem dX12_wall_70 : decode cX12_wall 70 = .ok (.aload_n 0, 1) := by decide +kernel
theorem dX12_wall_71 : decode cX12_wall 71 = .ok (.getfield 9, 3) := by decide +kernel
theorem dX12_wall_74 : decode cX12_wall 74 = .ok (.iconst 2, 1) := by decide +kernel
theorem dX12_wall_75 : decode cX12_wall 75 = .ok (.aload_n 0, 1) := by decide +kernel
theorem dX12_wall_76 : decode cX12_wall 76 = .ok (.getfield 209, 3) := by decide +kernel
theorem dX12_wall_79 : decode cX12_wall 79 = .ok (.imul, 1) := by decide +kernel
theorem dX12_wall_80 : decode cX12_wall 80 = .ok (.iconst 1, 1) := by decide +kernel
theorem dX12_wall_81 : decode cX12_wall 81 = .ok (.iadd, 1) := by decide +kernel
theorem dX12_wall_82 : decode cX12_wall 82 = .ok (.iload_n 2, 1) := by decide +kernel
theorem dX12_wall_83 : decode cX12_wall 83 = .ok (.iastore, 1) := by decide +kernel
theorem dX12_wall_84 : decode cX12_wall 84 = .ok (.aload_n 0, 1) := by decide +kernel
theorem dX12_wall_85 : decode cX12_wall 85 = .ok (.dup, 1) := by decide +kernel
theorem dX12_wall_86 : decode cX12_wall 86 = .ok (.getfield 209, 3) := by decide +kernel
theorem dX12_wall_89 : decode cX12_wall 89 = .ok (.iconst 1, 1) := by decide +kernel
theorem dX12_wall_90 : decode cX12_wall 90 = .ok (.iadd, 1) := by decide +kernel
theorem dX12_wall_91 : decode cX12_wall 91 = .ok (.putfield 209, 3) := by decide +kernel
theorem dX12_wall_94 : decode cX12_wall 94 = .ok (.aload_n 0, 1) := by decide +kernel
theorem dX12_wall_95 : decode cX12_wall 95 = .ok (.getfield 209, 3) := by decide +kernel
theorem dX12_wall_98 : decode cX12_wall 98 = .ok (.iconst 1, 1) := by decide +kernel
theorem dX12_wall_99 : decode cX12_wall 99 = .ok (.isub, 1) := by decide +kernel
theorem dX12_wall_100 : decode cX12_wall 100 = .ok (.ireturn, 1) := by decide +kernel
theorem dX12_sell_0 : decode cX12_sell 0 = .ok (.aload_n 0, 1) := by decide +kernel
theorem dX12_sell_1 : decode cX12_sell 1 = .ok (.iconst 0, 1) := by decide +kernel
theorem dX12_sell_2 : decode cX12_sell 2 = .ok (.putfield 199, 3) := by decide +kernel
theorem dX12_sell_5 : decode cX12_sell 5 = .ok (.aload_n 0, 1) := by decide +kernel
theorem dX12_sell_6 : decode cX12_sell 6 = .ok (.aload_n 0, 1) := by decide +kernel
theorem dX12_sell_7 : decode cX12_sell 7 = .ok (.iload_n 1, 1) := by decide +kernel
theorem dX12_sell_8 : decode cX12_sell 8 = .ok (.invokevirtual 216, 3) := by decide +kernel
theorem dX12_sell_11 : decode cX12_sell 11 = .ok (.ifCond .eq 11, 3) := by decide +kernel
theorem dX12_sell_14 : decode cX12_sell 14 = .ok (.aload_n 0, 1) := by decide +kernel
theorem dX12_sell_15 : decode cX12_sell 15 = .ok (.iload_n 3, 1) := by decide +kernel
theorem dX12_sell_16 : decode cX12_sell 16 = .ok (.invokevirtual 212, 3) := by decide +kernel
theorem dX12_sell_19 : decode cX12_sell 19 = .ok (.ifCond .ne 7, 3) := by decide +kernel
theorem dX12_sell_22 : decode cX12_sell 22 = .ok (.iconst 1, 1) := by decide +kernel
theorem dX12_sell_23 : decode cX12_sell 23 = .ok (.goto 4, 3) := by decide +kernel
theorem dX12_sell_26 : decode cX12_sell 26 = .ok (.iconst 0, 1) := by decide +kernel
theorem dX12_sell_27 : decode cX12_sell 27 = .ok (.iconst 1, 1) := by decide +kernel
theorem dX12_sell_28 : decode cX12_sell 28 = .ok (.invokevirtual 205, 3) := by decide +kernel
theorem dX12_sell_31 : decode cX12_sell 31 = .ok (.ifCond .ne 23, 3) := by decide +kernel
theorem dX12_sell_34 : decode cX12_sell 34 = .ok (.aload_n 0, 1) := by decide +kernel
theorem dX12_sell_35 : decode cX12_sell 35 = .ok (.iload_n 2, 1) := by decide +kernel
theorem dX12_sell_36 : decode cX12_sell 36 = .ok (.invokestatic 219, 3) := by decide +kernel
theorem dX12_sell_39 : decode cX12_sell 39 = .ok (.ifCond .ne 7, 3) := by decide +kernel
theorem dX12_sell_42 : decode cX12_sell 42 = .ok (.iconst 1, 1) := by decide +kernel
theorem dX12_sell_43 : decode cX12_sell 43 = .ok (.goto 4, 3) := by decide +kernel
theorem dX12_sell_46 : decode cX12_sell 46 = .ok (.iconst 0, 1) := by decide +kernel
theorem dX12_sell_47 : decode cX12_sell 47 = .ok (.iconst 2, 1) := by decide +kernel
theorem dX12_sell_48 : decode cX12_sell 48 = .ok (.invokevirtual 205, 3) := by decide +kernel
theorem dX12_sell_51 : decode cX12_sell 51 = .ok (.ifCond .eq 5, 3) := by decide +kernel
theorem dX12_sell_54 : decode cX12_sell 54 = .ok (.iconst 0, 1) := by decide +kernel
theorem dX12_sell_55 : decode cX12_sell 55 = .ok (.ireturn, 1) := by decide +kernel
theorem dX12_sell_56 : decode cX12_sell 56 = .ok (.aload_n 0, 1) := by decide +kernel
theorem dX12_sell_57 : decode cX12_sell 57 = .ok (.getfield 9, 3) := by decide +kernel
theorem dX12_sell_60 : decode cX12_sell 60 = .ok (.iconst 2, 1) := by decide +kernel
theorem dX12_sell_61 : decode cX12_sell 61 = .ok (.iload_n 1, 1) := by decide +kernel
theorem dX12_sell_62 : decode cX12_sell 62 = .ok (.imul, 1) := by decide +kernel
theorem dX12_sell_63 : decode cX12_sell 63 = .ok (.iload_n 2, 1) := by decide +kernel
theorem dX12_sell_64 : decode cX12_sell 64 = .ok (.iadd, 1) := by decide +kernel
theorem dX12_sell_65 : decode cX12_sell 65 = .ok (.iaload, 1) := by decide +kernel
theorem dX12_sell_66 : decode cX12_sell 66 = .ok (.istore 4, 2) := by decide +kernel
theorem dX12_sell_68 : decode cX12_sell 68 = .ok (.aload_n 0, 1) := by decide +kernel
theorem dX12_sell_69 : decode cX12_sell 69 = .ok (.getfield 9, 3) := by decide +kernel
theorem dX12_sell_72 : decode cX12_sell 72 = .ok (.iconst 2, 1) := by decide +kernel
theorem dX12_sell_73 : decode cX12_sell 73 = .ok (.iload_n 1, 1) := by decide +kernel
theorem dX12_sell_74 : decode cX12_sell 74 = .ok (.imul, 1) := by decide +kernel
theorem dX12_sell_75 : decode cX12_sell 75 = .ok (.iload_n 2, 1) := by decide +kernel
theorem dX12_sell_76 : decode cX12_sell 76 = .ok (.iadd, 1) := by decide +kernel
theorem dX12_sell_77 : decode cX12_sell 77 = .ok (.iload_n 3, 1) := by decide +kernel
theorem dX12_sell_78 : decode cX12_sell 78 = .ok (.iastore, 1) := by decide +kernel
theorem dX12_sell_79 : decode cX12_sell 79 = .ok (.iload 4, 2) := by decide +kernel
theorem dX12_sell_81 : decode cX12_sell 81 = .ok (.ireturn, 1) := by decide +kernel
theorem dX12_wait_0 : decode cX12_wait 0 = .ok (.aload_n 0, 1) := by decide +kernel
theorem dX12_wait_1 : decode cX12_wait 1 = .ok (.iconst 0, 1) := by decide +kernel
theorem dX12_wait_2 : decode cX12_wait 2 = .ok (.putfield 199, 3) := by decide +kernel
theorem dX12_wait_5 : decode cX12_wait 5 = .ok (.aload_n 0, 1) := by decide +kernel
theorem dX12_wait_6 : decode cX12_wait 6 = .ok (.iload_n 1, 1) := by decide +kernel
theorem dX12_wait_7 : decode cX12_wait 7 = .ok (.ifCond .lt 10, 3) := by decide +kernel
theorem dX12_wait_10 : decode cX12_wait 10 = .ok (.iload_n 1, 1) := by decide +kernel
theorem dX12_wait_11 : decode cX12_wait 11 = .ok (.sipush 10000, 3) := by decide +kernel
theorem dX12_wait_14 : decode cX12_wait 14 = .ok (.if_icmp .le 7, 3) := by decide +kernel
theorem dX12_wait_17 : decode cX12_wait 17 = .ok (.iconst 1, 1) := by decide +kernel
theorem dX12_wait_18 : decode cX12_wait 18 = .ok (.goto 4, 3) := by decide +kernel
theorem dX12_wait_21 : decode cX12_wait 21 = .ok (.iconst 0, 1) := by decide +kernel
theorem dX12_wait_22 : decode cX12_wait 22 = .ok (.iconst 1, 1) := by decide +kernel
theorem dX12_wait_23 : decode cX12_wait 23 = .ok (.invokevirtual 205, 3) := by decide +kernel
theorem dX12_wait_26 : decode cX12_wait 26 = .ok (.ifCond .ne 27, 3) := by decide +kernel
theorem dX12_wait_29 : decode cX12_wait 29 = .ok (.aload_n 0, 1) := by decide +kernel
theorem dX12_wait_30 : decode cX12_wait 30 = .ok (.aload_n 0, 1) := by decide +kernel
theorem dX12_wait_31 : decode cX12_wait 31 = .ok (.getfield 222, 3) := by decide +kernel
theorem dX12_wait_34 : decode cX12_wait 34 = .ok (.iload_n 1, 1) := by decide +kernel
theorem dX12_wait_35 : decode cX12_wait 35 = .ok (.iadd, 1) := by decide +kernel
theorem dX12_wait_36 : decode cX12_wait 36 = .ok (.ldc 225, 2) := by decide +kernel
theorem dX12_wait_38 : decode cX12_wait 38 = .ok (.if_icmp .le 7, 3) := by decide +kernel
theorem dX12_wait_41 : decode cX12_wait 41 = .ok (.iconst 1, 1) := by decide +kernel
theorem dX12_wait_42 : decode cX12_wait 42 = .ok (.goto 4, 3) := by decide +kernel
theorem dX12_wait_45 : decode cX12_wait 45 = .ok (.iconst 0, 1) := by decide +kernel
theorem dX12_wait_46 : decode cX12_wait 46 = .ok (.iconst 2, 1) := by decide +kernel
theorem dX12_wait_47 : decode cX12_wait 47 = .ok (.invokevirtual 205, 3) := by decide +kernel
theorem dX12_wait_50 : decode cX12_wait 50 = .ok (.ifCond .eq 5, 3) := by decide +kernel
theorem dX12_wait_53 : decode cX12_wait 53 = .ok (.iconst 0, 1) := by decide +kernel
theorem dX12_wait_54 : decode cX12_wait 54 = .ok (.ireturn, 1) := by decide +kernel
theorem dX12_wait_55 : decode cX12_wait 55 = .ok (.aload_n 0, 1) := by decide +kernel
theorem dX12_wait_56 : decode cX12_wait 56 = .ok (.dup, 1) := by decide +kernel
theorem dX12_wait_57 : decode cX12_wait 57 = .ok (.getfield 222, 3) := by decide +kernel
theorem dX12_wait_60 : decode cX12_wait 60 = .ok (.iload_n 1, 1) := by decide +kernel
theorem dX12_wait_61 : decode cX12_wait 61 = .ok (.iadd, 1) := by decide +kernel
theorem dX12_wait_62 : decode cX12_wait 62 = .ok (.putfield 222, 3) := by decide +kernel
theorem dX12_wait_65 : decode cX12_wait 65 = .ok (.aload_n 0, 1) := by decide +kernel
theorem dX12_wait_66 : decode cX12_wait 66 = .ok (.getfield 222, 3) := by decide +kernel
theorem dX12_wait_69 : decode cX12_wait 69 = .ok (.ireturn, 1) := by decide +kernel
theorem dX12_countedFrom_0 : decode cX12_countedFrom 0 = .ok (.iload_n 0, 1) := by decide +kernel
theorem dX12_countedFrom_1 : decode cX12_countedFrom 1 = .ok (.istore_n 3, 1) := by decide +kernel
theorem dX12_countedFrom_2 : decode cX12_countedFrom 2 = .ok (.iload_n 1, 1) := by decide +kernel
theorem dX12_countedFrom_3 : decode cX12_countedFrom 3 = .ok (.istore 4, 2) := by decide +kernel
theorem dX12_countedFrom_5 : decode cX12_countedFrom 5 = .ok (.iload 4, 2) := by decide +kernel
theorem dX12_countedFrom_7 : decode cX12_countedFrom 7 = .ok (.ifCond .le 30, 3) := by decide +kernel
theorem dX12_countedFrom_10 : decode cX12_countedFrom 10 = .ok (.iinc 3 1, 3) := by decide +kernel
theorem dX12_countedFrom_13 : decode cX12_countedFrom 13 = .ok (.iload 4, 2) := by decide +kernel
theorem dX12_countedFrom_15 : decode cX12_countedFrom 15 = .ok (.iload_n 2, 1) := by decide +kernel
theorem dX12_countedFrom_16 : decode cX12_countedFrom 16 = .ok (.iload_n 3, 1) := by decide +kernel
theorem dX12_countedFrom_17 : decode cX12_countedFrom 17 = .ok (.bipush 7, 2) := by decide +kernel
theorem dX12_countedFrom_19 : decode cX12_countedFrom 19 = .ok (.irem, 1) := by decide +kernel
theorem dX12_countedFrom_20 : decode cX12_countedFrom 20 = .ok (.ishr, 1) := by decide +kernel
theorem dX12_countedFrom_21 : decode cX12_countedFrom 21 = .ok (.iconst 1, 1) := by decide +kernel
theorem dX12_countedFrom_22 : decode cX12_countedFrom 22 = .ok (.iand, 1) := by decide +kernel
theorem dX12_countedFrom_23 : decode cX12_countedFrom 23 = .ok (.ifCond .ne 7, 3) := by decide +kernel
theorem dX12_countedFrom_26 : decode cX12_countedFrom 26 = .ok (.iconst 1, 1) := by decide +kernel
theorem dX12_countedFrom_27 : decode cX12_countedFrom 27 = .ok (.goto 4, 3) := by decide +kernel
theorem dX12_countedFrom_30 : decode cX12_countedFrom 30 = .ok (.iconst 0, 1) := by decide +kernel
theorem dX12_countedFrom_31 : decode cX12_countedFrom 31 = .ok (.isub, 1) := by decide +kernel
theorem dX12_countedFrom_32 : decode cX12_countedFrom 32 = .ok (.istore 4, 2) := by decide +kernel
theorem dX12_countedFrom_34 : decode cX12_countedFrom 34 = .ok (.goto (-29), 3) := by decide +kernel
theorem dX12_countedFrom_37 : decode cX12_countedFrom 37 = .ok (.iload_n 3, 1) := by decide +kernel
theorem dX12_countedFrom_38 : decode cX12_countedFrom 38 = .ok (.ireturn, 1) := by decide +kernel
theorem dX12_feed_0 : decode cX12_feed 0 = .ok (.aload_n 0, 1) := by decide +kernel
theorem dX12_feed_1 : decode cX12_feed 1 = .ok (.iconst 0, 1) := by decide +kernel
theorem dX12_feed_2 : decode cX12_feed 2 = .ok (.putfield 199, 3) := by decide +kernel
theorem dX12_feed_5 : decode cX12_feed 5 = .ok (.aload_n 0, 1) := by decide +kernel
theorem dX12_feed_6 : decode cX12_feed 6 = .ok (.getfield 226, 3) := by decide +kernel
theorem dX12_feed_9 : decode cX12_feed 9 = .ok (.bipush 20, 2) := by decide +kernel
theorem dX12_feed_11 : decode cX12_feed 11 = .ok (.iadd, 1) := by decide +kernel
theorem dX12_feed_12 : decode cX12_feed 12 = .ok (.sipush 400, 3) := by decide +kernel
theorem dX12_feed_15 : decode cX12_feed 15 = .ok (.if_icmp .le 5, 3) := by decide +kernel
theorem dX12_feed_18 : decode cX12_feed 18 = .ok (.iconst (-1), 1) := by decide +kernel
theorem dX12_feed_19 : decode cX12_feed 19 = .ok (.ireturn, 1) := by decide +kernel
theorem dX12_feed_20 : decode cX12_feed 20 = .ok (.iconst 0, 1) := by decide +kernel
theorem dX12_feed_21 : decode cX12_feed 21 = .ok (.istore 6, 2) := by decide +kernel
theorem dX12_feed_23 : decode cX12_feed 23 = .ok (.iload 6, 2) := by decide +kernel
theorem dX12_feed_25 : decode cX12_feed 25 = .ok (.iconst 5, 1) := by decide +kernel
theorem dX12_feed_26 : decode cX12_feed 26 = .ok (.if_icmp .ge 93, 3) := by decide +kernel
theorem dX12_feed_29 : decode cX12_feed 29 = .ok (.iload 6, 2) := by decide +kernel
theorem dX12_feed_31 : decode cX12_feed 31 = .ok (.ifCond .ne 7, 3) := by decide +kernel
theorem dX12_feed_34 : decode cX12_feed 34 = .ok (.iload_n 1, 1) := by decide +kernel
theorem dX12_feed_35 : decode cX12_feed 35 = .ok (.goto 36, 3) := by decide +kernel
theorem dX12_feed_38 : decode cX12_feed 38 = .ok (.iload 6, 2) := by decide +kernel
theorem dX12_feed_40 : decode cX12_feed 40 = .ok (.iconst 1, 1) := by decide +kernel
theorem dX12_feed_41 : decode cX12_feed 41 = .ok (.if_icmp .ne 7, 3) := by decide +kernel
theorem dX12_feed_44 : decode cX12_feed 44 = .ok (.iload_n 2, 1) := by decide +kernel
theorem dX12_feed_45 : decode cX12_feed 45 = .ok (.goto 26, 3) := by decide +kernel
theorem dX12_feed_48 : decode cX12_feed 48 = .ok (.iload 6, 2) := by decide +kernel
theorem dX12_feed_50 : decode cX12_feed 50 = .ok (.iconst 2, 1) := by decide +kernel
theorem dX12_feed_51 : decode cX12_feed 51 = .ok (.if_icmp .ne 7, 3) := by decide +kernel
theorem dX12_feed_54 : decode cX12_feed 54 = .ok (.iload_n 3, 1) := by decide +kernel
theorem dX12_feed_55 : decode cX12_feed 55 = .ok (.goto 16, 3) := by decide +kernel
theorem dX12_feed_58 : decode cX12_feed 58 = .ok (.iload 6, 2) := by decide +kernel
theorem dX12_feed_60 : decode cX12_feed 60 = .ok (.iconst 3, 1) := by decide +kernel
theorem dX12_feed_61 : decode cX12_feed 61 = .ok (.if_icmp .ne 8, 3) := by decide +kernel
theorem dX12_feed_64 : decode cX12_feed 64 = .ok (.iload 4, 2) := by decide +kernel
theorem dX12_feed_66 : decode cX12_feed 66 = .ok (.goto 5, 3) := by decide +kernel
theorem dX12_feed_69 : decode cX12_feed 69 = .ok (.iload 5, 2) := by decide +kernel
theorem dX12_feed_71 : decode cX12_feed 71 = .ok (.istore 7, 2) := by decide +kernel
theorem dX12_feed_73 : decode cX12_feed 73 = .ok (.bipush 24, 2) := by decide +kernel
theorem dX12_feed_75 : decode cX12_feed 75 = .ok (.istore 8, 2) := by decide +kernel
theorem dX12_feed_77 : decode cX12_feed 77 = .ok (.iload 8, 2) := by decide +kernel
theorem dX12_feed_79 : decode cX12_feed 79 = .ok (.ifCond .lt 34, 3) := by decide +kernel
theorem dX12_feed_82 : decode cX12_feed 82 = .ok (.aload_n 0, 1) := by decide +kernel
theorem dX12_feed_83 : decode cX12_feed 83 = .ok (.getfield 13, 3) := by decide +kernel
theorem dX12_feed_86 : decode cX12_feed 86 = .ok (.aload_n 0, 1) := by decide +kernel
theorem dX12_feed_87 : decode cX12_feed 87 = .ok (.getfield 226, 3) := by decide +kernel
theorem dX12_feed_90 : decode cX12_feed 90 = .ok (.iload 7, 2) := by decide +kernel
theorem dX12_feed_92 : decode cX12_feed 92 = .ok (.iload 8, 2) := by decide +kernel
theorem dX12_feed_94 : decode cX12_feed 94 = .ok (.ishr, 1) := by decide +kernel
theorem dX12_feed_95 : decode cX12_feed 95 = .ok (.i2b, 1) := by decide +kernel
theorem dX12_feed_96 : decode cX12_feed 96 = .ok (.bastore, 1) := by decide +kernel
theorem dX12_feed_97 : decode cX12_feed 97 = .ok (.aload_n 0, 1) := by decide +kernel
theorem dX12_feed_98 : decode cX12_feed 98 = .ok (.dup, 1) := by decide +kernel
theorem dX12_feed_99 : decode cX12_feed 99 = .ok (.getfield 226, 3) := by decide +kernel
theorem dX12_feed_102 : decode cX12_feed 102 = .ok (.iconst 1, 1) := by decide +kernel
theorem dX12_feed_103 : decode cX12_feed 103 = .ok (.iadd, 1) := by decide +kernel
theorem dX12_feed_104 : decode cX12_feed 104 = .ok (.putfield 226, 3) := by decide +kernel
theorem dX12_feed_107 : decode cX12_feed 107 = .ok (.iinc 8 (-8), 3) := by decide +kernel
theorem dX12_feed_110 : decode cX12_feed 110 = .ok (.goto (-33), 3) := by decide +kernel
theorem dX12_feed_113 : decode cX12_feed 113 = .ok (.iinc 6 1, 3) := by decide +kernel
theorem dX12_feed_116 : decode cX12_feed 116 = .ok (.goto (-93), 3) := by decide +kernel
theorem dX12_feed_119 : decode cX12_feed 119 = .ok (.aload_n 0, 1) := by decide +kernel
theorem dX12_feed_120 : decode cX12_feed 120 = .ok (.getfield 226, 3) := by decide +kernel
theorem dX12_feed_123 : decode cX12_feed 123 = .ok (.ireturn, 1) := by decide +kernel
theorem dX12_byteAt_0 : decode cX12_byteAt 0 = .ok (.iload_n 1, 1) := by decide +kernel
theorem dX12_byteAt_1 : decode cX12_byteAt 1 = .ok (.aload_n 0, 1) := by decide +kernel
theorem dX12_byteAt_2 : decode cX12_byteAt 2 = .ok (.getfield 229, 3) := by decide +kernel
theorem dX12_byteAt_5 : decode cX12_byteAt 5 = .ok (.if_icmp .ge 16, 3) := by decide +kernel
theorem dX12_byteAt_8 : decode cX12_byteAt 8 = .ok (.aload_n 0, 1) := by decide +kernel
theorem dX12_byteAt_9 : decode cX12_byteAt 9 = .ok (.getfield 13, 3) := by decide +kernel
theorem dX12_byteAt_12 : decode cX12_byteAt 12 = .ok (.iload_n 1, 1) := by decide +kernel
theorem dX12_byteAt_13 : decode cX12_byteAt 13 = .ok (.baload, 1) := by decide +kernel
theorem dX12_byteAt_14 : decode cX12_byteAt 14 = .ok (.sipush 255, 3) := by decide +kernel
theorem dX12_byteAt_17 : decode cX12_byteAt 17 = .ok (.iand, 1) := by decide +kernel
theorem dX12_byteAt_18 : decode cX12_byteAt 18 = .ok (.goto 4, 3) := by decide +kernel
theorem dX12_byteAt_21 : decode cX12_byteAt 21 = .ok (.iconst 0, 1) := by decide +kernel
theorem dX12_byteAt_22 : decode cX12_byteAt 22 = .ok (.ireturn, 1) := by decide +kernel
theorem dX12_blanks_0 : decode cX12_blanks 0 = .ok (.aload_n 0, 1) := by decide +kernel
theorem dX12_blanks_1 : decode cX12_blanks 1 = .ok (.getfield 232, 3) := by decide +kernel
theorem dX12_blanks_4 : decode cX12_blanks 4 = .ok (.aload_n 0, 1) := by decide +kernel
theorem dX12_blanks_5 : decode cX12_blanks 5 = .ok (.getfield 229, 3) := by decide +kernel
theorem dX12_blanks_8 : decode cX12_blanks 8 = .ok (.if_icmp .ge 29, 3) := by decide +kernel
theorem dX12_blanks_11 : decode cX12_blanks 11 = .ok (.aload_n 0, 1) := by decide +kernel
theorem dX12_blanks_12 : decode cX12_blanks 12 = .ok (.aload_n 0, 1) := by decide +kernel
theorem dX12_blanks_13 : decode cX12_blanks 13 = .ok (.getfield 232, 3) := by decide +kernel
theorem dX12_blanks_16 : decode cX12_blanks 16 = .ok (.invokevirtual 235, 3) := by decide +kernel
theorem dX12_blanks_19 : decode cX12_blanks 19 = .ok (.bipush 32, 2) := by decide +kernel
theorem dX12_blanks_21 : decode cX12_blanks 21 = .ok (.if_icmp .ne 16, 3) := by decide +kernel
theorem dX12_blanks_24 : decode cX12_blanks 24 = .ok (.aload_n 0, 1) := by decide +kernel
theorem dX12_blanks_25 : decode cX12_blanks 25 = .ok (.dup, 1) := by decide +kernel
theorem dX12_blanks_26 : decode cX12_blanks 26 = .ok (.getfield 232, 3) := by decide +kernel
theorem dX12_blanks_29 : decode cX12_blanks 29 = .ok (.iconst 1, 1) := by decide +kernel
theorem dX12_blanks_30 : decode cX12_blanks 30 = .ok (.iadd, 1) := by decide +kernel
theorem dX12_blanks_31 : decode cX12_blanks 31 = .ok (.putfield 232, 3) := by decide +kernel
theorem dX12_blanks_34 : decode cX12_blanks 34 = .ok (.goto (-34), 3) := by decide +kernel
theorem dX12_blanks_37 : decode cX12_blanks 37 = .ok (.return_, 1) := by decide +kernel
theorem dX12_isDigit_0 : decode cX12_isDigit 0 = .ok (.iload_n 0, 1) := by decide +kernel
theorem dX12_isDigit_1 : decode cX12_isDigit 1 = .ok (.bipush 48, 2) := by decide +kernel
theorem dX12_isDigit_3 : decode cX12_isDigit 3 = .ok (.if_icmp .lt 13, 3) := by decide +kernel
theorem dX12_isDigit_6 : decode cX12_isDigit 6 = .ok (.iload_n 0, 1) := by decide +kernel
theorem dX12_isDigit_7 : decode cX12_isDigit 7 = .ok (.bipush 57, 2) := by decide +kernel
theorem dX12_isDigit_9 : decode cX12_isDigit 9 = .ok (.if_icmp .gt 7, 3) := by decide +kernel
theorem dX12_isDigit_12 : decode cX12_isDigit 12 = .ok (.iconst 1, 1) := by decide +kernel
theorem dX12_isDigit_13 : decode cX12_isDigit 13 = .ok (.goto 4, 3) := by decide +kernel
theorem dX12_isDigit_16 : decode cX12_isDigit 16 = .ok (.iconst 0, 1) := by decide +kernel
theorem dX12_isDigit_17 : decode cX12_isDigit 17 = .ok (.ireturn, 1) := by decide +kernel
theorem dX12_wrong_0 : decode cX12_wrong 0 = .ok (.aload_n 0, 1) := by decide +kernel
theorem dX12_wrong_1 : decode cX12_wrong 1 = .ok (.getfield 239, 3) := by decide +kernel
theorem dX12_wrong_4 : decode cX12_wrong 4 = .ok (.ifCond .le 4, 3) := by decide +kernel
theorem dX12_wrong_7 : decode cX12_wrong 7 = .ok (.return_, 1) := by decide +kernel
theorem dX12_wrong_8 : decode cX12_wrong 8 = .ok (.aload_n 0, 1) := by decide +kernel
theorem dX12_wrong_9 : decode cX12_wrong 9 = .ok (.iload_n 1, 1) := by decide +kernel
theorem dX12_wrong_10 : decode cX12_wrong 10 = .ok (.putfield 239, 3) := by decide +kernel
theorem dX12_wrong_13 : decode cX12_wrong 13 = .ok (.aload_n 0, 1) := by decide +kernel
theorem dX12_wrong_14 : decode cX12_wrong 14 = .ok (.iload_n 2, 1) := by decide +kernel
theorem dX12_wrong_15 : decode cX12_wrong 15 = .ok (.putfield 17, 3) := by decide +kernel
theorem dX12_wrong_18 : decode cX12_wrong 18 = .ok (.return_, 1) := by decide +kernel
theorem dX12_isWord_0 : decode cX12_isWord 0 = .ok (.aload_n 0, 1) := by decide +kernel
theorem dX12_isWord_1 : decode cX12_isWord 1 = .ok (.invokevirtual 242, 3) := by decide +kernel
theorem dX12_isWord_4 : decode cX12_isWord 4 = .ok (.iconst 0, 1) := by decide +kernel
theorem dX12_isWord_5 : decode cX12_isWord 5 = .ok (.istore_n 2, 1) := by decide +kernel
theorem dX12_isWord_6 : decode cX12_isWord 6 = .ok (.iload_n 2, 1) := by decide +kernel
theorem dX12_isWord_7 : decode cX12_isWord 7 = .ok (.aload_n 1, 1) := by decide +kernel
theorem dX12_isWord_8 : decode cX12_isWord 8 = .ok (.invokevirtual 245, 3) := by decide +kernel
theorem dX12_isWord_11 : decode cX12_isWord 11 = .ok (.if_icmp .ge 29, 3) := by decide +kernel
theorem dX12_isWord_14 : decode cX12_isWord 14 = .ok (.aload_n 0, 1) := by decide +kernel
theorem dX12_isWord_15 : decode cX12_isWord 15 = .ok (.aload_n 0, 1) := by decide +kernel
theorem dX12_isWord_16 : decode cX12_isWord 16 = .ok (.getfield 232, 3) := by decide +kernel
theorem dX12_isWord_19 : decode cX12_isWord 19 = .ok (.iload_n 2, 1) := by decide +kernel
theorem dX12_isWord_20 : decode cX12_isWord 20 = .ok (.iadd, 1) := by decide +kernel
theorem dX12_isWord_21 : decode cX12_isWord 21 = .ok (.invokevirtual 235, 3) := by decide +kernel
theorem dX12_isWord_24 : decode cX12_isWord 24 = .ok (.aload_n 1, 1) := by decide +kernel
theorem dX12_isWord_25 : decode cX12_isWord 25 = .ok (.iload_n 2, 1) := by decide +kernel
theorem dX12_isWord_26 : decode cX12_isWord 26 = .ok (.invokevirtual 251, 3) := by decide +kernel
theorem dX12_isWord_29 : decode cX12_isWord 29 = .ok (.if_icmp .eq 5, 3) := by decide +kernel
theorem dX12_isWord_32 : decode cX12_isWord 32 = .ok (.iconst 0, 1) := by decide +kernel
theorem dX12_isWord_33 : decode cX12_isWord 33 = .ok (.ireturn, 1) := by decide +kernel
theorem dX12_isWord_34 : decode cX12_isWord 34 = .ok (.iinc 2 1, 3) := by decide +kernel
theorem dX12_isWord_37 : decode cX12_isWord 37 = .ok (.goto (-31), 3) := by decide +kernel
theorem dX12_isWord_40 : decode cX12_isWord 40 = .ok (.aload_n 0, 1) := by decide +kernel
theorem dX12_isWord_41 : decode cX12_isWord 41 = .ok (.aload_n 0, 1) := by decide +kernel
theorem dX12_isWord_42 : decode cX12_isWord 42 = .ok (.getfield 232, 3) := by decide +kernel
theorem dX12_isWord_45 : decode cX12_isWord 45 = .ok (.aload_n 1, 1) := by decide +kernel
theorem dX12_isWord_46 : decode cX12_isWord 46 = .ok (.invokevirtual 245, 3) := by decide +kernel
theorem dX12_isWord_49 : decode cX12_isWord 49 = .ok (.iadd, 1) := by decide +kernel
theorem dX12_isWord_50 : decode cX12_isWord 50 = .ok (.invokevirtual 235, 3) := by decide +kernel
theorem dX12_isWord_53 : decode cX12_isWord 53 = .ok (.istore_n 2, 1) := by decide +kernel
theorem dX12_isWord_54 : decode cX12_isWord 54 = .ok (.iload_n 2, 1) := by decide +kernel
theorem dX12_isWord_55 : decode cX12_isWord 55 = .ok (.bipush 97, 2) := by decide +kernel
theorem dX12_isWord_57 : decode cX12_isWord 57 = .ok (.if_icmp .lt 9, 3) := by decide +kernel
theorem dX12_isWord_60 : decode cX12_isWord 60 = .ok (.iload_n 2, 1) := by decide +kernel
theorem dX12_isWord_61 : decode cX12_isWord 61 = .ok (.bipush 122, 2) := by decide +kernel
theorem dX12_isWord_63 : decode cX12_isWord 63 = .ok (.if_icmp .le 7, 3) := by decide +kernel
theorem dX12_isWord_66 : decode cX12_isWord 66 = .ok (.iconst 1, 1) := by decide +kernel
theorem dX12_isWord_67 : decode cX12_isWord 67 = .ok (.goto 4, 3) := by decide +kernel
theorem dX12_isWord_70 : decode cX12_isWord 70 = .ok (.iconst 0, 1) := by decide +kernel
theorem dX12_isWord_71 : decode cX12_isWord 71 = .ok (.ireturn, 1) := by decide +kernel
theorem dX12_eat_0 : decode cX12_eat 0 = .ok (.aload_n 0, 1) := by decide +kernel
theorem dX12_eat_1 : decode cX12_eat 1 = .ok (.getfield 239, 3) := by decide +kernel
theorem dX12_eat_4 : decode cX12_eat 4 = .ok (.ifCond .ne 15, 3) := by decide +kernel
theorem dX12_eat_7 : decode cX12_eat 7 = .ok (.aload_n 0, 1) := by decide +kernel
theorem dX12_eat_8 : decode cX12_eat 8 = .ok (.aload_n 1, 1) := by decide +kernel
theorem dX12_eat_9 : decode cX12_eat 9 = .ok (.invokevirtual 255, 3) := by decide +kernel
theorem dX12_eat_12 : decode cX12_eat 12 = .ok (.ifCond .eq 7, 3) := by decide +kernel
theorem dX12_eat_15 : decode cX12_eat 15 = .ok (.iconst 1, 1) := by decide +kernel
theorem dX12_eat_16 : decode cX12_eat 16 = .ok (.goto 4, 3) := by decide +kernel
theorem dX12_eat_19 : decode cX12_eat 19 = .ok (.iconst 0, 1) := by decide +kernel
theorem dX12_eat_20 : decode cX12_eat 20 = .ok (.istore_n 2, 1) := by decide +kernel
theorem dX12_eat_21 : decode cX12_eat 21 = .ok (.iload_n 2, 1) := by decide +kernel
theorem dX12_eat_22 : decode cX12_eat 22 = .ok (.ifCond .eq 16, 3) := by decide +kernel
theorem dX12_eat_25 : decode cX12_eat 25 = .ok (.aload_n 0, 1) := by decide +kernel
theorem dX12_eat_26 : decode cX12_eat 26 = .ok (.dup, 1) := by decide +kernel
theorem dX12_eat_27 : decode cX12_eat 27 = .ok (.getfield 232, 3) := by decide +kernel
theorem dX12_eat_30 : decode cX12_eat 30 = .ok (.aload_n 1, 1) := by decide +kernel
theorem dX12_eat_31 : decode cX12_eat 31 = .ok (.invokevirtual 245, 3) := by decide +kernel
theorem dX12_eat_34 : decode cX12_eat 34 = .ok (.iadd, 1) := by decide +kernel
theorem dX12_eat_35 : decode cX12_eat 35 = .ok (.putfield 232, 3) := by decide +kernel
theorem dX12_eat_38 : decode cX12_eat 38 = .ok (.iload_n 2, 1) := by decide +kernel
theorem dX12_eat_39 : decode cX12_eat 39 = .ok (.ireturn, 1) := by decide +kernel
theorem dX12_wordOf_0 : decode cX12_wordOf 0 = .ok (.iload_n 0, 1) := by decide +kernel
theorem dX12_wordOf_1 : decode cX12_wordOf 1 = .ok (.tableswitch 119 0 12 #[67, 71, 75, 79, 83, 87, 91, 95, 99, 103, 107, 111, 115], 67) := by decide +kernel
theorem dX12_wordOf_68 : decode cX12_wordOf 68 = .ok (.ldc_w 259, 3) := by decide +kernel
theorem dX12_wordOf_71 : decode cX12_wordOf 71 = .ok (.areturn, 1) := by decide +kernel
theorem dX12_wordOf_72 : decode cX12_wordOf 72 = .ok (.ldc_w 261, 3) := by decide +kernel
theorem dX12_wordOf_75 : decode cX12_wordOf 75 = .ok (.areturn, 1) := by decide +kernel
theorem dX12_wordOf_76 : decode cX12_wordOf 76 = .ok (.ldc_w 263, 3) := by decide +kernel
theorem dX12_wordOf_79 : decode cX12_wordOf 79 = .ok (.areturn, 1) := by decide +kernel
theorem dX12_wordOf_80 : decode cX12_wordOf 80 = .ok (.ldc_w 265, 3) := by decide +kernel
theorem dX12_wordOf_83 : decode cX12_wordOf 83 = .ok (.areturn, 1) := by decide +kernel
theorem dX12_wordOf_84 : decode cX12_wordOf 84 = .ok (.ldc_w 267, 3) := by decide +kernel
theorem dX12_wordOf_87 : decode cX12_wordOf 87 = .ok (.areturn, 1) := by decide +kernel
theorem dX12_wordOf_88 : decode cX12_wordOf 88 = .ok (.ldc_w 269, 3) := by decide +kernel
theorem dX12_wordOf_91 : decode cX12_wordOf 91 = .ok (.areturn, 1) := by decide +kernel
theorem dX12_wordOf_92 : decode cX12_wordOf 92 = .ok (.ldc_w 271, 3) := by decide +kernel
theorem dX12_wordOf_95 : decode cX12_wordOf 95 = .ok (.areturn, 1) := by decide +kernel
theorem dX12_wordOf_96 : decode cX12_wordOf 96 = .ok (.ldc_w 273, 3) := by decide +kernel
theorem dX12_wordOf_99 : decode cX12_wordOf 99 = .ok (.areturn, 1) := by decide +kernel
theorem dX12_wordOf_100 : decode cX12_wordOf 100 = .ok (.ldc_w 275, 3) := by decide +kernel
theorem dX12_wordOf_103 : decode cX12_wordOf 103 = .ok (.areturn, 1) := by decide +kernel
theorem dX12_wordOf_104 : decode cX12_wordOf 104 = .ok (.ldc_w 277, 3) := by decide +kernel
theorem dX12_wordOf_107 : decode cX12_wordOf 107 = .ok (.areturn, 1) := by decide +kernel
theorem dX12_wordOf_108 : decode cX12_wordOf 108 = .ok (.ldc_w 279, 3) := by decide +kernel
theorem dX12_wordOf_111 : decode cX12_wordOf 111 = .ok (.areturn, 1) := by decide +kernel
theorem dX12_wordOf_112 : decode cX12_wordOf 112 = .ok (.ldc_w 281, 3) := by decide +kernel
theorem dX12_wordOf_115 : decode cX12_wordOf 115 = .ok (.areturn, 1) := by decide +kernel
theorem dX12_wordOf_116 : decode cX12_wordOf 116 = .ok (.ldc_w 283, 3) := by decide +kernel
theorem dX12_wordOf_119 : decode cX12_wordOf 119 = .ok (.areturn, 1) := by decide +kernel
theorem dX12_wordOf_120 : decode cX12_wordOf 120 = .ok (.ldc_w 285, 3) := by decide +kernel
theorem dX12_wordOf_123 : decode cX12_wordOf 123 = .ok (.areturn, 1) := by decide +kernel
theorem dX12_wordHere_0 : decode cX12_wordHere 0 = .ok (.iconst 0, 1) := by decide +kernel
theorem dX12_wordHere_1 : decode cX12_wordHere 1 = .ok (.istore_n 1, 1) := by decide +kernel
theorem dX12_wordHere_2 : decode cX12_wordHere 2 = .ok (.iload_n 1, 1) := by decide +kernel
theorem dX12_wordHere_3 : decode cX12_wordHere 3 = .ok (.bipush 13, 2) := by decide +kernel
theorem dX12_wordHere_5 : decode cX12_wordHere 5 = .ok (.if_icmp .gt 22, 3) := by decide +kernel
theorem dX12_wordHere_8 : decode cX12_wordHere 8 = .ok (.aload_n 0, 1) := by decide +kernel
theorem dX12_wordHere_9 : decode cX12_wordHere 9 = .ok (.iload_n 1, 1) := by decide +kernel
theorem dX12_wordHere_10 : decode cX12_wordHere 10 = .ok (.invokestatic 287, 3) := by decide +kernel
theorem dX12_wordHere_13 : decode cX12_wordHere 13 = .ok (.invokevirtual 255, 3) := by decide +kernel
theorem dX12_wordHere_16 : decode cX12_wordHere 16 = .ok (.ifCond .eq 5, 3) := by decide +kernel
theorem dX12_wordHere_19 : decode cX12_wordHere 19 = .ok (.iload_n 1, 1) := by decide +kernel
theorem dX12_wordHere_20 : decode cX12_wordHere 20 = .ok (.ireturn, 1) := by decide +kernel
theorem dX12_wordHere_21 : decode cX12_wordHere 21 = .ok (.iinc 1 1, 3) := by decide +kernel
theorem dX12_wordHere_24 : decode cX12_wordHere 24 = .ok (.goto (-22), 3) := by decide +kernel
theorem dX12_wordHere_27 : decode cX12_wordHere 27 = .ok (.iconst (-1), 1) := by decide +kernel
theorem dX12_wordHere_28 : decode cX12_wordHere 28 = .ok (.ireturn, 1) := by decide +kernel
theorem dX12_measureOf_0 : decode cX12_measureOf 0 = .ok (.iload_n 0, 1) := by decide +kernel
theorem dX12_measureOf_1 : decode cX12_measureOf 1 = .ok (.ifCond .ne 9, 3) := by decide +kernel
theorem dX12_measureOf_4 : decode cX12_measureOf 4 = .ok (.ldc_w 291, 3) := by decide +kernel
theorem dX12_measureOf_7 : decode cX12_measureOf 7 = .ok (.goto 17, 3) := by decide +kernel
theorem dX12_measureOf_10 : decode cX12_measureOf 10 = .ok (.iload_n 0, 1) := by decide +kernel
theorem dX12_measureOf_11 : decode cX12_measureOf 11 = .ok (.iconst 1, 1) := by decide +kernel
theorem dX12_measureOf_12 : decode cX12_measureOf 12 = .ok (.if_icmp .ne 9, 3) := by decide +kernel
theorem dX12_measureOf_15 : decode cX12_measureOf 15 = .ok (.ldc_w 293, 3) := by decide +kernel
theorem dX12_measureOf_18 : decode cX12_measureOf 18 = .ok (.goto 6, 3) := by decide +kernel
theorem dX12_measureOf_21 : decode cX12_measureOf 21 = .ok (.ldc_w 295, 3) := by decide +kernel
theorem dX12_measureOf_24 : decode cX12_measureOf 24 = .ok (.areturn, 1) := by decide +kernel
theorem dX12_number_0 : decode cX12_number 0 = .ok (.aload_n 0, 1) := by decide +kernel
theorem dX12_number_1 : decode cX12_number 1 = .ok (.getfield 239, 3) := by decide +kernel
theorem dX12_number_4 : decode cX12_number 4 = .ok (.ifCond .le 5, 3) := by decide +kernel
theorem dX12_number_7 : decode cX12_number 7 = .ok (.iconst 0, 1) := by decide +kernel
theorem dX12_number_8 : decode cX12_number 8 = .ok (.ireturn, 1) := by decide +kernel
theorem dX12_number_9 : decode cX12_number 9 = .ok (.aload_n 0, 1) := by decide +kernel
theorem dX12_number_10 : decode cX12_number 10 = .ok (.invokevirtual 242, 3) := by decide +kernel
theorem dX12_number_13 : decode cX12_number 13 = .ok (.aload_n 0, 1) := by decide +kernel
theorem dX12_number_14 : decode cX12_number 14 = .ok (.getfield 232, 3) := by decide +kernel
theorem dX12_number_17 : decode cX12_number 17 = .ok (.istore_n 3, 1) := by decide +kernel
theorem dX12_number_18 : decode cX12_number 18 = .ok (.aload_n 0, 1) := by decide +kernel
theorem dX12_number_19 : decode cX12_number 19 = .ok (.aload_n 0, 1) := by decide +kernel
theorem dX12_number_20 : decode cX12_number 20 = .ok (.getfield 232, 3) := by decide +kernel
theorem dX12_number_23 : decode cX12_number 23 = .ok (.invokevirtual 235, 3) := by decide +kernel
theorem dX12_number_26 : decode cX12_number 26 = .ok (.invokestatic 297, 3) := by decide +kernel
theorem dX12_number_29 : decode cX12_number 29 = .ok (.ifCond .ne 14, 3) := by decide +kernel
theorem dX12_number_32 : decode cX12_number 32 = .ok (.aload_n 0, 1) := by decide +kernel
theorem dX12_number_33 : decode cX12_number 33 = .ok (.iconst 1, 1) := by decide +kernel
theorem dX12_number_34 : decode cX12_number 34 = .ok (.aload_n 0, 1) := by decide +kernel
theorem dX12_number_35 : decode cX12_number 35 = .ok (.getfield 232, 3) := by decide +kernel
theorem dX12_number_38 : decode cX12_number 38 = .ok (.invokevirtual 300, 3) := by decide +kernel
theorem dX12_number_41 : decode cX12_number 41 = .ok (.iconst 0, 1) := by decide +kernel
theorem dX12_number_42 : decode cX12_number 42 = .ok (.ireturn, 1) := by decide +kernel
theorem dX12_number_43 : decode cX12_number 43 = .ok (.iconst 0, 1) := by decide +kernel
theorem dX12_number_44 : decode cX12_number 44 = .ok (.istore 4, 2) := by decide +kernel
theorem dX12_number_46 : decode cX12_number 46 = .ok (.aload_n 0, 1) := by decide +kernel
theorem dX12_number_47 : decode cX12_number 47 = .ok (.aload_n 0, 1) := by decide +kernel
theorem dX12_number_48 : decode cX12_number 48 = .ok (.getfield 232, 3) := by decide +kernel
theorem dX12_number_51 : decode cX12_number 51 = .ok (.invokevirtual 235, 3) := by decide +kernel
theorem dX12_number_54 : decode cX12_number 54 = .ok (.invokestatic 297, 3) := by decide +kernel
theorem dX12_number_57 : decode cX12_number 57 = .ok (.ifCond .eq 48, 3) := by decide +kernel
theorem dX12_number_60 : decode cX12_number 60 = .ok (.iload 4, 2) := by decide +kernel
theorem dX12_number_62 : decode cX12_number 62 = .ok (.ldc_w 304, 3) := by decide +kernel
theorem dX12_number_65 : decode cX12_number 65 = .ok (.if_icmp .le 8, 3) := by decide +kernel
theorem dX12_number_68 : decode cX12_number 68 = .ok (.iload 4, 2) := by decide +kernel
theorem dX12_number_70 : decode cX12_number 70 = .ok (.goto 20, 3) := by decide +kernel
theorem dX12_number_73 : decode cX12_number 73 = .ok (.bipush 10, 2) := by decide +kernel
theorem dX12_number_75 : decode cX12_number 75 = .ok (.iload 4, 2) := by decide +kernel
theorem dX12_number_77 : decode cX12_number 77 = .ok (.imul, 1) := by decide +kernel
theorem dX12_number_78 : decode cX12_number 78 = .ok (.aload_n 0, 1) := by decide +kernel
theorem dX12_number_79 : decode cX12_number 79 = .ok (.aload_n 0, 1) := by decide +kernel
theorem dX12_number_80 : decode cX12_number 80 = .ok (.getfield 232, 3) := by decide +kernel
theorem dX12_number_83 : decode cX12_number 83 = .ok (.invokevirtual 235, 3) := by decide +kernel
theorem dX12_number_86 : decode cX12_number 86 = .ok (.iadd, 1) := by decide +kernel
theorem dX12_number_87 : decode cX12_number 87 = .ok (.bipush 48, 2) := by decide +kernel
theorem dX12_number_89 : decode cX12_number 89 = .ok (.isub, 1) := by decide +kernel
theorem dX12_number_90 : decode cX12_number 90 = .ok (.istore 4, 2) := by decide +kernel
theorem dX12_number_92 : decode cX12_number 92 = .ok (.aload_n 0, 1) := by decide +kernel
theorem dX12_number_93 : decode cX12_number 93 = .ok (.dup, 1) := by decide +kernel
theorem dX12_number_94 : decode cX12_number 94 = .ok (.getfield 232, 3) := by decide +kernel
theorem dX12_number_97 : decode cX12_number 97 = .ok (.iconst 1, 1) := by decide +kernel
theorem dX12_number_98 : decode cX12_number 98 = .ok (.iadd, 1) := by decide +kernel
theorem dX12_number_99 : decode cX12_number 99 = .ok (.putfield 232, 3) := by decide +kernel
theorem dX12_number_102 : decode cX12_number 102 = .ok (.goto (-56), 3) := by decide +kernel
theorem dX12_number_105 : decode cX12_number 105 = .ok (.iload 4, 2) := by decide +kernel
theorem dX12_number_107 : decode cX12_number 107 = .ok (.iload_n 1, 1) := by decide +kernel
theorem dX12_number_108 : decode cX12_number 108 = .ok (.if_icmp .lt 9, 3) := by decide +kernel
theorem dX12_number_111 : decode cX12_number 111 = .ok (.iload 4, 2) := by decide +kernel
theorem dX12_number_113 : decode cX12_number 113 = .ok (.iload_n 2, 1) := by decide +kernel
theorem dX12_number_114 : decode cX12_number 114 = .ok (.if_icmp .le 9, 3) := by decide +kernel
theorem dX12_number_117 : decode cX12_number 117 = .ok (.aload_n 0, 1) := by decide +kernel
theorem dX12_number_118 : decode cX12_number 118 = .ok (.iconst 2, 1) := by decide +kernel
theorem dX12_number_119 : decode cX12_number 119 = .ok (.iload_n 3, 1) := by decide +kernel
theorem dX12_number_120 : decode cX12_number 120 = .ok (.invokevirtual 300, 3) := by decide +kernel
theorem dX12_number_123 : decode cX12_number 123 = .ok (.iload 4, 2) := by decide +kernel
theorem dX12_number_125 : decode cX12_number 125 = .ok (.ireturn, 1) := by decide +kernel
theorem dX12_sign_0 : decode cX12_sign 0 = .ok (.aload_n 0, 1) := by decide +kernel
theorem dX12_sign_1 : decode cX12_sign 1 = .ok (.getfield 239, 3) := by decide +kernel
theorem dX12_sign_4 : decode cX12_sign 4 = .ok (.ifCond .le 4, 3) := by decide +kernel
theorem dX12_sign_7 : decode cX12_sign 7 = .ok (.return_, 1) := by decide +kernel
theorem dX12_sign_8 : decode cX12_sign 8 = .ok (.aload_n 0, 1) := by decide +kernel
theorem dX12_sign_9 : decode cX12_sign 9 = .ok (.invokevirtual 242, 3) := by decide +kernel
theorem dX12_sign_12 : decode cX12_sign 12 = .ok (.aload_n 0, 1) := by decide +kernel
theorem dX12_sign_13 : decode cX12_sign 13 = .ok (.getfield 232, 3) := by decide +kernel
theorem dX12_sign_16 : decode cX12_sign 16 = .ok (.aload_n 0, 1) := by decide +kernel
theorem dX12_sign_17 : decode cX12_sign 17 = .ok (.getfield 229, 3) := by decide +kernel
theorem dX12_sign_20 : decode cX12_sign 20 = .ok (.if_icmp .ge 28, 3) := by decide +kernel
theorem dX12_sign_23 : decode cX12_sign 23 = .ok (.aload_n 0, 1) := by decide +kernel
theorem dX12_sign_24 : decode cX12_sign 24 = .ok (.aload_n 0, 1) := by decide +kernel
theorem dX12_sign_25 : decode cX12_sign 25 = .ok (.getfield 232, 3) := by decide +kernel
theorem dX12_sign_28 : decode cX12_sign 28 = .ok (.invokevirtual 235, 3) := by decide +kernel
theorem dX12_sign_31 : decode cX12_sign 31 = .ok (.iload_n 1, 1) := by decide +kernel
theorem dX12_sign_32 : decode cX12_sign 32 = .ok (.if_icmp .ne 16, 3) := by decide +kernel
theorem dX12_sign_35 : decode cX12_sign 35 = .ok (.aload_n 0, 1) := by decide +kernel
theorem dX12_sign_36 : decode cX12_sign 36 = .ok (.dup, 1) := by decide +kernel
theorem dX12_sign_37 : decode cX12_sign 37 = .ok (.getfield 232, 3) := by decide +kernel
theorem dX12_sign_40 : decode cX12_sign 40 = .ok (.iconst 1, 1) := by decide +kernel
theorem dX12_sign_41 : decode cX12_sign 41 = .ok (.iadd, 1) := by decide +kernel
theorem dX12_sign_42 : decode cX12_sign 42 = .ok (.putfield 232, 3) := by decide +kernel
theorem dX12_sign_45 : decode cX12_sign 45 = .ok (.goto 12, 3) := by decide +kernel
theorem dX12_sign_48 : decode cX12_sign 48 = .ok (.aload_n 0, 1) := by decide +kernel
theorem dX12_sign_49 : decode cX12_sign 49 = .ok (.iconst 1, 1) := by decide +kernel
theorem dX12_sign_50 : decode cX12_sign 50 = .ok (.aload_n 0, 1) := by decide +kernel
theorem dX12_sign_51 : decode cX12_sign 51 = .ok (.getfield 232, 3) := by decide +kernel
theorem dX12_sign_54 : decode cX12_sign 54 = .ok (.invokevirtual 300, 3) := by decide +kernel
theorem dX12_sign_57 : decode cX12_sign 57 = .ok (.return_, 1) := by decide +kernel
theorem dX12_emits_0 : decode cX12_emits 0 = .ok (.aload_n 0, 1) := by decide +kernel
theorem dX12_emits_1 : decode cX12_emits 1 = .ok (.getfield 239, 3) := by decide +kernel
theorem dX12_emits_4 : decode cX12_emits 4 = .ok (.ifCond .le 4, 3) := by decide +kernel
theorem dX12_emits_7 : decode cX12_emits 7 = .ok (.return_, 1) := by decide +kernel
theorem dX12_emits_8 : decode cX12_emits 8 = .ok (.aload_n 0, 1) := by decide +kernel
theorem dX12_emits_9 : decode cX12_emits 9 = .ok (.getfield 39, 3) := by decide +kernel
theorem dX12_emits_12 : decode cX12_emits 12 = .ok (.aload_n 0, 1) := by decide +kernel
theorem dX12_emits_13 : decode cX12_emits 13 = .ok (.getfield 305, 3) := by decide +kernel
theorem dX12_emits_16 : decode cX12_emits 16 = .ok (.iload_n 1, 1) := by decide +kernel
theorem dX12_emits_17 : decode cX12_emits 17 = .ok (.iastore, 1) := by decide +kernel
theorem dX12_emits_18 : decode cX12_emits 18 = .ok (.aload_n 0, 1) := by decide +kernel
theorem dX12_emits_19 : decode cX12_emits 19 = .ok (.getfield 42, 3) := by decide +kernel
theorem dX12_emits_22 : decode cX12_emits 22 = .ok (.aload_n 0, 1) := by decide +kernel
theorem dX12_emits_23 : decode cX12_emits 23 = .ok (.getfield 305, 3) := by decide +kernel
theorem dX12_emits_26 : decode cX12_emits 26 = .ok (.iload_n 2, 1) := by decide +kernel
theorem dX12_emits_27 : decode cX12_emits 27 = .ok (.iastore, 1) := by decide +kernel
theorem dX12_emits_28 : decode cX12_emits 28 = .ok (.aload_n 0, 1) := by decide +kernel
theorem dX12_emits_29 : decode cX12_emits 29 = .ok (.dup, 1) := by decide +kernel
theorem dX12_emits_30 : decode cX12_emits 30 = .ok (.getfield 305, 3) := by decide +kernel
theorem dX12_emits_33 : decode cX12_emits 33 = .ok (.iconst 1, 1) := by decide +kernel
theorem dX12_emits_34 : decode cX12_emits 34 = .ok (.iadd, 1) := by decide +kernel
theorem dX12_emits_35 : decode cX12_emits 35 = .ok (.putfield 305, 3) := by decide +kernel
theorem dX12_emits_38 : decode cX12_emits 38 = .ok (.return_, 1) := by decide +kernel
theorem dX12_ors_0 : decode cX12_ors 0 = .ok (.aload_n 0, 1) := by decide +kernel
theorem dX12_ors_1 : decode cX12_ors 1 = .ok (.invokevirtual 308, 3) := by decide +kernel
theorem dX12_ors_4 : decode cX12_ors 4 = .ok (.aload_n 0, 1) := by decide +kernel
theorem dX12_ors_5 : decode cX12_ors 5 = .ok (.ldc_w 311, 3) := by decide +kernel
theorem dX12_ors_8 : decode cX12_ors 8 = .ok (.invokevirtual 313, 3) := by decide +kernel
theorem dX12_ors_11 : decode cX12_ors 11 = .ok (.ifCond .eq 16, 3) := by decide +kernel
theorem dX12_ors_14 : decode cX12_ors 14 = .ok (.aload_n 0, 1) := by decide +kernel
theorem dX12_ors_15 : decode cX12_ors 15 = .ok (.invokevirtual 308, 3) := by decide +kernel
theorem dX12_ors_18 : decode cX12_ors 18 = .ok (.aload_n 0, 1) := by decide +kernel
theorem dX12_ors_19 : decode cX12_ors 19 = .ok (.iconst 3, 1) := by decide +kernel
theorem dX12_ors_20 : decode cX12_ors 20 = .ok (.iconst 0, 1) := by decide +kernel
theorem dX12_ors_21 : decode cX12_ors 21 = .ok (.invokevirtual 316, 3) := by decide +kernel
theorem dX12_ors_24 : decode cX12_ors 24 = .ok (.goto (-20), 3) := by decide +kernel
theorem dX12_ors_27 : decode cX12_ors 27 = .ok (.return_, 1) := by decide +kernel
theorem dX12_ands_0 : decode cX12_ands 0 = .ok (.aload_n 0, 1) := by decide +kernel
theorem dX12_ands_1 : decode cX12_ands 1 = .ok (.invokevirtual 319, 3) := by decide +kernel
theorem dX12_ands_4 : decode cX12_ands 4 = .ok (.aload_n 0, 1) := by decide +kernel
theorem dX12_ands_5 : decode cX12_ands 5 = .ok (.ldc_w 322, 3) := by decide +kernel
theorem dX12_ands_8 : decode cX12_ands 8 = .ok (.invokevirtual 313, 3) := by decide +kernel
theorem dX12_ands_11 : decode cX12_ands 11 = .ok (.ifCond .eq 16, 3) := by decide +kernel
theorem dX12_ands_14 : decode cX12_ands 14 = .ok (.aload_n 0, 1) := by decide +kernel
theorem dX12_ands_15 : decode cX12_ands 15 = .ok (.invokevirtual 319, 3) := by decide +kernel
theorem dX12_ands_18 : decode cX12_ands 18 = .ok (.aload_n 0, 1) := by decide +kernel
theorem dX12_ands_19 : decode cX12_ands 19 = .ok (.iconst 2, 1) := by decide +kernel
theorem dX12_ands_20 : decode cX12_ands 20 = .ok (.iconst 0, 1) := by decide +kernel
theorem dX12_ands_21 : decode cX12_ands 21 = .ok (.invokevirtual 316, 3) := by decide +kernel
theorem dX12_ands_24 : decode cX12_ands 24 = .ok (.goto (-20), 3) := by decide +kernel
theorem dX12_ands_27 : decode cX12_ands 27 = .ok (.return_, 1) := by decide +kernel
theorem dX12_opens_0 : decode cX12_opens 0 = .ok (.aload_n 0, 1) := by decide +kernel
theorem dX12_opens_1 : decode cX12_opens 1 = .ok (.getfield 324, 3) := by decide +kernel
theorem dX12_opens_4 : decode cX12_opens 4 = .ok (.bipush 8, 2) := by decide +kernel
theorem dX12_opens_6 : decode cX12_opens 6 = .ok (.if_icmp .ne 12, 3) := by decide +kernel
theorem dX12_opens_9 : decode cX12_opens 9 = .ok (.aload_n 0, 1) := by decide +kernel
theorem dX12_opens_10 : decode cX12_opens 10 = .ok (.iconst 3, 1) := by decide +kernel
theorem dX12_opens_11 : decode cX12_opens 11 = .ok (.aload_n 0, 1) := by decide +kernel
theorem dX12_opens_12 : decode cX12_opens 12 = .ok (.getfield 232, 3) := by decide +kernel
theorem dX12_opens_15 : decode cX12_opens 15 = .ok (.invokevirtual 300, 3) := by decide +kernel
theorem dX12_opens_18 : decode cX12_opens 18 = .ok (.aload_n 0, 1) := by decide +kernel
theorem dX12_opens_19 : decode cX12_opens 19 = .ok (.dup, 1) := by decide +kernel
theorem dX12_opens_20 : decode cX12_opens 20 = .ok (.getfield 232, 3) := by decide +kernel
theorem dX12_opens_23 : decode cX12_opens 23 = .ok (.iload_n 1, 1) := by decide +kernel
theorem dX12_opens_24 : decode cX12_opens 24 = .ok (.iadd, 1) := by decide +kernel
theorem dX12_opens_25 : decode cX12_opens 25 = .ok (.putfield 232, 3) := by decide +kernel
theorem dX12_opens_28 : decode cX12_opens 28 = .ok (.aload_n 0, 1) := by decide +kernel
theorem dX12_opens_29 : decode cX12_opens 29 = .ok (.dup, 1) := by decide +kernel
theorem dX12_opens_30 : decode cX12_opens 30 = .ok (.getfield 324, 3) := by decide +kernel
theorem dX12_opens_33 : decode cX12_opens 33 = .ok (.iconst 1, 1) := by decide +kernel
theorem dX12_opens_34 : decode cX12_opens 34 = .ok (.iadd, 1) := by decide +kernel
theorem dX12_opens_35 : decode cX12_opens 35 = .ok (.putfield 324, 3) := by decide +kernel
theorem dX12_opens_38 : decode cX12_opens 38 = .ok (.return_, 1) := by decide +kernel
theorem dX12_one_0 : decode cX12_one 0 = .ok (.aload_n 0, 1) := by decide +kernel
theorem dX12_one_1 : decode cX12_one 1 = .ok (.getfield 239, 3) := by decide +kernel
theorem dX12_one_4 : decode cX12_one 4 = .ok (.ifCond .le 4, 3) := by decide +kernel
theorem dX12_one_7 : decode cX12_one 7 = .ok (.return_, 1) := by decide +kernel
theorem dX12_one_8 : decode cX12_one 8 = .ok (.aload_n 0, 1) := by decide +kernel
theorem dX12_one_9 : decode cX12_one 9 = .ok (.invokevirtual 242, 3) := by decide +kernel
theorem dX12_one_12 : decode cX12_one 12 = .ok (.aload_n 0, 1) := by decide +kernel
theorem dX12_one_13 : decode cX12_one 13 = .ok (.ldc_w 327, 3) := by decide +kernel
theorem dX12_one_16 : decode cX12_one 16 = .ok (.invokevirtual 255, 3) := by decide +kernel
theorem dX12_one_19 : decode cX12_one 19 = .ok (.ifCond .eq 29, 3) := by decide +kernel
theorem dX12_one_22 : decode cX12_one 22 = .ok (.aload_n 0, 1) := by decide +kernel
theorem dX12_one_23 : decode cX12_one 23 = .ok (.iconst 3, 1) := by decide +kernel
theorem dX12_one_24 : decode cX12_one 24 = .ok (.invokevirtual 329, 3) := by decide +kernel
theorem dX12_one_27 : decode cX12_one 27 = .ok (.aload_n 0, 1) := by decide +kernel
theorem dX12_one_28 : decode cX12_one 28 = .ok (.invokevirtual 319, 3) := by decide +kernel
theorem dX12_one_31 : decode cX12_one 31 = .ok (.aload_n 0, 1) := by decide +kernel
theorem dX12_one_32 : decode cX12_one 32 = .ok (.dup, 1) := by decide +kernel
theorem dX12_one_33 : decode cX12_one 33 = .ok (.getfield 324, 3) := by decide +kernel
theorem dX12_one_36 : decode cX12_one 36 = .ok (.iconst 1, 1) := by decide +kernel
theorem dX12_one_37 : decode cX12_one 37 = .ok (.isub, 1) := by decide +kernel
theorem dX12_one_38 : decode cX12_one 38 = .ok (.putfield 324, 3) := by decide +kernel
theorem dX12_one_41 : decode cX12_one 41 = .ok (.aload_n 0, 1) := by decide +kernel
theorem dX12_one_42 : decode cX12_one 42 = .ok (.iconst 1, 1) := by decide +kernel
theorem dX12_one_43 : decode cX12_one 43 = .ok (.iconst 0, 1) := by decide +kernel
theorem dX12_one_44 : decode cX12_one 44 = .ok (.invokevirtual 316, 3) := by decide +kernel
theorem dX12_one_47 : decode cX12_one 47 = .ok (.return_, 1) := by decide +kernel
theorem dX12_one_48 : decode cX12_one 48 = .ok (.aload_n 0, 1) := by decide +kernel
theorem dX12_one_49 : decode cX12_one 49 = .ok (.aload_n 0, 1) := by decide +kernel
theorem dX12_one_50 : decode cX12_one 50 = .ok (.getfield 232, 3) := by decide +kernel
theorem dX12_one_53 : decode cX12_one 53 = .ok (.invokevirtual 235, 3) := by decide +kernel
theorem dX12_one_56 : decode cX12_one 56 = .ok (.bipush 40, 2) := by decide +kernel
theorem dX12_one_58 : decode cX12_one 58 = .ok (.if_icmp .ne 29, 3) := by decide +kernel
theorem dX12_one_61 : decode cX12_one 61 = .ok (.aload_n 0, 1) := by decide +kernel
theorem dX12_one_62 : decode cX12_one 62 = .ok (.iconst 1, 1) := by decide +kernel
theorem dX12_one_63 : decode cX12_one 63 = .ok (.invokevirtual 329, 3) := by decide +kernel
theorem dX12_one_66 : decode cX12_one 66 = .ok (.aload_n 0, 1) := by decide +kernel
theorem dX12_one_67 : decode cX12_one 67 = .ok (.invokevirtual 333, 3) := by decide +kernel
theorem dX12_one_70 : decode cX12_one 70 = .ok (.aload_n 0, 1) := by decide +kernel
theorem dX12_one_71 : decode cX12_one 71 = .ok (.bipush 41, 2) := by decide +kernel
theorem dX12_one_73 : decode cX12_one 73 = .ok (.invokevirtual 336, 3) := by decide +kernel
theorem dX12_one_76 : decode cX12_one 76 = .ok (.aload_n 0, 1) := by decide +kernel
theorem dX12_one_77 : decode cX12_one 77 = .ok (.dup, 1) := by decide +kernel
theorem dX12_one_78 : decode cX12_one 78 = .ok (.getfield 324, 3) := by decide +kernel
theorem dX12_one_81 : decode cX12_one 81 = .ok (.iconst 1, 1) := by decide +kernel
theorem dX12_one_82 : decode cX12_one 82 = .ok (.isub, 1) := by decide +kernel
theorem dX12_one_83 : decode cX12_one 83 = .ok (.putfield 324, 3) := by decide +kernel
theorem dX12_one_86 : decode cX12_one 86 = .ok (.return_, 1) := by decide +kernel
theorem dX12_one_87 : decode cX12_one 87 = .ok (.iconst (-1), 1) := by decide +kernel
theorem dX12_one_88 : decode cX12_one 88 = .ok (.istore_n 1, 1) := by decide +kernel
theorem dX12_one_89 : decode cX12_one 89 = .ok (.iconst 0, 1) := by decide +kernel
theorem dX12_one_90 : decode cX12_one 90 = .ok (.istore_n 2, 1) := by decide +kernel
theorem dX12_one_91 : decode cX12_one 91 = .ok (.iload_n 2, 1) := by decide +kernel
theorem dX12_one_92 : decode cX12_one 92 = .ok (.iconst 3, 1) := by decide +kernel
theorem dX12_one_93 : decode cX12_one 93 = .ok (.if_icmp .ge 26, 3) := by decide +kernel
theorem dX12_one_96 : decode cX12_one 96 = .ok (.iload_n 1, 1) := by decide +kernel
theorem dX12_one_97 : decode cX12_one 97 = .ok (.ifCond .ge 22, 3) := by decide +kernel
theorem dX12_one_100 : decode cX12_one 100 = .ok (.aload_n 0, 1) := by decide +kernel
theorem dX12_one_101 : decode cX12_one 101 = .ok (.iload_n 2, 1) := by decide +kernel
theorem dX12_one_102 : decode cX12_one 102 = .ok (.invokestatic 339, 3) := by decide +kernel
theorem dX12_one_105 : decode cX12_one 105 = .ok (.invokevirtual 313, 3) := by decide +kernel
theorem dX12_one_108 : decode cX12_one 108 = .ok (.ifCond .eq 5, 3) := by decide +kernel
theorem dX12_one_111 : decode cX12_one 111 = .ok (.iload_n 2, 1) := by decide +kernel
theorem dX12_one_112 : decode cX12_one 112 = .ok (.istore_n 1, 1) := by decide +kernel
theorem dX12_one_113 : decode cX12_one 113 = .ok (.iinc 2 1, 3) := by decide +kernel
theorem dX12_one_116 : decode cX12_one 116 = .ok (.goto (-25), 3) := by decide +kernel
theorem dX12_one_119 : decode cX12_one 119 = .ok (.aload_n 0, 1) := by decide +kernel
theorem dX12_one_120 : decode cX12_one 120 = .ok (.invokevirtual 242, 3) := by decide +kernel
theorem dX12_one_123 : decode cX12_one 123 = .ok (.aload_n 0, 1) := by decide +kernel
theorem dX12_one_124 : decode cX12_one 124 = .ok (.aload_n 0, 1) := by decide +kernel
theorem dX12_one_125 : decode cX12_one 125 = .ok (.getfield 232, 3) := by decide +kernel
theorem dX12_one_128 : decode cX12_one 128 = .ok (.invokevirtual 235, 3) := by decide +kernel
theorem dX12_one_131 : decode cX12_one 131 = .ok (.istore_n 2, 1) := by decide +kernel
theorem dX12_one_132 : decode cX12_one 132 = .ok (.iload_n 1, 1) := by decide +kernel
theorem dX12_one_133 : decode cX12_one 133 = .ok (.ifCond .lt 15, 3) := by decide +kernel
theorem dX12_one_136 : decode cX12_one 136 = .ok (.iload_n 2, 1) := by decide +kernel
theorem dX12_one_137 : decode cX12_one 137 = .ok (.bipush 60, 2) := by decide +kernel
theorem dX12_one_139 : decode cX12_one 139 = .ok (.if_icmp .eq 19, 3) := by decide +kernel
theorem dX12_one_142 : decode cX12_one 142 = .ok (.iload_n 2, 1) := by decide +kernel
theorem dX12_one_143 : decode cX12_one 143 = .ok (.bipush 62, 2) := by decide +kernel
theorem dX12_one_145 : decode cX12_one 145 = .ok (.if_icmp .eq 13, 3) := by decide +kernel
theorem dX12_one_148 : decode cX12_one 148 = .ok (.aload_n 0, 1) := by decide +kernel
theorem dX12_one_149 : decode cX12_one 149 = .ok (.iconst 1, 1) := by decide +kernel
theorem dX12_one_150 : decode cX12_one 150 = .ok (.aload_n 0, 1) := by decide +kernel
theorem dX12_one_151 : decode cX12_one 151 = .ok (.getfield 232, 3) := by decide +kernel
theorem dX12_one_154 : decode cX12_one 154 = .ok (.invokevirtual 300, 3) := by decide +kernel
theorem dX12_one_157 : decode cX12_one 157 = .ok (.return_, 1) := by decide +kernel
theorem dX12_one_158 : decode cX12_one 158 = .ok (.aload_n 0, 1) := by decide +kernel
theorem dX12_one_159 : decode cX12_one 159 = .ok (.dup, 1) := by decide +kernel
theorem dX12_one_160 : decode cX12_one 160 = .ok (.getfield 232, 3) := by decide +kernel
theorem dX12_one_163 : decode cX12_one 163 = .ok (.iconst 1, 1) := by decide +kernel
theorem dX12_one_164 : decode cX12_one 164 = .ok (.iadd, 1) := by decide +kernel
theorem dX12_one_165 : decode cX12_one 165 = .ok (.putfield 232, 3) := by decide +kernel
theorem dX12_one_168 : decode cX12_one 168 = .ok (.aload_n 0, 1) := by decide +kernel
theorem dX12_one_169 : decode cX12_one 169 = .ok (.iconst 0, 1) := by decide +kernel
theorem dX12_one_170 : decode cX12_one 170 = .ok (.sipush 9999, 3) := by decide +kernel
theorem dX12_one_173 : decode cX12_one 173 = .ok (.invokevirtual 342, 3) := by decide +kernel
theorem dX12_one_176 : decode cX12_one 176 = .ok (.istore_n 3, 1) := by decide +kernel
theorem dX12_one_177 : decode cX12_one 177 = .ok (.aload_n 0, 1) := by decide +kernel
theorem dX12_one_178 : decode cX12_one 178 = .ok (.iload_n 2, 1) := by decide +kernel
theorem dX12_one_179 : decode cX12_one 179 = .ok (.bipush 60, 2) := by decide +kernel
theorem dX12_one_181 : decode cX12_one 181 = .ok (.if_icmp .ne 7, 3) := by decide +kernel
theorem dX12_one_184 : decode cX12_one 184 = .ok (.iconst 4, 1) := by decide +kernel
theorem dX12_one_185 : decode cX12_one 185 = .ok (.goto 4, 3) := by decide +kernel
theorem dX12_one_188 : decode cX12_one 188 = .ok (.iconst 5, 1) := by decide +kernel
theorem dX12_one_189 : decode cX12_one 189 = .ok (.iconst 3, 1) := by decide +kernel
theorem dX12_one_190 : decode cX12_one 190 = .ok (.iload_n 3, 1) := by decide +kernel
theorem dX12_one_191 : decode cX12_one 191 = .ok (.imul, 1) := by decide +kernel
theorem dX12_one_192 : decode cX12_one 192 = .ok (.iload_n 1, 1) := by decide +kernel
theorem dX12_one_193 : decode cX12_one 193 = .ok (.iadd, 1) := by decide +kernel
theorem dX12_one_194 : decode cX12_one 194 = .ok (.invokevirtual 316, 3) := by decide +kernel
theorem dX12_one_197 : decode cX12_one 197 = .ok (.return_, 1) := by decide +kernel
theorem dX12_clause_0 : decode cX12_clause 0 = .ok (.aload_n 0, 1) := by decide +kernel
theorem dX12_clause_1 : decode cX12_clause 1 = .ok (.invokevirtual 346, 3) := by decide +kernel
theorem dX12_clause_4 : decode cX12_clause 4 = .ok (.istore_n 1, 1) := by decide +kernel
theorem dX12_clause_5 : decode cX12_clause 5 = .ok (.iload_n 1, 1) := by decide +kernel
theorem dX12_clause_6 : decode cX12_clause 6 = .ok (.ifCond .ge 13, 3) := by decide +kernel
theorem dX12_clause_9 : decode cX12_clause 9 = .ok (.aload_n 0, 1) := by decide +kernel
theorem dX12_clause_10 : decode cX12_clause 10 = .ok (.iconst 1, 1) := by decide +kernel
theorem dX12_clause_11 : decode cX12_clause 11 = .ok (.aload_n 0, 1) := by decide +kernel
theorem dX12_clause_12 : decode cX12_clause 12 = .ok (.getfield 232, 3) := by decide +kernel
theorem dX12_clause_15 : decode cX12_clause 15 = .ok (.invokevirtual 300, 3) := by decide +kernel
theorem dX12_clause_18 : decode cX12_clause 18 = .ok (.return_, 1) := by decide +kernel
theorem dX12_clause_19 : decode cX12_clause 19 = .ok (.aload_n 0, 1) := by decide +kernel
theorem dX12_clause_20 : decode cX12_clause 20 = .ok (.dup, 1) := by decide +kernel
theorem dX12_clause_21 : decode cX12_clause 21 = .ok (.getfield 232, 3) := by decide +kernel
theorem dX12_clause_24 : decode cX12_clause 24 = .ok (.iload_n 1, 1) := by decide +kernel
theorem dX12_clause_25 : decode cX12_clause 25 = .ok (.invokestatic 287, 3) := by decide +kernel
theorem dX12_clause_28 : decode cX12_clause 28 = .ok (.invokevirtual 245, 3) := by decide +kernel
theorem dX12_clause_31 : decode cX12_clause 31 = .ok (.iadd, 1) := by decide +kernel
theorem dX12_clause_32 : decode cX12_clause 32 = .ok (.putfield 232, 3) := by decide +kernel
theorem dX12_clause_35 : decode cX12_clause 35 = .ok (.iload_n 1, 1) := by decide +kernel
theorem dX12_clause_36 : decode cX12_clause 36 = .ok (.iconst 4, 1) := by decide +kernel
theorem dX12_clause_37 : decode cX12_clause 37 = .ok (.if_icmp .ge 57, 3) := by decide +kernel
theorem dX12_clause_40 : decode cX12_clause 40 = .ok (.aload_n 0, 1) := by decide +kernel
theorem dX12_clause_41 : decode cX12_clause 41 = .ok (.getfield 24, 3) := by decide +kernel
theorem dX12_clause_44 : decode cX12_clause 44 = .ok (.iload_n 1, 1) := by decide +kernel
theorem dX12_clause_45 : decode cX12_clause 45 = .ok (.aload_n 0, 1) := by decide +kernel
theorem dX12_clause_46 : decode cX12_clause 46 = .ok (.iconst 0, 1) := by decide +kernel
theorem dX12_clause_47 : decode cX12_clause 47 = .ok (.sipush 400, 3) := by decide +kernel
theorem dX12_clause_50 : decode cX12_clause 50 = .ok (.invokevirtual 342, 3) := by decide +kernel
theorem dX12_clause_53 : decode cX12_clause 53 = .ok (.iastore, 1) := by decide +kernel
theorem dX12_clause_54 : decode cX12_clause 54 = .ok (.aload_n 0, 1) := by decide +kernel
theorem dX12_clause_55 : decode cX12_clause 55 = .ok (.getfield 30, 3) := by decide +kernel
theorem dX12_clause_58 : decode cX12_clause 58 = .ok (.iload_n 1, 1) := by decide +kernel
theorem dX12_clause_59 : decode cX12_clause 59 = .ok (.iconst (-1), 1) := by decide +kernel
theorem dX12_clause_60 : decode cX12_clause 60 = .ok (.iastore, 1) := by decide +kernel
theorem dX12_clause_61 : decode cX12_clause 61 = .ok (.aload_n 0, 1) := by decide +kernel
theorem dX12_clause_62 : decode cX12_clause 62 = .ok (.ldc_w 349, 3) := by decide +kernel
theorem dX12_clause_65 : decode cX12_clause 65 = .ok (.invokevirtual 313, 3) := by decide +kernel
theorem dX12_clause_68 : decode cX12_clause 68 = .ok (.ifCond .eq 239, 3) := by decide +kernel
theorem dX12_clause_71 : decode cX12_clause 71 = .ok (.aload_n 0, 1) := by decide +kernel
theorem dX12_clause_72 : decode cX12_clause 72 = .ok (.getfield 30, 3) := by decide +kernel
theorem dX12_clause_75 : decode cX12_clause 75 = .ok (.iload_n 1, 1) := by decide +kernel
theorem dX12_clause_76 : decode cX12_clause 76 = .ok (.aload_n 0, 1) := by decide +kernel
theorem dX12_clause_77 : decode cX12_clause 77 = .ok (.getfield 305, 3) := by decide +kernel
theorem dX12_clause_80 : decode cX12_clause 80 = .ok (.iastore, 1) := by decide +kernel
theorem dX12_clause_81 : decode cX12_clause 81 = .ok (.aload_n 0, 1) := by decide +kernel
theorem dX12_clause_82 : decode cX12_clause 82 = .ok (.invokevirtual 333, 3) := by decide +kernel
theorem dX12_clause_85 : decode cX12_clause 85 = .ok (.aload_n 0, 1) := by decide +kernel
theorem dX12_clause_86 : decode cX12_clause 86 = .ok (.iconst 0, 1) := by decide +kernel
theorem dX12_clause_87 : decode cX12_clause 87 = .ok (.iconst 0, 1) := by decide +kernel
theorem dX12_clause_88 : decode cX12_clause 88 = .ok (.invokevirtual 316, 3) := by decide +kernel
theorem dX12_clause_91 : decode cX12_clause 91 = .ok (.goto 216, 3) := by decide +kernel
theorem dX12_clause_94 : decode cX12_clause 94 = .ok (.iload_n 1, 1) := by decide +kernel
theorem dX12_clause_95 : decode cX12_clause 95 = .ok (.iconst 5, 1) := by decide +kernel
theorem dX12_clause_96 : decode cX12_clause 96 = .ok (.if_icmp .ne 80, 3) := by decide +kernel
theorem dX12_clause_99 : decode cX12_clause 99 = .ok (.aload_n 0, 1) := by decide +kernel
theorem dX12_clause_100 : decode cX12_clause 100 = .ok (.getfield 24, 3) := by decide +kernel
theorem dX12_clause_103 : decode cX12_clause 103 = .ok (.iload_n 1, 1) := by decide +kernel
theorem dX12_clause_104 : decode cX12_clause 104 = .ok (.iconst 0, 1) := by decide +kernel
theorem dX12_clause_105 : decode cX12_clause 105 = .ok (.iastore, 1) := by decide +kernel
theorem dX12_clause_106 : decode cX12_clause 106 = .ok (.iconst 1, 1) := by decide +kernel
theorem dX12_clause_107 : decode cX12_clause 107 = .ok (.istore_n 2, 1) := by decide +kernel
theorem dX12_clause_108 : decode cX12_clause 108 = .ok (.iload_n 2, 1) := by decide +kernel
theorem dX12_clause_109 : decode cX12_clause 109 = .ok (.ifCond .eq 64, 3) := by decide +kernel
theorem dX12_clause_112 : decode cX12_clause 112 = .ok (.aload_n 0, 1) := by decide +kernel
theorem dX12_clause_113 : decode cX12_clause 113 = .ok (.iconst 0, 1) := by decide +kernel
theorem dX12_clause_114 : decode cX12_clause 114 = .ok (.bipush 6, 2) := by decide +kernel
theorem dX12_clause_116 : decode cX12_clause 116 = .ok (.invokevirtual 342, 3) := by decide +kernel
theorem dX12_clause_119 : decode cX12_clause 119 = .ok (.istore_n 3, 1) := by decide +kernel
theorem dX12_clause_120 : decode cX12_clause 120 = .ok (.aload_n 0, 1) := by decide +kernel
theorem dX12_clause_121 : decode cX12_clause 121 = .ok (.getfield 239, 3) := by decide +kernel
theorem dX12_clause_124 : decode cX12_clause 124 = .ok (.ifCond .ne 15, 3) := by decide +kernel
theorem dX12_clause_127 : decode cX12_clause 127 = .ok (.aload_n 0, 1) := by decide +kernel
theorem dX12_clause_128 : decode cX12_clause 128 = .ok (.getfield 24, 3) := by decide +kernel
theorem dX12_clause_131 : decode cX12_clause 131 = .ok (.iload_n 1, 1) := by decide +kernel
theorem dX12_clause_132 : decode cX12_clause 132 = .ok (.dup2, 1) := by decide +kernel
theorem dX12_clause_133 : decode cX12_clause 133 = .ok (.iaload, 1) := by decide +kernel
theorem dX12_clause_134 : decode cX12_clause 134 = .ok (.iconst 1, 1) := by decide +kernel
theorem dX12_clause_135 : decode cX12_clause 135 = .ok (.iload_n 3, 1) := by decide +kernel
theorem dX12_clause_136 : decode cX12_clause 136 = .ok (.ishl, 1) := by decide +kernel
theorem dX12_clause_137 : decode cX12_clause 137 = .ok (.ior, 1) := by decide +kernel
theorem dX12_clause_138 : decode cX12_clause 138 = .ok (.iastore, 1) := by decide +kernel
theorem dX12_clause_139 : decode cX12_clause 139 = .ok (.aload_n 0, 1) := by decide +kernel
theorem dX12_clause_140 : decode cX12_clause 140 = .ok (.invokevirtual 242, 3) := by decide +kernel
theorem dX12_clause_143 : decode cX12_clause 143 = .ok (.aload_n 0, 1) := by decide +kernel
theorem dX12_clause_144 : decode cX12_clause 144 = .ok (.getfield 239, 3) := by decide +kernel
theorem dX12_clause_147 : decode cX12_clause 147 = .ok (.ifCond .ne 21, 3) := by decide +kernel
theorem dX12_clause_150 : decode cX12_clause 150 = .ok (.aload_n 0, 1) := by decide +kernel
theorem dX12_clause_151 : decode cX12_clause 151 = .ok (.aload_n 0, 1) := by decide +kernel
theorem dX12_clause_152 : decode cX12_clause 152 = .ok (.getfield 232, 3) := by decide +kernel
theorem dX12_clause_155 : decode cX12_clause 155 = .ok (.invokevirtual 235, 3) := by decide +kernel
theorem dX12_clause_158 : decode cX12_clause 158 = .ok (.invokestatic 297, 3) := by decide +kernel
theorem dX12_clause_161 : decode cX12_clause 161 = .ok (.ifCond .eq 7, 3) := by decide +kernel
theorem dX12_clause_164 : decode cX12_clause 164 = .ok (.iconst 1, 1) := by decide +kernel
theorem dX12_clause_165 : decode cX12_clause 165 = .ok (.goto 4, 3) := by decide +kernel
theorem dX12_clause_168 : decode cX12_clause 168 = .ok (.iconst 0, 1) := by decide +kernel
theorem dX12_clause_169 : decode cX12_clause 169 = .ok (.istore_n 2, 1) := by decide +kernel
theorem dX12_clause_170 : decode cX12_clause 170 = .ok (.goto (-62), 3) := by decide +kernel
theorem dX12_clause_173 : decode cX12_clause 173 = .ok (.goto 134, 3) := by decide +kernel
theorem dX12_clause_176 : decode cX12_clause 176 = .ok (.iload_n 1, 1) := by decide +kernel
theorem dX12_clause_177 : decode cX12_clause 177 = .ok (.bipush 7, 2) := by decide +kernel
theorem dX12_clause_179 : decode cX12_clause 179 = .ok (.if_icmp .ne 52, 3) := by decide +kernel
theorem dX12_clause_182 : decode cX12_clause 182 = .ok (.aload_n 0, 1) := by decide +kernel
theorem dX12_clause_183 : decode cX12_clause 183 = .ok (.ldc_w 351, 3) := by decide +kernel
theorem dX12_clause_186 : decode cX12_clause 186 = .ok (.invokevirtual 313, 3) := by decide +kernel
theorem dX12_clause_189 : decode cX12_clause 189 = .ok (.istore_n 2, 1) := by decide +kernel
theorem dX12_clause_190 : decode cX12_clause 190 = .ok (.iload_n 2, 1) := by decide +kernel
theorem dX12_clause_191 : decode cX12_clause 191 = .ok (.ifCond .ne 22, 3) := by decide +kernel
theorem dX12_clause_194 : decode cX12_clause 194 = .ok (.aload_n 0, 1) := by decide +kernel
theorem dX12_clause_195 : decode cX12_clause 195 = .ok (.ldc_w 353, 3) := by decide +kernel
theorem dX12_clause_198 : decode cX12_clause 198 = .ok (.invokevirtual 313, 3) := by decide +kernel
theorem dX12_clause_201 : decode cX12_clause 201 = .ok (.ifCond .ne 12, 3) := by decide +kernel
theorem dX12_clause_204 : decode cX12_clause 204 = .ok (.aload_n 0, 1) := by decide +kernel
theorem dX12_clause_205 : decode cX12_clause 205 = .ok (.iconst 1, 1) := by decide +kernel
theorem dX12_clause_206 : decode cX12_clause 206 = .ok (.aload_n 0, 1) := by decide +kernel
theorem dX12_clause_207 : decode cX12_clause 207 = .ok (.getfield 232, 3) := by decide +kernel
theorem dX12_clause_210 : decode cX12_clause 210 = .ok (.invokevirtual 300, 3) := by decide +kernel
theorem dX12_clause_213 : decode cX12_clause 213 = .ok (.aload_n 0, 1) := by decide +kernel
theorem dX12_clause_214 : decode cX12_clause 214 = .ok (.getfield 24, 3) := by decide +kernel
theorem dX12_clause_217 : decode cX12_clause 217 = .ok (.iload_n 1, 1) := by decide +kernel
theorem dX12_clause_218 : decode cX12_clause 218 = .ok (.iload_n 2, 1) := by decide +kernel
theorem dX12_clause_219 : decode cX12_clause 219 = .ok (.ifCond .eq 7, 3) := by decide +kernel
theorem dX12_clause_222 : decode cX12_clause 222 = .ok (.iconst 0, 1) := by decide +kernel
theorem dX12_clause_223 : decode cX12_clause 223 = .ok (.goto 4, 3) := by decide +kernel
theorem dX12_clause_226 : decode cX12_clause 226 = .ok (.iconst 1, 1) := by decide +kernel
theorem dX12_clause_227 : decode cX12_clause 227 = .ok (.iastore, 1) := by decide +kernel
theorem dX12_clause_228 : decode cX12_clause 228 = .ok (.goto 79, 3) := by decide +kernel
theorem dX12_clause_231 : decode cX12_clause 231 = .ok (.iload_n 1, 1) := by decide +kernel
theorem dX12_clause_232 : decode cX12_clause 232 = .ok (.bipush 13, 2) := by decide +kernel
theorem dX12_clause_234 : decode cX12_clause 234 = .ok (.if_icmp .ne 48, 3) := by decide +kernel
theorem dX12_clause_237 : decode cX12_clause 237 = .ok (.aload_n 0, 1) := by decide +kernel
theorem dX12_clause_238 : decode cX12_clause 238 = .ok (.getfield 24, 3) := by decide +kernel
theorem dX12_clause_241 : decode cX12_clause 241 = .ok (.bipush 13, 2) := by decide +kernel
theorem dX12_clause_243 : decode cX12_clause 243 = .ok (.aload_n 0, 1) := by decide +kernel
theorem dX12_clause_244 : decode cX12_clause 244 = .ok (.iconst 0, 1) := by decide +kernel
theorem dX12_clause_245 : decode cX12_clause 245 = .ok (.bipush 24, 2) := by decide +kernel
theorem dX12_clause_247 : decode cX12_clause 247 = .ok (.invokevirtual 342, 3) := by decide +kernel
theorem dX12_clause_250 : decode cX12_clause 250 = .ok (.iastore, 1) := by decide +kernel
theorem dX12_clause_251 : decode cX12_clause 251 = .ok (.aload_n 0, 1) := by decide +kernel
theorem dX12_clause_252 : decode cX12_clause 252 = .ok (.bipush 45, 2) := by decide +kernel
theorem dX12_clause_254 : decode cX12_clause 254 = .ok (.invokevirtual 336, 3) := by decide +kernel
theorem dX12_clause_257 : decode cX12_clause 257 = .ok (.aload_n 0, 1) := by decide +kernel
theorem dX12_clause_258 : decode cX12_clause 258 = .ok (.getfield 24, 3) := by decide +kernel
theorem dX12_clause_261 : decode cX12_clause 261 = .ok (.bipush 14, 2) := by decide +kernel
theorem dX12_clause_263 : decode cX12_clause 263 = .ok (.aload_n 0, 1) := by decide +kernel
theorem dX12_clause_264 : decode cX12_clause 264 = .ok (.aload_n 0, 1) := by decide +kernel
theorem dX12_clause_265 : decode cX12_clause 265 = .ok (.getfield 24, 3) := by decide +kernel
theorem dX12_clause_268 : decode cX12_clause 268 = .ok (.bipush 13, 2) := by decide +kernel
theorem dX12_clause_270 : decode cX12_clause 270 = .ok (.iaload, 1) := by decide +kernel
theorem dX12_clause_271 : decode cX12_clause 271 = .ok (.iconst 1, 1) := by decide +kernel
theorem dX12_clause_272 : decode cX12_clause 272 = .ok (.iadd, 1) := by decide +kernel
theorem dX12_clause_273 : decode cX12_clause 273 = .ok (.bipush 24, 2) := by decide +kernel
theorem dX12_clause_275 : decode cX12_clause 275 = .ok (.invokevirtual 342, 3) := by decide +kernel
theorem dX12_clause_278 : decode cX12_clause 278 = .ok (.iastore, 1) := by decide +kernel
theorem dX12_clause_279 : decode cX12_clause 279 = .ok (.goto 28, 3) := by decide +kernel
theorem dX12_clause_282 : decode cX12_clause 282 = .ok (.aload_n 0, 1) := by decide +kernel
theorem dX12_clause_283 : decode cX12_clause 283 = .ok (.getfield 24, 3) := by decide +kernel
theorem dX12_clause_286 : decode cX12_clause 286 = .ok (.iload_n 1, 1) := by decide +kernel
theorem dX12_clause_287 : decode cX12_clause 287 = .ok (.aload_n 0, 1) := by decide +kernel
theorem dX12_clause_288 : decode cX12_clause 288 = .ok (.iconst 0, 1) := by decide +kernel
theorem dX12_clause_289 : decode cX12_clause 289 = .ok (.iload_n 1, 1) := by decide +kernel
theorem dX12_clause_290 : decode cX12_clause 290 = .ok (.bipush 10, 2) := by decide +kernel
theorem dX12_clause_292 : decode cX12_clause 292 = .ok (.if_icmp .ne 8, 3) := by decide +kernel
theorem dX12_clause_295 : decode cX12_clause 295 = .ok (.bipush 100, 2) := by decide +kernel
theorem dX12_clause_297 : decode cX12_clause 297 = .ok (.goto 6, 3) := by decide +kernel
theorem dX12_clause_300 : decode cX12_clause 300 = .ok (.sipush 400, 3) := by decide +kernel
theorem dX12_clause_303 : decode cX12_clause 303 = .ok (.invokevirtual 342, 3) := by decide +kernel
theorem dX12_clause_306 : decode cX12_clause 306 = .ok (.iastore, 1) := by decide +kernel
theorem dX12_clause_307 : decode cX12_clause 307 = .ok (.aload_n 0, 1) := by decide +kernel
theorem dX12_clause_308 : decode cX12_clause 308 = .ok (.bipush 59, 2) := by decide +kernel
theorem dX12_clause_310 : decode cX12_clause 310 = .ok (.invokevirtual 336, 3) := by decide +kernel
theorem dX12_clause_313 : decode cX12_clause 313 = .ok (.return_, 1) := by decide +kernel
theorem dX12_starts_0 : decode cX12_starts 0 = .ok (.iconst 0, 1) := by decide +kernel
theorem dX12_starts_1 : decode cX12_starts 1 = .ok (.istore_n 1, 1) := by decide +kernel
theorem dX12_starts_2 : decode cX12_starts 2 = .ok (.iload_n 1, 1) := by decide +kernel
theorem dX12_starts_3 : decode cX12_starts 3 = .ok (.bipush 15, 2) := by decide +kernel
theorem dX12_starts_5 : decode cX12_starts 5 = .ok (.if_icmp .ge 26, 3) := by decide +kernel
theorem dX12_starts_8 : decode cX12_starts 8 = .ok (.aload_n 0, 1) := by decide +kernel
theorem dX12_starts_9 : decode cX12_starts 9 = .ok (.getfield 24, 3) := by decide +kernel
theorem dX12_starts_12 : decode cX12_starts 12 = .ok (.iload_n 1, 1) := by decide +kernel
theorem dX12_starts_13 : decode cX12_starts 13 = .ok (.iload_n 1, 1) := by decide +kernel
theorem dX12_starts_14 : decode cX12_starts 14 = .ok (.iconst 4, 1) := by decide +kernel
theorem dX12_starts_15 : decode cX12_starts 15 = .ok (.if_icmp .ge 8, 3) := by decide +kernel
theorem dX12_starts_18 : decode cX12_starts 18 = .ok (.bipush 30, 2) := by decide +kernel
theorem dX12_starts_20 : decode cX12_starts 20 = .ok (.goto 4, 3) := by decide +kernel
theorem dX12_starts_23 : decode cX12_starts 23 = .ok (.iconst 0, 1) := by decide +kernel
theorem dX12_starts_24 : decode cX12_starts 24 = .ok (.iastore, 1) := by decide +kernel
theorem dX12_starts_25 : decode cX12_starts 25 = .ok (.iinc 1 1, 3) := by decide +kernel
theorem dX12_starts_28 : decode cX12_starts 28 = .ok (.goto (-26), 3) := by decide +kernel
theorem dX12_starts_31 : decode cX12_starts 31 = .ok (.aload_n 0, 1) := by decide +kernel
theorem dX12_starts_32 : decode cX12_starts 32 = .ok (.getfield 24, 3) := by decide +kernel
theorem dX12_starts_35 : decode cX12_starts 35 = .ok (.bipush 6, 2) := by decide +kernel
theorem dX12_starts_37 : decode cX12_starts 37 = .ok (.bipush 14, 2) := by decide +kernel
theorem dX12_starts_39 : decode cX12_starts 39 = .ok (.iastore, 1) := by decide +kernel
theorem dX12_starts_40 : decode cX12_starts 40 = .ok (.aload_n 0, 1) := by decide +kernel
theorem dX12_starts_41 : decode cX12_starts 41 = .ok (.getfield 24, 3) := by decide +kernel
theorem dX12_starts_44 : decode cX12_starts 44 = .ok (.bipush 7, 2) := by decide +kernel
theorem dX12_starts_46 : decode cX12_starts 46 = .ok (.iconst 1, 1) := by decide +kernel
theorem dX12_starts_47 : decode cX12_starts 47 = .ok (.iastore, 1) := by decide +kernel
theorem dX12_starts_48 : decode cX12_starts 48 = .ok (.aload_n 0, 1) := by decide +kernel
theorem dX12_starts_49 : decode cX12_starts 49 = .ok (.getfield 24, 3) := by decide +kernel
theorem dX12_starts_52 : decode cX12_starts 52 = .ok (.bipush 8, 2) := by decide +kernel
theorem dX12_starts_54 : decode cX12_starts 54 = .ok (.bipush 10, 2) := by decide +kernel
theorem dX12_starts_56 : decode cX12_starts 56 = .ok (.iastore, 1) := by decide +kernel
theorem dX12_starts_57 : decode cX12_starts 57 = .ok (.aload_n 0, 1) := by decide +kernel
theorem dX12_starts_58 : decode cX12_starts 58 = .ok (.getfield 24, 3) := by decide +kernel
theorem dX12_starts_61 : decode cX12_starts 61 = .ok (.bipush 9, 2) := by decide +kernel
theorem dX12_starts_63 : decode cX12_starts 63 = .ok (.bipush 14, 2) := by decide +kernel
theorem dX12_starts_65 : decode cX12_starts 65 = .ok (.iastore, 1) := by decide +kernel
theorem dX12_starts_66 : decode cX12_starts 66 = .ok (.aload_n 0, 1) := by decide +kernel
theorem dX12_starts_67 : decode cX12_starts 67 = .ok (.getfield 24, 3) := by decide +kernel
theorem dX12_starts_70 : decode cX12_starts 70 = .ok (.bipush 11, 2) := by decide +kernel
theorem dX12_starts_72 : decode cX12_starts 72 = .ok (.bipush 10, 2) := by decide +kernel
theorem dX12_starts_74 : decode cX12_starts 74 = .ok (.iastore, 1) := by decide +kernel
theorem dX12_starts_75 : decode cX12_starts 75 = .ok (.aload_n 0, 1) := by decide +kernel
theorem dX12_starts_76 : decode cX12_starts 76 = .ok (.getfield 24, 3) := by decide +kernel
theorem dX12_starts_79 : decode cX12_starts 79 = .ok (.bipush 12, 2) := by decide +kernel
theorem dX12_starts_81 : decode cX12_starts 81 = .ok (.bipush 50, 2) := by decide +kernel
theorem dX12_starts_83 : decode cX12_starts 83 = .ok (.iastore, 1) := by decide +kernel
theorem dX12_starts_84 : decode cX12_starts 84 = .ok (.aload_n 0, 1) := by decide +kernel
theorem dX12_starts_85 : decode cX12_starts 85 = .ok (.getfield 24, 3) := by decide +kernel
theorem dX12_starts_88 : decode cX12_starts 88 = .ok (.bipush 13, 2) := by decide +kernel
theorem dX12_starts_90 : decode cX12_starts 90 = .ok (.bipush 8, 2) := by decide +kernel
theorem dX12_starts_92 : decode cX12_starts 92 = .ok (.iastore, 1) := by decide +kernel
theorem dX12_starts_93 : decode cX12_starts 93 = .ok (.aload_n 0, 1) := by decide +kernel
theorem dX12_starts_94 : decode cX12_starts 94 = .ok (.getfield 24, 3) := by decide +kernel
theorem dX12_starts_97 : decode cX12_starts 97 = .ok (.bipush 14, 2) := by decide +kernel
theorem dX12_starts_99 : decode cX12_starts 99 = .ok (.bipush 17, 2) := by decide +kernel
theorem dX12_starts_101 : decode cX12_starts 101 = .ok (.iastore, 1) := by decide +kernel
theorem dX12_starts_102 : decode cX12_starts 102 = .ok (.iconst 0, 1) := by decide +kernel
theorem dX12_starts_103 : decode cX12_starts 103 = .ok (.istore_n 1, 1) := by decide +kernel
theorem dX12_starts_104 : decode cX12_starts 104 = .ok (.iload_n 1, 1) := by decide +kernel
theorem dX12_starts_105 : decode cX12_starts 105 = .ok (.iconst 4, 1) := by decide +kernel
theorem dX12_starts_106 : decode cX12_starts 106 = .ok (.if_icmp .ge 16, 3) := by decide +kernel
theorem dX12_starts_109 : decode cX12_starts 109 = .ok (.aload_n 0, 1) := by decide +kernel
theorem dX12_starts_110 : decode cX12_starts 110 = .ok (.getfield 30, 3) := by decide +kernel
theorem dX12_starts_113 : decode cX12_starts 113 = .ok (.iload_n 1, 1) := by decide +kernel
theorem dX12_starts_114 : decode cX12_starts 114 = .ok (.iconst (-1), 1) := by decide +kernel
theorem dX12_starts_115 : decode cX12_starts 115 = .ok (.iastore, 1) := by decide +kernel
theorem dX12_starts_116 : decode cX12_starts 116 = .ok (.iinc 1 1, 3) := by decide +kernel
theorem dX12_starts_119 : decode cX12_starts 119 = .ok (.goto (-15), 3) := by decide +kernel
theorem dX12_starts_122 : decode cX12_starts 122 = .ok (.aload_n 0, 1) := by decide +kernel
theorem dX12_starts_123 : decode cX12_starts 123 = .ok (.iconst 0, 1) := by decide +kernel
theorem dX12_starts_124 : decode cX12_starts 124 = .ok (.putfield 305, 3) := by decide +kernel
theorem dX12_starts_127 : decode cX12_starts 127 = .ok (.aload_n 0, 1) := by decide +kernel
theorem dX12_starts_128 : decode cX12_starts 128 = .ok (.iconst 0, 1) := by decide +kernel
theorem dX12_starts_129 : decode cX12_starts 129 = .ok (.putfield 324, 3) := by decide +kernel
theorem dX12_starts_132 : decode cX12_starts 132 = .ok (.return_, 1) := by decide +kernel
theorem dX12_rule_0 : decode cX12_rule 0 = .ok (.aload_n 0, 1) := by decide +kernel
theorem dX12_rule_1 : decode cX12_rule 1 = .ok (.iconst 0, 1) := by decide +kernel
theorem dX12_rule_2 : decode cX12_rule 2 = .ok (.putfield 199, 3) := by decide +kernel
theorem dX12_rule_5 : decode cX12_rule 5 = .ok (.aload_n 0, 1) := by decide +kernel
theorem dX12_rule_6 : decode cX12_rule 6 = .ok (.iload_n 1, 1) := by decide +kernel
theorem dX12_rule_7 : decode cX12_rule 7 = .ok (.ifCond .lt 11, 3) := by decide +kernel
theorem dX12_rule_10 : decode cX12_rule 10 = .ok (.iload_n 1, 1) := by decide +kernel
theorem dX12_rule_11 : decode cX12_rule 11 = .ok (.aload_n 0, 1) := by decide +kernel
theorem dX12_rule_12 : decode cX12_rule 12 = .ok (.getfield 226, 3) := by decide +kernel
theorem dX12_rule_15 : decode cX12_rule 15 = .ok (.if_icmp .le 7, 3) := by decide +kernel
theorem dX12_rule_18 : decode cX12_rule 18 = .ok (.iconst 1, 1) := by decide +kernel
theorem dX12_rule_19 : decode cX12_rule 19 = .ok (.goto 4, 3) := by decide +kernel
theorem dX12_rule_22 : decode cX12_rule 22 = .ok (.iconst 0, 1) := by decide +kernel
theorem dX12_rule_23 : decode cX12_rule 23 = .ok (.iconst 1, 1) := by decide +kernel
theorem dX12_rule_24 : decode cX12_rule 24 = .ok (.invokevirtual 205, 3) := by decide +kernel
theorem dX12_rule_27 : decode cX12_rule 27 = .ok (.ifCond .eq 5, 3) := by decide +kernel
theorem dX12_rule_30 : decode cX12_rule 30 = .ok (.iconst 0, 1) := by decide +kernel
theorem dX12_rule_31 : decode cX12_rule 31 = .ok (.ireturn, 1) := by decide +kernel
theorem dX12_rule_32 : decode cX12_rule 32 = .ok (.aload_n 0, 1) := by decide +kernel
theorem dX12_rule_33 : decode cX12_rule 33 = .ok (.iload_n 1, 1) := by decide +kernel
theorem dX12_rule_34 : decode cX12_rule 34 = .ok (.putfield 229, 3) := by decide +kernel
theorem dX12_rule_37 : decode cX12_rule 37 = .ok (.aload_n 0, 1) := by decide +kernel
theorem dX12_rule_38 : decode cX12_rule 38 = .ok (.iconst 0, 1) := by decide +kernel
theorem dX12_rule_39 : decode cX12_rule 39 = .ok (.putfield 226, 3) := by decide +kernel
theorem dX12_rule_42 : decode cX12_rule 42 = .ok (.aload_n 0, 1) := by decide +kernel
theorem dX12_rule_43 : decode cX12_rule 43 = .ok (.iconst 0, 1) := by decide +kernel
theorem dX12_rule_44 : decode cX12_rule 44 = .ok (.putfield 232, 3) := by decide +kernel
theorem dX12_rule_47 : decode cX12_rule 47 = .ok (.aload_n 0, 1) := by decide +kernel
theorem dX12_rule_48 : decode cX12_rule 48 = .ok (.iconst 0, 1) := by decide +kernel
theorem dX12_rule_49 : decode cX12_rule 49 = .ok (.putfield 239, 3) := by decide +kernel
theorem dX12_rule_52 : decode cX12_rule 52 = .ok (.aload_n 0, 1) := by decide +kernel
theorem dX12_rule_53 : decode cX12_rule 53 = .ok (.iconst (-1), 1) := by decide +kernel
theorem dX12_rule_54 : decode cX12_rule 54 = .ok (.putfield 17, 3) := by decide +kernel
theorem dX12_rule_57 : decode cX12_rule 57 = .ok (.aload_n 0, 1) := by decide +kernel
theorem dX12_rule_58 : decode cX12_rule 58 = .ok (.invokevirtual 355, 3) := by decide +kernel
theorem dX12_rule_61 : decode cX12_rule 61 = .ok (.iconst 0, 1) := by decide +kernel
theorem dX12_rule_62 : decode cX12_rule 62 = .ok (.istore_n 2, 1) := by decide +kernel
theorem dX12_rule_63 : decode cX12_rule 63 = .ok (.aload_n 0, 1) := by decide +kernel
theorem dX12_rule_64 : decode cX12_rule 64 = .ok (.invokevirtual 242, 3) := by decide +kernel
theorem dX12_rule_67 : decode cX12_rule 67 = .ok (.aload_n 0, 1) := by decide +kernel
theorem dX12_rule_68 : decode cX12_rule 68 = .ok (.getfield 239, 3) := by decide +kernel
theorem dX12_rule_71 : decode cX12_rule 71 = .ok (.ifCond .ne 57, 3) := by decide +kernel
theorem dX12_rule_74 : decode cX12_rule 74 = .ok (.aload_n 0, 1) := by decide +kernel
theorem dX12_rule_75 : decode cX12_rule 75 = .ok (.getfield 232, 3) := by decide +kernel
theorem dX12_rule_78 : decode cX12_rule 78 = .ok (.aload_n 0, 1) := by decide +kernel
theorem dX12_rule_79 : decode cX12_rule 79 = .ok (.getfield 229, 3) := by decide +kernel
theorem dX12_rule_82 : decode cX12_rule 82 = .ok (.if_icmp .ge 46, 3) := by decide +kernel
theorem dX12_rule_85 : decode cX12_rule 85 = .ok (.iload_n 2, 1) := by decide +kernel
theorem dX12_rule_86 : decode cX12_rule 86 = .ok (.bipush 20, 2) := by decide +kernel
theorem dX12_rule_88 : decode cX12_rule 88 = .ok (.if_icmp .ne 26, 3) := by decide +kernel
theorem dX12_rule_91 : decode cX12_rule 91 = .ok (.aload_n 0, 1) := by decide +kernel
theorem dX12_rule_92 : decode cX12_rule 92 = .ok (.aload_n 0, 1) := by decide +kernel
theorem dX12_rule_93 : decode cX12_rule 93 = .ok (.invokevirtual 346, 3) := by decide +kernel
theorem dX12_rule_96 : decode cX12_rule 96 = .ok (.ifCond .lt 7, 3) := by decide +kernel
theorem dX12_rule_99 : decode cX12_rule 99 = .ok (.iconst 3, 1) := by decide +kernel
theorem dX12_rule_100 : decode cX12_rule 100 = .ok (.goto 4, 3) := by decide +kernel
theorem dX12_rule_103 : decode cX12_rule 103 = .ok (.iconst 1, 1) := by decide +kernel
theorem dX12_rule_104 : decode cX12_rule 104 = .ok (.aload_n 0, 1) := by decide +kernel
theorem dX12_rule_105 : decode cX12_rule 105 = .ok (.getfield 232, 3) := by decide +kernel
theorem dX12_rule_108 : decode cX12_rule 108 = .ok (.invokevirtual 300, 3) := by decide +kernel
theorem dX12_rule_111 : decode cX12_rule 111 = .ok (.goto (-44), 3) := by decide +kernel
theorem dX12_rule_114 : decode cX12_rule 114 = .ok (.aload_n 0, 1) := by decide +kernel
theorem dX12_rule_115 : decode cX12_rule 115 = .ok (.invokevirtual 358, 3) := by decide +kernel
theorem dX12_rule_118 : decode cX12_rule 118 = .ok (.iinc 2 1, 3) := by decide +kernel
theorem dX12_rule_121 : decode cX12_rule 121 = .ok (.aload_n 0, 1) := by decide +kernel
theorem dX12_rule_122 : decode cX12_rule 122 = .ok (.invokevirtual 242, 3) := by decide +kernel
theorem dX12_rule_125 : decode cX12_rule 125 = .ok (.goto (-58), 3) := by decide +kernel
theorem dX12_rule_128 : decode cX12_rule 128 = .ok (.aload_n 0, 1) := by decide +kernel
theorem dX12_rule_129 : decode cX12_rule 129 = .ok (.getfield 239, 3) := by decide +kernel
theorem dX12_rule_132 : decode cX12_rule 132 = .ok (.ifCond .le 11, 3) := by decide +kernel
theorem dX12_rule_135 : decode cX12_rule 135 = .ok (.aload_n 0, 1) := by decide +kernel
theorem dX12_rule_136 : decode cX12_rule 136 = .ok (.getfield 239, 3) := by decide +kernel
theorem dX12_rule_139 : decode cX12_rule 139 = .ok (.bipush 10, 2) := by decide +kernel
theorem dX12_rule_141 : decode cX12_rule 141 = .ok (.isub, 1) := by decide +kernel
theorem dX12_rule_142 : decode cX12_rule 142 = .ok (.ireturn, 1) := by decide +kernel
theorem dX12_rule_143 : decode cX12_rule 143 = .ok (.aload_n 0, 1) := by decide +kernel
theorem dX12_rule_144 : decode cX12_rule 144 = .ok (.iload_n 2, 1) := by decide +kernel
theorem dX12_rule_145 : decode cX12_rule 145 = .ok (.putfield 361, 3) := by decide +kernel
theorem dX12_rule_148 : decode cX12_rule 148 = .ok (.iconst 0, 1) := by decide +kernel
theorem dX12_rule_149 : decode cX12_rule 149 = .ok (.istore_n 3, 1) := by decide +kernel
theorem dX12_rule_150 : decode cX12_rule 150 = .ok (.iload_n 3, 1) := by decide +kernel
theorem dX12_rule_151 : decode cX12_rule 151 = .ok (.bipush 15, 2) := by decide +kernel
theorem dX12_rule_153 : decode cX12_rule 153 = .ok (.if_icmp .ge 21, 3) := by decide +kernel
theorem dX12_rule_156 : decode cX12_rule 156 = .ok (.aload_n 0, 1) := by decide +kernel
theorem dX12_rule_157 : decode cX12_rule 157 = .ok (.getfield 21, 3) := by decide +kernel
theorem dX12_rule_160 : decode cX12_rule 160 = .ok (.iload_n 3, 1) := by decide +kernel
theorem dX12_rule_161 : decode cX12_rule 161 = .ok (.aload_n 0, 1) := by decide +kernel
theorem dX12_rule_162 : decode cX12_rule 162 = .ok (.getfield 24, 3) := by decide +kernel
theorem dX12_rule_165 : decode cX12_rule 165 = .ok (.iload_n 3, 1) := by decide +kernel
theorem dX12_rule_166 : decode cX12_rule 166 = .ok (.iaload, 1) := by decide +kernel
theorem dX12_rule_167 : decode cX12_rule 167 = .ok (.iastore, 1) := by decide +kernel
theorem dX12_rule_168 : decode cX12_rule 168 = .ok (.iinc 3 1, 3) := by decide +kernel
theorem dX12_rule_171 : decode cX12_rule 171 = .ok (.goto (-21), 3) := by decide +kernel
theorem dX12_rule_174 : decode cX12_rule 174 = .ok (.iconst 0, 1) := by decide +kernel
theorem dX12_rule_175 : decode cX12_rule 175 = .ok (.istore_n 3, 1) := by decide +kernel
theorem dX12_rule_176 : decode cX12_rule 176 = .ok (.iload_n 3, 1) := by decide +kernel
theorem dX12_rule_177 : decode cX12_rule 177 = .ok (.iconst 4, 1) := by decide +kernel
theorem dX12_rule_178 : decode cX12_rule 178 = .ok (.if_icmp .ge 21, 3) := by decide +kernel
theorem dX12_rule_181 : decode cX12_rule 181 = .ok (.aload_n 0, 1) := by decide +kernel
theorem dX12_rule_182 : decode cX12_rule 182 = .ok (.getfield 27, 3) := by decide +kernel
theorem dX12_rule_185 : decode cX12_rule 185 = .ok (.iload_n 3, 1) := by decide +kernel
theorem dX12_rule_186 : decode cX12_rule 186 = .ok (.aload_n 0, 1) := by decide +kernel
theorem dX12_rule_187 : decode cX12_rule 187 = .ok (.getfield 30, 3) := by decide +kernel
theorem dX12_rule_190 : decode cX12_rule 190 = .ok (.iload_n 3, 1) := by decide +kernel
theorem dX12_rule_191 : decode cX12_rule 191 = .ok (.iaload, 1) := by decide +kernel
theorem dX12_rule_192 : decode cX12_rule 192 = .ok (.iastore, 1) := by decide +kernel
theorem dX12_rule_193 : decode cX12_rule 193 = .ok (.iinc 3 1, 3) := by decide +kernel
theorem dX12_rule_196 : decode cX12_rule 196 = .ok (.goto (-20), 3) := by decide +kernel
theorem dX12_rule_199 : decode cX12_rule 199 = .ok (.iconst 0, 1) := by decide +kernel
theorem dX12_rule_200 : decode cX12_rule 200 = .ok (.istore_n 3, 1) := by decide +kernel
theorem dX12_rule_201 : decode cX12_rule 201 = .ok (.iload_n 3, 1) := by decide +kernel
theorem dX12_rule_202 : decode cX12_rule 202 = .ok (.aload_n 0, 1) := by decide +kernel
theorem dX12_rule_203 : decode cX12_rule 203 = .ok (.getfield 305, 3) := by decide +kernel
theorem dX12_rule_206 : decode cX12_rule 206 = .ok (.if_icmp .ge 33, 3) := by decide +kernel
theorem dX12_rule_209 : decode cX12_rule 209 = .ok (.aload_n 0, 1) := by decide +kernel
theorem dX12_rule_210 : decode cX12_rule 210 = .ok (.getfield 33, 3) := by decide +kernel
theorem dX12_rule_213 : decode cX12_rule 213 = .ok (.iload_n 3, 1) := by decide +kernel
theorem dX12_rule_214 : decode cX12_rule 214 = .ok (.aload_n 0, 1) := by decide +kernel
theorem dX12_rule_215 : decode cX12_rule 215 = .ok (.getfield 39, 3) := by decide +kernel
theorem dX12_rule_218 : decode cX12_rule 218 = .ok (.iload_n 3, 1) := by decide +kernel
theorem dX12_rule_219 : decode cX12_rule 219 = .ok (.iaload, 1) := by decide +kernel
theorem dX12_rule_220 : decode cX12_rule 220 = .ok (.iastore, 1) := by decide +kernel
theorem dX12_rule_221 : decode cX12_rule 221 = .ok (.aload_n 0, 1) := by decide +kernel
theorem dX12_rule_222 : decode cX12_rule 222 = .ok (.getfield 36, 3) := by decide +kernel
theorem dX12_rule_225 : decode cX12_rule 225 = .ok (.iload_n 3, 1) := by decide +kernel
theorem dX12_rule_226 : decode cX12_rule 226 = .ok (.aload_n 0, 1) := by decide +kernel
theorem dX12_rule_227 : decode cX12_rule 227 = .ok (.getfield 42, 3) := by decide +kernel
theorem dX12_rule_230 : decode cX12_rule 230 = .ok (.iload_n 3, 1) := by decide +kernel
theorem dX12_rule_231 : decode cX12_rule 231 = .ok (.iaload, 1) := by decide +kernel
theorem dX12_rule_232 : decode cX12_rule 232 = .ok (.iastore, 1) := by decide +kernel
theorem dX12_rule_233 : decode cX12_rule 233 = .ok (.iinc 3 1, 3) := by decide +kernel
theorem dX12_rule_236 : decode cX12_rule 236 = .ok (.goto (-35), 3) := by decide +kernel
theorem dX12_rule_239 : decode cX12_rule 239 = .ok (.iload_n 2, 1) := by decide +kernel
theorem dX12_rule_240 : decode cX12_rule 240 = .ok (.ireturn, 1) := by decide +kernel
theorem dX12_fault_0 : decode cX12_fault 0 = .ok (.aload_n 0, 1) := by decide +kernel
theorem dX12_fault_1 : decode cX12_fault 1 = .ok (.iconst 0, 1) := by decide +kernel
theorem dX12_fault_2 : decode cX12_fault 2 = .ok (.putfield 199, 3) := by decide +kernel
theorem dX12_fault_5 : decode cX12_fault 5 = .ok (.aload_n 0, 1) := by decide +kernel
theorem dX12_fault_6 : decode cX12_fault 6 = .ok (.getfield 17, 3) := by decide +kernel
theorem dX12_fault_9 : decode cX12_fault 9 = .ok (.ireturn, 1) := by decide +kernel
theorem dX12_holds_0 : decode cX12_holds 0 = .ok (.aload_n 0, 1) := by decide +kernel
theorem dX12_holds_1 : decode cX12_holds 1 = .ok (.getfield 27, 3) := by decide +kernel
theorem dX12_holds_4 : decode cX12_holds 4 = .ok (.iload_n 1, 1) := by decide +kernel
theorem dX12_holds_5 : decode cX12_holds 5 = .ok (.iaload, 1) := by decide +kernel
theorem dX12_holds_6 : decode cX12_holds 6 = .ok (.ifCond .ge 5, 3) := by decide +kernel
theorem dX12_holds_9 : decode cX12_holds 9 = .ok (.iconst 1, 1) := by decide +kernel
theorem dX12_holds_10 : decode cX12_holds 10 = .ok (.ireturn, 1) := by decide +kernel
theorem dX12_holds_11 : decode cX12_holds 11 = .ok (.iconst 0, 1) := by decide +kernel
theorem dX12_holds_12 : decode cX12_holds 12 = .ok (.istore 5, 2) := by decide +kernel
theorem dX12_holds_14 : decode cX12_holds 14 = .ok (.aload_n 0, 1) := by decide +kernel
theorem dX12_holds_15 : decode cX12_holds 15 = .ok (.getfield 27, 3) := by decide +kernel
theorem dX12_holds_18 : decode cX12_holds 18 = .ok (.iload_n 1, 1) := by decide +kernel
theorem dX12_holds_19 : decode cX12_holds 19 = .ok (.iaload, 1) := by decide +kernel
theorem dX12_holds_20 : decode cX12_holds 20 = .ok (.istore 6, 2) := by decide +kernel
theorem dX12_holds_22 : decode cX12_holds 22 = .ok (.aload_n 0, 1) := by decide +kernel
theorem dX12_holds_23 : decode cX12_holds 23 = .ok (.getfield 33, 3) := by decide +kernel
theorem dX12_holds_26 : decode cX12_holds 26 = .ok (.iload 6, 2) := by decide +kernel
theorem dX12_holds_28 : decode cX12_holds 28 = .ok (.iaload, 1) := by decide +kernel
theorem dX12_holds_29 : decode cX12_holds 29 = .ok (.ifCond .eq 231, 3) := by decide +kernel
theorem dX12_holds_32 : decode cX12_holds 32 = .ok (.aload_n 0, 1) := by decide +kernel
theorem dX12_holds_33 : decode cX12_holds 33 = .ok (.getfield 33, 3) := by decide +kernel
theorem dX12_holds_36 : decode cX12_holds 36 = .ok (.iload 6, 2) := by decide +kernel
theorem dX12_holds_38 : decode cX12_holds 38 = .ok (.iaload, 1) := by decide +kernel
theorem dX12_holds_39 : decode cX12_holds 39 = .ok (.istore 7, 2) := by decide +kernel
theorem dX12_holds_41 : decode cX12_holds 41 = .ok (.iload 7, 2) := by decide +kernel
theorem dX12_holds_43 : decode cX12_holds 43 = .ok (.iconst 1, 1) := by decide +kernel
theorem dX12_holds_44 : decode cX12_holds 44 = .ok (.if_icmp .ne 32, 3) := by decide +kernel
theorem dX12_holds_47 : decode cX12_holds 47 = .ok (.aload_n 0, 1) := by decide +kernel
theorem dX12_holds_48 : decode cX12_holds 48 = .ok (.getfield 45, 3) := by decide +kernel
theorem dX12_holds_51 : decode cX12_holds 51 = .ok (.iload 5, 2) := by decide +kernel
theorem dX12_holds_53 : decode cX12_holds 53 = .ok (.iconst 1, 1) := by decide +kernel
theorem dX12_holds_54 : decode cX12_holds 54 = .ok (.isub, 1) := by decide +kernel
theorem dX12_holds_55 : decode cX12_holds 55 = .ok (.aload_n 0, 1) := by decide +kernel
theorem dX12_holds_56 : decode cX12_holds 56 = .ok (.getfield 45, 3) := by decide +kernel
theorem dX12_holds_59 : decode cX12_holds 59 = .ok (.iload 5, 2) := by decide +kernel
theorem dX12_holds_61 : decode cX12_holds 61 = .ok (.iconst 1, 1) := by decide +kernel
theorem dX12_holds_62 : decode cX12_holds 62 = .ok (.isub, 1) := by decide +kernel
theorem dX12_holds_63 : decode cX12_holds 63 = .ok (.baload, 1) := by decide +kernel
theorem dX12_holds_64 : decode cX12_holds 64 = .ok (.ifCond .ne 7, 3) := by decide +kernel
theorem dX12_holds_67 : decode cX12_holds 67 = .ok (.iconst 1, 1) := by decide +kernel
theorem dX12_holds_68 : decode cX12_holds 68 = .ok (.goto 4, 3) := by decide +kernel
theorem dX12_holds_71 : decode cX12_holds 71 = .ok (.iconst 0, 1) := by decide +kernel
theorem dX12_holds_72 : decode cX12_holds 72 = .ok (.bastore, 1) := by decide +kernel
theorem dX12_holds_73 : decode cX12_holds 73 = .ok (.goto 181, 3) := by decide +kernel
theorem dX12_holds_76 : decode cX12_holds 76 = .ok (.iload 7, 2) := by decide +kernel
theorem dX12_holds_78 : decode cX12_holds 78 = .ok (.iconst 2, 1) := by decide +kernel
theorem dX12_holds_79 : decode cX12_holds 79 = .ok (.if_icmp .eq 9, 3) := by decide +kernel
theorem dX12_holds_82 : decode cX12_holds 82 = .ok (.iload 7, 2) := by decide +kernel
theorem dX12_holds_84 : decode cX12_holds 84 = .ok (.iconst 3, 1) := by decide +kernel
theorem dX12_holds_85 : decode cX12_holds 85 = .ok (.if_icmp .ne 81, 3) := by decide +kernel
theorem dX12_holds_88 : decode cX12_holds 88 = .ok (.iinc 5 (-1), 3) := by decide +kernel
theorem dX12_holds_91 : decode cX12_holds 91 = .ok (.aload_n 0, 1) := by decide +kernel
theorem dX12_holds_92 : decode cX12_holds 92 = .ok (.getfield 45, 3) := by decide +kernel
theorem dX12_holds_95 : decode cX12_holds 95 = .ok (.iload 5, 2) := by decide +kernel
theorem dX12_holds_97 : decode cX12_holds 97 = .ok (.iconst 1, 1) := by decide +kernel
theorem dX12_holds_98 : decode cX12_holds 98 = .ok (.isub, 1) := by decide +kernel
theorem dX12_holds_99 : decode cX12_holds 99 = .ok (.iload 7, 2) := by decide +kernel
theorem dX12_holds_101 : decode cX12_holds 101 = .ok (.iconst 2, 1) := by decide +kernel
theorem dX12_holds_102 : decode cX12_holds 102 = .ok (.if_icmp .ne 33, 3) := by decide +kernel
theorem dX12_holds_105 : decode cX12_holds 105 = .ok (.aload_n 0, 1) := by decide +kernel
theorem dX12_holds_106 : decode cX12_holds 106 = .ok (.getfield 45, 3) := by decide +kernel
theorem dX12_holds_109 : decode cX12_holds 109 = .ok (.iload 5, 2) := by decide +kernel
theorem dX12_holds_111 : decode cX12_holds 111 = .ok (.iconst 1, 1) := by decide +kernel
theorem dX12_holds_112 : decode cX12_holds 112 = .ok (.isub, 1) := by decide +kernel
theorem dX12_holds_113 : decode cX12_holds 113 = .ok (.baload, 1) := by decide +kernel
theorem dX12_holds_114 : decode cX12_holds 114 = .ok (.ifCond .eq 17, 3) := by decide +kernel
theorem dX12_holds_117 : decode cX12_holds 117 = .ok (.aload_n 0, 1) := by decide +kernel
theorem dX12_holds_118 : decode cX12_holds 118 = .ok (.getfield 45, 3) := by decide +kernel
theorem dX12_holds_121 : decode cX12_holds 121 = .ok (.iload 5, 2) := by decide +kernel
theorem dX12_holds_123 : decode cX12_holds 123 = .ok (.baload, 1) := by decide +kernel
theorem dX12_holds_124 : decode cX12_holds 124 = .ok (.ifCond .eq 7, 3) := by decide +kernel
theorem dX12_holds_127 : decode cX12_holds 127 = .ok (.iconst 1, 1) := by decide +kernel
theorem dX12_holds_128 : decode cX12_holds 128 = .ok (.goto 34, 3) := by decide +kernel
theorem dX12_holds_131 : decode cX12_holds 131 = .ok (.iconst 0, 1) := by decide +kernel
theorem dX12_holds_132 : decode cX12_holds 132 = .ok (.goto 30, 3) := by decide +kernel
theorem dX12_holds_135 : decode cX12_holds 135 = .ok (.aload_n 0, 1) := by decide +kernel
theorem dX12_holds_136 : decode cX12_holds 136 = .ok (.getfield 45, 3) := by decide +kernel
theorem dX12_holds_139 : decode cX12_holds 139 = .ok (.iload 5, 2) := by decide +kernel
theorem dX12_holds_141 : decode cX12_holds 141 = .ok (.iconst 1, 1) := by decide +kernel
theorem dX12_holds_142 : decode cX12_holds 142 = .ok (.isub, 1) := by decide +kernel
theorem dX12_holds_143 : decode cX12_holds 143 = .ok (.baload, 1) := by decide +kernel
theorem dX12_holds_144 : decode cX12_holds 144 = .ok (.ifCond .ne 13, 3) := by decide +kernel
theorem dX12_holds_147 : decode cX12_holds 147 = .ok (.aload_n 0, 1) := by decide +kernel
theorem dX12_holds_148 : decode cX12_holds 148 = .ok (.getfield 45, 3) := by decide +kernel
theorem dX12_holds_151 : decode cX12_holds 151 = .ok (.iload 5, 2) := by decide +kernel
theorem dX12_holds_153 : decode cX12_holds 153 = .ok (.baload, 1) := by decide +kernel
theorem dX12_holds_154 : decode cX12_holds 154 = .ok (.ifCond .eq 7, 3) := by decide +kernel
theorem dX12_holds_157 : decode cX12_holds 157 = .ok (.iconst 1, 1) := by decide +kernel
theorem dX12_holds_158 : decode cX12_holds 158 = .ok (.goto 4, 3) := by decide +kernel
theorem dX12_holds_161 : decode cX12_holds 161 = .ok (.iconst 0, 1) := by decide +kernel
theorem dX12_holds_162 : decode cX12_holds 162 = .ok (.bastore, 1) := by decide +kernel
theorem dX12_holds_163 : decode cX12_holds 163 = .ok (.goto 91, 3) := by decide +kernel
theorem dX12_holds_166 : decode cX12_holds 166 = .ok (.aload_n 0, 1) := by decide +kernel
theorem dX12_holds_167 : decode cX12_holds 167 = .ok (.getfield 36, 3) := by decide +kernel
theorem dX12_holds_170 : decode cX12_holds 170 = .ok (.iload 6, 2) := by decide +kernel
theorem dX12_holds_172 : decode cX12_holds 172 = .ok (.iaload, 1) := by decide +kernel
theorem dX12_holds_173 : decode cX12_holds 173 = .ok (.iconst 3, 1) := by decide +kernel
theorem dX12_holds_174 : decode cX12_holds 174 = .ok (.irem, 1) := by decide +kernel
theorem dX12_holds_175 : decode cX12_holds 175 = .ok (.istore 8, 2) := by decide +kernel
theorem dX12_holds_177 : decode cX12_holds 177 = .ok (.aload_n 0, 1) := by decide +kernel
theorem dX12_holds_178 : decode cX12_holds 178 = .ok (.getfield 36, 3) := by decide +kernel
theorem dX12_holds_181 : decode cX12_holds 181 = .ok (.iload 6, 2) := by decide +kernel
theorem dX12_holds_183 : decode cX12_holds 183 = .ok (.iaload, 1) := by decide +kernel
theorem dX12_holds_184 : decode cX12_holds 184 = .ok (.iconst 3, 1) := by decide +kernel
theorem dX12_holds_185 : decode cX12_holds 185 = .ok (.idiv, 1) := by decide +kernel
theorem dX12_holds_186 : decode cX12_holds 186 = .ok (.istore 9, 2) := by decide +kernel
theorem dX12_holds_188 : decode cX12_holds 188 = .ok (.iload 8, 2) := by decide +kernel
theorem dX12_holds_190 : decode cX12_holds 190 = .ok (.ifCond .ne 7, 3) := by decide +kernel
theorem dX12_holds_193 : decode cX12_holds 193 = .ok (.iload_n 2, 1) := by decide +kernel
theorem dX12_holds_194 : decode cX12_holds 194 = .ok (.goto 15, 3) := by decide +kernel
theorem dX12_holds_197 : decode cX12_holds 197 = .ok (.iload 8, 2) := by decide +kernel
theorem dX12_holds_199 : decode cX12_holds 199 = .ok (.iconst 1, 1) := by decide +kernel
theorem dX12_holds_200 : decode cX12_holds 200 = .ok (.if_icmp .ne 7, 3) := by decide +kernel
theorem dX12_holds_203 : decode cX12_holds 203 = .ok (.iload_n 3, 1) := by decide +kernel
theorem dX12_holds_204 : decode cX12_holds 204 = .ok (.goto 5, 3) := by decide +kernel
theorem dX12_holds_207 : decode cX12_holds 207 = .ok (.iload 4, 2) := by decide +kernel
theorem dX12_holds_209 : decode cX12_holds 209 = .ok (.istore 10, 2) := by decide +kernel
theorem dX12_holds_211 : decode cX12_holds 211 = .ok (.aload_n 0, 1) := by decide +kernel
theorem dX12_holds_212 : decode cX12_holds 212 = .ok (.getfield 45, 3) := by decide +kernel
theorem dX12_holds_215 : decode cX12_holds 215 = .ok (.iload 5, 2) := by decide +kernel
theorem dX12_holds_217 : decode cX12_holds 217 = .ok (.iload 7, 2) := by decide +kernel
theorem dX12_holds_219 : decode cX12_holds 219 = .ok (.iconst 4, 1) := by decide +kernel
theorem dX12_holds_220 : decode cX12_holds 220 = .ok (.if_icmp .ne 18, 3) := by decide +kernel
theorem dX12_holds_223 : decode cX12_holds 223 = .ok (.iload 10, 2) := by decide +kernel
theorem dX12_holds_225 : decode cX12_holds 225 = .ok (.iload 9, 2) := by decide +kernel
theorem dX12_holds_227 : decode cX12_holds 227 = .ok (.if_icmp .ge 7, 3) := by decide +kernel
theorem dX12_holds_230 : decode cX12_holds 230 = .ok (.iconst 1, 1) := by decide +kernel
theorem dX12_holds_231 : decode cX12_holds 231 = .ok (.goto 19, 3) := by decide +kernel
theorem dX12_holds_234 : decode cX12_holds 234 = .ok (.iconst 0, 1) := by decide +kernel
theorem dX12_holds_235 : decode cX12_holds 235 = .ok (.goto 15, 3) := by decide +kernel
theorem dX12_holds_238 : decode cX12_holds 238 = .ok (.iload 10, 2) := by decide +kernel
theorem dX12_holds_240 : decode cX12_holds 240 = .ok (.iload 9, 2) := by decide +kernel
theorem dX12_holds_242 : decode cX12_holds 242 = .ok (.if_icmp .le 7, 3) := by decide +kernel
theorem dX12_holds_245 : decode cX12_holds 245 = .ok (.iconst 1, 1) := by decide +kernel
theorem dX12_holds_246 : decode cX12_holds 246 = .ok (.goto 4, 3) := by decide +kernel
theorem dX12_holds_249 : decode cX12_holds 249 = .ok (.iconst 0, 1) := by decide +kernel
theorem dX12_holds_250 : decode cX12_holds 250 = .ok (.bastore, 1) := by decide +kernel
theorem dX12_holds_251 : decode cX12_holds 251 = .ok (.iinc 5 1, 3) := by decide +kernel
theorem dX12_holds_254 : decode cX12_holds 254 = .ok (.iinc 6 1, 3) := by decide +kernel
theorem dX12_holds_257 : decode cX12_holds 257 = .ok (.goto (-235), 3) := by decide +kernel
theorem dX12_holds_260 : decode cX12_holds 260 = .ok (.aload_n 0, 1) := by decide +kernel
theorem dX12_holds_261 : decode cX12_holds 261 = .ok (.getfield 45, 3) := by decide +kernel
theorem dX12_holds_264 : decode cX12_holds 264 = .ok (.iconst 0, 1) := by decide +kernel
theorem dX12_holds_265 : decode cX12_holds 265 = .ok (.baload, 1) := by decide +kernel
theorem dX12_holds_266 : decode cX12_holds 266 = .ok (.ireturn, 1) := by decide +kernel
theorem dX12_counted_0 : decode cX12_counted 0 = .ok (.aload_n 0, 1) := by decide +kernel
theorem dX12_counted_1 : decode cX12_counted 1 = .ok (.iconst 0, 1) := by decide +kernel
theorem dX12_counted_2 : decode cX12_counted 2 = .ok (.putfield 199, 3) := by decide +kernel
theorem dX12_counted_5 : decode cX12_counted 5 = .ok (.aload_n 0, 1) := by decide +kernel
theorem dX12_counted_6 : decode cX12_counted 6 = .ok (.iload_n 1, 1) := by decide +kernel
theorem dX12_counted_7 : decode cX12_counted 7 = .ok (.ifCond .lt 20, 3) := by decide +kernel
theorem dX12_counted_10 : decode cX12_counted 10 = .ok (.iload_n 1, 1) := by decide +kernel
theorem dX12_counted_11 : decode cX12_counted 11 = .ok (.ldc 225, 2) := by decide +kernel
theorem dX12_counted_13 : decode cX12_counted 13 = .ok (.if_icmp .gt 14, 3) := by decide +kernel
theorem dX12_counted_16 : decode cX12_counted 16 = .ok (.iload_n 2, 1) := by decide +kernel
theorem dX12_counted_17 : decode cX12_counted 17 = .ok (.ifCond .lt 10, 3) := by decide +kernel
theorem dX12_counted_20 : decode cX12_counted 20 = .ok (.iload_n 2, 1) := by decide +kernel
theorem dX12_counted_21 : decode cX12_counted 21 = .ok (.sipush 400, 3) := by decide +kernel
theorem dX12_counted_24 : decode cX12_counted 24 = .ok (.if_icmp .le 7, 3) := by decide +kernel
theorem dX12_counted_27 : decode cX12_counted 27 = .ok (.iconst 1, 1) := by decide +kernel
theorem dX12_counted_28 : decode cX12_counted 28 = .ok (.goto 4, 3) := by decide +kernel
theorem dX12_counted_31 : decode cX12_counted 31 = .ok (.iconst 0, 1) := by decide +kernel
theorem dX12_counted_32 : decode cX12_counted 32 = .ok (.iconst 1, 1) := by decide +kernel
theorem dX12_counted_33 : decode cX12_counted 33 = .ok (.invokevirtual 205, 3) := by decide +kernel
theorem dX12_counted_36 : decode cX12_counted 36 = .ok (.ifCond .ne 31, 3) := by decide +kernel
theorem dX12_counted_39 : decode cX12_counted 39 = .ok (.aload_n 0, 1) := by decide +kernel
theorem dX12_counted_40 : decode cX12_counted 40 = .ok (.aload_n 0, 1) := by decide +kernel
theorem dX12_counted_41 : decode cX12_counted 41 = .ok (.getfield 21, 3) := by decide +kernel
theorem dX12_counted_44 : decode cX12_counted 44 = .ok (.iconst 5, 1) := by decide +kernel
theorem dX12_counted_45 : decode cX12_counted 45 = .ok (.iaload, 1) := by decide +kernel
theorem dX12_counted_46 : decode cX12_counted 46 = .ok (.bipush 127, 2) := by decide +kernel
theorem dX12_counted_48 : decode cX12_counted 48 = .ok (.if_icmp .ne 11, 3) := by decide +kernel
theorem dX12_counted_51 : decode cX12_counted 51 = .ok (.iload_n 2, 1) := by decide +kernel
theorem dX12_counted_52 : decode cX12_counted 52 = .ok (.ifCond .le 7, 3) := by decide +kernel
theorem dX12_counted_55 : decode cX12_counted 55 = .ok (.iconst 1, 1) := by decide +kernel
theorem dX12_counted_56 : decode cX12_counted 56 = .ok (.goto 4, 3) := by decide +kernel
theorem dX12_counted_59 : decode cX12_counted 59 = .ok (.iconst 0, 1) := by decide +kernel
theorem dX12_counted_60 : decode cX12_counted 60 = .ok (.iconst 2, 1) := by decide +kernel
theorem dX12_counted_61 : decode cX12_counted 61 = .ok (.invokevirtual 205, 3) := by decide +kernel
theorem dX12_counted_64 : decode cX12_counted 64 = .ok (.ifCond .eq 5, 3) := by decide +kernel
theorem dX12_counted_67 : decode cX12_counted 67 = .ok (.iconst 0, 1) := by decide +kernel
theorem dX12_counted_68 : decode cX12_counted 68 = .ok (.ireturn, 1) := by decide +kernel
theorem dX12_counted_69 : decode cX12_counted 69 = .ok (.iload_n 1, 1) := by decide +kernel
theorem dX12_counted_70 : decode cX12_counted 70 = .ok (.iload_n 2, 1) := by decide +kernel
theorem dX12_counted_71 : decode cX12_counted 71 = .ok (.aload_n 0, 1) := by decide +kernel
theorem dX12_counted_72 : decode cX12_counted 72 = .ok (.getfield 21, 3) := by decide +kernel
theorem dX12_counted_75 : decode cX12_counted 75 = .ok (.iconst 5, 1) := by decide +kernel
theorem dX12_counted_76 : decode cX12_counted 76 = .ok (.iaload, 1) := by decide +kernel
theorem dX12_counted_77 : decode cX12_counted 77 = .ok (.invokestatic 364, 3) := by decide +kernel
theorem dX12_counted_80 : decode cX12_counted 80 = .ok (.ireturn, 1) := by decide +kernel
theorem dX12_work_0 : decode cX12_work 0 = .ok (.aload_n 0, 1) := by decide +kernel
theorem dX12_work_1 : decode cX12_work 1 = .ok (.iconst 0, 1) := by decide +kernel
theorem dX12_work_2 : decode cX12_work 2 = .ok (.putfield 199, 3) := by decide +kernel
theorem dX12_work_5 : decode cX12_work 5 = .ok (.iload_n 2, 1) := by decide +kernel
theorem dX12_work_6 : decode cX12_work 6 = .ok (.invokestatic 219, 3) := by decide +kernel
theorem dX12_work_9 : decode cX12_work 9 = .ok (.ifCond .eq 51, 3) := by decide +kernel
theorem dX12_work_12 : decode cX12_work 12 = .ok (.iload_n 3, 1) := by decide +kernel
theorem dX12_work_13 : decode cX12_work 13 = .ok (.ifCond .lt 47, 3) := by decide +kernel
theorem dX12_work_16 : decode cX12_work 16 = .ok (.iload_n 3, 1) := by decide +kernel
theorem dX12_work_17 : decode cX12_work 17 = .ok (.iconst 4, 1) := by decide +kernel
theorem dX12_work_18 : decode cX12_work 18 = .ok (.if_icmp .ge 42, 3) := by decide +kernel
theorem dX12_work_21 : decode cX12_work 21 = .ok (.iload 4, 2) := by decide +kernel
theorem dX12_work_23 : decode cX12_work 23 = .ok (.ifCond .lt 37, 3) := by decide +kernel
theorem dX12_work_26 : decode cX12_work 26 = .ok (.iload 4, 2) := by decide +kernel
theorem dX12_work_28 : decode cX12_work 28 = .ok (.sipush 9999, 3) := by decide +kernel
theorem dX12_work_31 : decode cX12_work 31 = .ok (.if_icmp .gt 29, 3) := by decide +kernel
theorem dX12_work_34 : decode cX12_work 34 = .ok (.iload 5, 2) := by decide +kernel
theorem dX12_work_36 : decode cX12_work 36 = .ok (.ifCond .lt 24, 3) := by decide +kernel
theorem dX12_work_39 : decode cX12_work 39 = .ok (.iload 5, 2) := by decide +kernel
theorem dX12_work_41 : decode cX12_work 41 = .ok (.sipush 9999, 3) := by decide +kernel
theorem dX12_work_44 : decode cX12_work 44 = .ok (.if_icmp .gt 16, 3) := by decide +kernel
theorem dX12_work_47 : decode cX12_work 47 = .ok (.iload 6, 2) := by decide +kernel
theorem dX12_work_49 : decode cX12_work 49 = .ok (.ifCond .lt 11, 3) := by decide +kernel
theorem dX12_work_52 : decode cX12_work 52 = .ok (.iload 6, 2) := by decide +kernel
theorem dX12_work_54 : decode cX12_work 54 = .ok (.sipush 9999, 3) := by decide +kernel
theorem dX12_work_57 : decode cX12_work 57 = .ok (.if_icmp .le 7, 3) := by decide +kernel
theorem dX12_work_60 : decode cX12_work 60 = .ok (.iconst 1, 1) := by decide +kernel
theorem dX12_work_61 : decode cX12_work 61 = .ok (.goto 4, 3) := by decide +kernel
theorem dX12_work_64 : decode cX12_work 64 = .ok (.iconst 0, 1) := by decide +kernel
theorem dX12_work_65 : decode cX12_work 65 = .ok (.istore 7, 2) := by decide +kernel
theorem dX12_work_67 : decode cX12_work 67 = .ok (.aload_n 0, 1) := by decide +kernel
theorem dX12_work_68 : decode cX12_work 68 = .ok (.aload_n 0, 1) := by decide +kernel
theorem dX12_work_69 : decode cX12_work 69 = .ok (.iload_n 1, 1) := by decide +kernel
theorem dX12_work_70 : decode cX12_work 70 = .ok (.invokevirtual 216, 3) := by decide +kernel
theorem dX12_work_73 : decode cX12_work 73 = .ok (.ifCond .ne 7, 3) := by decide +kernel
theorem dX12_work_76 : decode cX12_work 76 = .ok (.iconst 1, 1) := by decide +kernel
theorem dX12_work_77 : decode cX12_work 77 = .ok (.goto 4, 3) := by decide +kernel
theorem dX12_work_80 : decode cX12_work 80 = .ok (.iconst 0, 1) := by decide +kernel
theorem dX12_work_81 : decode cX12_work 81 = .ok (.iconst 1, 1) := by decide +kernel
theorem dX12_work_82 : decode cX12_work 82 = .ok (.invokevirtual 205, 3) := by decide +kernel
theorem dX12_work_85 : decode cX12_work 85 = .ok (.ifCond .ne 46, 3) := by decide +kernel
theorem dX12_work_88 : decode cX12_work 88 = .ok (.aload_n 0, 1) := by decide +kernel
theorem dX12_work_89 : decode cX12_work 89 = .ok (.iload 7, 2) := by decide +kernel
theorem dX12_work_91 : decode cX12_work 91 = .ok (.iconst 2, 1) := by decide +kernel
theorem dX12_work_92 : decode cX12_work 92 = .ok (.invokevirtual 205, 3) := by decide +kernel
theorem dX12_work_95 : decode cX12_work 95 = .ok (.ifCond .ne 36, 3) := by decide +kernel
theorem dX12_work_98 : decode cX12_work 98 = .ok (.aload_n 0, 1) := by decide +kernel
theorem dX12_work_99 : decode cX12_work 99 = .ok (.aload_n 0, 1) := by decide +kernel
theorem dX12_work_100 : decode cX12_work 100 = .ok (.getfield 368, 3) := by decide +kernel
theorem dX12_work_103 : decode cX12_work 103 = .ok (.bipush 30, 2) := by decide +kernel
theorem dX12_work_105 : decode cX12_work 105 = .ok (.if_icmp .eq 14, 3) := by decide +kernel
theorem dX12_work_108 : decode cX12_work 108 = .ok (.aload_n 0, 1) := by decide +kernel
theorem dX12_work_109 : decode cX12_work 109 = .ok (.getfield 21, 3) := by decide +kernel
theorem dX12_work_112 : decode cX12_work 112 = .ok (.iconst 5, 1) := by decide +kernel
theorem dX12_work_113 : decode cX12_work 113 = .ok (.iaload, 1) := by decide +kernel
theorem dX12_work_114 : decode cX12_work 114 = .ok (.bipush 127, 2) := by decide +kernel
theorem dX12_work_116 : decode cX12_work 116 = .ok (.if_icmp .ne 7, 3) := by decide +kernel
theorem dX12_work_119 : decode cX12_work 119 = .ok (.iconst 1, 1) := by decide +kernel
theorem dX12_work_120 : decode cX12_work 120 = .ok (.goto 4, 3) := by decide +kernel
theorem dX12_work_123 : decode cX12_work 123 = .ok (.iconst 0, 1) := by decide +kernel
theorem dX12_work_124 : decode cX12_work 124 = .ok (.iconst 3, 1) := by decide +kernel
theorem dX12_work_125 : decode cX12_work 125 = .ok (.invokevirtual 205, 3) := by decide +kernel
theorem dX12_work_128 : decode cX12_work 128 = .ok (.ifCond .eq 5, 3) := by decide +kernel
theorem dX12_work_131 : decode cX12_work 131 = .ok (.iconst 0, 1) := by decide +kernel
theorem dX12_work_132 : decode cX12_work 132 = .ok (.ireturn, 1) := by decide +kernel
theorem dX12_work_133 : decode cX12_work 133 = .ok (.aload_n 0, 1) := by decide +kernel
theorem dX12_work_134 : decode cX12_work 134 = .ok (.getfield 368, 3) := by decide +kernel
theorem dX12_work_137 : decode cX12_work 137 = .ok (.istore 8, 2) := by decide +kernel
theorem dX12_work_139 : decode cX12_work 139 = .ok (.aload_n 0, 1) := by decide +kernel
theorem dX12_work_140 : decode cX12_work 140 = .ok (.getfield 49, 3) := by decide +kernel
theorem dX12_work_143 : decode cX12_work 143 = .ok (.iload 8, 2) := by decide +kernel
theorem dX12_work_145 : decode cX12_work 145 = .ok (.iload_n 1, 1) := by decide +kernel
theorem dX12_work_146 : decode cX12_work 146 = .ok (.iastore, 1) := by decide +kernel
theorem dX12_work_147 : decode cX12_work 147 = .ok (.aload_n 0, 1) := by decide +kernel
theorem dX12_work_148 : decode cX12_work 148 = .ok (.getfield 52, 3) := by decide +kernel
theorem dX12_work_151 : decode cX12_work 151 = .ok (.iload 8, 2) := by decide +kernel
theorem dX12_work_153 : decode cX12_work 153 = .ok (.iload_n 2, 1) := by decide +kernel
theorem dX12_work_154 : decode cX12_work 154 = .ok (.iastore, 1) := by decide +kernel
theorem dX12_work_155 : decode cX12_work 155 = .ok (.aload_n 0, 1) := by decide +kernel
theorem dX12_work_156 : decode cX12_work 156 = .ok (.getfield 55, 3) := by decide +kernel
theorem dX12_work_159 : decode cX12_work 159 = .ok (.iload 8, 2) := by decide +kernel
theorem dX12_work_161 : decode cX12_work 161 = .ok (.iload_n 3, 1) := by decide +kernel
theorem dX12_work_162 : decode cX12_work 162 = .ok (.iastore, 1) := by decide +kernel
theorem dX12_work_163 : decode cX12_work 163 = .ok (.aload_n 0, 1) := by decide +kernel
theorem dX12_work_164 : decode cX12_work 164 = .ok (.getfield 58, 3) := by decide +kernel
theorem dX12_work_167 : decode cX12_work 167 = .ok (.iload 8, 2) := by decide +kernel
theorem dX12_work_169 : decode cX12_work 169 = .ok (.aload_n 0, 1) := by decide +kernel
theorem dX12_work_170 : decode cX12_work 170 = .ok (.iload_n 3, 1) := by decide +kernel
theorem dX12_work_171 : decode cX12_work 171 = .ok (.iload 4, 2) := by decide +kernel
theorem dX12_work_173 : decode cX12_work 173 = .ok (.iload 5, 2) := by decide +kernel
theorem dX12_work_175 : decode cX12_work 175 = .ok (.iload 6, 2) := by decide +kernel
theorem dX12_work_177 : decode cX12_work 177 = .ok (.invokevirtual 371, 3) := by decide +kernel
theorem dX12_work_180 : decode cX12_work 180 = .ok (.bastore, 1) := by decide +kernel
theorem dX12_work_181 : decode cX12_work 181 = .ok (.iconst 0, 1) := by decide +kernel
theorem dX12_work_182 : decode cX12_work 182 = .ok (.istore 9, 2) := by decide +kernel
theorem dX12_work_184 : decode cX12_work 184 = .ok (.iload 9, 2) := by decide +kernel
theorem dX12_work_186 : decode cX12_work 186 = .ok (.bipush 15, 2) := by decide +kernel
theorem dX12_work_188 : decode cX12_work 188 = .ok (.if_icmp .ge 29, 3) := by decide +kernel
theorem dX12_work_191 : decode cX12_work 191 = .ok (.aload_n 0, 1) := by decide +kernel
theorem dX12_work_192 : decode cX12_work 192 = .ok (.getfield 61, 3) := by decide +kernel
theorem dX12_work_195 : decode cX12_work 195 = .ok (.bipush 15, 2) := by decide +kernel
theorem dX12_work_197 : decode cX12_work 197 = .ok (.iload 8, 2) := by decide +kernel
theorem dX12_work_199 : decode cX12_work 199 = .ok (.imul, 1) := by decide +kernel
theorem dX12_work_200 : decode cX12_work 200 = .ok (.iload 9, 2) := by decide +kernel
theorem dX12_work_202 : decode cX12_work 202 = .ok (.iadd, 1) := by decide +kernel
theorem dX12_work_203 : decode cX12_work 203 = .ok (.aload_n 0, 1) := by decide +kernel
theorem dX12_work_204 : decode cX12_work 204 = .ok (.getfield 21, 3) := by decide +kernel
theorem dX12_work_207 : decode cX12_work 207 = .ok (.iload 9, 2) := by decide +kernel
theorem dX12_work_209 : decode cX12_work 209 = .ok (.iaload, 1) := by decide +kernel
theorem dX12_work_210 : decode cX12_work 210 = .ok (.iastore, 1) := by decide +kernel
theorem dX12_work_211 : decode cX12_work 211 = .ok (.iinc 9 1, 3) := by decide +kernel
theorem dX12_work_214 : decode cX12_work 214 = .ok (.goto (-30), 3) := by decide +kernel
theorem dX12_work_217 : decode cX12_work 217 = .ok (.aload_n 0, 1) := by decide +kernel
theorem dX12_work_218 : decode cX12_work 218 = .ok (.getfield 64, 3) := by decide +kernel
theorem dX12_work_221 : decode cX12_work 221 = .ok (.iload 8, 2) := by decide +kernel
theorem dX12_work_223 : decode cX12_work 223 = .ok (.iconst (-1), 1) := by decide +kernel
theorem dX12_work_224 : decode cX12_work 224 = .ok (.iastore, 1) := by decide +kernel
theorem dX12_work_225 : decode cX12_work 225 = .ok (.aload_n 0, 1) := by decide +kernel
theorem dX12_work_226 : decode cX12_work 226 = .ok (.getfield 88, 3) := by decide +kernel
theorem dX12_work_229 : decode cX12_work 229 = .ok (.iload 8, 2) := by decide +kernel
theorem dX12_work_231 : decode cX12_work 231 = .ok (.iconst (-1), 1) := by decide +kernel
theorem dX12_work_232 : decode cX12_work 232 = .ok (.iastore, 1) := by decide +kernel
theorem dX12_work_233 : decode cX12_work 233 = .ok (.aload_n 0, 1) := by decide +kernel
theorem dX12_work_234 : decode cX12_work 234 = .ok (.getfield 94, 3) := by decide +kernel
theorem dX12_work_237 : decode cX12_work 237 = .ok (.iload 8, 2) := by decide +kernel
theorem dX12_work_239 : decode cX12_work 239 = .ok (.iconst (-1), 1) := by decide +kernel
theorem dX12_work_240 : decode cX12_work 240 = .ok (.iastore, 1) := by decide +kernel
theorem dX12_work_241 : decode cX12_work 241 = .ok (.aload_n 0, 1) := by decide +kernel
theorem dX12_work_242 : decode cX12_work 242 = .ok (.getfield 97, 3) := by decide +kernel
theorem dX12_work_245 : decode cX12_work 245 = .ok (.iload 8, 2) := by decide +kernel
theorem dX12_work_247 : decode cX12_work 247 = .ok (.iconst (-1), 1) := by decide +kernel
theorem dX12_work_248 : decode cX12_work 248 = .ok (.iastore, 1) := by decide +kernel
theorem dX12_work_249 : decode cX12_work 249 = .ok (.iconst 0, 1) := by decide +kernel
theorem dX12_work_250 : decode cX12_work 250 = .ok (.istore 9, 2) := by decide +kernel
theorem dX12_work_252 : decode cX12_work 252 = .ok (.iload 9, 2) := by decide +kernel
theorem dX12_work_254 : decode cX12_work 254 = .ok (.iconst 3, 1) := by decide +kernel
theorem dX12_work_255 : decode cX12_work 255 = .ok (.if_icmp .ge 35, 3) := by decide +kernel
theorem dX12_work_258 : decode cX12_work 258 = .ok (.aload_n 0, 1) := by decide +kernel
theorem dX12_work_259 : decode cX12_work 259 = .ok (.getfield 106, 3) := by decide +kernel
theorem dX12_work_262 : decode cX12_work 262 = .ok (.iconst 3, 1) := by decide +kernel
theorem dX12_work_263 : decode cX12_work 263 = .ok (.iload 8, 2) := by decide +kernel
theorem dX12_work_265 : decode cX12_work 265 = .ok (.imul, 1) := by decide +kernel
theorem dX12_work_266 : decode cX12_work 266 = .ok (.iload 9, 2) := by decide +kernel
theorem dX12_work_268 : decode cX12_work 268 = .ok (.iadd, 1) := by decide +kernel
theorem dX12_work_269 : decode cX12_work 269 = .ok (.iconst (-1), 1) := by decide +kernel
theorem dX12_work_270 : decode cX12_work 270 = .ok (.iastore, 1) := by decide +kernel
theorem dX12_work_271 : decode cX12_work 271 = .ok (.aload_n 0, 1) := by decide +kernel
theorem dX12_work_272 : decode cX12_work 272 = .ok (.getfield 109, 3) := by decide +kernel
theorem dX12_work_275 : decode cX12_work 275 = .ok (.iconst 3, 1) := by decide +kernel
theorem dX12_work_276 : decode cX12_work 276 = .ok (.iload 8, 2) := by decide +kernel
theorem dX12_work_278 : decode cX12_work 278 = .ok (.imul, 1) := by decide +kernel
theorem dX12_work_279 : decode cX12_work 279 = .ok (.iload 9, 2) := by decide +kernel
theorem dX12_work_281 : decode cX12_work 281 = .ok (.iadd, 1) := by decide +kernel
theorem dX12_work_282 : decode cX12_work 282 = .ok (.iconst (-1), 1) := by decide +kernel
theorem dX12_work_283 : decode cX12_work 283 = .ok (.iastore, 1) := by decide +kernel
theorem dX12_work_284 : decode cX12_work 284 = .ok (.iinc 9 1, 3) := by decide +kernel
theorem dX12_work_287 : decode cX12_work 287 = .ok (.goto (-35), 3) := by decide +kernel
theorem dX12_work_290 : decode cX12_work 290 = .ok (.aload_n 0, 1) := by decide +kernel
theorem dX12_work_291 : decode cX12_work 291 = .ok (.dup, 1) := by decide +kernel
theorem dX12_work_292 : decode cX12_work 292 = .ok (.getfield 368, 3) := by decide +kernel
theorem dX12_work_295 : decode cX12_work 295 = .ok (.iconst 1, 1) := by decide +kernel
theorem dX12_work_296 : decode cX12_work 296 = .ok (.iadd, 1) := by decide +kernel
theorem dX12_work_297 : decode cX12_work 297 = .ok (.putfield 368, 3) := by decide +kernel
theorem dX12_work_300 : decode cX12_work 300 = .ok (.iload 8, 2) := by decide +kernel
theorem dX12_work_302 : decode cX12_work 302 = .ok (.ireturn, 1) := by decide +kernel
theorem dX12_isWork_0 : decode cX12_isWork 0 = .ok (.aload_n 0, 1) := by decide +kernel
theorem dX12_isWork_1 : decode cX12_isWork 1 = .ok (.iload_n 1, 1) := by decide +kernel
theorem dX12_isWork_2 : decode cX12_isWork 2 = .ok (.ifCond .lt 11, 3) := by decide +kernel
theorem dX12_isWork_5 : decode cX12_isWork 5 = .ok (.iload_n 1, 1) := by decide +kernel
theorem dX12_isWork_6 : decode cX12_isWork 6 = .ok (.aload_n 0, 1) := by decide +kernel
theorem dX12_isWork_7 : decode cX12_isWork 7 = .ok (.getfield 368, 3) := by decide +kernel
theorem dX12_isWork_10 : decode cX12_isWork 10 = .ok (.if_icmp .lt 7, 3) := by decide +kernel
theorem dX12_isWork_13 : decode cX12_isWork 13 = .ok (.iconst 1, 1) := by decide +kernel
theorem dX12_isWork_14 : decode cX12_isWork 14 = .ok (.goto 4, 3) := by decide +kernel
theorem dX12_isWork_17 : decode cX12_isWork 17 = .ok (.iconst 0, 1) := by decide +kernel
theorem dX12_isWork_18 : decode cX12_isWork 18 = .ok (.putfield 199, 3) := by decide +kernel
theorem dX12_isWork_21 : decode cX12_isWork 21 = .ok (.aload_n 0, 1) := by decide +kernel
theorem dX12_isWork_22 : decode cX12_isWork 22 = .ok (.getfield 199, 3) := by decide +kernel
theorem dX12_isWork_25 : decode cX12_isWork 25 = .ok (.ifCond .ne 7, 3) := by decide +kernel
theorem dX12_isWork_28 : decode cX12_isWork 28 = .ok (.iconst 1, 1) := by decide +kernel
theorem dX12_isWork_29 : decode cX12_isWork 29 = .ok (.goto 4, 3) := by decide +kernel
theorem dX12_isWork_32 : decode cX12_isWork 32 = .ok (.iconst 0, 1) := by decide +kernel
theorem dX12_isWork_33 : decode cX12_isWork 33 = .ok (.ireturn, 1) := by decide +kernel
theorem dX12_keptOf_0 : decode cX12_keptOf 0 = .ok (.aload_n 0, 1) := by decide +kernel
theorem dX12_keptOf_1 : decode cX12_keptOf 1 = .ok (.getfield 61, 3) := by decide +kernel
theorem dX12_keptOf_4 : decode cX12_keptOf 4 = .ok (.bipush 15, 2) := by decide +kernel
theorem dX12_keptOf_6 : decode cX12_keptOf 6 = .ok (.iload_n 1, 1) := by decide +kernel
theorem dX12_keptOf_7 : decode cX12_keptOf 7 = .ok (.imul, 1) := by decide +kernel
theorem dX12_keptOf_8 : decode cX12_keptOf 8 = .ok (.iload_n 2, 1) := by decide +kernel
theorem dX12_keptOf_9 : decode cX12_keptOf 9 = .ok (.iadd, 1) := by decide +kernel
theorem dX12_keptOf_10 : decode cX12_keptOf 10 = .ok (.iaload, 1) := by decide +kernel
theorem dX12_keptOf_11 : decode cX12_keptOf 11 = .ok (.ireturn, 1) := by decide +kernel
theorem dX12_arrives_0 : decode cX12_arrives 0 = .ok (.aload_n 0, 1) := by decide +kernel
theorem dX12_arrives_1 : decode cX12_arrives 1 = .ok (.getfield 64, 3) := by decide +kernel
theorem dX12_arrives_4 : decode cX12_arrives 4 = .ok (.iload_n 1, 1) := by decide +kernel
theorem dX12_arrives_5 : decode cX12_arrives 5 = .ok (.iaload, 1) := by decide +kernel
theorem dX12_arrives_6 : decode cX12_arrives 6 = .ok (.aload_n 0, 1) := by decide +kernel
theorem dX12_arrives_7 : decode cX12_arrives 7 = .ok (.iload_n 1, 1) := by decide +kernel
theorem dX12_arrives_8 : decode cX12_arrives 8 = .ok (.iconst 4, 1) := by decide +kernel
theorem dX12_arrives_9 : decode cX12_arrives 9 = .ok (.invokevirtual 375, 3) := by decide +kernel
theorem dX12_arrives_12 : decode cX12_arrives 12 = .ok (.iadd, 1) := by decide +kernel
theorem dX12_arrives_13 : decode cX12_arrives 13 = .ok (.ireturn, 1) := by decide +kernel
theorem dX12_lastAnswer_0 : decode cX12_lastAnswer 0 = .ok (.aload_n 0, 1) := by decide +kernel
theorem dX12_lastAnswer_1 : decode cX12_lastAnswer 1 = .ok (.iload_n 1, 1) := by decide +kernel
theorem dX12_lastAnswer_2 : decode cX12_lastAnswer 2 = .ok (.invokevirtual 378, 3) := by decide +kernel
theorem dX12_lastAnswer_5 : decode cX12_lastAnswer 5 = .ok (.aload_n 0, 1) := by decide +kernel
theorem dX12_lastAnswer_6 : decode cX12_lastAnswer 6 = .ok (.iload_n 1, 1) := by decide +kernel
theorem dX12_lastAnswer_7 : decode cX12_lastAnswer 7 = .ok (.bipush 6, 2) := by decide +kernel
theorem dX12_lastAnswer_9 : decode cX12_lastAnswer 9 = .ok (.invokevirtual 375, 3) := by decide +kernel
theorem dX12_lastAnswer_12 : decode cX12_lastAnswer 12 = .ok (.aload_n 0, 1) := by decide +kernel
theorem dX12_lastAnswer_13 : decode cX12_lastAnswer 13 = .ok (.iload_n 1, 1) := by decide +kernel
theorem dX12_lastAnswer_14 : decode cX12_lastAnswer 14 = .ok (.iconst 5, 1) := by decide +kernel
theorem dX12_lastAnswer_15 : decode cX12_lastAnswer 15 = .ok (.invokevirtual 375, 3) := by decide +kernel
theorem dX12_lastAnswer_18 : decode cX12_lastAnswer 18 = .ok (.invokestatic 364, 3) := by decide +kernel
theorem dX12_lastAnswer_21 : decode cX12_lastAnswer 21 = .ok (.ireturn, 1) := by decide +kernel
theorem dX12_ahead_0 : decode cX12_ahead 0 = .ok (.aload_n 0, 1) := by decide +kernel
theorem dX12_ahead_1 : decode cX12_ahead 1 = .ok (.getfield 58, 3) := by decide +kernel
theorem dX12_ahead_4 : decode cX12_ahead 4 = .ok (.iload_n 1, 1) := by decide +kernel
theorem dX12_ahead_5 : decode cX12_ahead 5 = .ok (.baload, 1) := by decide +kernel
theorem dX12_ahead_6 : decode cX12_ahead 6 = .ok (.ifCond .ne 5, 3) := by decide +kernel
theorem dX12_ahead_9 : decode cX12_ahead 9 = .ok (.iconst 1, 1) := by decide +kernel
theorem dX12_ahead_10 : decode cX12_ahead 10 = .ok (.ireturn, 1) := by decide +kernel
theorem dX12_ahead_11 : decode cX12_ahead 11 = .ok (.aload_n 0, 1) := by decide +kernel
theorem dX12_ahead_12 : decode cX12_ahead 12 = .ok (.getfield 64, 3) := by decide +kernel
theorem dX12_ahead_15 : decode cX12_ahead 15 = .ok (.iload_n 1, 1) := by decide +kernel
theorem dX12_ahead_16 : decode cX12_ahead 16 = .ok (.iaload, 1) := by decide +kernel
theorem dX12_ahead_17 : decode cX12_ahead 17 = .ok (.ifCond .ge 5, 3) := by decide +kernel
theorem dX12_ahead_20 : decode cX12_ahead 20 = .ok (.iconst 0, 1) := by decide +kernel
theorem dX12_ahead_21 : decode cX12_ahead 21 = .ok (.ireturn, 1) := by decide +kernel
theorem dX12_ahead_22 : decode cX12_ahead 22 = .ok (.aload_n 0, 1) := by decide +kernel
theorem dX12_ahead_23 : decode cX12_ahead 23 = .ok (.getfield 73, 3) := by decide +kernel
theorem dX12_ahead_26 : decode cX12_ahead 26 = .ok (.iload_n 1, 1) := by decide +kernel
theorem dX12_ahead_27 : decode cX12_ahead 27 = .ok (.baload, 1) := by decide +kernel
theorem dX12_ahead_28 : decode cX12_ahead 28 = .ok (.ifCond .eq 5, 3) := by decide +kernel
theorem dX12_ahead_31 : decode cX12_ahead 31 = .ok (.iconst 3, 1) := by decide +kernel
theorem dX12_ahead_32 : decode cX12_ahead 32 = .ok (.ireturn, 1) := by decide +kernel
theorem dX12_ahead_33 : decode cX12_ahead 33 = .ok (.aload_n 0, 1) := by decide +kernel
theorem dX12_ahead_34 : decode cX12_ahead 34 = .ok (.getfield 88, 3) := by decide +kernel
theorem dX12_ahead_37 : decode cX12_ahead 37 = .ok (.iload_n 1, 1) := by decide +kernel
theorem dX12_ahead_38 : decode cX12_ahead 38 = .ok (.iaload, 1) := by decide +kernel
theorem dX12_ahead_39 : decode cX12_ahead 39 = .ok (.ifCond .lt 5, 3) := by decide +kernel
theorem dX12_ahead_42 : decode cX12_ahead 42 = .ok (.iconst 4, 1) := by decide +kernel
theorem dX12_ahead_43 : decode cX12_ahead 43 = .ok (.ireturn, 1) := by decide +kernel
theorem dX12_ahead_44 : decode cX12_ahead 44 = .ok (.aload_n 0, 1) := by decide +kernel
theorem dX12_ahead_45 : decode cX12_ahead 45 = .ok (.getfield 67, 3) := by decide +kernel
theorem dX12_ahead_48 : decode cX12_ahead 48 = .ok (.iload_n 1, 1) := by decide +kernel
theorem dX12_ahead_49 : decode cX12_ahead 49 = .ok (.iaload, 1) := by decide +kernel
theorem dX12_ahead_50 : decode cX12_ahead 50 = .ok (.ifCond .le 19, 3) := by decide +kernel
theorem dX12_ahead_53 : decode cX12_ahead 53 = .ok (.aload_n 0, 1) := by decide +kernel
theorem dX12_ahead_54 : decode cX12_ahead 54 = .ok (.getfield 67, 3) := by decide +kernel
theorem dX12_ahead_57 : decode cX12_ahead 57 = .ok (.iload_n 1, 1) := by decide +kernel
theorem dX12_ahead_58 : decode cX12_ahead 58 = .ok (.iaload, 1) := by decide +kernel
theorem dX12_ahead_59 : decode cX12_ahead 59 = .ok (.iconst 1, 1) := by decide +kernel
theorem dX12_ahead_60 : decode cX12_ahead 60 = .ok (.if_icmp .ne 7, 3) := by decide +kernel
theorem dX12_ahead_63 : decode cX12_ahead 63 = .ok (.iconst 3, 1) := by decide +kernel
theorem dX12_ahead_64 : decode cX12_ahead 64 = .ok (.goto 4, 3) := by decide +kernel
theorem dX12_ahead_67 : decode cX12_ahead 67 = .ok (.iconst 4, 1) := by decide +kernel
theorem dX12_ahead_68 : decode cX12_ahead 68 = .ok (.ireturn, 1) := by decide +kernel
theorem dX12_ahead_69 : decode cX12_ahead 69 = .ok (.aload_n 0, 1) := by decide +kernel
theorem dX12_ahead_70 : decode cX12_ahead 70 = .ok (.getfield 222, 3) := by decide +kernel
theorem dX12_ahead_73 : decode cX12_ahead 73 = .ok (.aload_n 0, 1) := by decide +kernel
theorem dX12_ahead_74 : decode cX12_ahead 74 = .ok (.iload_n 1, 1) := by decide +kernel
theorem dX12_ahead_75 : decode cX12_ahead 75 = .ok (.invokevirtual 381, 3) := by decide +kernel
theorem dX12_ahead_78 : decode cX12_ahead 78 = .ok (.if_icmp .gt 5, 3) := by decide +kernel
theorem dX12_ahead_81 : decode cX12_ahead 81 = .ok (.iconst 2, 1) := by decide +kernel
theorem dX12_ahead_82 : decode cX12_ahead 82 = .ok (.ireturn, 1) := by decide +kernel
theorem dX12_ahead_83 : decode cX12_ahead 83 = .ok (.aload_n 0, 1) := by decide +kernel
theorem dX12_ahead_84 : decode cX12_ahead 84 = .ok (.iload_n 1, 1) := by decide +kernel
theorem dX12_ahead_85 : decode cX12_ahead 85 = .ok (.bipush 7, 2) := by decide +kernel
theorem dX12_ahead_87 : decode cX12_ahead 87 = .ok (.invokevirtual 375, 3) := by decide +kernel
theorem dX12_ahead_90 : decode cX12_ahead 90 = .ok (.ifCond .ne 7, 3) := by decide +kernel
theorem dX12_ahead_93 : decode cX12_ahead 93 = .ok (.iconst 3, 1) := by decide +kernel
theorem dX12_ahead_94 : decode cX12_ahead 94 = .ok (.goto 4, 3) := by decide +kernel
theorem dX12_ahead_97 : decode cX12_ahead 97 = .ok (.iconst 4, 1) := by decide +kernel
theorem dX12_ahead_98 : decode cX12_ahead 98 = .ok (.ireturn, 1) := by decide +kernel
theorem dX12_stateOf_0 : decode cX12_stateOf 0 = .ok (.aload_n 0, 1) := by decide +kernel
theorem dX12_stateOf_1 : decode cX12_stateOf 1 = .ok (.getfield 91, 3) := by decide +kernel
theorem dX12_stateOf_4 : decode cX12_stateOf 4 = .ok (.iload_n 1, 1) := by decide +kernel
theorem dX12_stateOf_5 : decode cX12_stateOf 5 = .ok (.iaload, 1) := by decide +kernel
theorem dX12_stateOf_6 : decode cX12_stateOf 6 = .ok (.ifCond .le 12, 3) := by decide +kernel
theorem dX12_stateOf_9 : decode cX12_stateOf 9 = .ok (.aload_n 0, 1) := by decide +kernel
theorem dX12_stateOf_10 : decode cX12_stateOf 10 = .ok (.getfield 91, 3) := by decide +kernel
theorem dX12_stateOf_13 : decode cX12_stateOf 13 = .ok (.iload_n 1, 1) := by decide +kernel
theorem dX12_stateOf_14 : decode cX12_stateOf 14 = .ok (.iaload, 1) := by decide +kernel
theorem dX12_stateOf_15 : decode cX12_stateOf 15 = .ok (.goto 8, 3) := by decide +kernel
theorem dX12_stateOf_18 : decode cX12_stateOf 18 = .ok (.aload_n 0, 1) := by decide +kernel
theorem dX12_stateOf_19 : decode cX12_stateOf 19 = .ok (.iload_n 1, 1) := by decide +kernel
theorem dX12_stateOf_20 : decode cX12_stateOf 20 = .ok (.invokevirtual 384, 3) := by decide +kernel
theorem dX12_stateOf_23 : decode cX12_stateOf 23 = .ok (.ireturn, 1) := by decide +kernel
theorem dX12_allowedFrom_0 : decode cX12_allowedFrom 0 = .ok (.aload_n 0, 1) := by decide +kernel
theorem dX12_allowedFrom_1 : decode cX12_allowedFrom 1 = .ok (.getfield 73, 3) := by decide +kernel
theorem dX12_allowedFrom_4 : decode cX12_allowedFrom 4 = .ok (.iload_n 1, 1) := by decide +kernel
theorem dX12_allowedFrom_5 : decode cX12_allowedFrom 5 = .ok (.baload, 1) := by decide +kernel
theorem dX12_allowedFrom_6 : decode cX12_allowedFrom 6 = .ok (.ifCond .eq 12, 3) := by decide +kernel
theorem dX12_allowedFrom_9 : decode cX12_allowedFrom 9 = .ok (.aload_n 0, 1) := by decide +kernel
theorem dX12_allowedFrom_10 : decode cX12_allowedFrom 10 = .ok (.getfield 79, 3) := by decide +kernel
theorem dX12_allowedFrom_13 : decode cX12_allowedFrom 13 = .ok (.iload_n 1, 1) := by decide +kernel
theorem dX12_allowedFrom_14 : decode cX12_allowedFrom 14 = .ok (.iaload, 1) := by decide +kernel
theorem dX12_allowedFrom_15 : decode cX12_allowedFrom 15 = .ok (.goto 20, 3) := by decide +kernel
theorem dX12_allowedFrom_18 : decode cX12_allowedFrom 18 = .ok (.aload_n 0, 1) := by decide +kernel
theorem dX12_allowedFrom_19 : decode cX12_allowedFrom 19 = .ok (.iload_n 1, 1) := by decide +kernel
theorem dX12_allowedFrom_20 : decode cX12_allowedFrom 20 = .ok (.invokevirtual 378, 3) := by decide +kernel
theorem dX12_allowedFrom_23 : decode cX12_allowedFrom 23 = .ok (.aload_n 0, 1) := by decide +kernel
theorem dX12_allowedFrom_24 : decode cX12_allowedFrom 24 = .ok (.iload_n 1, 1) := by decide +kernel
theorem dX12_allowedFrom_25 : decode cX12_allowedFrom 25 = .ok (.aload_n 0, 1) := by decide +kernel
theorem dX12_allowedFrom_26 : decode cX12_allowedFrom 26 = .ok (.getfield 55, 3) := by decide +kernel
theorem dX12_allowedFrom_29 : decode cX12_allowedFrom 29 = .ok (.iload_n 1, 1) := by decide +kernel
theorem dX12_allowedFrom_30 : decode cX12_allowedFrom 30 = .ok (.iaload, 1) := by decide +kernel
theorem dX12_allowedFrom_31 : decode cX12_allowedFrom 31 = .ok (.invokevirtual 375, 3) := by decide +kernel
theorem dX12_allowedFrom_34 : decode cX12_allowedFrom 34 = .ok (.iadd, 1) := by decide +kernel
theorem dX12_allowedFrom_35 : decode cX12_allowedFrom 35 = .ok (.ireturn, 1) := by decide +kernel
theorem dX12_disputeFrom_0 : decode cX12_disputeFrom 0 = .ok (.aload_n 0, 1) := by decide +kernel
theorem dX12_disputeFrom_1 : decode cX12_disputeFrom 1 = .ok (.getfield 88, 3) := by decide +kernel
theorem dX12_disputeFrom_4 : decode cX12_disputeFrom 4 = .ok (.iload_n 1, 1) := by decide +kernel
theorem dX12_disputeFrom_5 : decode cX12_disputeFrom 5 = .ok (.iaload, 1) := by decide +kernel
theorem dX12_disputeFrom_6 : decode cX12_disputeFrom 6 = .ok (.ifCond .lt 12, 3) := by decide +kernel
theorem dX12_disputeFrom_9 : decode cX12_disputeFrom 9 = .ok (.aload_n 0, 1) := by decide +kernel
theorem dX12_disputeFrom_10 : decode cX12_disputeFrom 10 = .ok (.getfield 88, 3) := by decide +kernel
theorem dX12_disputeFrom_13 : decode cX12_disputeFrom 13 = .ok (.iload_n 1, 1) := by decide +kernel
theorem dX12_disputeFrom_14 : decode cX12_disputeFrom 14 = .ok (.iaload, 1) := by decide +kernel
theorem dX12_disputeFrom_15 : decode cX12_disputeFrom 15 = .ok (.goto 29, 3) := by decide +kernel
theorem dX12_disputeFrom_18 : decode cX12_disputeFrom 18 = .ok (.aload_n 0, 1) := by decide +kernel
theorem dX12_disputeFrom_19 : decode cX12_disputeFrom 19 = .ok (.getfield 67, 3) := by decide +kernel
theorem dX12_disputeFrom_22 : decode cX12_disputeFrom 22 = .ok (.iload_n 1, 1) := by decide +kernel
theorem dX12_disputeFrom_23 : decode cX12_disputeFrom 23 = .ok (.iaload, 1) := by decide +kernel
theorem dX12_disputeFrom_24 : decode cX12_disputeFrom 24 = .ok (.iconst 2, 1) := by decide +kernel
theorem dX12_disputeFrom_25 : decode cX12_disputeFrom 25 = .ok (.if_icmp .ne 12, 3) := by decide +kernel
theorem dX12_disputeFrom_28 : decode cX12_disputeFrom 28 = .ok (.aload_n 0, 1) := by decide +kernel
theorem dX12_disputeFrom_29 : decode cX12_disputeFrom 29 = .ok (.getfield 70, 3) := by decide +kernel
theorem dX12_disputeFrom_32 : decode cX12_disputeFrom 32 = .ok (.iload_n 1, 1) := by decide +kernel
theorem dX12_disputeFrom_33 : decode cX12_disputeFrom 33 = .ok (.iaload, 1) := by decide +kernel
theorem dX12_disputeFrom_34 : decode cX12_disputeFrom 34 = .ok (.goto 10, 3) := by decide +kernel
theorem dX12_disputeFrom_37 : decode cX12_disputeFrom 37 = .ok (.aload_n 0, 1) := by decide +kernel
theorem dX12_disputeFrom_38 : decode cX12_disputeFrom 38 = .ok (.iload_n 1, 1) := by decide +kernel
theorem dX12_disputeFrom_39 : decode cX12_disputeFrom 39 = .ok (.invokevirtual 381, 3) := by decide +kernel
theorem dX12_disputeFrom_42 : decode cX12_disputeFrom 42 = .ok (.iconst 1, 1) := by decide +kernel
theorem dX12_disputeFrom_43 : decode cX12_disputeFrom 43 = .ok (.iadd, 1) := by decide +kernel
theorem dX12_disputeFrom_44 : decode cX12_disputeFrom 44 = .ok (.ireturn, 1) := by decide +kernel
theorem dX12_state_0 : decode cX12_state 0 = .ok (.aload_n 0, 1) := by decide +kernel
theorem dX12_state_1 : decode cX12_state 1 = .ok (.iload_n 1, 1) := by decide +kernel
theorem dX12_state_2 : decode cX12_state 2 = .ok (.invokevirtual 387, 3) := by decide +kernel
theorem dX12_state_5 : decode cX12_state 5 = .ok (.ifCond .eq 11, 3) := by decide +kernel
theorem dX12_state_8 : decode cX12_state 8 = .ok (.aload_n 0, 1) := by decide +kernel
theorem dX12_state_9 : decode cX12_state 9 = .ok (.iload_n 1, 1) := by decide +kernel
theorem dX12_state_10 : decode cX12_state 10 = .ok (.invokevirtual 390, 3) := by decide +kernel
theorem dX12_state_13 : decode cX12_state 13 = .ok (.goto 4, 3) := by decide +kernel
theorem dX12_state_16 : decode cX12_state 16 = .ok (.iconst 0, 1) := by decide +kernel
theorem dX12_state_17 : decode cX12_state 17 = .ok (.ireturn, 1) := by decide +kernel
theorem dX12_notice_0 : decode cX12_notice 0 = .ok (.aload_n 0, 1) := by decide +kernel
theorem dX12_notice_1 : decode cX12_notice 1 = .ok (.iload_n 1, 1) := by decide +kernel
theorem dX12_notice_2 : decode cX12_notice 2 = .ok (.invokevirtual 387, 3) := by decide +kernel
theorem dX12_notice_5 : decode cX12_notice 5 = .ok (.ifCond .ne 5, 3) := by decide +kernel
theorem dX12_notice_8 : decode cX12_notice 8 = .ok (.iconst 0, 1) := by decide +kernel
theorem dX12_notice_9 : decode cX12_notice 9 = .ok (.ireturn, 1) := by decide +kernel
theorem dX12_notice_10 : decode cX12_notice 10 = .ok (.aload_n 0, 1) := by decide +kernel
theorem dX12_notice_11 : decode cX12_notice 11 = .ok (.iload_n 1, 1) := by decide +kernel
theorem dX12_notice_12 : decode cX12_notice 12 = .ok (.invokevirtual 390, 3) := by decide +kernel
theorem dX12_notice_15 : decode cX12_notice 15 = .ok (.ifCond .eq 5, 3) := by decide +kernel
theorem dX12_notice_18 : decode cX12_notice 18 = .ok (.iconst (-1), 1) := by decide +kernel
theorem dX12_notice_19 : decode cX12_notice 19 = .ok (.ireturn, 1) := by decide +kernel
theorem dX12_notice_20 : decode cX12_notice 20 = .ok (.aload_n 0, 1) := by decide +kernel
theorem dX12_notice_21 : decode cX12_notice 21 = .ok (.getfield 64, 3) := by decide +kernel
theorem dX12_notice_24 : decode cX12_notice 24 = .ok (.iload_n 1, 1) := by decide +kernel
theorem dX12_notice_25 : decode cX12_notice 25 = .ok (.aload_n 0, 1) := by decide +kernel
theorem dX12_notice_26 : decode cX12_notice 26 = .ok (.getfield 222, 3) := by decide +kernel
theorem dX12_notice_29 : decode cX12_notice 29 = .ok (.iastore, 1) := by decide +kernel
theorem dX12_notice_30 : decode cX12_notice 30 = .ok (.aload_n 0, 1) := by decide +kernel
theorem dX12_notice_31 : decode cX12_notice 31 = .ok (.iload_n 1, 1) := by decide +kernel
theorem dX12_notice_32 : decode cX12_notice 32 = .ok (.invokevirtual 378, 3) := by decide +kernel
theorem dX12_notice_35 : decode cX12_notice 35 = .ok (.ireturn, 1) := by decide +kernel
theorem dX12_answer_0 : decode cX12_answer 0 = .ok (.aload_n 0, 1) := by decide +kernel
theorem dX12_answer_1 : decode cX12_answer 1 = .ok (.iload_n 1, 1) := by decide +kernel
theorem dX12_answer_2 : decode cX12_answer 2 = .ok (.invokevirtual 387, 3) := by decide +kernel
theorem dX12_answer_5 : decode cX12_answer 5 = .ok (.ifCond .ne 5, 3) := by decide +kernel
theorem dX12_answer_8 : decode cX12_answer 8 = .ok (.iconst 0, 1) := by decide +kernel
theorem dX12_answer_9 : decode cX12_answer 9 = .ok (.ireturn, 1) := by decide +kernel
theorem dX12_answer_10 : decode cX12_answer 10 = .ok (.aload_n 0, 1) := by decide +kernel
theorem dX12_answer_11 : decode cX12_answer 11 = .ok (.iload_n 1, 1) := by decide +kernel
theorem dX12_answer_12 : decode cX12_answer 12 = .ok (.invokevirtual 390, 3) := by decide +kernel
theorem dX12_answer_15 : decode cX12_answer 15 = .ok (.iconst 2, 1) := by decide +kernel
theorem dX12_answer_16 : decode cX12_answer 16 = .ok (.if_icmp .eq 5, 3) := by decide +kernel
theorem dX12_answer_19 : decode cX12_answer 19 = .ok (.iconst (-1), 1) := by decide +kernel
theorem dX12_answer_20 : decode cX12_answer 20 = .ok (.ireturn, 1) := by decide +kernel
theorem dX12_answer_21 : decode cX12_answer 21 = .ok (.aload_n 0, 1) := by decide +kernel
theorem dX12_answer_22 : decode cX12_answer 22 = .ok (.getfield 222, 3) := by decide +kernel
theorem dX12_answer_25 : decode cX12_answer 25 = .ok (.aload_n 0, 1) := by decide +kernel
theorem dX12_answer_26 : decode cX12_answer 26 = .ok (.iload_n 1, 1) := by decide +kernel
theorem dX12_answer_27 : decode cX12_answer 27 = .ok (.invokevirtual 378, 3) := by decide +kernel
theorem dX12_answer_30 : decode cX12_answer 30 = .ok (.if_icmp .ge 6, 3) := by decide +kernel
theorem dX12_answer_33 : decode cX12_answer 33 = .ok (.bipush (-2), 2) := by decide +kernel
theorem dX12_answer_35 : decode cX12_answer 35 = .ok (.ireturn, 1) := by decide +kernel
theorem dX12_answer_36 : decode cX12_answer 36 = .ok (.aload_n 0, 1) := by decide +kernel
theorem dX12_answer_37 : decode cX12_answer 37 = .ok (.getfield 67, 3) := by decide +kernel
theorem dX12_answer_40 : decode cX12_answer 40 = .ok (.iload_n 1, 1) := by decide +kernel
theorem dX12_answer_41 : decode cX12_answer 41 = .ok (.iload_n 2, 1) := by decide +kernel
theorem dX12_answer_42 : decode cX12_answer 42 = .ok (.ifCond .eq 7, 3) := by decide +kernel
theorem dX12_answer_45 : decode cX12_answer 45 = .ok (.iconst 1, 1) := by decide +kernel
theorem dX12_answer_46 : decode cX12_answer 46 = .ok (.goto 4, 3) := by decide +kernel
theorem dX12_answer_49 : decode cX12_answer 49 = .ok (.iconst 2, 1) := by decide +kernel
theorem dX12_answer_50 : decode cX12_answer 50 = .ok (.iastore, 1) := by decide +kernel
theorem dX12_answer_51 : decode cX12_answer 51 = .ok (.aload_n 0, 1) := by decide +kernel
theorem dX12_answer_52 : decode cX12_answer 52 = .ok (.getfield 70, 3) := by decide +kernel
theorem dX12_answer_55 : decode cX12_answer 55 = .ok (.iload_n 1, 1) := by decide +kernel
theorem dX12_answer_56 : decode cX12_answer 56 = .ok (.aload_n 0, 1) := by decide +kernel
theorem dX12_answer_57 : decode cX12_answer 57 = .ok (.getfield 222, 3) := by decide +kernel
theorem dX12_answer_60 : decode cX12_answer 60 = .ok (.iastore, 1) := by decide +kernel
theorem dX12_answer_61 : decode cX12_answer 61 = .ok (.iconst 1, 1) := by decide +kernel
theorem dX12_answer_62 : decode cX12_answer 62 = .ok (.ireturn, 1) := by decide +kernel
theorem dX12_lastAppeal_0 : decode cX12_lastAppeal 0 = .ok (.aload_n 0, 1) := by decide +kernel
theorem dX12_lastAppeal_1 : decode cX12_lastAppeal 1 = .ok (.getfield 76, 3) := by decide +kernel
theorem dX12_lastAppeal_4 : decode cX12_lastAppeal 4 = .ok (.iload_n 1, 1) := by decide +kernel
theorem dX12_lastAppeal_5 : decode cX12_lastAppeal 5 = .ok (.iaload, 1) := by decide +kernel
theorem dX12_lastAppeal_6 : decode cX12_lastAppeal 6 = .ok (.aload_n 0, 1) := by decide +kernel
theorem dX12_lastAppeal_7 : decode cX12_lastAppeal 7 = .ok (.iload_n 1, 1) := by decide +kernel
theorem dX12_lastAppeal_8 : decode cX12_lastAppeal 8 = .ok (.bipush 9, 2) := by decide +kernel
theorem dX12_lastAppeal_10 : decode cX12_lastAppeal 10 = .ok (.invokevirtual 375, 3) := by decide +kernel
theorem dX12_lastAppeal_13 : decode cX12_lastAppeal 13 = .ok (.aload_n 0, 1) := by decide +kernel
theorem dX12_lastAppeal_14 : decode cX12_lastAppeal 14 = .ok (.iload_n 1, 1) := by decide +kernel
theorem dX12_lastAppeal_15 : decode cX12_lastAppeal 15 = .ok (.iconst 5, 1) := by decide +kernel
theorem dX12_lastAppeal_16 : decode cX12_lastAppeal 16 = .ok (.invokevirtual 375, 3) := by decide +kernel
theorem dX12_lastAppeal_19 : decode cX12_lastAppeal 19 = .ok (.invokestatic 364, 3) := by decide +kernel
theorem dX12_lastAppeal_22 : decode cX12_lastAppeal 22 = .ok (.ireturn, 1) := by decide +kernel
theorem dX12_mayAppeal_0 : decode cX12_mayAppeal 0 = .ok (.aload_n 0, 1) := by decide +kernel
theorem dX12_mayAppeal_1 : decode cX12_mayAppeal 1 = .ok (.getfield 73, 3) := by decide +kernel
theorem dX12_mayAppeal_4 : decode cX12_mayAppeal 4 = .ok (.iload_n 1, 1) := by decide +kernel
theorem dX12_mayAppeal_5 : decode cX12_mayAppeal 5 = .ok (.baload, 1) := by decide +kernel
theorem dX12_mayAppeal_6 : decode cX12_mayAppeal 6 = .ok (.ifCond .eq 25, 3) := by decide +kernel
theorem dX12_mayAppeal_9 : decode cX12_mayAppeal 9 = .ok (.aload_n 0, 1) := by decide +kernel
theorem dX12_mayAppeal_10 : decode cX12_mayAppeal 10 = .ok (.iload_n 1, 1) := by decide +kernel
theorem dX12_mayAppeal_11 : decode cX12_mayAppeal 11 = .ok (.invokevirtual 390, 3) := by decide +kernel
theorem dX12_mayAppeal_14 : decode cX12_mayAppeal 14 = .ok (.iconst 3, 1) := by decide +kernel
theorem dX12_mayAppeal_15 : decode cX12_mayAppeal 15 = .ok (.if_icmp .eq 12, 3) := by decide +kernel
theorem dX12_mayAppeal_18 : decode cX12_mayAppeal 18 = .ok (.aload_n 0, 1) := by decide +kernel
theorem dX12_mayAppeal_19 : decode cX12_mayAppeal 19 = .ok (.iload_n 1, 1) := by decide +kernel
theorem dX12_mayAppeal_20 : decode cX12_mayAppeal 20 = .ok (.invokevirtual 390, 3) := by decide +kernel
theorem dX12_mayAppeal_23 : decode cX12_mayAppeal 23 = .ok (.iconst 5, 1) := by decide +kernel
theorem dX12_mayAppeal_24 : decode cX12_mayAppeal 24 = .ok (.if_icmp .ne 7, 3) := by decide +kernel
theorem dX12_mayAppeal_27 : decode cX12_mayAppeal 27 = .ok (.iconst 1, 1) := by decide +kernel
theorem dX12_mayAppeal_28 : decode cX12_mayAppeal 28 = .ok (.goto 4, 3) := by decide +kernel
theorem dX12_mayAppeal_31 : decode cX12_mayAppeal 31 = .ok (.iconst 0, 1) := by decide +kernel
theorem dX12_mayAppeal_32 : decode cX12_mayAppeal 32 = .ok (.ireturn, 1) := by decide +kernel
theorem dX12_hoursFrom_0 : decode cX12_hoursFrom 0 = .ok (.aload_n 0, 1) := by decide +kernel
theorem dX12_hoursFrom_1 : decode cX12_hoursFrom 1 = .ok (.getfield 73, 3) := by decide +kernel
theorem dX12_hoursFrom_4 : decode cX12_hoursFrom 4 = .ok (.iload_n 1, 1) := by decide +kernel
theorem dX12_hoursFrom_5 : decode cX12_hoursFrom 5 = .ok (.baload, 1) := by decide +kernel
theorem dX12_hoursFrom_6 : decode cX12_hoursFrom 6 = .ok (.ifCond .eq 15, 3) := by decide +kernel
theorem dX12_hoursFrom_9 : decode cX12_hoursFrom 9 = .ok (.aload_n 0, 1) := by decide +kernel
theorem dX12_hoursFrom_10 : decode cX12_hoursFrom 10 = .ok (.getfield 82, 3) := by decide +kernel
theorem dX12_hoursFrom_13 : decode cX12_hoursFrom 13 = .ok (.iload_n 1, 1) := by decide +kernel
theorem dX12_hoursFrom_14 : decode cX12_hoursFrom 14 = .ok (.iaload, 1) := by decide +kernel
theorem dX12_hoursFrom_15 : decode cX12_hoursFrom 15 = .ok (.bipush 100, 2) := by decide +kernel
theorem dX12_hoursFrom_17 : decode cX12_hoursFrom 17 = .ok (.idiv, 1) := by decide +kernel
theorem dX12_hoursFrom_18 : decode cX12_hoursFrom 18 = .ok (.goto 10, 3) := by decide +kernel
theorem dX12_hoursFrom_21 : decode cX12_hoursFrom 21 = .ok (.aload_n 0, 1) := by decide +kernel
theorem dX12_hoursFrom_22 : decode cX12_hoursFrom 22 = .ok (.iload_n 1, 1) := by decide +kernel
theorem dX12_hoursFrom_23 : decode cX12_hoursFrom 23 = .ok (.bipush 13, 2) := by decide +kernel
theorem dX12_hoursFrom_25 : decode cX12_hoursFrom 25 = .ok (.invokevirtual 375, 3) := by decide +kernel
theorem dX12_hoursFrom_28 : decode cX12_hoursFrom 28 = .ok (.ireturn, 1) := by decide +kernel
theorem dX12_hoursTo_0 : decode cX12_hoursTo 0 = .ok (.aload_n 0, 1) := by decide +kernel
theorem dX12_hoursTo_1 : decode cX12_hoursTo 1 = .ok (.getfield 73, 3) := by decide +kernel
theorem dX12_hoursTo_4 : decode cX12_hoursTo 4 = .ok (.iload_n 1, 1) := by decide +kernel
theorem dX12_hoursTo_5 : decode cX12_hoursTo 5 = .ok (.baload, 1) := by decide +kernel
theorem dX12_hoursTo_6 : decode cX12_hoursTo 6 = .ok (.ifCond .eq 15, 3) := by decide +kernel
theorem dX12_hoursTo_9 : decode cX12_hoursTo 9 = .ok (.aload_n 0, 1) := by decide +kernel
theorem dX12_hoursTo_10 : decode cX12_hoursTo 10 = .ok (.getfield 82, 3) := by decide +kernel
theorem dX12_hoursTo_13 : decode cX12_hoursTo 13 = .ok (.iload_n 1, 1) := by decide +kernel
theorem dX12_hoursTo_14 : decode cX12_hoursTo 14 = .ok (.iaload, 1) := by decide +kernel
theorem dX12_hoursTo_15 : decode cX12_hoursTo 15 = .ok (.bipush 100, 2) := by decide +kernel
theorem dX12_hoursTo_17 : decode cX12_hoursTo 17 = .ok (.irem, 1) := by decide +kernel
theorem dX12_hoursTo_18 : decode cX12_hoursTo 18 = .ok (.goto 10, 3) := by decide +kernel
theorem dX12_hoursTo_21 : decode cX12_hoursTo 21 = .ok (.aload_n 0, 1) := by decide +kernel
theorem dX12_hoursTo_22 : decode cX12_hoursTo 22 = .ok (.iload_n 1, 1) := by decide +kernel
theorem dX12_hoursTo_23 : decode cX12_hoursTo 23 = .ok (.bipush 14, 2) := by decide +kernel
theorem dX12_hoursTo_25 : decode cX12_hoursTo 25 = .ok (.invokevirtual 375, 3) := by decide +kernel
theorem dX12_hoursTo_28 : decode cX12_hoursTo 28 = .ok (.ireturn, 1) := by decide +kernel
theorem dX12_shareOf_0 : decode cX12_shareOf 0 = .ok (.aload_n 0, 1) := by decide +kernel
theorem dX12_shareOf_1 : decode cX12_shareOf 1 = .ok (.getfield 73, 3) := by decide +kernel
theorem dX12_shareOf_4 : decode cX12_shareOf 4 = .ok (.iload_n 1, 1) := by decide +kernel
theorem dX12_shareOf_5 : decode cX12_shareOf 5 = .ok (.baload, 1) := by decide +kernel
theorem dX12_shareOf_6 : decode cX12_shareOf 6 = .ok (.ifCond .eq 12, 3) := by decide +kernel
theorem dX12_shareOf_9 : decode cX12_shareOf 9 = .ok (.aload_n 0, 1) := by decide +kernel
theorem dX12_shareOf_10 : decode cX12_shareOf 10 = .ok (.getfield 85, 3) := by decide +kernel
theorem dX12_shareOf_13 : decode cX12_shareOf 13 = .ok (.iload_n 1, 1) := by decide +kernel
theorem dX12_shareOf_14 : decode cX12_shareOf 14 = .ok (.iaload, 1) := by decide +kernel
theorem dX12_shareOf_15 : decode cX12_shareOf 15 = .ok (.goto 5, 3) := by decide +kernel
theorem dX12_shareOf_18 : decode cX12_shareOf 18 = .ok (.bipush 100, 2) := by decide +kernel
theorem dX12_shareOf_20 : decode cX12_shareOf 20 = .ok (.ireturn, 1) := by decide +kernel
theorem dX12_told_0 : decode cX12_told 0 = .ok (.aload_n 0, 1) := by decide +kernel
theorem dX12_told_1 : decode cX12_told 1 = .ok (.iload_n 1, 1) := by decide +kernel
theorem dX12_told_2 : decode cX12_told 2 = .ok (.invokevirtual 387, 3) := by decide +kernel
theorem dX12_told_5 : decode cX12_told 5 = .ok (.ifCond .eq 26, 3) := by decide +kernel
theorem dX12_told_8 : decode cX12_told 8 = .ok (.aload_n 0, 1) := by decide +kernel
theorem dX12_told_9 : decode cX12_told 9 = .ok (.iload_n 2, 1) := by decide +kernel
theorem dX12_told_10 : decode cX12_told 10 = .ok (.ifCond .lt 9, 3) := by decide +kernel
theorem dX12_told_13 : decode cX12_told 13 = .ok (.iload_n 2, 1) := by decide +kernel
theorem dX12_told_14 : decode cX12_told 14 = .ok (.bipush 7, 2) := by decide +kernel
theorem dX12_told_16 : decode cX12_told 16 = .ok (.if_icmp .le 7, 3) := by decide +kernel
theorem dX12_told_19 : decode cX12_told 19 = .ok (.iconst 1, 1) := by decide +kernel
theorem dX12_told_20 : decode cX12_told 20 = .ok (.goto 4, 3) := by decide +kernel
theorem dX12_told_23 : decode cX12_told 23 = .ok (.iconst 0, 1) := by decide +kernel
theorem dX12_told_24 : decode cX12_told 24 = .ok (.iconst 2, 1) := by decide +kernel
theorem dX12_told_25 : decode cX12_told 25 = .ok (.invokevirtual 205, 3) := by decide +kernel
theorem dX12_told_28 : decode cX12_told 28 = .ok (.ifCond .eq 5, 3) := by decide +kernel
theorem dX12_told_31 : decode cX12_told 31 = .ok (.iconst 0, 1) := by decide +kernel
theorem dX12_told_32 : decode cX12_told 32 = .ok (.ireturn, 1) := by decide +kernel
theorem dX12_told_33 : decode cX12_told 33 = .ok (.iload_n 2, 1) := by decide +kernel
theorem dX12_told_34 : decode cX12_told 34 = .ok (.tableswitch 153 0 6 #[42, 79, 98, 104, 110, 116, 135], 42) := by decide +kernel
theorem dX12_told_76 : decode cX12_told 76 = .ok (.aload_n 0, 1) := by decide +kernel
theorem dX12_told_77 : decode cX12_told 77 = .ok (.getfield 91, 3) := by decide +kernel
theorem dX12_told_80 : decode cX12_told 80 = .ok (.iload_n 1, 1) := by decide +kernel
theorem dX12_told_81 : decode cX12_told 81 = .ok (.iaload, 1) := by decide +kernel
theorem dX12_told_82 : decode cX12_told 82 = .ok (.ifCond .le 12, 3) := by decide +kernel
theorem dX12_told_85 : decode cX12_told 85 = .ok (.aload_n 0, 1) := by decide +kernel
theorem dX12_told_86 : decode cX12_told 86 = .ok (.getfield 97, 3) := by decide +kernel
theorem dX12_told_89 : decode cX12_told 89 = .ok (.iload_n 1, 1) := by decide +kernel
theorem dX12_told_90 : decode cX12_told 90 = .ok (.iaload, 1) := by decide +kernel
theorem dX12_told_91 : decode cX12_told 91 = .ok (.goto 21, 3) := by decide +kernel
theorem dX12_told_94 : decode cX12_told 94 = .ok (.aload_n 0, 1) := by decide +kernel
theorem dX12_told_95 : decode cX12_told 95 = .ok (.iload_n 1, 1) := by decide +kernel
theorem dX12_told_96 : decode cX12_told 96 = .ok (.invokevirtual 384, 3) := by decide +kernel
theorem dX12_told_99 : decode cX12_told 99 = .ok (.iconst 3, 1) := by decide +kernel
theorem dX12_told_100 : decode cX12_told 100 = .ok (.if_icmp .ne 11, 3) := by decide +kernel
theorem dX12_told_103 : decode cX12_told 103 = .ok (.aload_n 0, 1) := by decide +kernel
theorem dX12_told_104 : decode cX12_told 104 = .ok (.iload_n 1, 1) := by decide +kernel
theorem dX12_told_105 : decode cX12_told 105 = .ok (.invokevirtual 393, 3) := by decide +kernel
theorem dX12_told_108 : decode cX12_told 108 = .ok (.goto 4, 3) := by decide +kernel
theorem dX12_told_111 : decode cX12_told 111 = .ok (.iconst (-1), 1) := by decide +kernel
theorem dX12_told_112 : decode cX12_told 112 = .ok (.ireturn, 1) := by decide +kernel
theorem dX12_told_113 : decode cX12_told 113 = .ok (.aload_n 0, 1) := by decide +kernel
theorem dX12_told_114 : decode cX12_told 114 = .ok (.iload_n 1, 1) := by decide +kernel
theorem dX12_told_115 : decode cX12_told 115 = .ok (.invokevirtual 390, 3) := by decide +kernel
theorem dX12_told_118 : decode cX12_told 118 = .ok (.iconst 4, 1) := by decide +kernel
theorem dX12_told_119 : decode cX12_told 119 = .ok (.if_icmp .ne 11, 3) := by decide +kernel
theorem dX12_told_122 : decode cX12_told 122 = .ok (.aload_n 0, 1) := by decide +kernel
theorem dX12_told_123 : decode cX12_told 123 = .ok (.iload_n 1, 1) := by decide +kernel
theorem dX12_told_124 : decode cX12_told 124 = .ok (.invokevirtual 396, 3) := by decide +kernel
theorem dX12_told_127 : decode cX12_told 127 = .ok (.goto 4, 3) := by decide +kernel
theorem dX12_told_130 : decode cX12_told 130 = .ok (.iconst (-1), 1) := by decide +kernel
theorem dX12_told_131 : decode cX12_told 131 = .ok (.ireturn, 1) := by decide +kernel
theorem dX12_told_132 : decode cX12_told 132 = .ok (.aload_n 0, 1) := by decide +kernel
theorem dX12_told_133 : decode cX12_told 133 = .ok (.iload_n 1, 1) := by decide +kernel
theorem dX12_told_134 : decode cX12_told 134 = .ok (.invokevirtual 399, 3) := by decide +kernel
theorem dX12_told_137 : decode cX12_told 137 = .ok (.ireturn, 1) := by decide +kernel
theorem dX12_told_138 : decode cX12_told 138 = .ok (.aload_n 0, 1) := by decide +kernel
theorem dX12_told_139 : decode cX12_told 139 = .ok (.iload_n 1, 1) := by decide +kernel
theorem dX12_told_140 : decode cX12_told 140 = .ok (.invokevirtual 402, 3) := by decide +kernel
theorem dX12_told_143 : decode cX12_told 143 = .ok (.ireturn, 1) := by decide +kernel
theorem dX12_told_144 : decode cX12_told 144 = .ok (.aload_n 0, 1) := by decide +kernel
theorem dX12_told_145 : decode cX12_told 145 = .ok (.iload_n 1, 1) := by decide +kernel
theorem dX12_told_146 : decode cX12_told 146 = .ok (.invokevirtual 405, 3) := by decide +kernel
theorem dX12_told_149 : decode cX12_told 149 = .ok (.ireturn, 1) := by decide +kernel
theorem dX12_told_150 : decode cX12_told 150 = .ok (.aload_n 0, 1) := by decide +kernel
theorem dX12_told_151 : decode cX12_told 151 = .ok (.iload_n 1, 1) := by decide +kernel
theorem dX12_told_152 : decode cX12_told 152 = .ok (.invokevirtual 390, 3) := by decide +kernel
theorem dX12_told_155 : decode cX12_told 155 = .ok (.iconst 2, 1) := by decide +kernel
theorem dX12_told_156 : decode cX12_told 156 = .ok (.if_icmp .ne 11, 3) := by decide +kernel
theorem dX12_told_159 : decode cX12_told 159 = .ok (.aload_n 0, 1) := by decide +kernel
theorem dX12_told_160 : decode cX12_told 160 = .ok (.iload_n 1, 1) := by decide +kernel
theorem dX12_told_161 : decode cX12_told 161 = .ok (.invokevirtual 381, 3) := by decide +kernel
theorem dX12_told_164 : decode cX12_told 164 = .ok (.goto 4, 3) := by decide +kernel
theorem dX12_told_167 : decode cX12_told 167 = .ok (.iconst (-1), 1) := by decide +kernel
theorem dX12_told_168 : decode cX12_told 168 = .ok (.ireturn, 1) := by decide +kernel
theorem dX12_told_169 : decode cX12_told 169 = .ok (.aload_n 0, 1) := by decide +kernel
theorem dX12_told_170 : decode cX12_told 170 = .ok (.iload_n 1, 1) := by decide +kernel
theorem dX12_told_171 : decode cX12_told 171 = .ok (.invokevirtual 408, 3) := by decide +kernel
theorem dX12_told_174 : decode cX12_told 174 = .ok (.ifCond .eq 11, 3) := by decide +kernel
theorem dX12_told_177 : decode cX12_told 177 = .ok (.aload_n 0, 1) := by decide +kernel
theorem dX12_told_178 : decode cX12_told 178 = .ok (.iload_n 1, 1) := by decide +kernel
theorem dX12_told_179 : decode cX12_told 179 = .ok (.invokevirtual 411, 3) := by decide +kernel
theorem dX12_told_182 : decode cX12_told 182 = .ok (.goto 4, 3) := by decide +kernel
theorem dX12_told_185 : decode cX12_told 185 = .ok (.iconst (-1), 1) := by decide +kernel
theorem dX12_told_186 : decode cX12_told 186 = .ok (.ireturn, 1) := by decide +kernel
theorem dX12_told_187 : decode cX12_told 187 = .ok (.aload_n 0, 1) := by decide +kernel
theorem dX12_told_188 : decode cX12_told 188 = .ok (.getfield 94, 3) := by decide +kernel
theorem dX12_told_191 : decode cX12_told 191 = .ok (.iload_n 1, 1) := by decide +kernel
theorem dX12_told_192 : decode cX12_told 192 = .ok (.iaload, 1) := by decide +kernel
theorem dX12_told_193 : decode cX12_told 193 = .ok (.ireturn, 1) := by decide +kernel
theorem dX12_surveyor_0 : decode cX12_surveyor 0 = .ok (.aload_n 0, 1) := by decide +kernel
theorem dX12_surveyor_1 : decode cX12_surveyor 1 = .ok (.iconst 0, 1) := by decide +kernel
theorem dX12_surveyor_2 : decode cX12_surveyor 2 = .ok (.putfield 199, 3) := by decide +kernel
theorem dX12_surveyor_5 : decode cX12_surveyor 5 = .ok (.aload_n 0, 1) := by decide +kernel
theorem dX12_surveyor_6 : decode cX12_surveyor 6 = .ok (.iload_n 1, 1) := by decide +kernel
theorem dX12_surveyor_7 : decode cX12_surveyor 7 = .ok (.ifCond .lt 13, 3) := by decide +kernel
theorem dX12_surveyor_10 : decode cX12_surveyor 10 = .ok (.iload_n 1, 1) := by decide +kernel
theorem dX12_surveyor_11 : decode cX12_surveyor 11 = .ok (.iconst 1, 1) := by decide +kernel
theorem dX12_surveyor_12 : decode cX12_surveyor 12 = .ok (.aload_n 0, 1) := by decide +kernel
theorem dX12_surveyor_13 : decode cX12_surveyor 13 = .ok (.getfield 202, 3) := by decide +kernel
theorem dX12_surveyor_16 : decode cX12_surveyor 16 = .ok (.ishl, 1) := by decide +kernel
theorem dX12_surveyor_17 : decode cX12_surveyor 17 = .ok (.if_icmp .lt 7, 3) := by decide +kernel
theorem dX12_surveyor_20 : decode cX12_surveyor 20 = .ok (.iconst 1, 1) := by decide +kernel
theorem dX12_surveyor_21 : decode cX12_surveyor 21 = .ok (.goto 4, 3) := by decide +kernel
theorem dX12_surveyor_24 : decode cX12_surveyor 24 = .ok (.iconst 0, 1) := by decide +kernel
theorem dX12_surveyor_25 : decode cX12_surveyor 25 = .ok (.iconst 1, 1) := by decide +kernel
theorem dX12_surveyor_26 : decode cX12_surveyor 26 = .ok (.invokevirtual 205, 3) := by decide +kernel
theorem dX12_surveyor_29 : decode cX12_surveyor 29 = .ok (.ifCond .ne 25, 3) := by decide +kernel
theorem dX12_surveyor_32 : decode cX12_surveyor 32 = .ok (.aload_n 0, 1) := by decide +kernel
theorem dX12_surveyor_33 : decode cX12_surveyor 33 = .ok (.aload_n 0, 1) := by decide +kernel
theorem dX12_surveyor_34 : decode cX12_surveyor 34 = .ok (.getfield 414, 3) := by decide +kernel
theorem dX12_surveyor_37 : decode cX12_surveyor 37 = .ok (.bipush 12, 2) := by decide +kernel
theorem dX12_surveyor_39 : decode cX12_surveyor 39 = .ok (.if_icmp .ne 7, 3) := by decide +kernel
theorem dX12_surveyor_42 : decode cX12_surveyor 42 = .ok (.iconst 1, 1) := by decide +kernel
theorem dX12_surveyor_43 : decode cX12_surveyor 43 = .ok (.goto 4, 3) := by decide +kernel
theorem dX12_surveyor_46 : decode cX12_surveyor 46 = .ok (.iconst 0, 1) := by decide +kernel
theorem dX12_surveyor_47 : decode cX12_surveyor 47 = .ok (.iconst 2, 1) := by decide +kernel
theorem dX12_surveyor_48 : decode cX12_surveyor 48 = .ok (.invokevirtual 205, 3) := by decide +kernel
theorem dX12_surveyor_51 : decode cX12_surveyor 51 = .ok (.ifCond .eq 5, 3) := by decide +kernel
theorem dX12_surveyor_54 : decode cX12_surveyor 54 = .ok (.iconst 0, 1) := by decide +kernel
theorem dX12_surveyor_55 : decode cX12_surveyor 55 = .ok (.ireturn, 1) := by decide +kernel
theorem dX12_surveyor_56 : decode cX12_surveyor 56 = .ok (.aload_n 0, 1) := by decide +kernel
theorem dX12_surveyor_57 : decode cX12_surveyor 57 = .ok (.getfield 100, 3) := by decide +kernel
theorem dX12_surveyor_60 : decode cX12_surveyor 60 = .ok (.aload_n 0, 1) := by decide +kernel
theorem dX12_surveyor_61 : decode cX12_surveyor 61 = .ok (.getfield 414, 3) := by decide +kernel
theorem dX12_surveyor_64 : decode cX12_surveyor 64 = .ok (.iload_n 1, 1) := by decide +kernel
theorem dX12_surveyor_65 : decode cX12_surveyor 65 = .ok (.iastore, 1) := by decide +kernel
theorem dX12_surveyor_66 : decode cX12_surveyor 66 = .ok (.aload_n 0, 1) := by decide +kernel
theorem dX12_surveyor_67 : decode cX12_surveyor 67 = .ok (.dup, 1) := by decide +kernel
theorem dX12_surveyor_68 : decode cX12_surveyor 68 = .ok (.getfield 414, 3) := by decide +kernel
theorem dX12_surveyor_71 : decode cX12_surveyor 71 = .ok (.iconst 1, 1) := by decide +kernel
theorem dX12_surveyor_72 : decode cX12_surveyor 72 = .ok (.iadd, 1) := by decide +kernel
theorem dX12_surveyor_73 : decode cX12_surveyor 73 = .ok (.putfield 414, 3) := by decide +kernel
theorem dX12_surveyor_76 : decode cX12_surveyor 76 = .ok (.aload_n 0, 1) := by decide +kernel
theorem dX12_surveyor_77 : decode cX12_surveyor 77 = .ok (.getfield 414, 3) := by decide +kernel
theorem dX12_surveyor_80 : decode cX12_surveyor 80 = .ok (.iconst 1, 1) := by decide +kernel
theorem dX12_surveyor_81 : decode cX12_surveyor 81 = .ok (.isub, 1) := by decide +kernel
theorem dX12_surveyor_82 : decode cX12_surveyor 82 = .ok (.ireturn, 1) := by decide +kernel
theorem dX12_isBarred_0 : decode cX12_isBarred 0 = .ok (.aload_n 0, 1) := by decide +kernel
theorem dX12_isBarred_1 : decode cX12_isBarred 1 = .ok (.getfield 49, 3) := by decide +kernel
theorem dX12_isBarred_4 : decode cX12_isBarred 4 = .ok (.iload_n 1, 1) := by decide +kernel
theorem dX12_isBarred_5 : decode cX12_isBarred 5 = .ok (.iaload, 1) := by decide +kernel
theorem dX12_isBarred_6 : decode cX12_isBarred 6 = .ok (.istore_n 3, 1) := by decide +kernel
theorem dX12_isBarred_7 : decode cX12_isBarred 7 = .ok (.aload_n 0, 1) := by decide +kernel
theorem dX12_isBarred_8 : decode cX12_isBarred 8 = .ok (.getfield 100, 3) := by decide +kernel
theorem dX12_isBarred_11 : decode cX12_isBarred 11 = .ok (.iload_n 2, 1) := by decide +kernel
theorem dX12_isBarred_12 : decode cX12_isBarred 12 = .ok (.iaload, 1) := by decide +kernel
theorem dX12_isBarred_13 : decode cX12_isBarred 13 = .ok (.aload_n 0, 1) := by decide +kernel
theorem dX12_isBarred_14 : decode cX12_isBarred 14 = .ok (.getfield 9, 3) := by decide +kernel
theorem dX12_isBarred_17 : decode cX12_isBarred 17 = .ok (.iconst 2, 1) := by decide +kernel
theorem dX12_isBarred_18 : decode cX12_isBarred 18 = .ok (.iload_n 3, 1) := by decide +kernel
theorem dX12_isBarred_19 : decode cX12_isBarred 19 = .ok (.imul, 1) := by decide +kernel
theorem dX12_isBarred_20 : decode cX12_isBarred 20 = .ok (.iaload, 1) := by decide +kernel
theorem dX12_isBarred_21 : decode cX12_isBarred 21 = .ok (.ishr, 1) := by decide +kernel
theorem dX12_isBarred_22 : decode cX12_isBarred 22 = .ok (.iconst 1, 1) := by decide +kernel
theorem dX12_isBarred_23 : decode cX12_isBarred 23 = .ok (.iand, 1) := by decide +kernel
theorem dX12_isBarred_24 : decode cX12_isBarred 24 = .ok (.iconst 1, 1) := by decide +kernel
theorem dX12_isBarred_25 : decode cX12_isBarred 25 = .ok (.if_icmp .eq 26, 3) := by decide +kernel
theorem dX12_isBarred_28 : decode cX12_isBarred 28 = .ok (.aload_n 0, 1) := by decide +kernel
theorem dX12_isBarred_29 : decode cX12_isBarred 29 = .ok (.getfield 100, 3) := by decide +kernel
theorem dX12_isBarred_32 : decode cX12_isBarred 32 = .ok (.iload_n 2, 1) := by decide +kernel
theorem dX12_isBarred_33 : decode cX12_isBarred 33 = .ok (.iaload, 1) := by decide +kernel
theorem dX12_isBarred_34 : decode cX12_isBarred 34 = .ok (.aload_n 0, 1) := by decide +kernel
theorem dX12_isBarred_35 : decode cX12_isBarred 35 = .ok (.getfield 9, 3) := by decide +kernel
theorem dX12_isBarred_38 : decode cX12_isBarred 38 = .ok (.iconst 2, 1) := by decide +kernel
theorem dX12_isBarred_39 : decode cX12_isBarred 39 = .ok (.iload_n 3, 1) := by decide +kernel
theorem dX12_isBarred_40 : decode cX12_isBarred 40 = .ok (.imul, 1) := by decide +kernel
theorem dX12_isBarred_41 : decode cX12_isBarred 41 = .ok (.iconst 1, 1) := by decide +kernel
theorem dX12_isBarred_42 : decode cX12_isBarred 42 = .ok (.iadd, 1) := by decide +kernel
theorem dX12_isBarred_43 : decode cX12_isBarred 43 = .ok (.iaload, 1) := by decide +kernel
theorem dX12_isBarred_44 : decode cX12_isBarred 44 = .ok (.ishr, 1) := by decide +kernel
theorem dX12_isBarred_45 : decode cX12_isBarred 45 = .ok (.iconst 1, 1) := by decide +kernel
theorem dX12_isBarred_46 : decode cX12_isBarred 46 = .ok (.iand, 1) := by decide +kernel
theorem dX12_isBarred_47 : decode cX12_isBarred 47 = .ok (.iconst 1, 1) := by decide +kernel
theorem dX12_isBarred_48 : decode cX12_isBarred 48 = .ok (.if_icmp .ne 7, 3) := by decide +kernel
theorem dX12_isBarred_51 : decode cX12_isBarred 51 = .ok (.iconst 1, 1) := by decide +kernel
theorem dX12_isBarred_52 : decode cX12_isBarred 52 = .ok (.goto 4, 3) := by decide +kernel
theorem dX12_isBarred_55 : decode cX12_isBarred 55 = .ok (.iconst 0, 1) := by decide +kernel
theorem dX12_isBarred_56 : decode cX12_isBarred 56 = .ok (.ireturn, 1) := by decide +kernel
theorem dX12_appoint_0 : decode cX12_appoint 0 = .ok (.aload_n 0, 1) := by decide +kernel
theorem dX12_appoint_1 : decode cX12_appoint 1 = .ok (.iload_n 1, 1) := by decide +kernel
theorem dX12_appoint_2 : decode cX12_appoint 2 = .ok (.invokevirtual 387, 3) := by decide +kernel
theorem dX12_appoint_5 : decode cX12_appoint 5 = .ok (.ifCond .eq 56, 3) := by decide +kernel
theorem dX12_appoint_8 : decode cX12_appoint 8 = .ok (.aload_n 0, 1) := by decide +kernel
theorem dX12_appoint_9 : decode cX12_appoint 9 = .ok (.iload_n 3, 1) := by decide +kernel
theorem dX12_appoint_10 : decode cX12_appoint 10 = .ok (.ifCond .lt 11, 3) := by decide +kernel
theorem dX12_appoint_13 : decode cX12_appoint 13 = .ok (.iload_n 3, 1) := by decide +kernel
theorem dX12_appoint_14 : decode cX12_appoint 14 = .ok (.aload_n 0, 1) := by decide +kernel
theorem dX12_appoint_15 : decode cX12_appoint 15 = .ok (.getfield 414, 3) := by decide +kernel
theorem dX12_appoint_18 : decode cX12_appoint 18 = .ok (.if_icmp .lt 7, 3) := by decide +kernel
theorem dX12_appoint_21 : decode cX12_appoint 21 = .ok (.iconst 1, 1) := by decide +kernel
theorem dX12_appoint_22 : decode cX12_appoint 22 = .ok (.goto 4, 3) := by decide +kernel
theorem dX12_appoint_25 : decode cX12_appoint 25 = .ok (.iconst 0, 1) := by decide +kernel
theorem dX12_appoint_26 : decode cX12_appoint 26 = .ok (.iconst 1, 1) := by decide +kernel
theorem dX12_appoint_27 : decode cX12_appoint 27 = .ok (.invokevirtual 205, 3) := by decide +kernel
theorem dX12_appoint_30 : decode cX12_appoint 30 = .ok (.ifCond .ne 31, 3) := by decide +kernel
theorem dX12_appoint_33 : decode cX12_appoint 33 = .ok (.aload_n 0, 1) := by decide +kernel
theorem dX12_appoint_34 : decode cX12_appoint 34 = .ok (.iload_n 2, 1) := by decide +kernel
theorem dX12_appoint_35 : decode cX12_appoint 35 = .ok (.invokestatic 219, 3) := by decide +kernel
theorem dX12_appoint_38 : decode cX12_appoint 38 = .ok (.ifCond .eq 11, 3) := by decide +kernel
theorem dX12_appoint_41 : decode cX12_appoint 41 = .ok (.iload 4, 2) := by decide +kernel
theorem dX12_appoint_43 : decode cX12_appoint 43 = .ok (.invokestatic 219, 3) := by decide +kernel
theorem dX12_appoint_46 : decode cX12_appoint 46 = .ok (.ifCond .ne 7, 3) := by decide +kernel
theorem dX12_appoint_49 : decode cX12_appoint 49 = .ok (.iconst 1, 1) := by decide +kernel
theorem dX12_appoint_50 : decode cX12_appoint 50 = .ok (.goto 4, 3) := by decide +kernel
theorem dX12_appoint_53 : decode cX12_appoint 53 = .ok (.iconst 0, 1) := by decide +kernel
theorem dX12_appoint_54 : decode cX12_appoint 54 = .ok (.iconst 2, 1) := by decide +kernel
theorem dX12_appoint_55 : decode cX12_appoint 55 = .ok (.invokevirtual 205, 3) := by decide +kernel
theorem dX12_appoint_58 : decode cX12_appoint 58 = .ok (.ifCond .eq 5, 3) := by decide +kernel
theorem dX12_appoint_61 : decode cX12_appoint 61 = .ok (.iconst 0, 1) := by decide +kernel
theorem dX12_appoint_62 : decode cX12_appoint 62 = .ok (.ireturn, 1) := by decide +kernel
theorem dX12_appoint_63 : decode cX12_appoint 63 = .ok (.aload_n 0, 1) := by decide +kernel
theorem dX12_appoint_64 : decode cX12_appoint 64 = .ok (.iload_n 1, 1) := by decide +kernel
theorem dX12_appoint_65 : decode cX12_appoint 65 = .ok (.invokevirtual 390, 3) := by decide +kernel
theorem dX12_appoint_68 : decode cX12_appoint 68 = .ok (.iconst 4, 1) := by decide +kernel
theorem dX12_appoint_69 : decode cX12_appoint 69 = .ok (.if_icmp .eq 5, 3) := by decide +kernel
theorem dX12_appoint_72 : decode cX12_appoint 72 = .ok (.iconst (-1), 1) := by decide +kernel
theorem dX12_appoint_73 : decode cX12_appoint 73 = .ok (.ireturn, 1) := by decide +kernel
theorem dX12_appoint_74 : decode cX12_appoint 74 = .ok (.aload_n 0, 1) := by decide +kernel
theorem dX12_appoint_75 : decode cX12_appoint 75 = .ok (.getfield 106, 3) := by decide +kernel
theorem dX12_appoint_78 : decode cX12_appoint 78 = .ok (.iconst 3, 1) := by decide +kernel
theorem dX12_appoint_79 : decode cX12_appoint 79 = .ok (.iload_n 1, 1) := by decide +kernel
theorem dX12_appoint_80 : decode cX12_appoint 80 = .ok (.imul, 1) := by decide +kernel
theorem dX12_appoint_81 : decode cX12_appoint 81 = .ok (.iload_n 2, 1) := by decide +kernel
theorem dX12_appoint_82 : decode cX12_appoint 82 = .ok (.iadd, 1) := by decide +kernel
theorem dX12_appoint_83 : decode cX12_appoint 83 = .ok (.iaload, 1) := by decide +kernel
theorem dX12_appoint_84 : decode cX12_appoint 84 = .ok (.ifCond .lt 6, 3) := by decide +kernel
theorem dX12_appoint_87 : decode cX12_appoint 87 = .ok (.bipush (-2), 2) := by decide +kernel
theorem dX12_appoint_89 : decode cX12_appoint 89 = .ok (.ireturn, 1) := by decide +kernel
theorem dX12_appoint_90 : decode cX12_appoint 90 = .ok (.iload 4, 2) := by decide +kernel
theorem dX12_appoint_92 : decode cX12_appoint 92 = .ok (.iload_n 2, 1) := by decide +kernel
theorem dX12_appoint_93 : decode cX12_appoint 93 = .ok (.if_icmp .eq 34, 3) := by decide +kernel
theorem dX12_appoint_96 : decode cX12_appoint 96 = .ok (.aload_n 0, 1) := by decide +kernel
theorem dX12_appoint_97 : decode cX12_appoint 97 = .ok (.getfield 222, 3) := by decide +kernel
theorem dX12_appoint_100 : decode cX12_appoint 100 = .ok (.aload_n 0, 1) := by decide +kernel
theorem dX12_appoint_101 : decode cX12_appoint 101 = .ok (.iload_n 1, 1) := by decide +kernel
theorem dX12_appoint_102 : decode cX12_appoint 102 = .ok (.invokevirtual 396, 3) := by decide +kernel
theorem dX12_appoint_105 : decode cX12_appoint 105 = .ok (.aload_n 0, 1) := by decide +kernel
theorem dX12_appoint_106 : decode cX12_appoint 106 = .ok (.iload_n 1, 1) := by decide +kernel
theorem dX12_appoint_107 : decode cX12_appoint 107 = .ok (.bipush 8, 2) := by decide +kernel
theorem dX12_appoint_109 : decode cX12_appoint 109 = .ok (.invokevirtual 375, 3) := by decide +kernel
theorem dX12_appoint_112 : decode cX12_appoint 112 = .ok (.aload_n 0, 1) := by decide +kernel
theorem dX12_appoint_113 : decode cX12_appoint 113 = .ok (.iload_n 1, 1) := by decide +kernel
theorem dX12_appoint_114 : decode cX12_appoint 114 = .ok (.iconst 5, 1) := by decide +kernel
theorem dX12_appoint_115 : decode cX12_appoint 115 = .ok (.invokevirtual 375, 3) := by decide +kernel
theorem dX12_appoint_118 : decode cX12_appoint 118 = .ok (.invokestatic 364, 3) := by decide +kernel
theorem dX12_appoint_121 : decode cX12_appoint 121 = .ok (.if_icmp .gt 6, 3) := by decide +kernel
theorem dX12_appoint_124 : decode cX12_appoint 124 = .ok (.bipush (-3), 2) := by decide +kernel
theorem dX12_appoint_126 : decode cX12_appoint 126 = .ok (.ireturn, 1) := by decide +kernel
theorem dX12_appoint_127 : decode cX12_appoint 127 = .ok (.aload_n 0, 1) := by decide +kernel
theorem dX12_appoint_128 : decode cX12_appoint 128 = .ok (.iload_n 1, 1) := by decide +kernel
theorem dX12_appoint_129 : decode cX12_appoint 129 = .ok (.iload_n 3, 1) := by decide +kernel
theorem dX12_appoint_130 : decode cX12_appoint 130 = .ok (.invokevirtual 417, 3) := by decide +kernel
theorem dX12_appoint_133 : decode cX12_appoint 133 = .ok (.ifCond .eq 6, 3) := by decide +kernel
theorem dX12_appoint_136 : decode cX12_appoint 136 = .ok (.bipush (-4), 2) := by decide +kernel
theorem dX12_appoint_138 : decode cX12_appoint 138 = .ok (.ireturn, 1) := by decide +kernel
theorem dX12_appoint_139 : decode cX12_appoint 139 = .ok (.aload_n 0, 1) := by decide +kernel
theorem dX12_appoint_140 : decode cX12_appoint 140 = .ok (.getfield 106, 3) := by decide +kernel
theorem dX12_appoint_143 : decode cX12_appoint 143 = .ok (.iconst 3, 1) := by decide +kernel
theorem dX12_appoint_144 : decode cX12_appoint 144 = .ok (.iload_n 1, 1) := by decide +kernel
theorem dX12_appoint_145 : decode cX12_appoint 145 = .ok (.imul, 1) := by decide +kernel
theorem dX12_appoint_146 : decode cX12_appoint 146 = .ok (.iconst 1, 1) := by decide +kernel
theorem dX12_appoint_147 : decode cX12_appoint 147 = .ok (.iadd, 1) := by decide +kernel
theorem dX12_appoint_148 : decode cX12_appoint 148 = .ok (.iload_n 2, 1) := by decide +kernel
theorem dX12_appoint_149 : decode cX12_appoint 149 = .ok (.isub, 1) := by decide +kernel
theorem dX12_appoint_150 : decode cX12_appoint 150 = .ok (.iaload, 1) := by decide +kernel
theorem dX12_appoint_151 : decode cX12_appoint 151 = .ok (.iload_n 3, 1) := by decide +kernel
theorem dX12_appoint_152 : decode cX12_appoint 152 = .ok (.if_icmp .ne 6, 3) := by decide +kernel
theorem dX12_appoint_155 : decode cX12_appoint 155 = .ok (.bipush (-5), 2) := by decide +kernel
theorem dX12_appoint_157 : decode cX12_appoint 157 = .ok (.ireturn, 1) := by decide +kernel
theorem dX12_appoint_158 : decode cX12_appoint 158 = .ok (.aload_n 0, 1) := by decide +kernel
theorem dX12_appoint_159 : decode cX12_appoint 159 = .ok (.getfield 106, 3) := by decide +kernel
theorem dX12_appoint_162 : decode cX12_appoint 162 = .ok (.iconst 3, 1) := by decide +kernel
theorem dX12_appoint_163 : decode cX12_appoint 163 = .ok (.iload_n 1, 1) := by decide +kernel
theorem dX12_appoint_164 : decode cX12_appoint 164 = .ok (.imul, 1) := by decide +kernel
theorem dX12_appoint_165 : decode cX12_appoint 165 = .ok (.iload_n 2, 1) := by decide +kernel
theorem dX12_appoint_166 : decode cX12_appoint 166 = .ok (.iadd, 1) := by decide +kernel
theorem dX12_appoint_167 : decode cX12_appoint 167 = .ok (.iload_n 3, 1) := by decide +kernel
theorem dX12_appoint_168 : decode cX12_appoint 168 = .ok (.iastore, 1) := by decide +kernel
theorem dX12_appoint_169 : decode cX12_appoint 169 = .ok (.aload_n 0, 1) := by decide +kernel
theorem dX12_appoint_170 : decode cX12_appoint 170 = .ok (.getfield 106, 3) := by decide +kernel
theorem dX12_appoint_173 : decode cX12_appoint 173 = .ok (.iconst 3, 1) := by decide +kernel
theorem dX12_appoint_174 : decode cX12_appoint 174 = .ok (.iload_n 1, 1) := by decide +kernel
theorem dX12_appoint_175 : decode cX12_appoint 175 = .ok (.imul, 1) := by decide +kernel
theorem dX12_appoint_176 : decode cX12_appoint 176 = .ok (.iconst 1, 1) := by decide +kernel
theorem dX12_appoint_177 : decode cX12_appoint 177 = .ok (.iadd, 1) := by decide +kernel
theorem dX12_appoint_178 : decode cX12_appoint 178 = .ok (.iload_n 2, 1) := by decide +kernel
theorem dX12_appoint_179 : decode cX12_appoint 179 = .ok (.isub, 1) := by decide +kernel
theorem dX12_appoint_180 : decode cX12_appoint 180 = .ok (.iaload, 1) := by decide +kernel
theorem dX12_appoint_181 : decode cX12_appoint 181 = .ok (.ifCond .lt 8, 3) := by decide +kernel
theorem dX12_appoint_184 : decode cX12_appoint 184 = .ok (.aload_n 0, 1) := by decide +kernel
theorem dX12_appoint_185 : decode cX12_appoint 185 = .ok (.iload_n 1, 1) := by decide +kernel
theorem dX12_appoint_186 : decode cX12_appoint 186 = .ok (.invokevirtual 421, 3) := by decide +kernel
theorem dX12_appoint_189 : decode cX12_appoint 189 = .ok (.iconst 1, 1) := by decide +kernel
theorem dX12_appoint_190 : decode cX12_appoint 190 = .ok (.ireturn, 1) := by decide +kernel
theorem dX12_thirdFor_0 : decode cX12_thirdFor 0 = .ok (.iconst (-1), 1) := by decide +kernel
theorem dX12_thirdFor_1 : decode cX12_thirdFor 1 = .ok (.istore_n 2, 1) := by decide +kernel
theorem dX12_thirdFor_2 : decode cX12_thirdFor 2 = .ok (.iconst 0, 1) := by decide +kernel
theorem dX12_thirdFor_3 : decode cX12_thirdFor 3 = .ok (.istore_n 3, 1) := by decide +kernel
theorem dX12_thirdFor_4 : decode cX12_thirdFor 4 = .ok (.iload_n 3, 1) := by decide +kernel
theorem dX12_thirdFor_5 : decode cX12_thirdFor 5 = .ok (.aload_n 0, 1) := by decide +kernel
theorem dX12_thirdFor_6 : decode cX12_thirdFor 6 = .ok (.getfield 414, 3) := by decide +kernel
theorem dX12_thirdFor_9 : decode cX12_thirdFor 9 = .ok (.if_icmp .ge 68, 3) := by decide +kernel
theorem dX12_thirdFor_12 : decode cX12_thirdFor 12 = .ok (.iload_n 3, 1) := by decide +kernel
theorem dX12_thirdFor_13 : decode cX12_thirdFor 13 = .ok (.aload_n 0, 1) := by decide +kernel
theorem dX12_thirdFor_14 : decode cX12_thirdFor 14 = .ok (.getfield 106, 3) := by decide +kernel
theorem dX12_thirdFor_17 : decode cX12_thirdFor 17 = .ok (.iconst 3, 1) := by decide +kernel
theorem dX12_thirdFor_18 : decode cX12_thirdFor 18 = .ok (.iload_n 1, 1) := by decide +kernel
theorem dX12_thirdFor_19 : decode cX12_thirdFor 19 = .ok (.imul, 1) := by decide +kernel
theorem dX12_thirdFor_20 : decode cX12_thirdFor 20 = .ok (.iaload, 1) := by decide +kernel
theorem dX12_thirdFor_21 : decode cX12_thirdFor 21 = .ok (.if_icmp .eq 50, 3) := by decide +kernel
theorem dX12_thirdFor_24 : decode cX12_thirdFor 24 = .ok (.iload_n 3, 1) := by decide +kernel
theorem dX12_thirdFor_25 : decode cX12_thirdFor 25 = .ok (.aload_n 0, 1) := by decide +kernel
theorem dX12_thirdFor_26 : decode cX12_thirdFor 26 = .ok (.getfield 106, 3) := by decide +kernel
theorem dX12_thirdFor_29 : decode cX12_thirdFor 29 = .ok (.iconst 3, 1) := by decide +kernel
theorem dX12_thirdFor_30 : decode cX12_thirdFor 30 = .ok (.iload_n 1, 1) := by decide +kernel
theorem dX12_thirdFor_31 : decode cX12_thirdFor 31 = .ok (.imul, 1) := by decide +kernel
theorem dX12_thirdFor_32 : decode cX12_thirdFor 32 = .ok (.iconst 1, 1) := by decide +kernel
theorem dX12_thirdFor_33 : decode cX12_thirdFor 33 = .ok (.iadd, 1) := by decide +kernel
theorem dX12_thirdFor_34 : decode cX12_thirdFor 34 = .ok (.iaload, 1) := by decide +kernel
theorem dX12_thirdFor_35 : decode cX12_thirdFor 35 = .ok (.if_icmp .eq 36, 3) := by decide +kernel
theorem dX12_thirdFor_38 : decode cX12_thirdFor 38 = .ok (.aload_n 0, 1) := by decide +kernel
theorem dX12_thirdFor_39 : decode cX12_thirdFor 39 = .ok (.iload_n 1, 1) := by decide +kernel
theorem dX12_thirdFor_40 : decode cX12_thirdFor 40 = .ok (.iload_n 3, 1) := by decide +kernel
theorem dX12_thirdFor_41 : decode cX12_thirdFor 41 = .ok (.invokevirtual 417, 3) := by decide +kernel
theorem dX12_thirdFor_44 : decode cX12_thirdFor 44 = .ok (.ifCond .eq 6, 3) := by decide +kernel
theorem dX12_thirdFor_47 : decode cX12_thirdFor 47 = .ok (.goto 24, 3) := by decide +kernel
theorem dX12_thirdFor_50 : decode cX12_thirdFor 50 = .ok (.iload_n 2, 1) := by decide +kernel
theorem dX12_thirdFor_51 : decode cX12_thirdFor 51 = .ok (.ifCond .lt 18, 3) := by decide +kernel
theorem dX12_thirdFor_54 : decode cX12_thirdFor 54 = .ok (.aload_n 0, 1) := by decide +kernel
theorem dX12_thirdFor_55 : decode cX12_thirdFor 55 = .ok (.getfield 103, 3) := by decide +kernel
theorem dX12_thirdFor_58 : decode cX12_thirdFor 58 = .ok (.iload_n 3, 1) := by decide +kernel
theorem dX12_thirdFor_59 : decode cX12_thirdFor 59 = .ok (.iaload, 1) := by decide +kernel
theorem dX12_thirdFor_60 : decode cX12_thirdFor 60 = .ok (.aload_n 0, 1) := by decide +kernel
theorem dX12_thirdFor_61 : decode cX12_thirdFor 61 = .ok (.getfield 103, 3) := by decide +kernel
theorem dX12_thirdFor_64 : decode cX12_thirdFor 64 = .ok (.iload_n 2, 1) := by decide +kernel
theorem dX12_thirdFor_65 : decode cX12_thirdFor 65 = .ok (.iaload, 1) := by decide +kernel
theorem dX12_thirdFor_66 : decode cX12_thirdFor 66 = .ok (.if_icmp .ge 5, 3) := by decide +kernel
theorem dX12_thirdFor_69 : decode cX12_thirdFor 69 = .ok (.iload_n 3, 1) := by decide +kernel
theorem dX12_thirdFor_70 : decode cX12_thirdFor 70 = .ok (.istore_n 2, 1) := by decide +kernel
theorem dX12_thirdFor_71 : decode cX12_thirdFor 71 = .ok (.iinc 3 1, 3) := by decide +kernel
theorem dX12_thirdFor_74 : decode cX12_thirdFor 74 = .ok (.goto (-70), 3) := by decide +kernel
theorem dX12_thirdFor_77 : decode cX12_thirdFor 77 = .ok (.aload_n 0, 1) := by decide +kernel
theorem dX12_thirdFor_78 : decode cX12_thirdFor 78 = .ok (.getfield 106, 3) := by decide +kernel
theorem dX12_thirdFor_81 : decode cX12_thirdFor 81 = .ok (.iconst 3, 1) := by decide +kernel
theorem dX12_thirdFor_82 : decode cX12_thirdFor 82 = .ok (.iload_n 1, 1) := by decide +kernel
theorem dX12_thirdFor_83 : decode cX12_thirdFor 83 = .ok (.imul, 1) := by decide +kernel
theorem dX12_thirdFor_84 : decode cX12_thirdFor 84 = .ok (.iconst 2, 1) := by decide +kernel
theorem dX12_thirdFor_85 : decode cX12_thirdFor 85 = .ok (.iadd, 1) := by decide +kernel
theorem dX12_thirdFor_86 : decode cX12_thirdFor 86 = .ok (.iload_n 2, 1) := by decide +kernel
theorem dX12_thirdFor_87 : decode cX12_thirdFor 87 = .ok (.iastore, 1) := by decide +kernel
theorem dX12_thirdFor_88 : decode cX12_thirdFor 88 = .ok (.iload_n 2, 1) := by decide +kernel
theorem dX12_thirdFor_89 : decode cX12_thirdFor 89 = .ok (.ifCond .lt 13, 3) := by decide +kernel
theorem dX12_thirdFor_92 : decode cX12_thirdFor 92 = .ok (.aload_n 0, 1) := by decide +kernel
theorem dX12_thirdFor_93 : decode cX12_thirdFor 93 = .ok (.getfield 103, 3) := by decide +kernel
theorem dX12_thirdFor_96 : decode cX12_thirdFor 96 = .ok (.iload_n 2, 1) := by decide +kernel
theorem dX12_thirdFor_97 : decode cX12_thirdFor 97 = .ok (.dup2, 1) := by decide +kernel
theorem dX12_thirdFor_98 : decode cX12_thirdFor 98 = .ok (.iaload, 1) := by decide +kernel
theorem dX12_thirdFor_99 : decode cX12_thirdFor 99 = .ok (.iconst 1, 1) := by decide +kernel
theorem dX12_thirdFor_100 : decode cX12_thirdFor 100 = .ok (.iadd, 1) := by decide +kernel
theorem dX12_thirdFor_101 : decode cX12_thirdFor 101 = .ok (.iastore, 1) := by decide +kernel
theorem dX12_thirdFor_102 : decode cX12_thirdFor 102 = .ok (.return_, 1) := by decide +kernel
theorem dX12_isWhich_0 : decode cX12_isWhich 0 = .ok (.iload_n 0, 1) := by decide +kernel
theorem dX12_isWhich_1 : decode cX12_isWhich 1 = .ok (.ifCond .lt 12, 3) := by decide +kernel
theorem dX12_isWhich_4 : decode cX12_isWhich 4 = .ok (.iload_n 0, 1) := by decide +kernel
theorem dX12_isWhich_5 : decode cX12_isWhich 5 = .ok (.iconst 2, 1) := by decide +kernel
theorem dX12_isWhich_6 : decode cX12_isWhich 6 = .ok (.if_icmp .gt 7, 3) := by decide +kernel
theorem dX12_isWhich_9 : decode cX12_isWhich 9 = .ok (.iconst 1, 1) := by decide +kernel
theorem dX12_isWhich_10 : decode cX12_isWhich 10 = .ok (.goto 4, 3) := by decide +kernel
theorem dX12_isWhich_13 : decode cX12_isWhich 13 = .ok (.iconst 0, 1) := by decide +kernel
theorem dX12_isWhich_14 : decode cX12_isWhich 14 = .ok (.ireturn, 1) := by decide +kernel
theorem dX12_surveys_0 : decode cX12_surveys 0 = .ok (.aload_n 0, 1) := by decide +kernel
theorem dX12_surveys_1 : decode cX12_surveys 1 = .ok (.iload_n 1, 1) := by decide +kernel
theorem dX12_surveys_2 : decode cX12_surveys 2 = .ok (.invokevirtual 387, 3) := by decide +kernel
theorem dX12_surveys_5 : decode cX12_surveys 5 = .ok (.ifCond .eq 23, 3) := by decide +kernel
theorem dX12_surveys_8 : decode cX12_surveys 8 = .ok (.aload_n 0, 1) := by decide +kernel
theorem dX12_surveys_9 : decode cX12_surveys 9 = .ok (.iload_n 2, 1) := by decide +kernel
theorem dX12_surveys_10 : decode cX12_surveys 10 = .ok (.invokestatic 424, 3) := by decide +kernel
theorem dX12_surveys_13 : decode cX12_surveys 13 = .ok (.ifCond .ne 7, 3) := by decide +kernel
theorem dX12_surveys_16 : decode cX12_surveys 16 = .ok (.iconst 1, 1) := by decide +kernel
theorem dX12_surveys_17 : decode cX12_surveys 17 = .ok (.goto 4, 3) := by decide +kernel
theorem dX12_surveys_20 : decode cX12_surveys 20 = .ok (.iconst 0, 1) := by decide +kernel
theorem dX12_surveys_21 : decode cX12_surveys 21 = .ok (.iconst 2, 1) := by decide +kernel
theorem dX12_surveys_22 : decode cX12_surveys 22 = .ok (.invokevirtual 205, 3) := by decide +kernel
theorem dX12_surveys_25 : decode cX12_surveys 25 = .ok (.ifCond .eq 5, 3) := by decide +kernel
theorem dX12_surveys_28 : decode cX12_surveys 28 = .ok (.iconst 0, 1) := by decide +kernel
theorem dX12_surveys_29 : decode cX12_surveys 29 = .ok (.ireturn, 1) := by decide +kernel
theorem dX12_surveys_30 : decode cX12_surveys 30 = .ok (.aload_n 0, 1) := by decide +kernel
theorem dX12_surveys_31 : decode cX12_surveys 31 = .ok (.getfield 106, 3) := by decide +kernel
theorem dX12_surveys_34 : decode cX12_surveys 34 = .ok (.iconst 3, 1) := by decide +kernel
theorem dX12_surveys_35 : decode cX12_surveys 35 = .ok (.iload_n 1, 1) := by decide +kernel
theorem dX12_surveys_36 : decode cX12_surveys 36 = .ok (.imul, 1) := by decide +kernel
theorem dX12_surveys_37 : decode cX12_surveys 37 = .ok (.iload_n 2, 1) := by decide +kernel
theorem dX12_surveys_38 : decode cX12_surveys 38 = .ok (.iadd, 1) := by decide +kernel
theorem dX12_surveys_39 : decode cX12_surveys 39 = .ok (.iaload, 1) := by decide +kernel
theorem dX12_surveys_40 : decode cX12_surveys 40 = .ok (.ireturn, 1) := by decide +kernel
theorem dX12_propose_0 : decode cX12_propose 0 = .ok (.iload_n 2, 1) := by decide +kernel
theorem dX12_propose_1 : decode cX12_propose 1 = .ok (.invokestatic 424, 3) := by decide +kernel
theorem dX12_propose_4 : decode cX12_propose 4 = .ok (.ifCond .eq 51, 3) := by decide +kernel
theorem dX12_propose_7 : decode cX12_propose 7 = .ok (.iload_n 3, 1) := by decide +kernel
theorem dX12_propose_8 : decode cX12_propose 8 = .ok (.aload_n 0, 1) := by decide +kernel
theorem dX12_propose_9 : decode cX12_propose 9 = .ok (.getfield 222, 3) := by decide +kernel
theorem dX12_propose_12 : decode cX12_propose 12 = .ok (.if_icmp .lt 43, 3) := by decide +kernel
theorem dX12_propose_15 : decode cX12_propose 15 = .ok (.iload 4, 2) := by decide +kernel
theorem dX12_propose_17 : decode cX12_propose 17 = .ok (.ifCond .lt 38, 3) := by decide +kernel
theorem dX12_propose_20 : decode cX12_propose 20 = .ok (.iload 4, 2) := by decide +kernel
theorem dX12_propose_22 : decode cX12_propose 22 = .ok (.bipush 100, 2) := by decide +kernel
theorem dX12_propose_24 : decode cX12_propose 24 = .ok (.idiv, 1) := by decide +kernel
theorem dX12_propose_25 : decode cX12_propose 25 = .ok (.iload 4, 2) := by decide +kernel
theorem dX12_propose_27 : decode cX12_propose 27 = .ok (.bipush 100, 2) := by decide +kernel
theorem dX12_propose_29 : decode cX12_propose 29 = .ok (.irem, 1) := by decide +kernel
theorem dX12_propose_30 : decode cX12_propose 30 = .ok (.if_icmp .ge 25, 3) := by decide +kernel
theorem dX12_propose_33 : decode cX12_propose 33 = .ok (.iload 4, 2) := by decide +kernel
theorem dX12_propose_35 : decode cX12_propose 35 = .ok (.bipush 100, 2) := by decide +kernel
theorem dX12_propose_37 : decode cX12_propose 37 = .ok (.irem, 1) := by decide +kernel
theorem dX12_propose_38 : decode cX12_propose 38 = .ok (.bipush 24, 2) := by decide +kernel
theorem dX12_propose_40 : decode cX12_propose 40 = .ok (.if_icmp .gt 15, 3) := by decide +kernel
theorem dX12_propose_43 : decode cX12_propose 43 = .ok (.iload 5, 2) := by decide +kernel
theorem dX12_propose_45 : decode cX12_propose 45 = .ok (.ifCond .lt 10, 3) := by decide +kernel
theorem dX12_propose_48 : decode cX12_propose 48 = .ok (.iload 5, 2) := by decide +kernel
theorem dX12_propose_50 : decode cX12_propose 50 = .ok (.bipush 100, 2) := by decide +kernel
theorem dX12_propose_52 : decode cX12_propose 52 = .ok (.if_icmp .le 7, 3) := by decide +kernel
theorem dX12_propose_55 : decode cX12_propose 55 = .ok (.iconst 1, 1) := by decide +kernel
theorem dX12_propose_56 : decode cX12_propose 56 = .ok (.goto 4, 3) := by decide +kernel
theorem dX12_propose_59 : decode cX12_propose 59 = .ok (.iconst 0, 1) := by decide +kernel
theorem dX12_propose_60 : decode cX12_propose 60 = .ok (.istore 6, 2) := by decide +kernel
theorem dX12_propose_62 : decode cX12_propose 62 = .ok (.aload_n 0, 1) := by decide +kernel
theorem dX12_propose_63 : decode cX12_propose 63 = .ok (.iload_n 1, 1) := by decide +kernel
theorem dX12_propose_64 : decode cX12_propose 64 = .ok (.invokevirtual 387, 3) := by decide +kernel
theorem dX12_propose_67 : decode cX12_propose 67 = .ok (.ifCond .eq 13, 3) := by decide +kernel
theorem dX12_propose_70 : decode cX12_propose 70 = .ok (.aload_n 0, 1) := by decide +kernel
theorem dX12_propose_71 : decode cX12_propose 71 = .ok (.iload 6, 2) := by decide +kernel
theorem dX12_propose_73 : decode cX12_propose 73 = .ok (.iconst 2, 1) := by decide +kernel
theorem dX12_propose_74 : decode cX12_propose 74 = .ok (.invokevirtual 205, 3) := by decide +kernel
theorem dX12_propose_77 : decode cX12_propose 77 = .ok (.ifCond .eq 5, 3) := by decide +kernel
theorem dX12_propose_80 : decode cX12_propose 80 = .ok (.iconst 0, 1) := by decide +kernel
theorem dX12_propose_81 : decode cX12_propose 81 = .ok (.ireturn, 1) := by decide +kernel
theorem dX12_propose_82 : decode cX12_propose 82 = .ok (.aload_n 0, 1) := by decide +kernel
theorem dX12_propose_83 : decode cX12_propose 83 = .ok (.iload_n 1, 1) := by decide +kernel
theorem dX12_propose_84 : decode cX12_propose 84 = .ok (.invokevirtual 390, 3) := by decide +kernel
theorem dX12_propose_87 : decode cX12_propose 87 = .ok (.iconst 4, 1) := by decide +kernel
theorem dX12_propose_88 : decode cX12_propose 88 = .ok (.if_icmp .eq 5, 3) := by decide +kernel
theorem dX12_propose_91 : decode cX12_propose 91 = .ok (.iconst (-1), 1) := by decide +kernel
theorem dX12_propose_92 : decode cX12_propose 92 = .ok (.ireturn, 1) := by decide +kernel
theorem dX12_propose_93 : decode cX12_propose 93 = .ok (.aload_n 0, 1) := by decide +kernel
theorem dX12_propose_94 : decode cX12_propose 94 = .ok (.getfield 106, 3) := by decide +kernel
theorem dX12_propose_97 : decode cX12_propose 97 = .ok (.iconst 3, 1) := by decide +kernel
theorem dX12_propose_98 : decode cX12_propose 98 = .ok (.iload_n 1, 1) := by decide +kernel
theorem dX12_propose_99 : decode cX12_propose 99 = .ok (.imul, 1) := by decide +kernel
theorem dX12_propose_100 : decode cX12_propose 100 = .ok (.iload_n 2, 1) := by decide +kernel
theorem dX12_propose_101 : decode cX12_propose 101 = .ok (.iadd, 1) := by decide +kernel
theorem dX12_propose_102 : decode cX12_propose 102 = .ok (.iaload, 1) := by decide +kernel
theorem dX12_propose_103 : decode cX12_propose 103 = .ok (.ifCond .ge 6, 3) := by decide +kernel
theorem dX12_propose_106 : decode cX12_propose 106 = .ok (.bipush (-2), 2) := by decide +kernel
theorem dX12_propose_108 : decode cX12_propose 108 = .ok (.ireturn, 1) := by decide +kernel
theorem dX12_propose_109 : decode cX12_propose 109 = .ok (.iconst 3, 1) := by decide +kernel
theorem dX12_propose_110 : decode cX12_propose 110 = .ok (.iload_n 1, 1) := by decide +kernel
theorem dX12_propose_111 : decode cX12_propose 111 = .ok (.imul, 1) := by decide +kernel
theorem dX12_propose_112 : decode cX12_propose 112 = .ok (.iload_n 2, 1) := by decide +kernel
theorem dX12_propose_113 : decode cX12_propose 113 = .ok (.iadd, 1) := by decide +kernel
theorem dX12_propose_114 : decode cX12_propose 114 = .ok (.istore 7, 2) := by decide +kernel
theorem dX12_propose_116 : decode cX12_propose 116 = .ok (.aload_n 0, 1) := by decide +kernel
theorem dX12_propose_117 : decode cX12_propose 117 = .ok (.getfield 109, 3) := by decide +kernel
theorem dX12_propose_120 : decode cX12_propose 120 = .ok (.iload 7, 2) := by decide +kernel
theorem dX12_propose_122 : decode cX12_propose 122 = .ok (.iload_n 3, 1) := by decide +kernel
theorem dX12_propose_123 : decode cX12_propose 123 = .ok (.iastore, 1) := by decide +kernel
theorem dX12_propose_124 : decode cX12_propose 124 = .ok (.aload_n 0, 1) := by decide +kernel
theorem dX12_propose_125 : decode cX12_propose 125 = .ok (.getfield 112, 3) := by decide +kernel
theorem dX12_propose_128 : decode cX12_propose 128 = .ok (.iload 7, 2) := by decide +kernel
theorem dX12_propose_130 : decode cX12_propose 130 = .ok (.iload 4, 2) := by decide +kernel
theorem dX12_propose_132 : decode cX12_propose 132 = .ok (.iastore, 1) := by decide +kernel
theorem dX12_propose_133 : decode cX12_propose 133 = .ok (.aload_n 0, 1) := by decide +kernel
theorem dX12_propose_134 : decode cX12_propose 134 = .ok (.getfield 115, 3) := by decide +kernel
theorem dX12_propose_137 : decode cX12_propose 137 = .ok (.iload 7, 2) := by decide +kernel
theorem dX12_propose_139 : decode cX12_propose 139 = .ok (.iload 5, 2) := by decide +kernel
theorem dX12_propose_141 : decode cX12_propose 141 = .ok (.iastore, 1) := by decide +kernel
theorem dX12_propose_142 : decode cX12_propose 142 = .ok (.iconst 0, 1) := by decide +kernel
theorem dX12_propose_143 : decode cX12_propose 143 = .ok (.istore 8, 2) := by decide +kernel
theorem dX12_propose_145 : decode cX12_propose 145 = .ok (.iconst 0, 1) := by decide +kernel
theorem dX12_propose_146 : decode cX12_propose 146 = .ok (.istore 9, 2) := by decide +kernel
theorem dX12_propose_148 : decode cX12_propose 148 = .ok (.iload 9, 2) := by decide +kernel
theorem dX12_propose_150 : decode cX12_propose 150 = .ok (.iconst 3, 1) := by decide +kernel
theorem dX12_propose_151 : decode cX12_propose 151 = .ok (.if_icmp .ge 70, 3) := by decide +kernel
theorem dX12_propose_154 : decode cX12_propose 154 = .ok (.iconst 3, 1) := by decide +kernel
theorem dX12_propose_155 : decode cX12_propose 155 = .ok (.iload_n 1, 1) := by decide +kernel
theorem dX12_propose_156 : decode cX12_propose 156 = .ok (.imul, 1) := by decide +kernel
theorem dX12_propose_157 : decode cX12_propose 157 = .ok (.iload 9, 2) := by decide +kernel
theorem dX12_propose_159 : decode cX12_propose 159 = .ok (.iadd, 1) := by decide +kernel
theorem dX12_propose_160 : decode cX12_propose 160 = .ok (.istore 10, 2) := by decide +kernel
theorem dX12_propose_162 : decode cX12_propose 162 = .ok (.iload 8, 2) := by decide +kernel
theorem dX12_propose_164 : decode cX12_propose 164 = .ok (.ifCond .ne 44, 3) := by decide +kernel
theorem dX12_propose_167 : decode cX12_propose 167 = .ok (.iload 9, 2) := by decide +kernel
theorem dX12_propose_169 : decode cX12_propose 169 = .ok (.iload_n 2, 1) := by decide +kernel
theorem dX12_propose_170 : decode cX12_propose 170 = .ok (.if_icmp .eq 42, 3) := by decide +kernel
theorem dX12_propose_173 : decode cX12_propose 173 = .ok (.aload_n 0, 1) := by decide +kernel
theorem dX12_propose_174 : decode cX12_propose 174 = .ok (.getfield 109, 3) := by decide +kernel
theorem dX12_propose_177 : decode cX12_propose 177 = .ok (.iload 10, 2) := by decide +kernel
theorem dX12_propose_179 : decode cX12_propose 179 = .ok (.iaload, 1) := by decide +kernel
theorem dX12_propose_180 : decode cX12_propose 180 = .ok (.iload_n 3, 1) := by decide +kernel
theorem dX12_propose_181 : decode cX12_propose 181 = .ok (.if_icmp .ne 31, 3) := by decide +kernel
theorem dX12_propose_184 : decode cX12_propose 184 = .ok (.aload_n 0, 1) := by decide +kernel
theorem dX12_propose_185 : decode cX12_propose 185 = .ok (.getfield 112, 3) := by decide +kernel
theorem dX12_propose_188 : decode cX12_propose 188 = .ok (.iload 10, 2) := by decide +kernel
theorem dX12_propose_190 : decode cX12_propose 190 = .ok (.iaload, 1) := by decide +kernel
theorem dX12_propose_191 : decode cX12_propose 191 = .ok (.iload 4, 2) := by decide +kernel
theorem dX12_propose_193 : decode cX12_propose 193 = .ok (.if_icmp .ne 19, 3) := by decide +kernel
theorem dX12_propose_196 : decode cX12_propose 196 = .ok (.aload_n 0, 1) := by decide +kernel
theorem dX12_propose_197 : decode cX12_propose 197 = .ok (.getfield 115, 3) := by decide +kernel
theorem dX12_propose_200 : decode cX12_propose 200 = .ok (.iload 10, 2) := by decide +kernel
theorem dX12_propose_202 : decode cX12_propose 202 = .ok (.iaload, 1) := by decide +kernel
theorem dX12_propose_203 : decode cX12_propose 203 = .ok (.iload 5, 2) := by decide +kernel
theorem dX12_propose_205 : decode cX12_propose 205 = .ok (.if_icmp .ne 7, 3) := by decide +kernel
theorem dX12_propose_208 : decode cX12_propose 208 = .ok (.iconst 1, 1) := by decide +kernel
theorem dX12_propose_209 : decode cX12_propose 209 = .ok (.goto 4, 3) := by decide +kernel
theorem dX12_propose_212 : decode cX12_propose 212 = .ok (.iconst 0, 1) := by decide +kernel
theorem dX12_propose_213 : decode cX12_propose 213 = .ok (.istore 8, 2) := by decide +kernel
theorem dX12_propose_215 : decode cX12_propose 215 = .ok (.iinc 9 1, 3) := by decide +kernel
theorem dX12_propose_218 : decode cX12_propose 218 = .ok (.goto (-70), 3) := by decide +kernel
theorem dX12_propose_221 : decode cX12_propose 221 = .ok (.iload 8, 2) := by decide +kernel
theorem dX12_propose_223 : decode cX12_propose 223 = .ok (.ifCond .ne 5, 3) := by decide +kernel
theorem dX12_propose_226 : decode cX12_propose 226 = .ok (.iconst 0, 1) := by decide +kernel
theorem dX12_propose_227 : decode cX12_propose 227 = .ok (.ireturn, 1) := by decide +kernel
theorem dX12_propose_228 : decode cX12_propose 228 = .ok (.aload_n 0, 1) := by decide +kernel
theorem dX12_propose_229 : decode cX12_propose 229 = .ok (.getfield 73, 3) := by decide +kernel
theorem dX12_propose_232 : decode cX12_propose 232 = .ok (.iload_n 1, 1) := by decide +kernel
theorem dX12_propose_233 : decode cX12_propose 233 = .ok (.iconst 1, 1) := by decide +kernel
theorem dX12_propose_234 : decode cX12_propose 234 = .ok (.bastore, 1) := by decide +kernel
theorem dX12_propose_235 : decode cX12_propose 235 = .ok (.aload_n 0, 1) := by decide +kernel
theorem dX12_propose_236 : decode cX12_propose 236 = .ok (.getfield 76, 3) := by decide +kernel
theorem dX12_propose_239 : decode cX12_propose 239 = .ok (.iload_n 1, 1) := by decide +kernel
theorem dX12_propose_240 : decode cX12_propose 240 = .ok (.aload_n 0, 1) := by decide +kernel
theorem dX12_propose_241 : decode cX12_propose 241 = .ok (.getfield 222, 3) := by decide +kernel
theorem dX12_propose_244 : decode cX12_propose 244 = .ok (.iastore, 1) := by decide +kernel
theorem dX12_propose_245 : decode cX12_propose 245 = .ok (.aload_n 0, 1) := by decide +kernel
theorem dX12_propose_246 : decode cX12_propose 246 = .ok (.getfield 79, 3) := by decide +kernel
theorem dX12_propose_249 : decode cX12_propose 249 = .ok (.iload_n 1, 1) := by decide +kernel
theorem dX12_propose_250 : decode cX12_propose 250 = .ok (.iload_n 3, 1) := by decide +kernel
theorem dX12_propose_251 : decode cX12_propose 251 = .ok (.iastore, 1) := by decide +kernel
theorem dX12_propose_252 : decode cX12_propose 252 = .ok (.aload_n 0, 1) := by decide +kernel
theorem dX12_propose_253 : decode cX12_propose 253 = .ok (.getfield 82, 3) := by decide +kernel
theorem dX12_propose_256 : decode cX12_propose 256 = .ok (.iload_n 1, 1) := by decide +kernel
theorem dX12_propose_257 : decode cX12_propose 257 = .ok (.iload 4, 2) := by decide +kernel
theorem dX12_propose_259 : decode cX12_propose 259 = .ok (.iastore, 1) := by decide +kernel
theorem dX12_propose_260 : decode cX12_propose 260 = .ok (.aload_n 0, 1) := by decide +kernel
theorem dX12_propose_261 : decode cX12_propose 261 = .ok (.getfield 85, 3) := by decide +kernel
theorem dX12_propose_264 : decode cX12_propose 264 = .ok (.iload_n 1, 1) := by decide +kernel
theorem dX12_propose_265 : decode cX12_propose 265 = .ok (.iload 5, 2) := by decide +kernel
theorem dX12_propose_267 : decode cX12_propose 267 = .ok (.iastore, 1) := by decide +kernel
theorem dX12_propose_268 : decode cX12_propose 268 = .ok (.iconst 0, 1) := by decide +kernel
theorem dX12_propose_269 : decode cX12_propose 269 = .ok (.istore 9, 2) := by decide +kernel
theorem dX12_propose_271 : decode cX12_propose 271 = .ok (.iload 9, 2) := by decide +kernel
theorem dX12_propose_273 : decode cX12_propose 273 = .ok (.iconst 3, 1) := by decide +kernel
theorem dX12_propose_274 : decode cX12_propose 274 = .ok (.if_icmp .ge 21, 3) := by decide +kernel
theorem dX12_propose_277 : decode cX12_propose 277 = .ok (.aload_n 0, 1) := by decide +kernel
theorem dX12_propose_278 : decode cX12_propose 278 = .ok (.getfield 109, 3) := by decide +kernel
theorem dX12_propose_281 : decode cX12_propose 281 = .ok (.iconst 3, 1) := by decide +kernel
theorem dX12_propose_282 : decode cX12_propose 282 = .ok (.iload_n 1, 1) := by decide +kernel
theorem dX12_propose_283 : decode cX12_propose 283 = .ok (.imul, 1) := by decide +kernel
theorem dX12_propose_284 : decode cX12_propose 284 = .ok (.iload 9, 2) := by decide +kernel
theorem dX12_propose_286 : decode cX12_propose 286 = .ok (.iadd, 1) := by decide +kernel
theorem dX12_propose_287 : decode cX12_propose 287 = .ok (.iconst (-1), 1) := by decide +kernel
theorem dX12_propose_288 : decode cX12_propose 288 = .ok (.iastore, 1) := by decide +kernel
theorem dX12_propose_289 : decode cX12_propose 289 = .ok (.iinc 9 1, 3) := by decide +kernel
theorem dX12_propose_292 : decode cX12_propose 292 = .ok (.goto (-21), 3) := by decide +kernel
theorem dX12_propose_295 : decode cX12_propose 295 = .ok (.iconst 1, 1) := by decide +kernel
theorem dX12_propose_296 : decode cX12_propose 296 = .ok (.ireturn, 1) := by decide +kernel
theorem dX12_appeal_0 : decode cX12_appeal 0 = .ok (.aload_n 0, 1) := by decide +kernel
theorem dX12_appeal_1 : decode cX12_appeal 1 = .ok (.iload_n 1, 1) := by decide +kernel
theorem dX12_appeal_2 : decode cX12_appeal 2 = .ok (.invokevirtual 387, 3) := by decide +kernel
theorem dX12_appeal_5 : decode cX12_appeal 5 = .ok (.ifCond .ne 5, 3) := by decide +kernel
theorem dX12_appeal_8 : decode cX12_appeal 8 = .ok (.iconst 0, 1) := by decide +kernel
theorem dX12_appeal_9 : decode cX12_appeal 9 = .ok (.ireturn, 1) := by decide +kernel
theorem dX12_appeal_10 : decode cX12_appeal 10 = .ok (.aload_n 0, 1) := by decide +kernel
theorem dX12_appeal_11 : decode cX12_appeal 11 = .ok (.iload_n 1, 1) := by decide +kernel
theorem dX12_appeal_12 : decode cX12_appeal 12 = .ok (.invokevirtual 408, 3) := by decide +kernel
theorem dX12_appeal_15 : decode cX12_appeal 15 = .ok (.ifCond .ne 5, 3) := by decide +kernel
theorem dX12_appeal_18 : decode cX12_appeal 18 = .ok (.iconst (-1), 1) := by decide +kernel
theorem dX12_appeal_19 : decode cX12_appeal 19 = .ok (.ireturn, 1) := by decide +kernel
theorem dX12_appeal_20 : decode cX12_appeal 20 = .ok (.aload_n 0, 1) := by decide +kernel
theorem dX12_appeal_21 : decode cX12_appeal 21 = .ok (.getfield 222, 3) := by decide +kernel
theorem dX12_appeal_24 : decode cX12_appeal 24 = .ok (.aload_n 0, 1) := by decide +kernel
theorem dX12_appeal_25 : decode cX12_appeal 25 = .ok (.iload_n 1, 1) := by decide +kernel
theorem dX12_appeal_26 : decode cX12_appeal 26 = .ok (.invokevirtual 411, 3) := by decide +kernel
theorem dX12_appeal_29 : decode cX12_appeal 29 = .ok (.if_icmp .le 6, 3) := by decide +kernel
theorem dX12_appeal_32 : decode cX12_appeal 32 = .ok (.bipush (-2), 2) := by decide +kernel
theorem dX12_appeal_34 : decode cX12_appeal 34 = .ok (.ireturn, 1) := by decide +kernel
theorem dX12_appeal_35 : decode cX12_appeal 35 = .ok (.aload_n 0, 1) := by decide +kernel
theorem dX12_appeal_36 : decode cX12_appeal 36 = .ok (.getfield 73, 3) := by decide +kernel
theorem dX12_appeal_39 : decode cX12_appeal 39 = .ok (.iload_n 1, 1) := by decide +kernel
theorem dX12_appeal_40 : decode cX12_appeal 40 = .ok (.iconst 0, 1) := by decide +kernel
theorem dX12_appeal_41 : decode cX12_appeal 41 = .ok (.bastore, 1) := by decide +kernel
theorem dX12_appeal_42 : decode cX12_appeal 42 = .ok (.aload_n 0, 1) := by decide +kernel
theorem dX12_appeal_43 : decode cX12_appeal 43 = .ok (.getfield 88, 3) := by decide +kernel
theorem dX12_appeal_46 : decode cX12_appeal 46 = .ok (.iload_n 1, 1) := by decide +kernel
theorem dX12_appeal_47 : decode cX12_appeal 47 = .ok (.aload_n 0, 1) := by decide +kernel
theorem dX12_appeal_48 : decode cX12_appeal 48 = .ok (.getfield 222, 3) := by decide +kernel
theorem dX12_appeal_51 : decode cX12_appeal 51 = .ok (.iastore, 1) := by decide +kernel
theorem dX12_appeal_52 : decode cX12_appeal 52 = .ok (.aload_n 0, 1) := by decide +kernel
theorem dX12_appeal_53 : decode cX12_appeal 53 = .ok (.getfield 91, 3) := by decide +kernel
theorem dX12_appeal_56 : decode cX12_appeal 56 = .ok (.iload_n 1, 1) := by decide +kernel
theorem dX12_appeal_57 : decode cX12_appeal 57 = .ok (.iconst 0, 1) := by decide +kernel
theorem dX12_appeal_58 : decode cX12_appeal 58 = .ok (.iastore, 1) := by decide +kernel
theorem dX12_appeal_59 : decode cX12_appeal 59 = .ok (.aload_n 0, 1) := by decide +kernel
theorem dX12_appeal_60 : decode cX12_appeal 60 = .ok (.getfield 94, 3) := by decide +kernel
theorem dX12_appeal_63 : decode cX12_appeal 63 = .ok (.iload_n 1, 1) := by decide +kernel
theorem dX12_appeal_64 : decode cX12_appeal 64 = .ok (.iconst (-1), 1) := by decide +kernel
theorem dX12_appeal_65 : decode cX12_appeal 65 = .ok (.iastore, 1) := by decide +kernel
theorem dX12_appeal_66 : decode cX12_appeal 66 = .ok (.aload_n 0, 1) := by decide +kernel
theorem dX12_appeal_67 : decode cX12_appeal 67 = .ok (.getfield 97, 3) := by decide +kernel
theorem dX12_appeal_70 : decode cX12_appeal 70 = .ok (.iload_n 1, 1) := by decide +kernel
theorem dX12_appeal_71 : decode cX12_appeal 71 = .ok (.iconst (-1), 1) := by decide +kernel
theorem dX12_appeal_72 : decode cX12_appeal 72 = .ok (.iastore, 1) := by decide +kernel
theorem dX12_appeal_73 : decode cX12_appeal 73 = .ok (.iconst 1, 1) := by decide +kernel
theorem dX12_appeal_74 : decode cX12_appeal 74 = .ok (.ireturn, 1) := by decide +kernel
theorem dX12_begin_0 : decode cX12_begin 0 = .ok (.aload_n 0, 1) := by decide +kernel
theorem dX12_begin_1 : decode cX12_begin 1 = .ok (.iload_n 1, 1) := by decide +kernel
theorem dX12_begin_2 : decode cX12_begin 2 = .ok (.invokevirtual 387, 3) := by decide +kernel
theorem dX12_begin_5 : decode cX12_begin 5 = .ok (.ifCond .ne 5, 3) := by decide +kernel
theorem dX12_begin_8 : decode cX12_begin 8 = .ok (.iconst 0, 1) := by decide +kernel
theorem dX12_begin_9 : decode cX12_begin 9 = .ok (.ireturn, 1) := by decide +kernel
theorem dX12_begin_10 : decode cX12_begin 10 = .ok (.aload_n 0, 1) := by decide +kernel
theorem dX12_begin_11 : decode cX12_begin 11 = .ok (.getfield 91, 3) := by decide +kernel
theorem dX12_begin_14 : decode cX12_begin 14 = .ok (.iload_n 1, 1) := by decide +kernel
theorem dX12_begin_15 : decode cX12_begin 15 = .ok (.iaload, 1) := by decide +kernel
theorem dX12_begin_16 : decode cX12_begin 16 = .ok (.ifCond .le 5, 3) := by decide +kernel
theorem dX12_begin_19 : decode cX12_begin 19 = .ok (.iconst (-1), 1) := by decide +kernel
theorem dX12_begin_20 : decode cX12_begin 20 = .ok (.ireturn, 1) := by decide +kernel
theorem dX12_begin_21 : decode cX12_begin 21 = .ok (.aload_n 0, 1) := by decide +kernel
theorem dX12_begin_22 : decode cX12_begin 22 = .ok (.iload_n 1, 1) := by decide +kernel
theorem dX12_begin_23 : decode cX12_begin 23 = .ok (.invokevirtual 384, 3) := by decide +kernel
theorem dX12_begin_26 : decode cX12_begin 26 = .ok (.istore_n 2, 1) := by decide +kernel
theorem dX12_begin_27 : decode cX12_begin 27 = .ok (.iload_n 2, 1) := by decide +kernel
theorem dX12_begin_28 : decode cX12_begin 28 = .ok (.iconst 1, 1) := by decide +kernel
theorem dX12_begin_29 : decode cX12_begin 29 = .ok (.if_icmp .eq 20, 3) := by decide +kernel
theorem dX12_begin_32 : decode cX12_begin 32 = .ok (.iload_n 2, 1) := by decide +kernel
theorem dX12_begin_33 : decode cX12_begin 33 = .ok (.iconst 3, 1) := by decide +kernel
theorem dX12_begin_34 : decode cX12_begin 34 = .ok (.if_icmp .ne 19, 3) := by decide +kernel
theorem dX12_begin_37 : decode cX12_begin 37 = .ok (.aload_n 0, 1) := by decide +kernel
theorem dX12_begin_38 : decode cX12_begin 38 = .ok (.getfield 222, 3) := by decide +kernel
theorem dX12_begin_41 : decode cX12_begin 41 = .ok (.aload_n 0, 1) := by decide +kernel
theorem dX12_begin_42 : decode cX12_begin 42 = .ok (.iload_n 1, 1) := by decide +kernel
theorem dX12_begin_43 : decode cX12_begin 43 = .ok (.invokevirtual 393, 3) := by decide +kernel
theorem dX12_begin_46 : decode cX12_begin 46 = .ok (.if_icmp .lt 7, 3) := by decide +kernel
theorem dX12_begin_49 : decode cX12_begin 49 = .ok (.iconst 1, 1) := by decide +kernel
theorem dX12_begin_50 : decode cX12_begin 50 = .ok (.goto 4, 3) := by decide +kernel
theorem dX12_begin_53 : decode cX12_begin 53 = .ok (.iconst 0, 1) := by decide +kernel
theorem dX12_begin_54 : decode cX12_begin 54 = .ok (.istore_n 3, 1) := by decide +kernel
theorem dX12_begin_55 : decode cX12_begin 55 = .ok (.aload_n 0, 1) := by decide +kernel
theorem dX12_begin_56 : decode cX12_begin 56 = .ok (.getfield 97, 3) := by decide +kernel
theorem dX12_begin_59 : decode cX12_begin 59 = .ok (.iload_n 1, 1) := by decide +kernel
theorem dX12_begin_60 : decode cX12_begin 60 = .ok (.iload_n 2, 1) := by decide +kernel
theorem dX12_begin_61 : decode cX12_begin 61 = .ok (.iconst 3, 1) := by decide +kernel
theorem dX12_begin_62 : decode cX12_begin 62 = .ok (.if_icmp .ne 11, 3) := by decide +kernel
theorem dX12_begin_65 : decode cX12_begin 65 = .ok (.aload_n 0, 1) := by decide +kernel
theorem dX12_begin_66 : decode cX12_begin 66 = .ok (.iload_n 1, 1) := by decide +kernel
theorem dX12_begin_67 : decode cX12_begin 67 = .ok (.invokevirtual 393, 3) := by decide +kernel
theorem dX12_begin_70 : decode cX12_begin 70 = .ok (.goto 4, 3) := by decide +kernel
theorem dX12_begin_73 : decode cX12_begin 73 = .ok (.iconst (-1), 1) := by decide +kernel
theorem dX12_begin_74 : decode cX12_begin 74 = .ok (.iastore, 1) := by decide +kernel
theorem dX12_begin_75 : decode cX12_begin 75 = .ok (.aload_n 0, 1) := by decide +kernel
theorem dX12_begin_76 : decode cX12_begin 76 = .ok (.getfield 94, 3) := by decide +kernel
theorem dX12_begin_79 : decode cX12_begin 79 = .ok (.iload_n 1, 1) := by decide +kernel
theorem dX12_begin_80 : decode cX12_begin 80 = .ok (.aload_n 0, 1) := by decide +kernel
theorem dX12_begin_81 : decode cX12_begin 81 = .ok (.getfield 222, 3) := by decide +kernel
theorem dX12_begin_84 : decode cX12_begin 84 = .ok (.iastore, 1) := by decide +kernel
theorem dX12_begin_85 : decode cX12_begin 85 = .ok (.aload_n 0, 1) := by decide +kernel
theorem dX12_begin_86 : decode cX12_begin 86 = .ok (.getfield 91, 3) := by decide +kernel
theorem dX12_begin_89 : decode cX12_begin 89 = .ok (.iload_n 1, 1) := by decide +kernel
theorem dX12_begin_90 : decode cX12_begin 90 = .ok (.iload_n 3, 1) := by decide +kernel
theorem dX12_begin_91 : decode cX12_begin 91 = .ok (.ifCond .eq 7, 3) := by decide +kernel
theorem dX12_begin_94 : decode cX12_begin 94 = .ok (.iconst 5, 1) := by decide +kernel
theorem dX12_begin_95 : decode cX12_begin 95 = .ok (.goto 5, 3) := by decide +kernel
theorem dX12_begin_98 : decode cX12_begin 98 = .ok (.bipush 6, 2) := by decide +kernel
theorem dX12_begin_100 : decode cX12_begin 100 = .ok (.iastore, 1) := by decide +kernel
theorem dX12_begin_101 : decode cX12_begin 101 = .ok (.iload_n 3, 1) := by decide +kernel
theorem dX12_begin_102 : decode cX12_begin 102 = .ok (.ifCond .eq 7, 3) := by decide +kernel
theorem dX12_begin_105 : decode cX12_begin 105 = .ok (.iconst 1, 1) := by decide +kernel
theorem dX12_begin_106 : decode cX12_begin 106 = .ok (.goto 4, 3) := by decide +kernel
theorem dX12_begin_109 : decode cX12_begin 109 = .ok (.iconst 0, 1) := by decide +kernel
theorem dX12_begin_110 : decode cX12_begin 110 = .ok (.ireturn, 1) := by decide +kernel
theorem dX12_done_0 : decode cX12_done 0 = .ok (.aload_n 0, 1) := by decide +kernel
theorem dX12_done_1 : decode cX12_done 1 = .ok (.iload_n 1, 1) := by decide +kernel
theorem dX12_done_2 : decode cX12_done 2 = .ok (.invokevirtual 387, 3) := by decide +kernel
theorem dX12_done_5 : decode cX12_done 5 = .ok (.ifCond .ne 5, 3) := by decide +kernel
theorem dX12_done_8 : decode cX12_done 8 = .ok (.iconst 0, 1) := by decide +kernel
theorem dX12_done_9 : decode cX12_done 9 = .ok (.ireturn, 1) := by decide +kernel
theorem dX12_done_10 : decode cX12_done 10 = .ok (.aload_n 0, 1) := by decide +kernel
theorem dX12_done_11 : decode cX12_done 11 = .ok (.getfield 91, 3) := by decide +kernel
theorem dX12_done_14 : decode cX12_done 14 = .ok (.iload_n 1, 1) := by decide +kernel
theorem dX12_done_15 : decode cX12_done 15 = .ok (.iaload, 1) := by decide +kernel
theorem dX12_done_16 : decode cX12_done 16 = .ok (.iconst 5, 1) := by decide +kernel
theorem dX12_done_17 : decode cX12_done 17 = .ok (.if_icmp .eq 5, 3) := by decide +kernel
theorem dX12_done_20 : decode cX12_done 20 = .ok (.iconst (-1), 1) := by decide +kernel
theorem dX12_done_21 : decode cX12_done 21 = .ok (.ireturn, 1) := by decide +kernel
theorem dX12_done_22 : decode cX12_done 22 = .ok (.aload_n 0, 1) := by decide +kernel
theorem dX12_done_23 : decode cX12_done 23 = .ok (.getfield 91, 3) := by decide +kernel
theorem dX12_done_26 : decode cX12_done 26 = .ok (.iload_n 1, 1) := by decide +kernel
theorem dX12_done_27 : decode cX12_done 27 = .ok (.bipush 7, 2) := by decide +kernel
theorem dX12_done_29 : decode cX12_done 29 = .ok (.iastore, 1) := by decide +kernel
theorem dX12_done_30 : decode cX12_done 30 = .ok (.iconst 1, 1) := by decide +kernel
theorem dX12_done_31 : decode cX12_done 31 = .ok (.ireturn, 1) := by decide +kernel
theorem dX12_isFull_0 : decode cX12_isFull 0 = .ok (.aload_n 0, 1) := by decide +kernel
theorem dX12_isFull_1 : decode cX12_isFull 1 = .ok (.getfield 427, 3) := by decide +kernel
theorem dX12_isFull_4 : decode cX12_isFull 4 = .ok (.sipush 300, 3) := by decide +kernel
theorem dX12_isFull_7 : decode cX12_isFull 7 = .ok (.if_icmp .ne 7, 3) := by decide +kernel
theorem dX12_isFull_10 : decode cX12_isFull 10 = .ok (.iconst 1, 1) := by decide +kernel
theorem dX12_isFull_11 : decode cX12_isFull 11 = .ok (.goto 4, 3) := by decide +kernel
theorem dX12_isFull_14 : decode cX12_isFull 14 = .ok (.iconst 0, 1) := by decide +kernel
theorem dX12_isFull_15 : decode cX12_isFull 15 = .ok (.ireturn, 1) := by decide +kernel
theorem dX12_pays_0 : decode cX12_pays 0 = .ok (.aload_n 0, 1) := by decide +kernel
theorem dX12_pays_1 : decode cX12_pays 1 = .ok (.getfield 118, 3) := by decide +kernel
theorem dX12_pays_4 : decode cX12_pays 4 = .ok (.aload_n 0, 1) := by decide +kernel
theorem dX12_pays_5 : decode cX12_pays 5 = .ok (.getfield 427, 3) := by decide +kernel
theorem dX12_pays_8 : decode cX12_pays 8 = .ok (.iload_n 1, 1) := by decide +kernel
theorem dX12_pays_9 : decode cX12_pays 9 = .ok (.iastore, 1) := by decide +kernel
theorem dX12_pays_10 : decode cX12_pays 10 = .ok (.aload_n 0, 1) := by decide +kernel
theorem dX12_pays_11 : decode cX12_pays 11 = .ok (.getfield 121, 3) := by decide +kernel
theorem dX12_pays_14 : decode cX12_pays 14 = .ok (.aload_n 0, 1) := by decide +kernel
theorem dX12_pays_15 : decode cX12_pays 15 = .ok (.getfield 427, 3) := by decide +kernel
theorem dX12_pays_18 : decode cX12_pays 18 = .ok (.iload_n 2, 1) := by decide +kernel
theorem dX12_pays_19 : decode cX12_pays 19 = .ok (.iastore, 1) := by decide +kernel
theorem dX12_pays_20 : decode cX12_pays 20 = .ok (.aload_n 0, 1) := by decide +kernel
theorem dX12_pays_21 : decode cX12_pays 21 = .ok (.getfield 124, 3) := by decide +kernel
theorem dX12_pays_24 : decode cX12_pays 24 = .ok (.aload_n 0, 1) := by decide +kernel
theorem dX12_pays_25 : decode cX12_pays 25 = .ok (.getfield 427, 3) := by decide +kernel
theorem dX12_pays_28 : decode cX12_pays 28 = .ok (.iload_n 3, 1) := by decide +kernel
theorem dX12_pays_29 : decode cX12_pays 29 = .ok (.iastore, 1) := by decide +kernel
theorem dX12_pays_30 : decode cX12_pays 30 = .ok (.aload_n 0, 1) := by decide +kernel
theorem dX12_pays_31 : decode cX12_pays 31 = .ok (.getfield 127, 3) := by decide +kernel
theorem dX12_pays_34 : decode cX12_pays 34 = .ok (.aload_n 0, 1) := by decide +kernel
theorem dX12_pays_35 : decode cX12_pays 35 = .ok (.getfield 427, 3) := by decide +kernel
theorem dX12_pays_38 : decode cX12_pays 38 = .ok (.aload_n 0, 1) := by decide +kernel
theorem dX12_pays_39 : decode cX12_pays 39 = .ok (.getfield 222, 3) := by decide +kernel
theorem dX12_pays_42 : decode cX12_pays 42 = .ok (.iastore, 1) := by decide +kernel
theorem dX12_pays_43 : decode cX12_pays 43 = .ok (.aload_n 0, 1) := by decide +kernel
theorem dX12_pays_44 : decode cX12_pays 44 = .ok (.dup, 1) := by decide +kernel
theorem dX12_pays_45 : decode cX12_pays 45 = .ok (.getfield 427, 3) := by decide +kernel
theorem dX12_pays_48 : decode cX12_pays 48 = .ok (.iconst 1, 1) := by decide +kernel
theorem dX12_pays_49 : decode cX12_pays 49 = .ok (.iadd, 1) := by decide +kernel
theorem dX12_pays_50 : decode cX12_pays 50 = .ok (.putfield 427, 3) := by decide +kernel
theorem dX12_pays_53 : decode cX12_pays 53 = .ok (.return_, 1) := by decide +kernel
theorem dX12_ownOwner_0 : decode cX12_ownOwner 0 = .ok (.aload_n 0, 1) := by decide +kernel
theorem dX12_ownOwner_1 : decode cX12_ownOwner 1 = .ok (.getfield 9, 3) := by decide +kernel
theorem dX12_ownOwner_4 : decode cX12_ownOwner 4 = .ok (.iconst 2, 1) := by decide +kernel
theorem dX12_ownOwner_5 : decode cX12_ownOwner 5 = .ok (.aload_n 0, 1) := by decide +kernel
theorem dX12_ownOwner_6 : decode cX12_ownOwner 6 = .ok (.getfield 49, 3) := by decide +kernel
theorem dX12_ownOwner_9 : decode cX12_ownOwner 9 = .ok (.iload_n 1, 1) := by decide +kernel
theorem dX12_ownOwner_10 : decode cX12_ownOwner 10 = .ok (.iaload, 1) := by decide +kernel
theorem dX12_ownOwner_11 : decode cX12_ownOwner 11 = .ok (.imul, 1) := by decide +kernel
theorem dX12_ownOwner_12 : decode cX12_ownOwner 12 = .ok (.aload_n 0, 1) := by decide +kernel
theorem dX12_ownOwner_13 : decode cX12_ownOwner 13 = .ok (.getfield 52, 3) := by decide +kernel
theorem dX12_ownOwner_16 : decode cX12_ownOwner 16 = .ok (.iload_n 1, 1) := by decide +kernel
theorem dX12_ownOwner_17 : decode cX12_ownOwner 17 = .ok (.iaload, 1) := by decide +kernel
theorem dX12_ownOwner_18 : decode cX12_ownOwner 18 = .ok (.iadd, 1) := by decide +kernel
theorem dX12_ownOwner_19 : decode cX12_ownOwner 19 = .ok (.iaload, 1) := by decide +kernel
theorem dX12_ownOwner_20 : decode cX12_ownOwner 20 = .ok (.ireturn, 1) := by decide +kernel
theorem dX12_otherOwner_0 : decode cX12_otherOwner 0 = .ok (.aload_n 0, 1) := by decide +kernel
theorem dX12_otherOwner_1 : decode cX12_otherOwner 1 = .ok (.getfield 9, 3) := by decide +kernel
theorem dX12_otherOwner_4 : decode cX12_otherOwner 4 = .ok (.iconst 2, 1) := by decide +kernel
theorem dX12_otherOwner_5 : decode cX12_otherOwner 5 = .ok (.aload_n 0, 1) := by decide +kernel
theorem dX12_otherOwner_6 : decode cX12_otherOwner 6 = .ok (.getfield 49, 3) := by decide +kernel
theorem dX12_otherOwner_9 : decode cX12_otherOwner 9 = .ok (.iload_n 1, 1) := by decide +kernel
theorem dX12_otherOwner_10 : decode cX12_otherOwner 10 = .ok (.iaload, 1) := by decide +kernel
theorem dX12_otherOwner_11 : decode cX12_otherOwner 11 = .ok (.imul, 1) := by decide +kernel
theorem dX12_otherOwner_12 : decode cX12_otherOwner 12 = .ok (.iconst 1, 1) := by decide +kernel
theorem dX12_otherOwner_13 : decode cX12_otherOwner 13 = .ok (.iadd, 1) := by decide +kernel
theorem dX12_otherOwner_14 : decode cX12_otherOwner 14 = .ok (.aload_n 0, 1) := by decide +kernel
theorem dX12_otherOwner_15 : decode cX12_otherOwner 15 = .ok (.getfield 52, 3) := by decide +kernel
theorem dX12_otherOwner_18 : decode cX12_otherOwner 18 = .ok (.iload_n 1, 1) := by decide +kernel
theorem dX12_otherOwner_19 : decode cX12_otherOwner 19 = .ok (.iaload, 1) := by decide +kernel
theorem dX12_otherOwner_20 : decode cX12_otherOwner 20 = .ok (.isub, 1) := by decide +kernel
theorem dX12_otherOwner_21 : decode cX12_otherOwner 21 = .ok (.iaload, 1) := by decide +kernel
theorem dX12_otherOwner_22 : decode cX12_otherOwner 22 = .ok (.ireturn, 1) := by decide +kernel
theorem dX12_knownSum_0 : decode cX12_knownSum 0 = .ok (.aload_n 0, 1) := by decide +kernel
theorem dX12_knownSum_1 : decode cX12_knownSum 1 = .ok (.getfield 124, 3) := by decide +kernel
theorem dX12_knownSum_4 : decode cX12_knownSum 4 = .ok (.iload_n 1, 1) := by decide +kernel
theorem dX12_knownSum_5 : decode cX12_knownSum 5 = .ok (.iaload, 1) := by decide +kernel
theorem dX12_knownSum_6 : decode cX12_knownSum 6 = .ok (.istore_n 3, 1) := by decide +kernel
theorem dX12_knownSum_7 : decode cX12_knownSum 7 = .ok (.iconst 0, 1) := by decide +kernel
theorem dX12_knownSum_8 : decode cX12_knownSum 8 = .ok (.istore 4, 2) := by decide +kernel
theorem dX12_knownSum_10 : decode cX12_knownSum 10 = .ok (.iload 4, 2) := by decide +kernel
theorem dX12_knownSum_12 : decode cX12_knownSum 12 = .ok (.aload_n 0, 1) := by decide +kernel
theorem dX12_knownSum_13 : decode cX12_knownSum 13 = .ok (.getfield 430, 3) := by decide +kernel
theorem dX12_knownSum_16 : decode cX12_knownSum 16 = .ok (.if_icmp .ge 39, 3) := by decide +kernel
theorem dX12_knownSum_19 : decode cX12_knownSum 19 = .ok (.aload_n 0, 1) := by decide +kernel
theorem dX12_knownSum_20 : decode cX12_knownSum 20 = .ok (.getfield 130, 3) := by decide +kernel
theorem dX12_knownSum_23 : decode cX12_knownSum 23 = .ok (.iload 4, 2) := by decide +kernel
theorem dX12_knownSum_25 : decode cX12_knownSum 25 = .ok (.iaload, 1) := by decide +kernel
theorem dX12_knownSum_26 : decode cX12_knownSum 26 = .ok (.iload_n 1, 1) := by decide +kernel
theorem dX12_knownSum_27 : decode cX12_knownSum 27 = .ok (.if_icmp .ne 22, 3) := by decide +kernel
theorem dX12_knownSum_30 : decode cX12_knownSum 30 = .ok (.aload_n 0, 1) := by decide +kernel
theorem dX12_knownSum_31 : decode cX12_knownSum 31 = .ok (.getfield 136, 3) := by decide +kernel
theorem dX12_knownSum_34 : decode cX12_knownSum 34 = .ok (.iload 4, 2) := by decide +kernel
theorem dX12_knownSum_36 : decode cX12_knownSum 36 = .ok (.iaload, 1) := by decide +kernel
theorem dX12_knownSum_37 : decode cX12_knownSum 37 = .ok (.iload_n 2, 1) := by decide +kernel
theorem dX12_knownSum_38 : decode cX12_knownSum 38 = .ok (.if_icmp .gt 11, 3) := by decide +kernel
theorem dX12_knownSum_41 : decode cX12_knownSum 41 = .ok (.aload_n 0, 1) := by decide +kernel
theorem dX12_knownSum_42 : decode cX12_knownSum 42 = .ok (.getfield 133, 3) := by decide +kernel
theorem dX12_knownSum_45 : decode cX12_knownSum 45 = .ok (.iload 4, 2) := by decide +kernel
theorem dX12_knownSum_47 : decode cX12_knownSum 47 = .ok (.iaload, 1) := by decide +kernel
theorem dX12_knownSum_48 : decode cX12_knownSum 48 = .ok (.istore_n 3, 1) := by decide +kernel
theorem dX12_knownSum_49 : decode cX12_knownSum 49 = .ok (.iinc 4 1, 3) := by decide +kernel
theorem dX12_knownSum_52 : decode cX12_knownSum 52 = .ok (.goto (-42), 3) := by decide +kernel
theorem dX12_knownSum_55 : decode cX12_knownSum 55 = .ok (.iload_n 3, 1) := by decide +kernel
theorem dX12_knownSum_56 : decode cX12_knownSum 56 = .ok (.ireturn, 1) := by decide +kernel
theorem dX12_isPayment_0 : decode cX12_isPayment 0 = .ok (.aload_n 0, 1) := by decide +kernel
theorem dX12_isPayment_1 : decode cX12_isPayment 1 = .ok (.iload_n 1, 1) := by decide +kernel
theorem dX12_isPayment_2 : decode cX12_isPayment 2 = .ok (.ifCond .lt 11, 3) := by decide +kernel
theorem dX12_isPayment_5 : decode cX12_isPayment 5 = .ok (.iload_n 1, 1) := by decide +kernel
theorem dX12_isPayment_6 : decode cX12_isPayment 6 = .ok (.aload_n 0, 1) := by decide +kernel
theorem dX12_isPayment_7 : decode cX12_isPayment 7 = .ok (.getfield 427, 3) := by decide +kernel
theorem dX12_isPayment_10 : decode cX12_isPayment 10 = .ok (.if_icmp .lt 7, 3) := by decide +kernel
theorem dX12_isPayment_13 : decode cX12_isPayment 13 = .ok (.iconst 1, 1) := by decide +kernel
theorem dX12_isPayment_14 : decode cX12_isPayment 14 = .ok (.goto 4, 3) := by decide +kernel
theorem dX12_isPayment_17 : decode cX12_isPayment 17 = .ok (.iconst 0, 1) := by decide +kernel
theorem dX12_isPayment_18 : decode cX12_isPayment 18 = .ok (.putfield 199, 3) := by decide +kernel
theorem dX12_isPayment_21 : decode cX12_isPayment 21 = .ok (.aload_n 0, 1) := by decide +kernel
theorem dX12_isPayment_22 : decode cX12_isPayment 22 = .ok (.getfield 199, 3) := by decide +kernel
theorem dX12_isPayment_25 : decode cX12_isPayment 25 = .ok (.ifCond .ne 7, 3) := by decide +kernel
theorem dX12_isPayment_28 : decode cX12_isPayment 28 = .ok (.iconst 1, 1) := by decide +kernel
theorem dX12_isPayment_29 : decode cX12_isPayment 29 = .ok (.goto 4, 3) := by decide +kernel
theorem dX12_isPayment_32 : decode cX12_isPayment 32 = .ok (.iconst 0, 1) := by decide +kernel
theorem dX12_isPayment_33 : decode cX12_isPayment 33 = .ok (.ireturn, 1) := by decide +kernel
theorem dX12_mend_0 : decode cX12_mend 0 = .ok (.aload_n 0, 1) := by decide +kernel
theorem dX12_mend_1 : decode cX12_mend 1 = .ok (.iload_n 1, 1) := by decide +kernel
theorem dX12_mend_2 : decode cX12_mend 2 = .ok (.invokevirtual 433, 3) := by decide +kernel
theorem dX12_mend_5 : decode cX12_mend 5 = .ok (.ifCond .eq 27, 3) := by decide +kernel
theorem dX12_mend_8 : decode cX12_mend 8 = .ok (.aload_n 0, 1) := by decide +kernel
theorem dX12_mend_9 : decode cX12_mend 9 = .ok (.iload_n 2, 1) := by decide +kernel
theorem dX12_mend_10 : decode cX12_mend 10 = .ok (.ifCond .lt 10, 3) := by decide +kernel
theorem dX12_mend_13 : decode cX12_mend 13 = .ok (.iload_n 2, 1) := by decide +kernel
theorem dX12_mend_14 : decode cX12_mend 14 = .ok (.ldc_w 436, 3) := by decide +kernel
theorem dX12_mend_17 : decode cX12_mend 17 = .ok (.if_icmp .le 7, 3) := by decide +kernel
theorem dX12_mend_20 : decode cX12_mend 20 = .ok (.iconst 1, 1) := by decide +kernel
theorem dX12_mend_21 : decode cX12_mend 21 = .ok (.goto 4, 3) := by decide +kernel
theorem dX12_mend_24 : decode cX12_mend 24 = .ok (.iconst 0, 1) := by decide +kernel
theorem dX12_mend_25 : decode cX12_mend 25 = .ok (.iconst 2, 1) := by decide +kernel
theorem dX12_mend_26 : decode cX12_mend 26 = .ok (.invokevirtual 205, 3) := by decide +kernel
theorem dX12_mend_29 : decode cX12_mend 29 = .ok (.ifCond .eq 5, 3) := by decide +kernel
theorem dX12_mend_32 : decode cX12_mend 32 = .ok (.iconst 0, 1) := by decide +kernel
theorem dX12_mend_33 : decode cX12_mend 33 = .ok (.ireturn, 1) := by decide +kernel
theorem dX12_mend_34 : decode cX12_mend 34 = .ok (.aload_n 0, 1) := by decide +kernel
theorem dX12_mend_35 : decode cX12_mend 35 = .ok (.getfield 430, 3) := by decide +kernel
theorem dX12_mend_38 : decode cX12_mend 38 = .ok (.bipush 60, 2) := by decide +kernel
theorem dX12_mend_40 : decode cX12_mend 40 = .ok (.if_icmp .ne 5, 3) := by decide +kernel
theorem dX12_mend_43 : decode cX12_mend 43 = .ok (.iconst (-1), 1) := by decide +kernel
theorem dX12_mend_44 : decode cX12_mend 44 = .ok (.ireturn, 1) := by decide +kernel
theorem dX12_mend_45 : decode cX12_mend 45 = .ok (.aload_n 0, 1) := by decide +kernel
theorem dX12_mend_46 : decode cX12_mend 46 = .ok (.iload_n 1, 1) := by decide +kernel
theorem dX12_mend_47 : decode cX12_mend 47 = .ok (.aload_n 0, 1) := by decide +kernel
theorem dX12_mend_48 : decode cX12_mend 48 = .ok (.getfield 222, 3) := by decide +kernel
theorem dX12_mend_51 : decode cX12_mend 51 = .ok (.invokevirtual 437, 3) := by decide +kernel
theorem dX12_mend_54 : decode cX12_mend 54 = .ok (.istore_n 3, 1) := by decide +kernel
theorem dX12_mend_55 : decode cX12_mend 55 = .ok (.aload_n 0, 1) := by decide +kernel
theorem dX12_mend_56 : decode cX12_mend 56 = .ok (.getfield 130, 3) := by decide +kernel
theorem dX12_mend_59 : decode cX12_mend 59 = .ok (.aload_n 0, 1) := by decide +kernel
theorem dX12_mend_60 : decode cX12_mend 60 = .ok (.getfield 430, 3) := by decide +kernel
theorem dX12_mend_63 : decode cX12_mend 63 = .ok (.iload_n 1, 1) := by decide +kernel
theorem dX12_mend_64 : decode cX12_mend 64 = .ok (.iastore, 1) := by decide +kernel
theorem dX12_mend_65 : decode cX12_mend 65 = .ok (.aload_n 0, 1) := by decide +kernel
theorem dX12_mend_66 : decode cX12_mend 66 = .ok (.getfield 133, 3) := by decide +kernel
theorem dX12_mend_69 : decode cX12_mend 69 = .ok (.aload_n 0, 1) := by decide +kernel
theorem dX12_mend_70 : decode cX12_mend 70 = .ok (.getfield 430, 3) := by decide +kernel
theorem dX12_mend_73 : decode cX12_mend 73 = .ok (.iload_n 2, 1) := by decide +kernel
theorem dX12_mend_74 : decode cX12_mend 74 = .ok (.iastore, 1) := by decide +kernel
theorem dX12_mend_75 : decode cX12_mend 75 = .ok (.aload_n 0, 1) := by decide +kernel
theorem dX12_mend_76 : decode cX12_mend 76 = .ok (.getfield 136, 3) := by decide +kernel
theorem dX12_mend_79 : decode cX12_mend 79 = .ok (.aload_n 0, 1) := by decide +kernel
theorem dX12_mend_80 : decode cX12_mend 80 = .ok (.getfield 430, 3) := by decide +kernel
theorem dX12_mend_83 : decode cX12_mend 83 = .ok (.aload_n 0, 1) := by decide +kernel
theorem dX12_mend_84 : decode cX12_mend 84 = .ok (.getfield 222, 3) := by decide +kernel
theorem dX12_mend_87 : decode cX12_mend 87 = .ok (.iastore, 1) := by decide +kernel
theorem dX12_mend_88 : decode cX12_mend 88 = .ok (.aload_n 0, 1) := by decide +kernel
theorem dX12_mend_89 : decode cX12_mend 89 = .ok (.dup, 1) := by decide +kernel
theorem dX12_mend_90 : decode cX12_mend 90 = .ok (.getfield 430, 3) := by decide +kernel
theorem dX12_mend_93 : decode cX12_mend 93 = .ok (.iconst 1, 1) := by decide +kernel
theorem dX12_mend_94 : decode cX12_mend 94 = .ok (.iadd, 1) := by decide +kernel
theorem dX12_mend_95 : decode cX12_mend 95 = .ok (.putfield 430, 3) := by decide +kernel
theorem dX12_mend_98 : decode cX12_mend 98 = .ok (.iload_n 3, 1) := by decide +kernel
theorem dX12_mend_99 : decode cX12_mend 99 = .ok (.ireturn, 1) := by decide +kernel
theorem dX12_payment_0 : decode cX12_payment 0 = .ok (.aload_n 0, 1) := by decide +kernel
theorem dX12_payment_1 : decode cX12_payment 1 = .ok (.iload_n 1, 1) := by decide +kernel
theorem dX12_payment_2 : decode cX12_payment 2 = .ok (.invokevirtual 433, 3) := by decide +kernel
theorem dX12_payment_5 : decode cX12_payment 5 = .ok (.ifCond .eq 25, 3) := by decide +kernel
theorem dX12_payment_8 : decode cX12_payment 8 = .ok (.aload_n 0, 1) := by decide +kernel
theorem dX12_payment_9 : decode cX12_payment 9 = .ok (.iload_n 2, 1) := by decide +kernel
theorem dX12_payment_10 : decode cX12_payment 10 = .ok (.ifCond .lt 8, 3) := by decide +kernel
theorem dX12_payment_13 : decode cX12_payment 13 = .ok (.iload_n 2, 1) := by decide +kernel
theorem dX12_payment_14 : decode cX12_payment 14 = .ok (.iconst 3, 1) := by decide +kernel
theorem dX12_payment_15 : decode cX12_payment 15 = .ok (.if_icmp .le 7, 3) := by decide +kernel
theorem dX12_payment_18 : decode cX12_payment 18 = .ok (.iconst 1, 1) := by decide +kernel
theorem dX12_payment_19 : decode cX12_payment 19 = .ok (.goto 4, 3) := by decide +kernel
theorem dX12_payment_22 : decode cX12_payment 22 = .ok (.iconst 0, 1) := by decide +kernel
theorem dX12_payment_23 : decode cX12_payment 23 = .ok (.iconst 2, 1) := by decide +kernel
theorem dX12_payment_24 : decode cX12_payment 24 = .ok (.invokevirtual 205, 3) := by decide +kernel
theorem dX12_payment_27 : decode cX12_payment 27 = .ok (.ifCond .eq 5, 3) := by decide +kernel
theorem dX12_payment_30 : decode cX12_payment 30 = .ok (.iconst 0, 1) := by decide +kernel
theorem dX12_payment_31 : decode cX12_payment 31 = .ok (.ireturn, 1) := by decide +kernel
theorem dX12_payment_32 : decode cX12_payment 32 = .ok (.iload_n 2, 1) := by decide +kernel
theorem dX12_payment_33 : decode cX12_payment 33 = .ok (.ifCond .ne 12, 3) := by decide +kernel
theorem dX12_payment_36 : decode cX12_payment 36 = .ok (.aload_n 0, 1) := by decide +kernel
theorem dX12_payment_37 : decode cX12_payment 37 = .ok (.getfield 118, 3) := by decide +kernel
theorem dX12_payment_40 : decode cX12_payment 40 = .ok (.iload_n 1, 1) := by decide +kernel
theorem dX12_payment_41 : decode cX12_payment 41 = .ok (.iaload, 1) := by decide +kernel
theorem dX12_payment_42 : decode cX12_payment 42 = .ok (.goto 40, 3) := by decide +kernel
theorem dX12_payment_45 : decode cX12_payment 45 = .ok (.iload_n 2, 1) := by decide +kernel
theorem dX12_payment_46 : decode cX12_payment 46 = .ok (.iconst 1, 1) := by decide +kernel
theorem dX12_payment_47 : decode cX12_payment 47 = .ok (.if_icmp .ne 12, 3) := by decide +kernel
theorem dX12_payment_50 : decode cX12_payment 50 = .ok (.aload_n 0, 1) := by decide +kernel
theorem dX12_payment_51 : decode cX12_payment 51 = .ok (.getfield 121, 3) := by decide +kernel
theorem dX12_payment_54 : decode cX12_payment 54 = .ok (.iload_n 1, 1) := by decide +kernel
theorem dX12_payment_55 : decode cX12_payment 55 = .ok (.iaload, 1) := by decide +kernel
theorem dX12_payment_56 : decode cX12_payment 56 = .ok (.goto 26, 3) := by decide +kernel
theorem dX12_payment_59 : decode cX12_payment 59 = .ok (.iload_n 2, 1) := by decide +kernel
theorem dX12_payment_60 : decode cX12_payment 60 = .ok (.iconst 2, 1) := by decide +kernel
theorem dX12_payment_61 : decode cX12_payment 61 = .ok (.if_icmp .ne 15, 3) := by decide +kernel
theorem dX12_payment_64 : decode cX12_payment 64 = .ok (.aload_n 0, 1) := by decide +kernel
theorem dX12_payment_65 : decode cX12_payment 65 = .ok (.iload_n 1, 1) := by decide +kernel
theorem dX12_payment_66 : decode cX12_payment 66 = .ok (.aload_n 0, 1) := by decide +kernel
theorem dX12_payment_67 : decode cX12_payment 67 = .ok (.getfield 222, 3) := by decide +kernel
theorem dX12_payment_70 : decode cX12_payment 70 = .ok (.invokevirtual 437, 3) := by decide +kernel
theorem dX12_payment_73 : decode cX12_payment 73 = .ok (.goto 9, 3) := by decide +kernel
theorem dX12_payment_76 : decode cX12_payment 76 = .ok (.aload_n 0, 1) := by decide +kernel
theorem dX12_payment_77 : decode cX12_payment 77 = .ok (.getfield 127, 3) := by decide +kernel
theorem dX12_payment_80 : decode cX12_payment 80 = .ok (.iload_n 1, 1) := by decide +kernel
theorem dX12_payment_81 : decode cX12_payment 81 = .ok (.iaload, 1) := by decide +kernel
theorem dX12_payment_82 : decode cX12_payment 82 = .ok (.ireturn, 1) := by decide +kernel
theorem dX12_balance_0 : decode cX12_balance 0 = .ok (.aload_n 0, 1) := by decide +kernel
theorem dX12_balance_1 : decode cX12_balance 1 = .ok (.iconst 0, 1) := by decide +kernel
theorem dX12_balance_2 : decode cX12_balance 2 = .ok (.putfield 199, 3) := by decide +kernel
theorem dX12_balance_5 : decode cX12_balance 5 = .ok (.aload_n 0, 1) := by decide +kernel
theorem dX12_balance_6 : decode cX12_balance 6 = .ok (.aload_n 0, 1) := by decide +kernel
theorem dX12_balance_7 : decode cX12_balance 7 = .ok (.iload_n 1, 1) := by decide +kernel
theorem dX12_balance_8 : decode cX12_balance 8 = .ok (.invokevirtual 212, 3) := by decide +kernel
theorem dX12_balance_11 : decode cX12_balance 11 = .ok (.ifCond .ne 7, 3) := by decide +kernel
theorem dX12_balance_14 : decode cX12_balance 14 = .ok (.iconst 1, 1) := by decide +kernel
theorem dX12_balance_15 : decode cX12_balance 15 = .ok (.goto 4, 3) := by decide +kernel
theorem dX12_balance_18 : decode cX12_balance 18 = .ok (.iconst 0, 1) := by decide +kernel
theorem dX12_balance_19 : decode cX12_balance 19 = .ok (.iconst 1, 1) := by decide +kernel
theorem dX12_balance_20 : decode cX12_balance 20 = .ok (.invokevirtual 205, 3) := by decide +kernel
theorem dX12_balance_23 : decode cX12_balance 23 = .ok (.ifCond .eq 5, 3) := by decide +kernel
theorem dX12_balance_26 : decode cX12_balance 26 = .ok (.lconst 0, 1) := by decide +kernel
theorem dX12_balance_27 : decode cX12_balance 27 = .ok (.lreturn, 1) := by decide +kernel
theorem dX12_balance_28 : decode cX12_balance 28 = .ok (.lconst 0, 1) := by decide +kernel
theorem dX12_balance_29 : decode cX12_balance 29 = .ok (.lstore 4, 2) := by decide +kernel
theorem dX12_balance_31 : decode cX12_balance 31 = .ok (.iconst 0, 1) := by decide +kernel
theorem dX12_balance_32 : decode cX12_balance 32 = .ok (.istore 6, 2) := by decide +kernel
theorem dX12_balance_34 : decode cX12_balance 34 = .ok (.iload 6, 2) := by decide +kernel
theorem dX12_balance_36 : decode cX12_balance 36 = .ok (.aload_n 0, 1) := by decide +kernel
theorem dX12_balance_37 : decode cX12_balance 37 = .ok (.getfield 427, 3) := by decide +kernel
theorem dX12_balance_40 : decode cX12_balance 40 = .ok (.if_icmp .ge 90, 3) := by decide +kernel
theorem dX12_balance_43 : decode cX12_balance 43 = .ok (.aload_n 0, 1) := by decide +kernel
theorem dX12_balance_44 : decode cX12_balance 44 = .ok (.getfield 127, 3) := by decide +kernel
theorem dX12_balance_47 : decode cX12_balance 47 = .ok (.iload 6, 2) := by decide +kernel
theorem dX12_balance_49 : decode cX12_balance 49 = .ok (.iaload, 1) := by decide +kernel
theorem dX12_balance_50 : decode cX12_balance 50 = .ok (.iload_n 2, 1) := by decide +kernel
theorem dX12_balance_51 : decode cX12_balance 51 = .ok (.if_icmp .gt 73, 3) := by decide +kernel
theorem dX12_balance_54 : decode cX12_balance 54 = .ok (.aload_n 0, 1) := by decide +kernel
theorem dX12_balance_55 : decode cX12_balance 55 = .ok (.getfield 127, 3) := by decide +kernel
theorem dX12_balance_58 : decode cX12_balance 58 = .ok (.iload 6, 2) := by decide +kernel
theorem dX12_balance_60 : decode cX12_balance 60 = .ok (.iaload, 1) := by decide +kernel
theorem dX12_balance_61 : decode cX12_balance 61 = .ok (.iload_n 3, 1) := by decide +kernel
theorem dX12_balance_62 : decode cX12_balance 62 = .ok (.if_icmp .le 6, 3) := by decide +kernel
theorem dX12_balance_65 : decode cX12_balance 65 = .ok (.goto 59, 3) := by decide +kernel
theorem dX12_balance_68 : decode cX12_balance 68 = .ok (.lload 4, 2) := by decide +kernel
theorem dX12_balance_70 : decode cX12_balance 70 = .ok (.aload_n 0, 1) := by decide +kernel
theorem dX12_balance_71 : decode cX12_balance 71 = .ok (.getfield 121, 3) := by decide +kernel
theorem dX12_balance_74 : decode cX12_balance 74 = .ok (.iload 6, 2) := by decide +kernel
theorem dX12_balance_76 : decode cX12_balance 76 = .ok (.iaload, 1) := by decide +kernel
theorem dX12_balance_77 : decode cX12_balance 77 = .ok (.iload_n 1, 1) := by decide +kernel
theorem dX12_balance_78 : decode cX12_balance 78 = .ok (.if_icmp .ne 14, 3) := by decide +kernel
theorem dX12_balance_81 : decode cX12_balance 81 = .ok (.aload_n 0, 1) := by decide +kernel
theorem dX12_balance_82 : decode cX12_balance 82 = .ok (.iload 6, 2) := by decide +kernel
theorem dX12_balance_84 : decode cX12_balance 84 = .ok (.iload_n 3, 1) := by decide +kernel
theorem dX12_balance_85 : decode cX12_balance 85 = .ok (.invokevirtual 437, 3) := by decide +kernel
theorem dX12_balance_88 : decode cX12_balance 88 = .ok (.i2l, 1) := by decide +kernel
theorem dX12_balance_89 : decode cX12_balance 89 = .ok (.goto 4, 3) := by decide +kernel
theorem dX12_balance_92 : decode cX12_balance 92 = .ok (.lconst 0, 1) := by decide +kernel
theorem dX12_balance_93 : decode cX12_balance 93 = .ok (.ladd, 1) := by decide +kernel
theorem dX12_balance_94 : decode cX12_balance 94 = .ok (.lstore 4, 2) := by decide +kernel
theorem dX12_balance_96 : decode cX12_balance 96 = .ok (.lload 4, 2) := by decide +kernel
theorem dX12_balance_98 : decode cX12_balance 98 = .ok (.aload_n 0, 1) := by decide +kernel
theorem dX12_balance_99 : decode cX12_balance 99 = .ok (.getfield 118, 3) := by decide +kernel
theorem dX12_balance_102 : decode cX12_balance 102 = .ok (.iload 6, 2) := by decide +kernel
theorem dX12_balance_104 : decode cX12_balance 104 = .ok (.iaload, 1) := by decide +kernel
theorem dX12_balance_105 : decode cX12_balance 105 = .ok (.iload_n 1, 1) := by decide +kernel
theorem dX12_balance_106 : decode cX12_balance 106 = .ok (.if_icmp .ne 14, 3) := by decide +kernel
theorem dX12_balance_109 : decode cX12_balance 109 = .ok (.aload_n 0, 1) := by decide +kernel
theorem dX12_balance_110 : decode cX12_balance 110 = .ok (.iload 6, 2) := by decide +kernel
theorem dX12_balance_112 : decode cX12_balance 112 = .ok (.iload_n 3, 1) := by decide +kernel
theorem dX12_balance_113 : decode cX12_balance 113 = .ok (.invokevirtual 437, 3) := by decide +kernel
theorem dX12_balance_116 : decode cX12_balance 116 = .ok (.i2l, 1) := by decide +kernel
theorem dX12_balance_117 : decode cX12_balance 117 = .ok (.goto 4, 3) := by decide +kernel
theorem dX12_balance_120 : decode cX12_balance 120 = .ok (.lconst 0, 1) := by decide +kernel
theorem dX12_balance_121 : decode cX12_balance 121 = .ok (.lsub, 1) := by decide +kernel
theorem dX12_balance_122 : decode cX12_balance 122 = .ok (.lstore 4, 2) := by decide +kernel
theorem dX12_balance_124 : decode cX12_balance 124 = .ok (.iinc 6 1, 3) := by decide +kernel
theorem dX12_balance_127 : decode cX12_balance 127 = .ok (.goto (-93), 3) := by decide +kernel
theorem dX12_balance_130 : decode cX12_balance 130 = .ok (.lload 4, 2) := by decide +kernel
theorem dX12_balance_132 : decode cX12_balance 132 = .ok (.lreturn, 1) := by decide +kernel
theorem dX12_enter_0 : decode cX12_enter 0 = .ok (.aload_n 0, 1) := by decide +kernel
theorem dX12_enter_1 : decode cX12_enter 1 = .ok (.iload_n 1, 1) := by decide +kernel
theorem dX12_enter_2 : decode cX12_enter 2 = .ok (.invokevirtual 387, 3) := by decide +kernel
theorem dX12_enter_5 : decode cX12_enter 5 = .ok (.ifCond .eq 26, 3) := by decide +kernel
theorem dX12_enter_8 : decode cX12_enter 8 = .ok (.aload_n 0, 1) := by decide +kernel
theorem dX12_enter_9 : decode cX12_enter 9 = .ok (.iload_n 2, 1) := by decide +kernel
theorem dX12_enter_10 : decode cX12_enter 10 = .ok (.ifCond .lt 9, 3) := by decide +kernel
theorem dX12_enter_13 : decode cX12_enter 13 = .ok (.iload_n 2, 1) := by decide +kernel
theorem dX12_enter_14 : decode cX12_enter 14 = .ok (.bipush 23, 2) := by decide +kernel
theorem dX12_enter_16 : decode cX12_enter 16 = .ok (.if_icmp .le 7, 3) := by decide +kernel
theorem dX12_enter_19 : decode cX12_enter 19 = .ok (.iconst 1, 1) := by decide +kernel
theorem dX12_enter_20 : decode cX12_enter 20 = .ok (.goto 4, 3) := by decide +kernel
theorem dX12_enter_23 : decode cX12_enter 23 = .ok (.iconst 0, 1) := by decide +kernel
theorem dX12_enter_24 : decode cX12_enter 24 = .ok (.iconst 2, 1) := by decide +kernel
theorem dX12_enter_25 : decode cX12_enter 25 = .ok (.invokevirtual 205, 3) := by decide +kernel
theorem dX12_enter_28 : decode cX12_enter 28 = .ok (.ifCond .eq 5, 3) := by decide +kernel
theorem dX12_enter_31 : decode cX12_enter 31 = .ok (.iconst 0, 1) := by decide +kernel
theorem dX12_enter_32 : decode cX12_enter 32 = .ok (.ireturn, 1) := by decide +kernel
theorem dX12_enter_33 : decode cX12_enter 33 = .ok (.aload_n 0, 1) := by decide +kernel
theorem dX12_enter_34 : decode cX12_enter 34 = .ok (.getfield 91, 3) := by decide +kernel
theorem dX12_enter_37 : decode cX12_enter 37 = .ok (.iload_n 1, 1) := by decide +kernel
theorem dX12_enter_38 : decode cX12_enter 38 = .ok (.iaload, 1) := by decide +kernel
theorem dX12_enter_39 : decode cX12_enter 39 = .ok (.iconst 5, 1) := by decide +kernel
theorem dX12_enter_40 : decode cX12_enter 40 = .ok (.if_icmp .eq 5, 3) := by decide +kernel
theorem dX12_enter_43 : decode cX12_enter 43 = .ok (.iconst (-1), 1) := by decide +kernel
theorem dX12_enter_44 : decode cX12_enter 44 = .ok (.ireturn, 1) := by decide +kernel
theorem dX12_enter_45 : decode cX12_enter 45 = .ok (.aload_n 0, 1) := by decide +kernel
theorem dX12_enter_46 : decode cX12_enter 46 = .ok (.iload_n 1, 1) := by decide +kernel
theorem dX12_enter_47 : decode cX12_enter 47 = .ok (.iconst 5, 1) := by decide +kernel
theorem dX12_enter_48 : decode cX12_enter 48 = .ok (.invokevirtual 375, 3) := by decide +kernel
theorem dX12_enter_51 : decode cX12_enter 51 = .ok (.aload_n 0, 1) := by decide +kernel
theorem dX12_enter_52 : decode cX12_enter 52 = .ok (.getfield 222, 3) := by decide +kernel
theorem dX12_enter_55 : decode cX12_enter 55 = .ok (.bipush 7, 2) := by decide +kernel
theorem dX12_enter_57 : decode cX12_enter 57 = .ok (.irem, 1) := by decide +kernel
theorem dX12_enter_58 : decode cX12_enter 58 = .ok (.ishr, 1) := by decide +kernel
theorem dX12_enter_59 : decode cX12_enter 59 = .ok (.iconst 1, 1) := by decide +kernel
theorem dX12_enter_60 : decode cX12_enter 60 = .ok (.iand, 1) := by decide +kernel
theorem dX12_enter_61 : decode cX12_enter 61 = .ok (.ifCond .ne 25, 3) := by decide +kernel
theorem dX12_enter_64 : decode cX12_enter 64 = .ok (.iload_n 2, 1) := by decide +kernel
theorem dX12_enter_65 : decode cX12_enter 65 = .ok (.aload_n 0, 1) := by decide +kernel
theorem dX12_enter_66 : decode cX12_enter 66 = .ok (.iload_n 1, 1) := by decide +kernel
theorem dX12_enter_67 : decode cX12_enter 67 = .ok (.invokevirtual 399, 3) := by decide +kernel
theorem dX12_enter_70 : decode cX12_enter 70 = .ok (.if_icmp .lt 16, 3) := by decide +kernel
theorem dX12_enter_73 : decode cX12_enter 73 = .ok (.iload_n 2, 1) := by decide +kernel
theorem dX12_enter_74 : decode cX12_enter 74 = .ok (.aload_n 0, 1) := by decide +kernel
theorem dX12_enter_75 : decode cX12_enter 75 = .ok (.iload_n 1, 1) := by decide +kernel
theorem dX12_enter_76 : decode cX12_enter 76 = .ok (.invokevirtual 402, 3) := by decide +kernel
theorem dX12_enter_79 : decode cX12_enter 79 = .ok (.if_icmp .ge 7, 3) := by decide +kernel
theorem dX12_enter_82 : decode cX12_enter 82 = .ok (.iconst 1, 1) := by decide +kernel
theorem dX12_enter_83 : decode cX12_enter 83 = .ok (.goto 4, 3) := by decide +kernel
theorem dX12_enter_86 : decode cX12_enter 86 = .ok (.iconst 0, 1) := by decide +kernel
theorem dX12_enter_87 : decode cX12_enter 87 = .ok (.istore_n 3, 1) := by decide +kernel
theorem dX12_enter_88 : decode cX12_enter 88 = .ok (.iload_n 3, 1) := by decide +kernel
theorem dX12_enter_89 : decode cX12_enter 89 = .ok (.ifCond .eq 15, 3) := by decide +kernel
theorem dX12_enter_92 : decode cX12_enter 92 = .ok (.aload_n 0, 1) := by decide +kernel
theorem dX12_enter_93 : decode cX12_enter 93 = .ok (.getfield 139, 3) := by decide +kernel
theorem dX12_enter_96 : decode cX12_enter 96 = .ok (.iload_n 1, 1) := by decide +kernel
theorem dX12_enter_97 : decode cX12_enter 97 = .ok (.dup2, 1) := by decide +kernel
theorem dX12_enter_98 : decode cX12_enter 98 = .ok (.iaload, 1) := by decide +kernel
theorem dX12_enter_99 : decode cX12_enter 99 = .ok (.iconst 1, 1) := by decide +kernel
theorem dX12_enter_100 : decode cX12_enter 100 = .ok (.iadd, 1) := by decide +kernel
theorem dX12_enter_101 : decode cX12_enter 101 = .ok (.iastore, 1) := by decide +kernel
theorem dX12_enter_102 : decode cX12_enter 102 = .ok (.iconst 1, 1) := by decide +kernel
theorem dX12_enter_103 : decode cX12_enter 103 = .ok (.ireturn, 1) := by decide +kernel
theorem dX12_enter_104 : decode cX12_enter 104 = .ok (.aload_n 0, 1) := by decide +kernel
theorem dX12_enter_105 : decode cX12_enter 105 = .ok (.invokevirtual 440, 3) := by decide +kernel
theorem dX12_enter_108 : decode cX12_enter 108 = .ok (.ifCond .eq 6, 3) := by decide +kernel
theorem dX12_enter_111 : decode cX12_enter 111 = .ok (.bipush (-2), 2) := by decide +kernel
theorem dX12_enter_113 : decode cX12_enter 113 = .ok (.ireturn, 1) := by decide +kernel
theorem dX12_enter_114 : decode cX12_enter 114 = .ok (.aload_n 0, 1) := by decide +kernel
theorem dX12_enter_115 : decode cX12_enter 115 = .ok (.getfield 142, 3) := by decide +kernel
theorem dX12_enter_118 : decode cX12_enter 118 = .ok (.iload_n 1, 1) := by decide +kernel
theorem dX12_enter_119 : decode cX12_enter 119 = .ok (.dup2, 1) := by decide +kernel
theorem dX12_enter_120 : decode cX12_enter 120 = .ok (.iaload, 1) := by decide +kernel
theorem dX12_enter_121 : decode cX12_enter 121 = .ok (.iconst 1, 1) := by decide +kernel
theorem dX12_enter_122 : decode cX12_enter 122 = .ok (.iadd, 1) := by decide +kernel
theorem dX12_enter_123 : decode cX12_enter 123 = .ok (.iastore, 1) := by decide +kernel
theorem dX12_enter_124 : decode cX12_enter 124 = .ok (.aload_n 0, 1) := by decide +kernel
theorem dX12_enter_125 : decode cX12_enter 125 = .ok (.aload_n 0, 1) := by decide +kernel
theorem dX12_enter_126 : decode cX12_enter 126 = .ok (.iload_n 1, 1) := by decide +kernel
theorem dX12_enter_127 : decode cX12_enter 127 = .ok (.invokevirtual 444, 3) := by decide +kernel
theorem dX12_enter_130 : decode cX12_enter 130 = .ok (.aload_n 0, 1) := by decide +kernel
theorem dX12_enter_131 : decode cX12_enter 131 = .ok (.iload_n 1, 1) := by decide +kernel
theorem dX12_enter_132 : decode cX12_enter 132 = .ok (.invokevirtual 447, 3) := by decide +kernel
theorem dX12_enter_135 : decode cX12_enter 135 = .ok (.bipush 10, 2) := by decide +kernel
theorem dX12_enter_137 : decode cX12_enter 137 = .ok (.invokevirtual 450, 3) := by decide +kernel
theorem dX12_enter_140 : decode cX12_enter 140 = .ok (.iconst 0, 1) := by decide +kernel
theorem dX12_enter_141 : decode cX12_enter 141 = .ok (.ireturn, 1) := by decide +kernel
theorem dX12_entries_0 : decode cX12_entries 0 = .ok (.aload_n 0, 1) := by decide +kernel
theorem dX12_entries_1 : decode cX12_entries 1 = .ok (.iload_n 1, 1) := by decide +kernel
theorem dX12_entries_2 : decode cX12_entries 2 = .ok (.invokevirtual 387, 3) := by decide +kernel
theorem dX12_entries_5 : decode cX12_entries 5 = .ok (.ifCond .eq 25, 3) := by decide +kernel
theorem dX12_entries_8 : decode cX12_entries 8 = .ok (.aload_n 0, 1) := by decide +kernel
theorem dX12_entries_9 : decode cX12_entries 9 = .ok (.iload_n 2, 1) := by decide +kernel
theorem dX12_entries_10 : decode cX12_entries 10 = .ok (.ifCond .lt 8, 3) := by decide +kernel
theorem dX12_entries_13 : decode cX12_entries 13 = .ok (.iload_n 2, 1) := by decide +kernel
theorem dX12_entries_14 : decode cX12_entries 14 = .ok (.iconst 1, 1) := by decide +kernel
theorem dX12_entries_15 : decode cX12_entries 15 = .ok (.if_icmp .le 7, 3) := by decide +kernel
theorem dX12_entries_18 : decode cX12_entries 18 = .ok (.iconst 1, 1) := by decide +kernel
theorem dX12_entries_19 : decode cX12_entries 19 = .ok (.goto 4, 3) := by decide +kernel
theorem dX12_entries_22 : decode cX12_entries 22 = .ok (.iconst 0, 1) := by decide +kernel
theorem dX12_entries_23 : decode cX12_entries 23 = .ok (.iconst 2, 1) := by decide +kernel
theorem dX12_entries_24 : decode cX12_entries 24 = .ok (.invokevirtual 205, 3) := by decide +kernel
theorem dX12_entries_27 : decode cX12_entries 27 = .ok (.ifCond .eq 5, 3) := by decide +kernel
theorem dX12_entries_30 : decode cX12_entries 30 = .ok (.iconst 0, 1) := by decide +kernel
theorem dX12_entries_31 : decode cX12_entries 31 = .ok (.ireturn, 1) := by decide +kernel
theorem dX12_entries_32 : decode cX12_entries 32 = .ok (.iload_n 2, 1) := by decide +kernel
theorem dX12_entries_33 : decode cX12_entries 33 = .ok (.ifCond .ne 12, 3) := by decide +kernel
theorem dX12_entries_36 : decode cX12_entries 36 = .ok (.aload_n 0, 1) := by decide +kernel
theorem dX12_entries_37 : decode cX12_entries 37 = .ok (.getfield 139, 3) := by decide +kernel
theorem dX12_entries_40 : decode cX12_entries 40 = .ok (.iload_n 1, 1) := by decide +kernel
theorem dX12_entries_41 : decode cX12_entries 41 = .ok (.iaload, 1) := by decide +kernel
theorem dX12_entries_42 : decode cX12_entries 42 = .ok (.goto 9, 3) := by decide +kernel
theorem dX12_entries_45 : decode cX12_entries 45 = .ok (.aload_n 0, 1) := by decide +kernel
theorem dX12_entries_46 : decode cX12_entries 46 = .ok (.getfield 142, 3) := by decide +kernel
theorem dX12_entries_49 : decode cX12_entries 49 = .ok (.iload_n 1, 1) := by decide +kernel
theorem dX12_entries_50 : decode cX12_entries 50 = .ok (.iaload, 1) := by decide +kernel
theorem dX12_entries_51 : decode cX12_entries 51 = .ok (.ireturn, 1) := by decide +kernel
theorem dX12_isSpan_0 : decode cX12_isSpan 0 = .ok (.iload_n 0, 1) := by decide +kernel
theorem dX12_isSpan_1 : decode cX12_isSpan 1 = .ok (.ifCond .lt 18, 3) := by decide +kernel
theorem dX12_isSpan_4 : decode cX12_isSpan 4 = .ok (.iload_n 1, 1) := by decide +kernel
theorem dX12_isSpan_5 : decode cX12_isSpan 5 = .ok (.iload_n 0, 1) := by decide +kernel
theorem dX12_isSpan_6 : decode cX12_isSpan 6 = .ok (.if_icmp .lt 13, 3) := by decide +kernel
theorem dX12_isSpan_9 : decode cX12_isSpan 9 = .ok (.iload_n 1, 1) := by decide +kernel
theorem dX12_isSpan_10 : decode cX12_isSpan 10 = .ok (.bipush 12, 2) := by decide +kernel
theorem dX12_isSpan_12 : decode cX12_isSpan 12 = .ok (.if_icmp .ge 7, 3) := by decide +kernel
theorem dX12_isSpan_15 : decode cX12_isSpan 15 = .ok (.iconst 1, 1) := by decide +kernel
theorem dX12_isSpan_16 : decode cX12_isSpan 16 = .ok (.goto 4, 3) := by decide +kernel
theorem dX12_isSpan_19 : decode cX12_isSpan 19 = .ok (.iconst 0, 1) := by decide +kernel
theorem dX12_isSpan_20 : decode cX12_isSpan 20 = .ok (.ireturn, 1) := by decide +kernel
theorem dX12_build_0 : decode cX12_build 0 = .ok (.aload_n 0, 1) := by decide +kernel
theorem dX12_build_1 : decode cX12_build 1 = .ok (.iload_n 1, 1) := by decide +kernel
theorem dX12_build_2 : decode cX12_build 2 = .ok (.invokevirtual 387, 3) := by decide +kernel
theorem dX12_build_5 : decode cX12_build 5 = .ok (.ifCond .eq 50, 3) := by decide +kernel
theorem dX12_build_8 : decode cX12_build 8 = .ok (.aload_n 0, 1) := by decide +kernel
theorem dX12_build_9 : decode cX12_build 9 = .ok (.iload_n 2, 1) := by decide +kernel
theorem dX12_build_10 : decode cX12_build 10 = .ok (.iload_n 3, 1) := by decide +kernel
theorem dX12_build_11 : decode cX12_build 11 = .ok (.invokestatic 454, 3) := by decide +kernel
theorem dX12_build_14 : decode cX12_build 14 = .ok (.ifCond .eq 29, 3) := by decide +kernel
theorem dX12_build_17 : decode cX12_build 17 = .ok (.iload 4, 2) := by decide +kernel
theorem dX12_build_19 : decode cX12_build 19 = .ok (.iconst 1, 1) := by decide +kernel
theorem dX12_build_20 : decode cX12_build 20 = .ok (.if_icmp .lt 23, 3) := by decide +kernel
theorem dX12_build_23 : decode cX12_build 23 = .ok (.iload 4, 2) := by decide +kernel
theorem dX12_build_25 : decode cX12_build 25 = .ok (.bipush 20, 2) := by decide +kernel
theorem dX12_build_27 : decode cX12_build 27 = .ok (.if_icmp .gt 16, 3) := by decide +kernel
theorem dX12_build_30 : decode cX12_build 30 = .ok (.iload 5, 2) := by decide +kernel
theorem dX12_build_32 : decode cX12_build 32 = .ok (.ifCond .lt 11, 3) := by decide +kernel
theorem dX12_build_35 : decode cX12_build 35 = .ok (.iload 5, 2) := by decide +kernel
theorem dX12_build_37 : decode cX12_build 37 = .ok (.ldc_w 304, 3) := by decide +kernel
theorem dX12_build_40 : decode cX12_build 40 = .ok (.if_icmp .le 7, 3) := by decide +kernel
theorem dX12_build_43 : decode cX12_build 43 = .ok (.iconst 1, 1) := by decide +kernel
theorem dX12_build_44 : decode cX12_build 44 = .ok (.goto 4, 3) := by decide +kernel
theorem dX12_build_47 : decode cX12_build 47 = .ok (.iconst 0, 1) := by decide +kernel
theorem dX12_build_48 : decode cX12_build 48 = .ok (.iconst 2, 1) := by decide +kernel
theorem dX12_build_49 : decode cX12_build 49 = .ok (.invokevirtual 205, 3) := by decide +kernel
theorem dX12_build_52 : decode cX12_build 52 = .ok (.ifCond .eq 5, 3) := by decide +kernel
theorem dX12_build_55 : decode cX12_build 55 = .ok (.iconst 0, 1) := by decide +kernel
theorem dX12_build_56 : decode cX12_build 56 = .ok (.ireturn, 1) := by decide +kernel
theorem dX12_build_57 : decode cX12_build 57 = .ok (.aload_n 0, 1) := by decide +kernel
theorem dX12_build_58 : decode cX12_build 58 = .ok (.getfield 91, 3) := by decide +kernel
theorem dX12_build_61 : decode cX12_build 61 = .ok (.iload_n 1, 1) := by decide +kernel
theorem dX12_build_62 : decode cX12_build 62 = .ok (.iaload, 1) := by decide +kernel
theorem dX12_build_63 : decode cX12_build 63 = .ok (.iconst 5, 1) := by decide +kernel
theorem dX12_build_64 : decode cX12_build 64 = .ok (.if_icmp .ne 12, 3) := by decide +kernel
theorem dX12_build_67 : decode cX12_build 67 = .ok (.aload_n 0, 1) := by decide +kernel
theorem dX12_build_68 : decode cX12_build 68 = .ok (.getfield 55, 3) := by decide +kernel
theorem dX12_build_71 : decode cX12_build 71 = .ok (.iload_n 1, 1) := by decide +kernel
theorem dX12_build_72 : decode cX12_build 72 = .ok (.iaload, 1) := by decide +kernel
theorem dX12_build_73 : decode cX12_build 73 = .ok (.ifCond .eq 5, 3) := by decide +kernel
theorem dX12_build_76 : decode cX12_build 76 = .ok (.iconst (-1), 1) := by decide +kernel
theorem dX12_build_77 : decode cX12_build 77 = .ok (.ireturn, 1) := by decide +kernel
theorem dX12_build_78 : decode cX12_build 78 = .ok (.aload_n 0, 1) := by decide +kernel
theorem dX12_build_79 : decode cX12_build 79 = .ok (.getfield 49, 3) := by decide +kernel
theorem dX12_build_82 : decode cX12_build 82 = .ok (.iload_n 1, 1) := by decide +kernel
theorem dX12_build_83 : decode cX12_build 83 = .ok (.iaload, 1) := by decide +kernel
theorem dX12_build_84 : decode cX12_build 84 = .ok (.istore 6, 2) := by decide +kernel
theorem dX12_build_86 : decode cX12_build 86 = .ok (.iconst 0, 1) := by decide +kernel
theorem dX12_build_87 : decode cX12_build 87 = .ok (.istore 7, 2) := by decide +kernel
theorem dX12_build_89 : decode cX12_build 89 = .ok (.iload_n 2, 1) := by decide +kernel
theorem dX12_build_90 : decode cX12_build 90 = .ok (.istore 8, 2) := by decide +kernel
theorem dX12_build_92 : decode cX12_build 92 = .ok (.iload 8, 2) := by decide +kernel
theorem dX12_build_94 : decode cX12_build 94 = .ok (.iload_n 3, 1) := by decide +kernel
theorem dX12_build_95 : decode cX12_build 95 = .ok (.if_icmp .gt 33, 3) := by decide +kernel
theorem dX12_build_98 : decode cX12_build 98 = .ok (.aload_n 0, 1) := by decide +kernel
theorem dX12_build_99 : decode cX12_build 99 = .ok (.getfield 145, 3) := by decide +kernel
theorem dX12_build_102 : decode cX12_build 102 = .ok (.bipush 12, 2) := by decide +kernel
theorem dX12_build_104 : decode cX12_build 104 = .ok (.iload 6, 2) := by decide +kernel
theorem dX12_build_106 : decode cX12_build 106 = .ok (.imul, 1) := by decide +kernel
theorem dX12_build_107 : decode cX12_build 107 = .ok (.iload 8, 2) := by decide +kernel
theorem dX12_build_109 : decode cX12_build 109 = .ok (.iadd, 1) := by decide +kernel
theorem dX12_build_110 : decode cX12_build 110 = .ok (.iaload, 1) := by decide +kernel
theorem dX12_build_111 : decode cX12_build 111 = .ok (.iload 4, 2) := by decide +kernel
theorem dX12_build_113 : decode cX12_build 113 = .ok (.iadd, 1) := by decide +kernel
theorem dX12_build_114 : decode cX12_build 114 = .ok (.bipush 20, 2) := by decide +kernel
theorem dX12_build_116 : decode cX12_build 116 = .ok (.if_icmp .le 6, 3) := by decide +kernel
theorem dX12_build_119 : decode cX12_build 119 = .ok (.bipush (-2), 2) := by decide +kernel
theorem dX12_build_121 : decode cX12_build 121 = .ok (.ireturn, 1) := by decide +kernel
theorem dX12_build_122 : decode cX12_build 122 = .ok (.iinc 8 1, 3) := by decide +kernel
theorem dX12_build_125 : decode cX12_build 125 = .ok (.goto (-33), 3) := by decide +kernel
theorem dX12_build_128 : decode cX12_build 128 = .ok (.iload_n 2, 1) := by decide +kernel
theorem dX12_build_129 : decode cX12_build 129 = .ok (.istore 8, 2) := by decide +kernel
theorem dX12_build_131 : decode cX12_build 131 = .ok (.iload 8, 2) := by decide +kernel
theorem dX12_build_133 : decode cX12_build 133 = .ok (.iload_n 3, 1) := by decide +kernel
theorem dX12_build_134 : decode cX12_build 134 = .ok (.if_icmp .gt 117, 3) := by decide +kernel
theorem dX12_build_137 : decode cX12_build 137 = .ok (.iconst 0, 1) := by decide +kernel
theorem dX12_build_138 : decode cX12_build 138 = .ok (.istore 9, 2) := by decide +kernel
theorem dX12_build_140 : decode cX12_build 140 = .ok (.iload 9, 2) := by decide +kernel
theorem dX12_build_142 : decode cX12_build 142 = .ok (.iload 4, 2) := by decide +kernel
theorem dX12_build_144 : decode cX12_build 144 = .ok (.if_icmp .ge 101, 3) := by decide +kernel
theorem dX12_build_147 : decode cX12_build 147 = .ok (.bipush 20, 2) := by decide +kernel
theorem dX12_build_149 : decode cX12_build 149 = .ok (.bipush 12, 2) := by decide +kernel
theorem dX12_build_151 : decode cX12_build 151 = .ok (.iload 6, 2) := by decide +kernel
theorem dX12_build_153 : decode cX12_build 153 = .ok (.imul, 1) := by decide +kernel
theorem dX12_build_154 : decode cX12_build 154 = .ok (.iload 8, 2) := by decide +kernel
theorem dX12_build_156 : decode cX12_build 156 = .ok (.iadd, 1) := by decide +kernel
theorem dX12_build_157 : decode cX12_build 157 = .ok (.imul, 1) := by decide +kernel
theorem dX12_build_158 : decode cX12_build 158 = .ok (.aload_n 0, 1) := by decide +kernel
theorem dX12_build_159 : decode cX12_build 159 = .ok (.getfield 145, 3) := by decide +kernel
theorem dX12_build_162 : decode cX12_build 162 = .ok (.bipush 12, 2) := by decide +kernel
theorem dX12_build_164 : decode cX12_build 164 = .ok (.iload 6, 2) := by decide +kernel
theorem dX12_build_166 : decode cX12_build 166 = .ok (.imul, 1) := by decide +kernel
theorem dX12_build_167 : decode cX12_build 167 = .ok (.iload 8, 2) := by decide +kernel
theorem dX12_build_169 : decode cX12_build 169 = .ok (.iadd, 1) := by decide +kernel
theorem dX12_build_170 : decode cX12_build 170 = .ok (.iaload, 1) := by decide +kernel
theorem dX12_build_171 : decode cX12_build 171 = .ok (.iadd, 1) := by decide +kernel
theorem dX12_build_172 : decode cX12_build 172 = .ok (.istore 10, 2) := by decide +kernel
theorem dX12_build_174 : decode cX12_build 174 = .ok (.aload_n 0, 1) := by decide +kernel
theorem dX12_build_175 : decode cX12_build 175 = .ok (.getfield 148, 3) := by decide +kernel
theorem dX12_build_178 : decode cX12_build 178 = .ok (.iload 10, 2) := by decide +kernel
theorem dX12_build_180 : decode cX12_build 180 = .ok (.aload_n 0, 1) := by decide +kernel
theorem dX12_build_181 : decode cX12_build 181 = .ok (.getfield 52, 3) := by decide +kernel
theorem dX12_build_184 : decode cX12_build 184 = .ok (.iload_n 1, 1) := by decide +kernel
theorem dX12_build_185 : decode cX12_build 185 = .ok (.iaload, 1) := by decide +kernel
theorem dX12_build_186 : decode cX12_build 186 = .ok (.iastore, 1) := by decide +kernel
theorem dX12_build_187 : decode cX12_build 187 = .ok (.aload_n 0, 1) := by decide +kernel
theorem dX12_build_188 : decode cX12_build 188 = .ok (.getfield 151, 3) := by decide +kernel
theorem dX12_build_191 : decode cX12_build 191 = .ok (.iload 10, 2) := by decide +kernel
theorem dX12_build_193 : decode cX12_build 193 = .ok (.iload 5, 2) := by decide +kernel
theorem dX12_build_195 : decode cX12_build 195 = .ok (.iastore, 1) := by decide +kernel
theorem dX12_build_196 : decode cX12_build 196 = .ok (.aload_n 0, 1) := by decide +kernel
theorem dX12_build_197 : decode cX12_build 197 = .ok (.getfield 154, 3) := by decide +kernel
theorem dX12_build_200 : decode cX12_build 200 = .ok (.iload 10, 2) := by decide +kernel
theorem dX12_build_202 : decode cX12_build 202 = .ok (.aload_n 0, 1) := by decide +kernel
theorem dX12_build_203 : decode cX12_build 203 = .ok (.getfield 222, 3) := by decide +kernel
theorem dX12_build_206 : decode cX12_build 206 = .ok (.iastore, 1) := by decide +kernel
theorem dX12_build_207 : decode cX12_build 207 = .ok (.aload_n 0, 1) := by decide +kernel
theorem dX12_build_208 : decode cX12_build 208 = .ok (.getfield 157, 3) := by decide +kernel
theorem dX12_build_211 : decode cX12_build 211 = .ok (.iload 10, 2) := by decide +kernel
theorem dX12_build_213 : decode cX12_build 213 = .ok (.iconst 1, 1) := by decide +kernel
theorem dX12_build_214 : decode cX12_build 214 = .ok (.aload_n 0, 1) := by decide +kernel
theorem dX12_build_215 : decode cX12_build 215 = .ok (.getfield 52, 3) := by decide +kernel
theorem dX12_build_218 : decode cX12_build 218 = .ok (.iload_n 1, 1) := by decide +kernel
theorem dX12_build_219 : decode cX12_build 219 = .ok (.iaload, 1) := by decide +kernel
theorem dX12_build_220 : decode cX12_build 220 = .ok (.ishl, 1) := by decide +kernel
theorem dX12_build_221 : decode cX12_build 221 = .ok (.iastore, 1) := by decide +kernel
theorem dX12_build_222 : decode cX12_build 222 = .ok (.aload_n 0, 1) := by decide +kernel
theorem dX12_build_223 : decode cX12_build 223 = .ok (.getfield 145, 3) := by decide +kernel
theorem dX12_build_226 : decode cX12_build 226 = .ok (.bipush 12, 2) := by decide +kernel
theorem dX12_build_228 : decode cX12_build 228 = .ok (.iload 6, 2) := by decide +kernel
theorem dX12_build_230 : decode cX12_build 230 = .ok (.imul, 1) := by decide +kernel
theorem dX12_build_231 : decode cX12_build 231 = .ok (.iload 8, 2) := by decide +kernel
theorem dX12_build_233 : decode cX12_build 233 = .ok (.iadd, 1) := by decide +kernel
theorem dX12_build_234 : decode cX12_build 234 = .ok (.dup2, 1) := by decide +kernel
theorem dX12_build_235 : decode cX12_build 235 = .ok (.iaload, 1) := by decide +kernel
theorem dX12_build_236 : decode cX12_build 236 = .ok (.iconst 1, 1) := by decide +kernel
theorem dX12_build_237 : decode cX12_build 237 = .ok (.iadd, 1) := by decide +kernel
theorem dX12_build_238 : decode cX12_build 238 = .ok (.iastore, 1) := by decide +kernel
theorem dX12_build_239 : decode cX12_build 239 = .ok (.iinc 9 1, 3) := by decide +kernel
theorem dX12_build_242 : decode cX12_build 242 = .ok (.goto (-102), 3) := by decide +kernel
theorem dX12_build_245 : decode cX12_build 245 = .ok (.iinc 8 1, 3) := by decide +kernel
theorem dX12_build_248 : decode cX12_build 248 = .ok (.goto (-117), 3) := by decide +kernel
theorem dX12_build_251 : decode cX12_build 251 = .ok (.iconst 0, 1) := by decide +kernel
theorem dX12_build_252 : decode cX12_build 252 = .ok (.istore 8, 2) := by decide +kernel
theorem dX12_build_254 : decode cX12_build 254 = .ok (.iload 8, 2) := by decide +kernel
theorem dX12_build_256 : decode cX12_build 256 = .ok (.bipush 12, 2) := by decide +kernel
theorem dX12_build_258 : decode cX12_build 258 = .ok (.if_icmp .ge 27, 3) := by decide +kernel
theorem dX12_build_261 : decode cX12_build 261 = .ok (.iload 7, 2) := by decide +kernel
theorem dX12_build_263 : decode cX12_build 263 = .ok (.aload_n 0, 1) := by decide +kernel
theorem dX12_build_264 : decode cX12_build 264 = .ok (.getfield 145, 3) := by decide +kernel
theorem dX12_build_267 : decode cX12_build 267 = .ok (.bipush 12, 2) := by decide +kernel
theorem dX12_build_269 : decode cX12_build 269 = .ok (.iload 6, 2) := by decide +kernel
theorem dX12_build_271 : decode cX12_build 271 = .ok (.imul, 1) := by decide +kernel
theorem dX12_build_272 : decode cX12_build 272 = .ok (.iload 8, 2) := by decide +kernel
theorem dX12_build_274 : decode cX12_build 274 = .ok (.iadd, 1) := by decide +kernel
theorem dX12_build_275 : decode cX12_build 275 = .ok (.iaload, 1) := by decide +kernel
theorem dX12_build_276 : decode cX12_build 276 = .ok (.iadd, 1) := by decide +kernel
theorem dX12_build_277 : decode cX12_build 277 = .ok (.istore 7, 2) := by decide +kernel
theorem dX12_build_279 : decode cX12_build 279 = .ok (.iinc 8 1, 3) := by decide +kernel
theorem dX12_build_282 : decode cX12_build 282 = .ok (.goto (-28), 3) := by decide +kernel
theorem dX12_build_285 : decode cX12_build 285 = .ok (.iload 7, 2) := by decide +kernel
theorem dX12_build_287 : decode cX12_build 287 = .ok (.ireturn, 1) := by decide +kernel
theorem dX12_lower_0 : decode cX12_lower 0 = .ok (.aload_n 0, 1) := by decide +kernel
theorem dX12_lower_1 : decode cX12_lower 1 = .ok (.iconst 0, 1) := by decide +kernel
theorem dX12_lower_2 : decode cX12_lower 2 = .ok (.putfield 199, 3) := by decide +kernel
theorem dX12_lower_5 : decode cX12_lower 5 = .ok (.aload_n 0, 1) := by decide +kernel
theorem dX12_lower_6 : decode cX12_lower 6 = .ok (.aload_n 0, 1) := by decide +kernel
theorem dX12_lower_7 : decode cX12_lower 7 = .ok (.iload_n 1, 1) := by decide +kernel
theorem dX12_lower_8 : decode cX12_lower 8 = .ok (.invokevirtual 216, 3) := by decide +kernel
theorem dX12_lower_11 : decode cX12_lower 11 = .ok (.ifCond .ne 7, 3) := by decide +kernel
theorem dX12_lower_14 : decode cX12_lower 14 = .ok (.iconst 1, 1) := by decide +kernel
theorem dX12_lower_15 : decode cX12_lower 15 = .ok (.goto 4, 3) := by decide +kernel
theorem dX12_lower_18 : decode cX12_lower 18 = .ok (.iconst 0, 1) := by decide +kernel
theorem dX12_lower_19 : decode cX12_lower 19 = .ok (.iconst 1, 1) := by decide +kernel
theorem dX12_lower_20 : decode cX12_lower 20 = .ok (.invokevirtual 205, 3) := by decide +kernel
theorem dX12_lower_23 : decode cX12_lower 23 = .ok (.ifCond .ne 24, 3) := by decide +kernel
theorem dX12_lower_26 : decode cX12_lower 26 = .ok (.aload_n 0, 1) := by decide +kernel
theorem dX12_lower_27 : decode cX12_lower 27 = .ok (.iload_n 2, 1) := by decide +kernel
theorem dX12_lower_28 : decode cX12_lower 28 = .ok (.iload_n 3, 1) := by decide +kernel
theorem dX12_lower_29 : decode cX12_lower 29 = .ok (.invokestatic 454, 3) := by decide +kernel
theorem dX12_lower_32 : decode cX12_lower 32 = .ok (.ifCond .ne 7, 3) := by decide +kernel
theorem dX12_lower_35 : decode cX12_lower 35 = .ok (.iconst 1, 1) := by decide +kernel
theorem dX12_lower_36 : decode cX12_lower 36 = .ok (.goto 4, 3) := by decide +kernel
theorem dX12_lower_39 : decode cX12_lower 39 = .ok (.iconst 0, 1) := by decide +kernel
theorem dX12_lower_40 : decode cX12_lower 40 = .ok (.iconst 2, 1) := by decide +kernel
theorem dX12_lower_41 : decode cX12_lower 41 = .ok (.invokevirtual 205, 3) := by decide +kernel
theorem dX12_lower_44 : decode cX12_lower 44 = .ok (.ifCond .eq 5, 3) := by decide +kernel
theorem dX12_lower_47 : decode cX12_lower 47 = .ok (.iconst 0, 1) := by decide +kernel
theorem dX12_lower_48 : decode cX12_lower 48 = .ok (.ireturn, 1) := by decide +kernel
theorem dX12_lower_49 : decode cX12_lower 49 = .ok (.iconst 0, 1) := by decide +kernel
theorem dX12_lower_50 : decode cX12_lower 50 = .ok (.istore 4, 2) := by decide +kernel
theorem dX12_lower_52 : decode cX12_lower 52 = .ok (.iload_n 2, 1) := by decide +kernel
theorem dX12_lower_53 : decode cX12_lower 53 = .ok (.istore 5, 2) := by decide +kernel
theorem dX12_lower_55 : decode cX12_lower 55 = .ok (.iload 5, 2) := by decide +kernel
theorem dX12_lower_57 : decode cX12_lower 57 = .ok (.iload_n 3, 1) := by decide +kernel
theorem dX12_lower_58 : decode cX12_lower 58 = .ok (.if_icmp .gt 46, 3) := by decide +kernel
theorem dX12_lower_61 : decode cX12_lower 61 = .ok (.aload_n 0, 1) := by decide +kernel
theorem dX12_lower_62 : decode cX12_lower 62 = .ok (.getfield 145, 3) := by decide +kernel
theorem dX12_lower_65 : decode cX12_lower 65 = .ok (.bipush 12, 2) := by decide +kernel
theorem dX12_lower_67 : decode cX12_lower 67 = .ok (.iload_n 1, 1) := by decide +kernel
theorem dX12_lower_68 : decode cX12_lower 68 = .ok (.imul, 1) := by decide +kernel
theorem dX12_lower_69 : decode cX12_lower 69 = .ok (.iload 5, 2) := by decide +kernel
theorem dX12_lower_71 : decode cX12_lower 71 = .ok (.iadd, 1) := by decide +kernel
theorem dX12_lower_72 : decode cX12_lower 72 = .ok (.iaload, 1) := by decide +kernel
theorem dX12_lower_73 : decode cX12_lower 73 = .ok (.ifCond .ne 6, 3) := by decide +kernel
theorem dX12_lower_76 : decode cX12_lower 76 = .ok (.goto 22, 3) := by decide +kernel
theorem dX12_lower_79 : decode cX12_lower 79 = .ok (.aload_n 0, 1) := by decide +kernel
theorem dX12_lower_80 : decode cX12_lower 80 = .ok (.getfield 145, 3) := by decide +kernel
theorem dX12_lower_83 : decode cX12_lower 83 = .ok (.bipush 12, 2) := by decide +kernel
theorem dX12_lower_85 : decode cX12_lower 85 = .ok (.iload_n 1, 1) := by decide +kernel
theorem dX12_lower_86 : decode cX12_lower 86 = .ok (.imul, 1) := by decide +kernel
theorem dX12_lower_87 : decode cX12_lower 87 = .ok (.iload 5, 2) := by decide +kernel
theorem dX12_lower_89 : decode cX12_lower 89 = .ok (.iadd, 1) := by decide +kernel
theorem dX12_lower_90 : decode cX12_lower 90 = .ok (.dup2, 1) := by decide +kernel
theorem dX12_lower_91 : decode cX12_lower 91 = .ok (.iaload, 1) := by decide +kernel
theorem dX12_lower_92 : decode cX12_lower 92 = .ok (.iconst 1, 1) := by decide +kernel
theorem dX12_lower_93 : decode cX12_lower 93 = .ok (.isub, 1) := by decide +kernel
theorem dX12_lower_94 : decode cX12_lower 94 = .ok (.iastore, 1) := by decide +kernel
theorem dX12_lower_95 : decode cX12_lower 95 = .ok (.iinc 4 1, 3) := by decide +kernel
theorem dX12_lower_98 : decode cX12_lower 98 = .ok (.iinc 5 1, 3) := by decide +kernel
theorem dX12_lower_101 : decode cX12_lower 101 = .ok (.goto (-46), 3) := by decide +kernel
theorem dX12_lower_104 : decode cX12_lower 104 = .ok (.iload 4, 2) := by decide +kernel
theorem dX12_lower_106 : decode cX12_lower 106 = .ok (.ireturn, 1) := by decide +kernel
theorem dX12_valueOf_0 : decode cX12_valueOf 0 = .ok (.bipush 100, 2) := by decide +kernel
theorem dX12_valueOf_2 : decode cX12_valueOf 2 = .ok (.aload_n 0, 1) := by decide +kernel
theorem dX12_valueOf_3 : decode cX12_valueOf 3 = .ok (.getfield 21, 3) := by decide +kernel
theorem dX12_valueOf_6 : decode cX12_valueOf 6 = .ok (.bipush 10, 2) := by decide +kernel
theorem dX12_valueOf_8 : decode cX12_valueOf 8 = .ok (.iaload, 1) := by decide +kernel
theorem dX12_valueOf_9 : decode cX12_valueOf 9 = .ok (.aload_n 0, 1) := by decide +kernel
theorem dX12_valueOf_10 : decode cX12_valueOf 10 = .ok (.getfield 222, 3) := by decide +kernel
theorem dX12_valueOf_13 : decode cX12_valueOf 13 = .ok (.aload_n 0, 1) := by decide +kernel
theorem dX12_valueOf_14 : decode cX12_valueOf 14 = .ok (.getfield 154, 3) := by decide +kernel
theorem dX12_valueOf_17 : decode cX12_valueOf 17 = .ok (.iload_n 1, 1) := by decide +kernel
theorem dX12_valueOf_18 : decode cX12_valueOf 18 = .ok (.iaload, 1) := by decide +kernel
theorem dX12_valueOf_19 : decode cX12_valueOf 19 = .ok (.isub, 1) := by decide +kernel
theorem dX12_valueOf_20 : decode cX12_valueOf 20 = .ok (.sipush 365, 3) := by decide +kernel
theorem dX12_valueOf_23 : decode cX12_valueOf 23 = .ok (.idiv, 1) := by decide +kernel
theorem dX12_valueOf_24 : decode cX12_valueOf 24 = .ok (.imul, 1) := by decide +kernel
theorem dX12_valueOf_25 : decode cX12_valueOf 25 = .ok (.isub, 1) := by decide +kernel
theorem dX12_valueOf_26 : decode cX12_valueOf 26 = .ok (.istore_n 2, 1) := by decide +kernel
theorem dX12_valueOf_27 : decode cX12_valueOf 27 = .ok (.iload_n 2, 1) := by decide +kernel
theorem dX12_valueOf_28 : decode cX12_valueOf 28 = .ok (.ifCond .gt 7, 3) := by decide +kernel
theorem dX12_valueOf_31 : decode cX12_valueOf 31 = .ok (.iconst 0, 1) := by decide +kernel
theorem dX12_valueOf_32 : decode cX12_valueOf 32 = .ok (.goto 18, 3) := by decide +kernel
theorem dX12_valueOf_35 : decode cX12_valueOf 35 = .ok (.aload_n 0, 1) := by decide +kernel
theorem dX12_valueOf_36 : decode cX12_valueOf 36 = .ok (.getfield 151, 3) := by decide +kernel
theorem dX12_valueOf_39 : decode cX12_valueOf 39 = .ok (.iload_n 1, 1) := by decide +kernel
theorem dX12_valueOf_40 : decode cX12_valueOf 40 = .ok (.iaload, 1) := by decide +kernel
theorem dX12_valueOf_41 : decode cX12_valueOf 41 = .ok (.i2l, 1) := by decide +kernel
theorem dX12_valueOf_42 : decode cX12_valueOf 42 = .ok (.iload_n 2, 1) := by decide +kernel
theorem dX12_valueOf_43 : decode cX12_valueOf 43 = .ok (.i2l, 1) := by decide +kernel
theorem dX12_valueOf_44 : decode cX12_valueOf 44 = .ok (.lmul, 1) := by decide +kernel
theorem dX12_valueOf_45 : decode cX12_valueOf 45 = .ok (.ldc2_w 457, 3) := by decide +kernel
theorem dX12_valueOf_48 : decode cX12_valueOf 48 = .ok (.ldiv, 1) := by decide +kernel
theorem dX12_valueOf_49 : decode cX12_valueOf 49 = .ok (.l2i, 1) := by decide +kernel
theorem dX12_valueOf_50 : decode cX12_valueOf 50 = .ok (.ireturn, 1) := by decide +kernel
theorem dX12_isDue_0 : decode cX12_isDue 0 = .ok (.aload_n 0, 1) := by decide +kernel
theorem dX12_isDue_1 : decode cX12_isDue 1 = .ok (.getfield 148, 3) := by decide +kernel
theorem dX12_isDue_4 : decode cX12_isDue 4 = .ok (.iload_n 1, 1) := by decide +kernel
theorem dX12_isDue_5 : decode cX12_isDue 5 = .ok (.iaload, 1) := by decide +kernel
theorem dX12_isDue_6 : decode cX12_isDue 6 = .ok (.iload_n 2, 1) := by decide +kernel
theorem dX12_isDue_7 : decode cX12_isDue 7 = .ok (.if_icmp .eq 20, 3) := by decide +kernel
theorem dX12_isDue_10 : decode cX12_isDue 10 = .ok (.aload_n 0, 1) := by decide +kernel
theorem dX12_isDue_11 : decode cX12_isDue 11 = .ok (.getfield 157, 3) := by decide +kernel
theorem dX12_isDue_14 : decode cX12_isDue 14 = .ok (.iload_n 1, 1) := by decide +kernel
theorem dX12_isDue_15 : decode cX12_isDue 15 = .ok (.iaload, 1) := by decide +kernel
theorem dX12_isDue_16 : decode cX12_isDue 16 = .ok (.iload_n 2, 1) := by decide +kernel
theorem dX12_isDue_17 : decode cX12_isDue 17 = .ok (.ishr, 1) := by decide +kernel
theorem dX12_isDue_18 : decode cX12_isDue 18 = .ok (.iconst 1, 1) := by decide +kernel
theorem dX12_isDue_19 : decode cX12_isDue 19 = .ok (.iand, 1) := by decide +kernel
theorem dX12_isDue_20 : decode cX12_isDue 20 = .ok (.ifCond .ne 7, 3) := by decide +kernel
theorem dX12_isDue_23 : decode cX12_isDue 23 = .ok (.iconst 1, 1) := by decide +kernel
theorem dX12_isDue_24 : decode cX12_isDue 24 = .ok (.goto 4, 3) := by decide +kernel
theorem dX12_isDue_27 : decode cX12_isDue 27 = .ok (.iconst 0, 1) := by decide +kernel
theorem dX12_isDue_28 : decode cX12_isDue 28 = .ok (.ireturn, 1) := by decide +kernel
theorem dX12_use_0 : decode cX12_use 0 = .ok (.aload_n 0, 1) := by decide +kernel
theorem dX12_use_1 : decode cX12_use 1 = .ok (.iconst 0, 1) := by decide +kernel
theorem dX12_use_2 : decode cX12_use 2 = .ok (.putfield 199, 3) := by decide +kernel
theorem dX12_use_5 : decode cX12_use 5 = .ok (.aload_n 0, 1) := by decide +kernel
theorem dX12_use_6 : decode cX12_use 6 = .ok (.aload_n 0, 1) := by decide +kernel
theorem dX12_use_7 : decode cX12_use 7 = .ok (.iload_n 1, 1) := by decide +kernel
theorem dX12_use_8 : decode cX12_use 8 = .ok (.invokevirtual 216, 3) := by decide +kernel
theorem dX12_use_11 : decode cX12_use 11 = .ok (.ifCond .ne 7, 3) := by decide +kernel
theorem dX12_use_14 : decode cX12_use 14 = .ok (.iconst 1, 1) := by decide +kernel
theorem dX12_use_15 : decode cX12_use 15 = .ok (.goto 4, 3) := by decide +kernel
theorem dX12_use_18 : decode cX12_use 18 = .ok (.iconst 0, 1) := by decide +kernel
theorem dX12_use_19 : decode cX12_use 19 = .ok (.iconst 1, 1) := by decide +kernel
theorem dX12_use_20 : decode cX12_use 20 = .ok (.invokevirtual 205, 3) := by decide +kernel
theorem dX12_use_23 : decode cX12_use 23 = .ok (.ifCond .ne 44, 3) := by decide +kernel
theorem dX12_use_26 : decode cX12_use 26 = .ok (.aload_n 0, 1) := by decide +kernel
theorem dX12_use_27 : decode cX12_use 27 = .ok (.iload_n 2, 1) := by decide +kernel
theorem dX12_use_28 : decode cX12_use 28 = .ok (.invokestatic 219, 3) := by decide +kernel
theorem dX12_use_31 : decode cX12_use 31 = .ok (.ifCond .eq 24, 3) := by decide +kernel
theorem dX12_use_34 : decode cX12_use 34 = .ok (.iload_n 3, 1) := by decide +kernel
theorem dX12_use_35 : decode cX12_use 35 = .ok (.iload 4, 2) := by decide +kernel
theorem dX12_use_37 : decode cX12_use 37 = .ok (.invokestatic 454, 3) := by decide +kernel
theorem dX12_use_40 : decode cX12_use 40 = .ok (.ifCond .eq 15, 3) := by decide +kernel
theorem dX12_use_43 : decode cX12_use 43 = .ok (.iload 5, 2) := by decide +kernel
theorem dX12_use_45 : decode cX12_use 45 = .ok (.ifCond .lt 10, 3) := by decide +kernel
theorem dX12_use_48 : decode cX12_use 48 = .ok (.iload 5, 2) := by decide +kernel
theorem dX12_use_50 : decode cX12_use 50 = .ok (.bipush 20, 2) := by decide +kernel
theorem dX12_use_52 : decode cX12_use 52 = .ok (.if_icmp .le 7, 3) := by decide +kernel
theorem dX12_use_55 : decode cX12_use 55 = .ok (.iconst 1, 1) := by decide +kernel
theorem dX12_use_56 : decode cX12_use 56 = .ok (.goto 4, 3) := by decide +kernel
theorem dX12_use_59 : decode cX12_use 59 = .ok (.iconst 0, 1) := by decide +kernel
theorem dX12_use_60 : decode cX12_use 60 = .ok (.iconst 2, 1) := by decide +kernel
theorem dX12_use_61 : decode cX12_use 61 = .ok (.invokevirtual 205, 3) := by decide +kernel
theorem dX12_use_64 : decode cX12_use 64 = .ok (.ifCond .eq 5, 3) := by decide +kernel
theorem dX12_use_67 : decode cX12_use 67 = .ok (.iconst 0, 1) := by decide +kernel
theorem dX12_use_68 : decode cX12_use 68 = .ok (.ireturn, 1) := by decide +kernel
theorem dX12_use_69 : decode cX12_use 69 = .ok (.iconst 0, 1) := by decide +kernel
theorem dX12_use_70 : decode cX12_use 70 = .ok (.istore 6, 2) := by decide +kernel
theorem dX12_use_72 : decode cX12_use 72 = .ok (.iload_n 3, 1) := by decide +kernel
theorem dX12_use_73 : decode cX12_use 73 = .ok (.istore 7, 2) := by decide +kernel
theorem dX12_use_75 : decode cX12_use 75 = .ok (.iload 7, 2) := by decide +kernel
theorem dX12_use_77 : decode cX12_use 77 = .ok (.iload 4, 2) := by decide +kernel
theorem dX12_use_79 : decode cX12_use 79 = .ok (.if_icmp .gt 84, 3) := by decide +kernel
theorem dX12_use_82 : decode cX12_use 82 = .ok (.iconst 0, 1) := by decide +kernel
theorem dX12_use_83 : decode cX12_use 83 = .ok (.istore 8, 2) := by decide +kernel
theorem dX12_use_85 : decode cX12_use 85 = .ok (.iload 8, 2) := by decide +kernel
theorem dX12_use_87 : decode cX12_use 87 = .ok (.iload 5, 2) := by decide +kernel
theorem dX12_use_89 : decode cX12_use 89 = .ok (.if_icmp .ge 68, 3) := by decide +kernel
theorem dX12_use_92 : decode cX12_use 92 = .ok (.iload 8, 2) := by decide +kernel
theorem dX12_use_94 : decode cX12_use 94 = .ok (.aload_n 0, 1) := by decide +kernel
theorem dX12_use_95 : decode cX12_use 95 = .ok (.getfield 145, 3) := by decide +kernel
theorem dX12_use_98 : decode cX12_use 98 = .ok (.bipush 12, 2) := by decide +kernel
theorem dX12_use_100 : decode cX12_use 100 = .ok (.iload_n 1, 1) := by decide +kernel
theorem dX12_use_101 : decode cX12_use 101 = .ok (.imul, 1) := by decide +kernel
theorem dX12_use_102 : decode cX12_use 102 = .ok (.iload 7, 2) := by decide +kernel
theorem dX12_use_104 : decode cX12_use 104 = .ok (.iadd, 1) := by decide +kernel
theorem dX12_use_105 : decode cX12_use 105 = .ok (.iaload, 1) := by decide +kernel
theorem dX12_use_106 : decode cX12_use 106 = .ok (.if_icmp .ge 51, 3) := by decide +kernel
theorem dX12_use_109 : decode cX12_use 109 = .ok (.bipush 20, 2) := by decide +kernel
theorem dX12_use_111 : decode cX12_use 111 = .ok (.bipush 12, 2) := by decide +kernel
theorem dX12_use_113 : decode cX12_use 113 = .ok (.iload_n 1, 1) := by decide +kernel
theorem dX12_use_114 : decode cX12_use 114 = .ok (.imul, 1) := by decide +kernel
theorem dX12_use_115 : decode cX12_use 115 = .ok (.iload 7, 2) := by decide +kernel
theorem dX12_use_117 : decode cX12_use 117 = .ok (.iadd, 1) := by decide +kernel
theorem dX12_use_118 : decode cX12_use 118 = .ok (.imul, 1) := by decide +kernel
theorem dX12_use_119 : decode cX12_use 119 = .ok (.iload 8, 2) := by decide +kernel
theorem dX12_use_121 : decode cX12_use 121 = .ok (.iadd, 1) := by decide +kernel
theorem dX12_use_122 : decode cX12_use 122 = .ok (.istore 9, 2) := by decide +kernel
theorem dX12_use_124 : decode cX12_use 124 = .ok (.iload 6, 2) := by decide +kernel
theorem dX12_use_126 : decode cX12_use 126 = .ok (.aload_n 0, 1) := by decide +kernel
theorem dX12_use_127 : decode cX12_use 127 = .ok (.iload 9, 2) := by decide +kernel
theorem dX12_use_129 : decode cX12_use 129 = .ok (.iload_n 2, 1) := by decide +kernel
theorem dX12_use_130 : decode cX12_use 130 = .ok (.invokevirtual 459, 3) := by decide +kernel
theorem dX12_use_133 : decode cX12_use 133 = .ok (.ifCond .eq 14, 3) := by decide +kernel
theorem dX12_use_136 : decode cX12_use 136 = .ok (.aload_n 0, 1) := by decide +kernel
theorem dX12_use_137 : decode cX12_use 137 = .ok (.iload 9, 2) := by decide +kernel
theorem dX12_use_139 : decode cX12_use 139 = .ok (.invokevirtual 462, 3) := by decide +kernel
theorem dX12_use_142 : decode cX12_use 142 = .ok (.iconst 2, 1) := by decide +kernel
theorem dX12_use_143 : decode cX12_use 143 = .ok (.idiv, 1) := by decide +kernel
theorem dX12_use_144 : decode cX12_use 144 = .ok (.goto 4, 3) := by decide +kernel
theorem dX12_use_147 : decode cX12_use 147 = .ok (.iconst 0, 1) := by decide +kernel
theorem dX12_use_148 : decode cX12_use 148 = .ok (.iadd, 1) := by decide +kernel
theorem dX12_use_149 : decode cX12_use 149 = .ok (.istore 6, 2) := by decide +kernel
theorem dX12_use_151 : decode cX12_use 151 = .ok (.iinc 8 1, 3) := by decide +kernel
theorem dX12_use_154 : decode cX12_use 154 = .ok (.goto (-69), 3) := by decide +kernel
theorem dX12_use_157 : decode cX12_use 157 = .ok (.iinc 7 1, 3) := by decide +kernel
theorem dX12_use_160 : decode cX12_use 160 = .ok (.goto (-85), 3) := by decide +kernel
theorem dX12_use_163 : decode cX12_use 163 = .ok (.iload 6, 2) := by decide +kernel
theorem dX12_use_165 : decode cX12_use 165 = .ok (.ifCond .le 12, 3) := by decide +kernel
theorem dX12_use_168 : decode cX12_use 168 = .ok (.aload_n 0, 1) := by decide +kernel
theorem dX12_use_169 : decode cX12_use 169 = .ok (.invokevirtual 440, 3) := by decide +kernel
theorem dX12_use_172 : decode cX12_use 172 = .ok (.ifCond .eq 5, 3) := by decide +kernel
theorem dX12_use_175 : decode cX12_use 175 = .ok (.iconst (-1), 1) := by decide +kernel
theorem dX12_use_176 : decode cX12_use 176 = .ok (.ireturn, 1) := by decide +kernel
theorem dX12_use_177 : decode cX12_use 177 = .ok (.iload_n 3, 1) := by decide +kernel
theorem dX12_use_178 : decode cX12_use 178 = .ok (.istore 7, 2) := by decide +kernel
theorem dX12_use_180 : decode cX12_use 180 = .ok (.iload 7, 2) := by decide +kernel
theorem dX12_use_182 : decode cX12_use 182 = .ok (.iload 4, 2) := by decide +kernel
theorem dX12_use_184 : decode cX12_use 184 = .ok (.if_icmp .gt 66, 3) := by decide +kernel
theorem dX12_use_187 : decode cX12_use 187 = .ok (.iconst 0, 1) := by decide +kernel
theorem dX12_use_188 : decode cX12_use 188 = .ok (.istore 8, 2) := by decide +kernel
theorem dX12_use_190 : decode cX12_use 190 = .ok (.iload 8, 2) := by decide +kernel
theorem dX12_use_192 : decode cX12_use 192 = .ok (.iload 5, 2) := by decide +kernel
theorem dX12_use_194 : decode cX12_use 194 = .ok (.if_icmp .ge 50, 3) := by decide +kernel
theorem dX12_use_197 : decode cX12_use 197 = .ok (.iload 8, 2) := by decide +kernel
theorem dX12_use_199 : decode cX12_use 199 = .ok (.aload_n 0, 1) := by decide +kernel
theorem dX12_use_200 : decode cX12_use 200 = .ok (.getfield 145, 3) := by decide +kernel
theorem dX12_use_203 : decode cX12_use 203 = .ok (.bipush 12, 2) := by decide +kernel
theorem dX12_use_205 : decode cX12_use 205 = .ok (.iload_n 1, 1) := by decide +kernel
theorem dX12_use_206 : decode cX12_use 206 = .ok (.imul, 1) := by decide +kernel
theorem dX12_use_207 : decode cX12_use 207 = .ok (.iload 7, 2) := by decide +kernel
theorem dX12_use_209 : decode cX12_use 209 = .ok (.iadd, 1) := by decide +kernel
theorem dX12_use_210 : decode cX12_use 210 = .ok (.iaload, 1) := by decide +kernel
theorem dX12_use_211 : decode cX12_use 211 = .ok (.if_icmp .ge 33, 3) := by decide +kernel
theorem dX12_use_214 : decode cX12_use 214 = .ok (.aload_n 0, 1) := by decide +kernel
theorem dX12_use_215 : decode cX12_use 215 = .ok (.getfield 157, 3) := by decide +kernel
theorem dX12_use_218 : decode cX12_use 218 = .ok (.bipush 20, 2) := by decide +kernel
theorem dX12_use_220 : decode cX12_use 220 = .ok (.bipush 12, 2) := by decide +kernel
theorem dX12_use_222 : decode cX12_use 222 = .ok (.iload_n 1, 1) := by decide +kernel
theorem dX12_use_223 : decode cX12_use 223 = .ok (.imul, 1) := by decide +kernel
theorem dX12_use_224 : decode cX12_use 224 = .ok (.iload 7, 2) := by decide +kernel
theorem dX12_use_226 : decode cX12_use 226 = .ok (.iadd, 1) := by decide +kernel
theorem dX12_use_227 : decode cX12_use 227 = .ok (.imul, 1) := by decide +kernel
theorem dX12_use_228 : decode cX12_use 228 = .ok (.iload 8, 2) := by decide +kernel
theorem dX12_use_230 : decode cX12_use 230 = .ok (.iadd, 1) := by decide +kernel
theorem dX12_use_231 : decode cX12_use 231 = .ok (.dup2, 1) := by decide +kernel
theorem dX12_use_232 : decode cX12_use 232 = .ok (.iaload, 1) := by decide +kernel
theorem dX12_use_233 : decode cX12_use 233 = .ok (.iconst 1, 1) := by decide +kernel
theorem dX12_use_234 : decode cX12_use 234 = .ok (.iload_n 2, 1) := by decide +kernel
theorem dX12_use_235 : decode cX12_use 235 = .ok (.ishl, 1) := by decide +kernel
theorem dX12_use_236 : decode cX12_use 236 = .ok (.ior, 1) := by decide +kernel
theorem dX12_use_237 : decode cX12_use 237 = .ok (.iastore, 1) := by decide +kernel
theorem dX12_use_238 : decode cX12_use 238 = .ok (.iinc 8 1, 3) := by decide +kernel
theorem dX12_use_241 : decode cX12_use 241 = .ok (.goto (-51), 3) := by decide +kernel
theorem dX12_use_244 : decode cX12_use 244 = .ok (.iinc 7 1, 3) := by decide +kernel
theorem dX12_use_247 : decode cX12_use 247 = .ok (.goto (-67), 3) := by decide +kernel
theorem dX12_use_250 : decode cX12_use 250 = .ok (.iload 6, 2) := by decide +kernel
theorem dX12_use_252 : decode cX12_use 252 = .ok (.ifCond .le 31, 3) := by decide +kernel
theorem dX12_use_255 : decode cX12_use 255 = .ok (.aload_n 0, 1) := by decide +kernel
theorem dX12_use_256 : decode cX12_use 256 = .ok (.aload_n 0, 1) := by decide +kernel
theorem dX12_use_257 : decode cX12_use 257 = .ok (.getfield 9, 3) := by decide +kernel
theorem dX12_use_260 : decode cX12_use 260 = .ok (.iconst 2, 1) := by decide +kernel
theorem dX12_use_261 : decode cX12_use 261 = .ok (.iload_n 1, 1) := by decide +kernel
theorem dX12_use_262 : decode cX12_use 262 = .ok (.imul, 1) := by decide +kernel
theorem dX12_use_263 : decode cX12_use 263 = .ok (.iload_n 2, 1) := by decide +kernel
theorem dX12_use_264 : decode cX12_use 264 = .ok (.iadd, 1) := by decide +kernel
theorem dX12_use_265 : decode cX12_use 265 = .ok (.iaload, 1) := by decide +kernel
theorem dX12_use_266 : decode cX12_use 266 = .ok (.aload_n 0, 1) := by decide +kernel
theorem dX12_use_267 : decode cX12_use 267 = .ok (.getfield 9, 3) := by decide +kernel
theorem dX12_use_270 : decode cX12_use 270 = .ok (.iconst 2, 1) := by decide +kernel
theorem dX12_use_271 : decode cX12_use 271 = .ok (.iload_n 1, 1) := by decide +kernel
theorem dX12_use_272 : decode cX12_use 272 = .ok (.imul, 1) := by decide +kernel
theorem dX12_use_273 : decode cX12_use 273 = .ok (.iconst 1, 1) := by decide +kernel
theorem dX12_use_274 : decode cX12_use 274 = .ok (.iadd, 1) := by decide +kernel
theorem dX12_use_275 : decode cX12_use 275 = .ok (.iload_n 2, 1) := by decide +kernel
theorem dX12_use_276 : decode cX12_use 276 = .ok (.isub, 1) := by decide +kernel
theorem dX12_use_277 : decode cX12_use 277 = .ok (.iaload, 1) := by decide +kernel
theorem dX12_use_278 : decode cX12_use 278 = .ok (.iload 6, 2) := by decide +kernel
theorem dX12_use_280 : decode cX12_use 280 = .ok (.invokevirtual 450, 3) := by decide +kernel
theorem dX12_use_283 : decode cX12_use 283 = .ok (.iload 6, 2) := by decide +kernel
theorem dX12_use_285 : decode cX12_use 285 = .ok (.ireturn, 1) := by decide +kernel
theorem dX12_cell_0 : decode cX12_cell 0 = .ok (.aload_n 0, 1) := by decide +kernel
theorem dX12_cell_1 : decode cX12_cell 1 = .ok (.iconst 0, 1) := by decide +kernel
theorem dX12_cell_2 : decode cX12_cell 2 = .ok (.putfield 199, 3) := by decide +kernel
theorem dX12_cell_5 : decode cX12_cell 5 = .ok (.aload_n 0, 1) := by decide +kernel
theorem dX12_cell_6 : decode cX12_cell 6 = .ok (.aload_n 0, 1) := by decide +kernel
theorem dX12_cell_7 : decode cX12_cell 7 = .ok (.iload_n 1, 1) := by decide +kernel
theorem dX12_cell_8 : decode cX12_cell 8 = .ok (.invokevirtual 216, 3) := by decide +kernel
theorem dX12_cell_11 : decode cX12_cell 11 = .ok (.ifCond .ne 7, 3) := by decide +kernel
theorem dX12_cell_14 : decode cX12_cell 14 = .ok (.iconst 1, 1) := by decide +kernel
theorem dX12_cell_15 : decode cX12_cell 15 = .ok (.goto 4, 3) := by decide +kernel
theorem dX12_cell_18 : decode cX12_cell 18 = .ok (.iconst 0, 1) := by decide +kernel
theorem dX12_cell_19 : decode cX12_cell 19 = .ok (.iconst 1, 1) := by decide +kernel
theorem dX12_cell_20 : decode cX12_cell 20 = .ok (.invokevirtual 205, 3) := by decide +kernel
theorem dX12_cell_23 : decode cX12_cell 23 = .ok (.ifCond .ne 35, 3) := by decide +kernel
theorem dX12_cell_26 : decode cX12_cell 26 = .ok (.aload_n 0, 1) := by decide +kernel
theorem dX12_cell_27 : decode cX12_cell 27 = .ok (.iload_n 2, 1) := by decide +kernel
theorem dX12_cell_28 : decode cX12_cell 28 = .ok (.iload_n 2, 1) := by decide +kernel
theorem dX12_cell_29 : decode cX12_cell 29 = .ok (.invokestatic 454, 3) := by decide +kernel
theorem dX12_cell_32 : decode cX12_cell 32 = .ok (.ifCond .eq 14, 3) := by decide +kernel
theorem dX12_cell_35 : decode cX12_cell 35 = .ok (.iload 4, 2) := by decide +kernel
theorem dX12_cell_37 : decode cX12_cell 37 = .ok (.ifCond .lt 9, 3) := by decide +kernel
theorem dX12_cell_40 : decode cX12_cell 40 = .ok (.iload 4, 2) := by decide +kernel
theorem dX12_cell_42 : decode cX12_cell 42 = .ok (.iconst 2, 1) := by decide +kernel
theorem dX12_cell_43 : decode cX12_cell 43 = .ok (.if_icmp .le 7, 3) := by decide +kernel
theorem dX12_cell_46 : decode cX12_cell 46 = .ok (.iconst 1, 1) := by decide +kernel
theorem dX12_cell_47 : decode cX12_cell 47 = .ok (.goto 4, 3) := by decide +kernel
theorem dX12_cell_50 : decode cX12_cell 50 = .ok (.iconst 0, 1) := by decide +kernel
theorem dX12_cell_51 : decode cX12_cell 51 = .ok (.iconst 2, 1) := by decide +kernel
theorem dX12_cell_52 : decode cX12_cell 52 = .ok (.invokevirtual 205, 3) := by decide +kernel
theorem dX12_cell_55 : decode cX12_cell 55 = .ok (.ifCond .eq 5, 3) := by decide +kernel
theorem dX12_cell_58 : decode cX12_cell 58 = .ok (.iconst 0, 1) := by decide +kernel
theorem dX12_cell_59 : decode cX12_cell 59 = .ok (.ireturn, 1) := by decide +kernel
theorem dX12_cell_60 : decode cX12_cell 60 = .ok (.iload_n 3, 1) := by decide +kernel
theorem dX12_cell_61 : decode cX12_cell 61 = .ok (.ifCond .lt 18, 3) := by decide +kernel
theorem dX12_cell_64 : decode cX12_cell 64 = .ok (.iload_n 3, 1) := by decide +kernel
theorem dX12_cell_65 : decode cX12_cell 65 = .ok (.aload_n 0, 1) := by decide +kernel
theorem dX12_cell_66 : decode cX12_cell 66 = .ok (.getfield 145, 3) := by decide +kernel
theorem dX12_cell_69 : decode cX12_cell 69 = .ok (.bipush 12, 2) := by decide +kernel
theorem dX12_cell_71 : decode cX12_cell 71 = .ok (.iload_n 1, 1) := by decide +kernel
theorem dX12_cell_72 : decode cX12_cell 72 = .ok (.imul, 1) := by decide +kernel
theorem dX12_cell_73 : decode cX12_cell 73 = .ok (.iload_n 2, 1) := by decide +kernel
theorem dX12_cell_74 : decode cX12_cell 74 = .ok (.iadd, 1) := by decide +kernel
theorem dX12_cell_75 : decode cX12_cell 75 = .ok (.iaload, 1) := by decide +kernel
theorem dX12_cell_76 : decode cX12_cell 76 = .ok (.if_icmp .lt 5, 3) := by decide +kernel
theorem dX12_cell_79 : decode cX12_cell 79 = .ok (.iconst (-1), 1) := by decide +kernel
theorem dX12_cell_80 : decode cX12_cell 80 = .ok (.ireturn, 1) := by decide +kernel
theorem dX12_cell_81 : decode cX12_cell 81 = .ok (.bipush 20, 2) := by decide +kernel
theorem dX12_cell_83 : decode cX12_cell 83 = .ok (.bipush 12, 2) := by decide +kernel
theorem dX12_cell_85 : decode cX12_cell 85 = .ok (.iload_n 1, 1) := by decide +kernel
theorem dX12_cell_86 : decode cX12_cell 86 = .ok (.imul, 1) := by decide +kernel
theorem dX12_cell_87 : decode cX12_cell 87 = .ok (.iload_n 2, 1) := by decide +kernel
theorem dX12_cell_88 : decode cX12_cell 88 = .ok (.iadd, 1) := by decide +kernel
theorem dX12_cell_89 : decode cX12_cell 89 = .ok (.imul, 1) := by decide +kernel
theorem dX12_cell_90 : decode cX12_cell 90 = .ok (.iload_n 3, 1) := by decide +kernel
theorem dX12_cell_91 : decode cX12_cell 91 = .ok (.iadd, 1) := by decide +kernel
theorem dX12_cell_92 : decode cX12_cell 92 = .ok (.istore 5, 2) := by decide +kernel
theorem dX12_cell_94 : decode cX12_cell 94 = .ok (.iload 4, 2) := by decide +kernel
theorem dX12_cell_96 : decode cX12_cell 96 = .ok (.ifCond .ne 13, 3) := by decide +kernel
theorem dX12_cell_99 : decode cX12_cell 99 = .ok (.aload_n 0, 1) := by decide +kernel
theorem dX12_cell_100 : decode cX12_cell 100 = .ok (.getfield 148, 3) := by decide +kernel
theorem dX12_cell_103 : decode cX12_cell 103 = .ok (.iload 5, 2) := by decide +kernel
theorem dX12_cell_105 : decode cX12_cell 105 = .ok (.iaload, 1) := by decide +kernel
theorem dX12_cell_106 : decode cX12_cell 106 = .ok (.goto 25, 3) := by decide +kernel
theorem dX12_cell_109 : decode cX12_cell 109 = .ok (.iload 4, 2) := by decide +kernel
theorem dX12_cell_111 : decode cX12_cell 111 = .ok (.iconst 1, 1) := by decide +kernel
theorem dX12_cell_112 : decode cX12_cell 112 = .ok (.if_icmp .ne 12, 3) := by decide +kernel
theorem dX12_cell_115 : decode cX12_cell 115 = .ok (.aload_n 0, 1) := by decide +kernel
theorem dX12_cell_116 : decode cX12_cell 116 = .ok (.iload 5, 2) := by decide +kernel
theorem dX12_cell_118 : decode cX12_cell 118 = .ok (.invokevirtual 462, 3) := by decide +kernel
theorem dX12_cell_121 : decode cX12_cell 121 = .ok (.goto 10, 3) := by decide +kernel
theorem dX12_cell_124 : decode cX12_cell 124 = .ok (.aload_n 0, 1) := by decide +kernel
theorem dX12_cell_125 : decode cX12_cell 125 = .ok (.getfield 157, 3) := by decide +kernel
theorem dX12_cell_128 : decode cX12_cell 128 = .ok (.iload 5, 2) := by decide +kernel
theorem dX12_cell_130 : decode cX12_cell 130 = .ok (.iaload, 1) := by decide +kernel
