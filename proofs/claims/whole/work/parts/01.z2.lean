theorem dX9_copy_51 : decode cX9_copy 51 = .ok (.getfield 18, 3) := by decide +kernel
theorem dX9_copy_54 : decode cX9_copy 54 = .ok (.iconst 0, 1) := by decide +kernel
theorem dX9_copy_55 : decode cX9_copy 55 = .ok (.aload_n 0, 1) := by decide +kernel
theorem dX9_copy_56 : decode cX9_copy 56 = .ok (.getfield 18, 3) := by decide +kernel
theorem dX9_copy_59 : decode cX9_copy 59 = .ok (.iconst 0, 1) := by decide +kernel
theorem dX9_copy_60 : decode cX9_copy 60 = .ok (.aload_n 0, 1) := by decide +kernel
theorem dX9_copy_61 : decode cX9_copy 61 = .ok (.getfield 21, 3) := by decide +kernel
theorem dX9_copy_64 : decode cX9_copy 64 = .ok (.invokestatic 31, 3) := by decide +kernel
theorem dX9_copy_67 : decode cX9_copy 67 = .ok (.return_, 1) := by decide +kernel
theorem dX10_init_0 : decode cX10_init 0 = .ok (.aload_n 0, 1) := by decide +kernel
theorem dX10_init_1 : decode cX10_init 1 = .ok (.invokespecial 1, 3) := by decide +kernel
theorem dX10_init_4 : decode cX10_init 4 = .ok (.aload_n 0, 1) := by decide +kernel
theorem dX10_init_5 : decode cX10_init 5 = .ok (.iconst 4, 1) := by decide +kernel
theorem dX10_init_6 : decode cX10_init 6 = .ok (.anewarray 9, 3) := by decide +kernel
theorem dX10_init_9 : decode cX10_init 9 = .ok (.putfield 11, 3) := by decide +kernel
theorem dX10_init_12 : decode cX10_init 12 = .ok (.aload_n 0, 1) := by decide +kernel
theorem dX10_init_13 : decode cX10_init 13 = .ok (.new 15, 3) := by decide +kernel
theorem dX10_init_16 : decode cX10_init 16 = .ok (.dup, 1) := by decide +kernel
theorem dX10_init_17 : decode cX10_init 17 = .ok (.invokespecial 17, 3) := by decide +kernel
theorem dX10_init_20 : decode cX10_init 20 = .ok (.putfield 18, 3) := by decide +kernel
theorem dX10_init_23 : decode cX10_init 23 = .ok (.aload_n 0, 1) := by decide +kernel
theorem dX10_init_24 : decode cX10_init 24 = .ok (.new 22, 3) := by decide +kernel
theorem dX10_init_27 : decode cX10_init 27 = .ok (.dup, 1) := by decide +kernel
theorem dX10_init_28 : decode cX10_init 28 = .ok (.invokespecial 24, 3) := by decide +kernel
theorem dX10_init_31 : decode cX10_init 31 = .ok (.putfield 25, 3) := by decide +kernel
theorem dX10_init_34 : decode cX10_init 34 = .ok (.aload_n 0, 1) := by decide +kernel
theorem dX10_init_35 : decode cX10_init 35 = .ok (.new 29, 3) := by decide +kernel
theorem dX10_init_38 : decode cX10_init 38 = .ok (.dup, 1) := by decide +kernel
theorem dX10_init_39 : decode cX10_init 39 = .ok (.invokespecial 31, 3) := by decide +kernel
theorem dX10_init_42 : decode cX10_init 42 = .ok (.putfield 32, 3) := by decide +kernel
theorem dX10_init_45 : decode cX10_init 45 = .ok (.aload_n 0, 1) := by decide +kernel
theorem dX10_init_46 : decode cX10_init 46 = .ok (.new 36, 3) := by decide +kernel
theorem dX10_init_49 : decode cX10_init 49 = .ok (.dup, 1) := by decide +kernel
theorem dX10_init_50 : decode cX10_init 50 = .ok (.invokespecial 38, 3) := by decide +kernel
theorem dX10_init_53 : decode cX10_init 53 = .ok (.putfield 39, 3) := by decide +kernel
theorem dX10_init_56 : decode cX10_init 56 = .ok (.iconst 0, 1) := by decide +kernel
theorem dX10_init_57 : decode cX10_init 57 = .ok (.istore_n 1, 1) := by decide +kernel
theorem dX10_init_58 : decode cX10_init 58 = .ok (.iload_n 1, 1) := by decide +kernel
theorem dX10_init_59 : decode cX10_init 59 = .ok (.aload_n 0, 1) := by decide +kernel
theorem dX10_init_60 : decode cX10_init 60 = .ok (.getfield 11, 3) := by decide +kernel
theorem dX10_init_63 : decode cX10_init 63 = .ok (.arraylength, 1) := by decide +kernel
theorem dX10_init_64 : decode cX10_init 64 = .ok (.if_icmp .ge 22, 3) := by decide +kernel
theorem dX10_init_67 : decode cX10_init 67 = .ok (.aload_n 0, 1) := by decide +kernel
theorem dX10_init_68 : decode cX10_init 68 = .ok (.getfield 11, 3) := by decide +kernel
theorem dX10_init_71 : decode cX10_init 71 = .ok (.iload_n 1, 1) := by decide +kernel
theorem dX10_init_72 : decode cX10_init 72 = .ok (.new 9, 3) := by decide +kernel
theorem dX10_init_75 : decode cX10_init 75 = .ok (.dup, 1) := by decide +kernel
theorem dX10_init_76 : decode cX10_init 76 = .ok (.invokespecial 43, 3) := by decide +kernel
theorem dX10_init_79 : decode cX10_init 79 = .ok (.aastore, 1) := by decide +kernel
theorem dX10_init_80 : decode cX10_init 80 = .ok (.iinc 1 1, 3) := by decide +kernel
theorem dX10_init_83 : decode cX10_init 83 = .ok (.goto (-25), 3) := by decide +kernel
theorem dX10_init_86 : decode cX10_init 86 = .ok (.new 44, 3) := by decide +kernel
theorem dX10_init_89 : decode cX10_init 89 = .ok (.dup, 1) := by decide +kernel
theorem dX10_init_90 : decode cX10_init 90 = .ok (.invokespecial 46, 3) := by decide +kernel
theorem dX10_init_93 : decode cX10_init 93 = .ok (.astore_n 1, 1) := by decide +kernel
theorem dX10_init_94 : decode cX10_init 94 = .ok (.aload_n 0, 1) := by decide +kernel
theorem dX10_init_95 : decode cX10_init 95 = .ok (.new 47, 3) := by decide +kernel
theorem dX10_init_98 : decode cX10_init 98 = .ok (.dup, 1) := by decide +kernel
theorem dX10_init_99 : decode cX10_init 99 = .ok (.aload_n 0, 1) := by decide +kernel
theorem dX10_init_100 : decode cX10_init 100 = .ok (.getfield 11, 3) := by decide +kernel
theorem dX10_init_103 : decode cX10_init 103 = .ok (.aload_n 1, 1) := by decide +kernel
theorem dX10_init_104 : decode cX10_init 104 = .ok (.invokespecial 49, 3) := by decide +kernel
theorem dX10_init_107 : decode cX10_init 107 = .ok (.putfield 52, 3) := by decide +kernel
theorem dX10_init_110 : decode cX10_init 110 = .ok (.aload_n 0, 1) := by decide +kernel
theorem dX10_init_111 : decode cX10_init 111 = .ok (.new 47, 3) := by decide +kernel
theorem dX10_init_114 : decode cX10_init 114 = .ok (.dup, 1) := by decide +kernel
theorem dX10_init_115 : decode cX10_init 115 = .ok (.aload_n 0, 1) := by decide +kernel
theorem dX10_init_116 : decode cX10_init 116 = .ok (.getfield 11, 3) := by decide +kernel
theorem dX10_init_119 : decode cX10_init 119 = .ok (.aload_n 1, 1) := by decide +kernel
theorem dX10_init_120 : decode cX10_init 120 = .ok (.invokespecial 49, 3) := by decide +kernel
theorem dX10_init_123 : decode cX10_init 123 = .ok (.putfield 56, 3) := by decide +kernel
theorem dX10_init_126 : decode cX10_init 126 = .ok (.return_, 1) := by decide +kernel
theorem dX10_person_0 : decode cX10_person 0 = .ok (.aload_n 0, 1) := by decide +kernel
theorem dX10_person_1 : decode cX10_person 1 = .ok (.getfield 52, 3) := by decide +kernel
theorem dX10_person_4 : decode cX10_person 4 = .ok (.iload_n 1, 1) := by decide +kernel
theorem dX10_person_5 : decode cX10_person 5 = .ok (.iload_n 2, 1) := by decide +kernel
theorem dX10_person_6 : decode cX10_person 6 = .ok (.invokevirtual 59, 3) := by decide +kernel
theorem dX10_person_9 : decode cX10_person 9 = .ok (.ireturn, 1) := by decide +kernel
theorem dX10_crease_0 : decode cX10_crease 0 = .ok (.aload_n 0, 1) := by decide +kernel
theorem dX10_crease_1 : decode cX10_crease 1 = .ok (.getfield 52, 3) := by decide +kernel
theorem dX10_crease_4 : decode cX10_crease 4 = .ok (.iload_n 1, 1) := by decide +kernel
theorem dX10_crease_5 : decode cX10_crease 5 = .ok (.iload_n 2, 1) := by decide +kernel
theorem dX10_crease_6 : decode cX10_crease 6 = .ok (.iload_n 3, 1) := by decide +kernel
theorem dX10_crease_7 : decode cX10_crease 7 = .ok (.iload 4, 2) := by decide +kernel
theorem dX10_crease_9 : decode cX10_crease 9 = .ok (.invokevirtual 63, 3) := by decide +kernel
theorem dX10_crease_12 : decode cX10_crease 12 = .ok (.ireturn, 1) := by decide +kernel
theorem dX10_tie_0 : decode cX10_tie 0 = .ok (.aload_n 0, 1) := by decide +kernel
theorem dX10_tie_1 : decode cX10_tie 1 = .ok (.getfield 52, 3) := by decide +kernel
theorem dX10_tie_4 : decode cX10_tie 4 = .ok (.iload_n 1, 1) := by decide +kernel
theorem dX10_tie_5 : decode cX10_tie 5 = .ok (.iload_n 2, 1) := by decide +kernel
theorem dX10_tie_6 : decode cX10_tie 6 = .ok (.invokevirtual 67, 3) := by decide +kernel
theorem dX10_tie_9 : decode cX10_tie 9 = .ok (.ireturn, 1) := by decide +kernel
theorem dX10_heat_0 : decode cX10_heat 0 = .ok (.aload_n 0, 1) := by decide +kernel
theorem dX10_heat_1 : decode cX10_heat 1 = .ok (.getfield 52, 3) := by decide +kernel
theorem dX10_heat_4 : decode cX10_heat 4 = .ok (.iload_n 1, 1) := by decide +kernel
theorem dX10_heat_5 : decode cX10_heat 5 = .ok (.invokevirtual 71, 3) := by decide +kernel
theorem dX10_heat_8 : decode cX10_heat 8 = .ok (.ireturn, 1) := by decide +kernel
theorem dX10_feed_0 : decode cX10_feed 0 = .ok (.aload_n 0, 1) := by decide +kernel
theorem dX10_feed_1 : decode cX10_feed 1 = .ok (.getfield 18, 3) := by decide +kernel
theorem dX10_feed_4 : decode cX10_feed 4 = .ok (.invokevirtual 75, 3) := by decide +kernel
theorem dX10_feed_7 : decode cX10_feed 7 = .ok (.ifCond .ne 5, 3) := by decide +kernel
theorem dX10_feed_10 : decode cX10_feed 10 = .ok (.iconst (-1), 1) := by decide +kernel
theorem dX10_feed_11 : decode cX10_feed 11 = .ok (.ireturn, 1) := by decide +kernel
theorem dX10_feed_12 : decode cX10_feed 12 = .ok (.aload_n 0, 1) := by decide +kernel
theorem dX10_feed_13 : decode cX10_feed 13 = .ok (.getfield 18, 3) := by decide +kernel
theorem dX10_feed_16 : decode cX10_feed 16 = .ok (.iload_n 1, 1) := by decide +kernel
theorem dX10_feed_17 : decode cX10_feed 17 = .ok (.invokevirtual 79, 3) := by decide +kernel
theorem dX10_feed_20 : decode cX10_feed 20 = .ok (.pop, 1) := by decide +kernel
theorem dX10_feed_21 : decode cX10_feed 21 = .ok (.aload_n 0, 1) := by decide +kernel
theorem dX10_feed_22 : decode cX10_feed 22 = .ok (.getfield 18, 3) := by decide +kernel
theorem dX10_feed_25 : decode cX10_feed 25 = .ok (.iload_n 2, 1) := by decide +kernel
theorem dX10_feed_26 : decode cX10_feed 26 = .ok (.invokevirtual 79, 3) := by decide +kernel
theorem dX10_feed_29 : decode cX10_feed 29 = .ok (.pop, 1) := by decide +kernel
theorem dX10_feed_30 : decode cX10_feed 30 = .ok (.aload_n 0, 1) := by decide +kernel
theorem dX10_feed_31 : decode cX10_feed 31 = .ok (.getfield 18, 3) := by decide +kernel
theorem dX10_feed_34 : decode cX10_feed 34 = .ok (.iload_n 3, 1) := by decide +kernel
theorem dX10_feed_35 : decode cX10_feed 35 = .ok (.invokevirtual 79, 3) := by decide +kernel
theorem dX10_feed_38 : decode cX10_feed 38 = .ok (.pop, 1) := by decide +kernel
theorem dX10_feed_39 : decode cX10_feed 39 = .ok (.aload_n 0, 1) := by decide +kernel
theorem dX10_feed_40 : decode cX10_feed 40 = .ok (.getfield 18, 3) := by decide +kernel
theorem dX10_feed_43 : decode cX10_feed 43 = .ok (.iload 4, 2) := by decide +kernel
theorem dX10_feed_45 : decode cX10_feed 45 = .ok (.invokevirtual 79, 3) := by decide +kernel
theorem dX10_feed_48 : decode cX10_feed 48 = .ok (.pop, 1) := by decide +kernel
theorem dX10_feed_49 : decode cX10_feed 49 = .ok (.aload_n 0, 1) := by decide +kernel
theorem dX10_feed_50 : decode cX10_feed 50 = .ok (.getfield 18, 3) := by decide +kernel
theorem dX10_feed_53 : decode cX10_feed 53 = .ok (.iload 5, 2) := by decide +kernel
theorem dX10_feed_55 : decode cX10_feed 55 = .ok (.invokevirtual 79, 3) := by decide +kernel
theorem dX10_feed_58 : decode cX10_feed 58 = .ok (.ireturn, 1) := by decide +kernel
theorem dX10_end_0 : decode cX10_end 0 = .ok (.aload_n 0, 1) := by decide +kernel
theorem dX10_end_1 : decode cX10_end 1 = .ok (.getfield 18, 3) := by decide +kernel
theorem dX10_end_4 : decode cX10_end 4 = .ok (.iload_n 1, 1) := by decide +kernel
theorem dX10_end_5 : decode cX10_end 5 = .ok (.invokevirtual 83, 3) := by decide +kernel
theorem dX10_end_8 : decode cX10_end 8 = .ok (.ireturn, 1) := by decide +kernel
theorem dX10_text_0 : decode cX10_text 0 = .ok (.aload_n 0, 1) := by decide +kernel
theorem dX10_text_1 : decode cX10_text 1 = .ok (.getfield 52, 3) := by decide +kernel
theorem dX10_text_4 : decode cX10_text 4 = .ok (.getfield 86, 3) := by decide +kernel
theorem dX10_text_7 : decode cX10_text 7 = .ok (.aload_n 0, 1) := by decide +kernel
theorem dX10_text_8 : decode cX10_text 8 = .ok (.getfield 11, 3) := by decide +kernel
theorem dX10_text_11 : decode cX10_text 11 = .ok (.arraylength, 1) := by decide +kernel
theorem dX10_text_12 : decode cX10_text 12 = .ok (.if_icmp .lt 5, 3) := by decide +kernel
theorem dX10_text_15 : decode cX10_text 15 = .ok (.iconst (-1), 1) := by decide +kernel
theorem dX10_text_16 : decode cX10_text 16 = .ok (.ireturn, 1) := by decide +kernel
theorem dX10_text_17 : decode cX10_text 17 = .ok (.aload_n 0, 1) := by decide +kernel
theorem dX10_text_18 : decode cX10_text 18 = .ok (.getfield 18, 3) := by decide +kernel
theorem dX10_text_21 : decode cX10_text 21 = .ok (.aload_n 0, 1) := by decide +kernel
theorem dX10_text_22 : decode cX10_text 22 = .ok (.getfield 11, 3) := by decide +kernel
theorem dX10_text_25 : decode cX10_text 25 = .ok (.aload_n 0, 1) := by decide +kernel
theorem dX10_text_26 : decode cX10_text 26 = .ok (.getfield 52, 3) := by decide +kernel
theorem dX10_text_29 : decode cX10_text 29 = .ok (.getfield 86, 3) := by decide +kernel
theorem dX10_text_32 : decode cX10_text 32 = .ok (.aaload, 1) := by decide +kernel
theorem dX10_text_33 : decode cX10_text 33 = .ok (.invokevirtual 89, 3) := by decide +kernel
theorem dX10_text_36 : decode cX10_text 36 = .ok (.istore_n 1, 1) := by decide +kernel
theorem dX10_text_37 : decode cX10_text 37 = .ok (.aload_n 0, 1) := by decide +kernel
theorem dX10_text_38 : decode cX10_text 38 = .ok (.getfield 18, 3) := by decide +kernel
theorem dX10_text_41 : decode cX10_text 41 = .ok (.iconst 0, 1) := by decide +kernel
theorem dX10_text_42 : decode cX10_text 42 = .ok (.invokevirtual 83, 3) := by decide +kernel
theorem dX10_text_45 : decode cX10_text 45 = .ok (.pop, 1) := by decide +kernel
theorem dX10_text_46 : decode cX10_text 46 = .ok (.iload_n 1, 1) := by decide +kernel
theorem dX10_text_47 : decode cX10_text 47 = .ok (.ifCond .ne 5, 3) := by decide +kernel
theorem dX10_text_50 : decode cX10_text 50 = .ok (.iconst (-1), 1) := by decide +kernel
theorem dX10_text_51 : decode cX10_text 51 = .ok (.ireturn, 1) := by decide +kernel
theorem dX10_text_52 : decode cX10_text 52 = .ok (.aload_n 0, 1) := by decide +kernel
theorem dX10_text_53 : decode cX10_text 53 = .ok (.getfield 52, 3) := by decide +kernel
theorem dX10_text_56 : decode cX10_text 56 = .ok (.dup, 1) := by decide +kernel
theorem dX10_text_57 : decode cX10_text 57 = .ok (.getfield 86, 3) := by decide +kernel
theorem dX10_text_60 : decode cX10_text 60 = .ok (.iconst 1, 1) := by decide +kernel
theorem dX10_text_61 : decode cX10_text 61 = .ok (.iadd, 1) := by decide +kernel
theorem dX10_text_62 : decode cX10_text 62 = .ok (.putfield 86, 3) := by decide +kernel
theorem dX10_text_65 : decode cX10_text 65 = .ok (.aload_n 0, 1) := by decide +kernel
theorem dX10_text_66 : decode cX10_text 66 = .ok (.getfield 52, 3) := by decide +kernel
theorem dX10_text_69 : decode cX10_text 69 = .ok (.getfield 86, 3) := by decide +kernel
theorem dX10_text_72 : decode cX10_text 72 = .ok (.iconst 1, 1) := by decide +kernel
theorem dX10_text_73 : decode cX10_text 73 = .ok (.isub, 1) := by decide +kernel
theorem dX10_text_74 : decode cX10_text 74 = .ok (.ireturn, 1) := by decide +kernel
theorem dX10_fault_0 : decode cX10_fault 0 = .ok (.iload_n 1, 1) := by decide +kernel
theorem dX10_fault_1 : decode cX10_fault 1 = .ok (.ifCond .ne 11, 3) := by decide +kernel
theorem dX10_fault_4 : decode cX10_fault 4 = .ok (.aload_n 0, 1) := by decide +kernel
theorem dX10_fault_5 : decode cX10_fault 5 = .ok (.getfield 18, 3) := by decide +kernel
theorem dX10_fault_8 : decode cX10_fault 8 = .ok (.getfield 93, 3) := by decide +kernel
theorem dX10_fault_11 : decode cX10_fault 11 = .ok (.ireturn, 1) := by decide +kernel
theorem dX10_fault_12 : decode cX10_fault 12 = .ok (.iload_n 1, 1) := by decide +kernel
theorem dX10_fault_13 : decode cX10_fault 13 = .ok (.iconst 1, 1) := by decide +kernel
theorem dX10_fault_14 : decode cX10_fault 14 = .ok (.if_icmp .ne 13, 3) := by decide +kernel
theorem dX10_fault_17 : decode cX10_fault 17 = .ok (.aload_n 0, 1) := by decide +kernel
theorem dX10_fault_18 : decode cX10_fault 18 = .ok (.getfield 18, 3) := by decide +kernel
theorem dX10_fault_21 : decode cX10_fault 21 = .ok (.getfield 96, 3) := by decide +kernel
theorem dX10_fault_24 : decode cX10_fault 24 = .ok (.goto 4, 3) := by decide +kernel
theorem dX10_fault_27 : decode cX10_fault 27 = .ok (.iconst (-1), 1) := by decide +kernel
theorem dX10_fault_28 : decode cX10_fault 28 = .ok (.ireturn, 1) := by decide +kernel
theorem dX10_by_0 : decode cX10_by 0 = .ok (.iload_n 1, 1) := by decide +kernel
theorem dX10_by_1 : decode cX10_by 1 = .ok (.iconst (-1), 1) := by decide +kernel
theorem dX10_by_2 : decode cX10_by 2 = .ok (.if_icmp .lt 14, 3) := by decide +kernel
theorem dX10_by_5 : decode cX10_by 5 = .ok (.iload_n 1, 1) := by decide +kernel
theorem dX10_by_6 : decode cX10_by 6 = .ok (.aload_n 0, 1) := by decide +kernel
theorem dX10_by_7 : decode cX10_by 7 = .ok (.getfield 52, 3) := by decide +kernel
theorem dX10_by_10 : decode cX10_by 10 = .ok (.getfield 86, 3) := by decide +kernel
theorem dX10_by_13 : decode cX10_by 13 = .ok (.if_icmp .lt 5, 3) := by decide +kernel
theorem dX10_by_16 : decode cX10_by 16 = .ok (.iconst 0, 1) := by decide +kernel
theorem dX10_by_17 : decode cX10_by 17 = .ok (.ireturn, 1) := by decide +kernel
theorem dX10_by_18 : decode cX10_by 18 = .ok (.aload_n 0, 1) := by decide +kernel
theorem dX10_by_19 : decode cX10_by 19 = .ok (.getfield 52, 3) := by decide +kernel
theorem dX10_by_22 : decode cX10_by 22 = .ok (.iload_n 1, 1) := by decide +kernel
theorem dX10_by_23 : decode cX10_by 23 = .ok (.putfield 99, 3) := by decide +kernel
theorem dX10_by_26 : decode cX10_by 26 = .ok (.iconst 1, 1) := by decide +kernel
theorem dX10_by_27 : decode cX10_by 27 = .ok (.ireturn, 1) := by decide +kernel
theorem dX10_press_0 : decode cX10_press 0 = .ok (.aload_n 0, 1) := by decide +kernel
theorem dX10_press_1 : decode cX10_press 1 = .ok (.getfield 52, 3) := by decide +kernel
theorem dX10_press_4 : decode cX10_press 4 = .ok (.iload_n 1, 1) := by decide +kernel
theorem dX10_press_5 : decode cX10_press 5 = .ok (.invokevirtual 102, 3) := by decide +kernel
theorem dX10_press_8 : decode cX10_press 8 = .ok (.ifCond .eq 18, 3) := by decide +kernel
theorem dX10_press_11 : decode cX10_press 11 = .ok (.aload_n 0, 1) := by decide +kernel
theorem dX10_press_12 : decode cX10_press 12 = .ok (.getfield 52, 3) := by decide +kernel
theorem dX10_press_15 : decode cX10_press 15 = .ok (.getfield 105, 3) := by decide +kernel
theorem dX10_press_18 : decode cX10_press 18 = .ok (.getfield 109, 3) := by decide +kernel
theorem dX10_press_21 : decode cX10_press 21 = .ok (.iload_n 1, 1) := by decide +kernel
theorem dX10_press_22 : decode cX10_press 22 = .ok (.iaload, 1) := by decide +kernel
theorem dX10_press_23 : decode cX10_press 23 = .ok (.goto 4, 3) := by decide +kernel
theorem dX10_press_26 : decode cX10_press 26 = .ok (.iconst (-1), 1) := by decide +kernel
theorem dX10_press_27 : decode cX10_press 27 = .ok (.ireturn, 1) := by decide +kernel
theorem dX10_pattern_0 : decode cX10_pattern 0 = .ok (.aload_n 0, 1) := by decide +kernel
theorem dX10_pattern_1 : decode cX10_pattern 1 = .ok (.getfield 52, 3) := by decide +kernel
theorem dX10_pattern_4 : decode cX10_pattern 4 = .ok (.iload_n 1, 1) := by decide +kernel
theorem dX10_pattern_5 : decode cX10_pattern 5 = .ok (.invokevirtual 115, 3) := by decide +kernel
theorem dX10_pattern_8 : decode cX10_pattern 8 = .ok (.ireturn, 1) := by decide +kernel
theorem dX10_damp_0 : decode cX10_damp 0 = .ok (.iload_n 1, 1) := by decide +kernel
theorem dX10_damp_1 : decode cX10_damp 1 = .ok (.iconst 1, 1) := by decide +kernel
theorem dX10_damp_2 : decode cX10_damp 2 = .ok (.if_icmp .lt 9, 3) := by decide +kernel
theorem dX10_damp_5 : decode cX10_damp 5 = .ok (.iload_n 1, 1) := by decide +kernel
theorem dX10_damp_6 : decode cX10_damp 6 = .ok (.bipush 9, 2) := by decide +kernel
theorem dX10_damp_8 : decode cX10_damp 8 = .ok (.if_icmp .le 7, 3) := by decide +kernel
theorem dX10_damp_11 : decode cX10_damp 11 = .ok (.iconst (-1), 1) := by decide +kernel
theorem dX10_damp_12 : decode cX10_damp 12 = .ok (.goto 11, 3) := by decide +kernel
theorem dX10_damp_15 : decode cX10_damp 15 = .ok (.aload_n 0, 1) := by decide +kernel
theorem dX10_damp_16 : decode cX10_damp 16 = .ok (.getfield 52, 3) := by decide +kernel
theorem dX10_damp_19 : decode cX10_damp 19 = .ok (.iload_n 1, 1) := by decide +kernel
theorem dX10_damp_20 : decode cX10_damp 20 = .ok (.invokevirtual 118, 3) := by decide +kernel
theorem dX10_damp_23 : decode cX10_damp 23 = .ok (.ireturn, 1) := by decide +kernel
theorem dX10_hour_0 : decode cX10_hour 0 = .ok (.iload_n 1, 1) := by decide +kernel
theorem dX10_hour_1 : decode cX10_hour 1 = .ok (.iconst 1, 1) := by decide +kernel
theorem dX10_hour_2 : decode cX10_hour 2 = .ok (.if_icmp .lt 27, 3) := by decide +kernel
theorem dX10_hour_5 : decode cX10_hour 5 = .ok (.iload_n 1, 1) := by decide +kernel
theorem dX10_hour_6 : decode cX10_hour 6 = .ok (.bipush 60, 2) := by decide +kernel
theorem dX10_hour_8 : decode cX10_hour 8 = .ok (.if_icmp .gt 21, 3) := by decide +kernel
theorem dX10_hour_11 : decode cX10_hour 11 = .ok (.aload_n 0, 1) := by decide +kernel
theorem dX10_hour_12 : decode cX10_hour 12 = .ok (.getfield 52, 3) := by decide +kernel
theorem dX10_hour_15 : decode cX10_hour 15 = .ok (.getfield 105, 3) := by decide +kernel
theorem dX10_hour_18 : decode cX10_hour 18 = .ok (.getfield 121, 3) := by decide +kernel
theorem dX10_hour_21 : decode cX10_hour 21 = .ok (.iload_n 1, 1) := by decide +kernel
theorem dX10_hour_22 : decode cX10_hour 22 = .ok (.iadd, 1) := by decide +kernel
theorem dX10_hour_23 : decode cX10_hour 23 = .ok (.sipush 9999, 3) := by decide +kernel
theorem dX10_hour_26 : decode cX10_hour 26 = .ok (.if_icmp .le 5, 3) := by decide +kernel
theorem dX10_hour_29 : decode cX10_hour 29 = .ok (.iconst (-1), 1) := by decide +kernel
theorem dX10_hour_30 : decode cX10_hour 30 = .ok (.ireturn, 1) := by decide +kernel
theorem dX10_hour_31 : decode cX10_hour 31 = .ok (.aload_n 0, 1) := by decide +kernel
theorem dX10_hour_32 : decode cX10_hour 32 = .ok (.getfield 52, 3) := by decide +kernel
theorem dX10_hour_35 : decode cX10_hour 35 = .ok (.iload_n 1, 1) := by decide +kernel
theorem dX10_hour_36 : decode cX10_hour 36 = .ok (.invokevirtual 124, 3) := by decide +kernel
theorem dX10_hour_39 : decode cX10_hour 39 = .ok (.pop, 1) := by decide +kernel
theorem dX10_hour_40 : decode cX10_hour 40 = .ok (.aload_n 0, 1) := by decide +kernel
theorem dX10_hour_41 : decode cX10_hour 41 = .ok (.getfield 52, 3) := by decide +kernel
theorem dX10_hour_44 : decode cX10_hour 44 = .ok (.getfield 105, 3) := by decide +kernel
theorem dX10_hour_47 : decode cX10_hour 47 = .ok (.getfield 121, 3) := by decide +kernel
theorem dX10_hour_50 : decode cX10_hour 50 = .ok (.ireturn, 1) := by decide +kernel
theorem dX10_played_0 : decode cX10_played 0 = .ok (.iload_n 1, 1) := by decide +kernel
theorem dX10_played_1 : decode cX10_played 1 = .ok (.ifCond .lt 14, 3) := by decide +kernel
theorem dX10_played_4 : decode cX10_played 4 = .ok (.iload_n 1, 1) := by decide +kernel
theorem dX10_played_5 : decode cX10_played 5 = .ok (.aload_n 0, 1) := by decide +kernel
theorem dX10_played_6 : decode cX10_played 6 = .ok (.getfield 52, 3) := by decide +kernel
theorem dX10_played_9 : decode cX10_played 9 = .ok (.getfield 86, 3) := by decide +kernel
theorem dX10_played_12 : decode cX10_played 12 = .ok (.if_icmp .lt 6, 3) := by decide +kernel
theorem dX10_played_15 : decode cX10_played 15 = .ok (.bipush (-2), 2) := by decide +kernel
theorem dX10_played_17 : decode cX10_played 17 = .ok (.ireturn, 1) := by decide +kernel
theorem dX10_played_18 : decode cX10_played 18 = .ok (.aload_n 0, 1) := by decide +kernel
theorem dX10_played_19 : decode cX10_played 19 = .ok (.getfield 11, 3) := by decide +kernel
theorem dX10_played_22 : decode cX10_played 22 = .ok (.iload_n 1, 1) := by decide +kernel
theorem dX10_played_23 : decode cX10_played 23 = .ok (.aaload, 1) := by decide +kernel
theorem dX10_played_24 : decode cX10_played 24 = .ok (.astore_n 2, 1) := by decide +kernel
theorem dX10_played_25 : decode cX10_played 25 = .ok (.iconst 0, 1) := by decide +kernel
theorem dX10_played_26 : decode cX10_played 26 = .ok (.istore_n 3, 1) := by decide +kernel
theorem dX10_played_27 : decode cX10_played 27 = .ok (.iload_n 3, 1) := by decide +kernel
theorem dX10_played_28 : decode cX10_played 28 = .ok (.aload_n 2, 1) := by decide +kernel
theorem dX10_played_29 : decode cX10_played 29 = .ok (.getfield 127, 3) := by decide +kernel
theorem dX10_played_32 : decode cX10_played 32 = .ok (.if_icmp .ge 20, 3) := by decide +kernel
theorem dX10_played_35 : decode cX10_played 35 = .ok (.aload_n 0, 1) := by decide +kernel
theorem dX10_played_36 : decode cX10_played 36 = .ok (.aload_n 2, 1) := by decide +kernel
theorem dX10_played_37 : decode cX10_played 37 = .ok (.iload_n 3, 1) := by decide +kernel
theorem dX10_played_38 : decode cX10_played 38 = .ok (.invokevirtual 130, 3) := by decide +kernel
theorem dX10_played_41 : decode cX10_played 41 = .ok (.ifCond .ne 5, 3) := by decide +kernel
theorem dX10_played_44 : decode cX10_played 44 = .ok (.iload_n 3, 1) := by decide +kernel
theorem dX10_played_45 : decode cX10_played 45 = .ok (.ireturn, 1) := by decide +kernel
theorem dX10_played_46 : decode cX10_played 46 = .ok (.iinc 3 1, 3) := by decide +kernel
theorem dX10_played_49 : decode cX10_played 49 = .ok (.goto (-22), 3) := by decide +kernel
theorem dX10_played_52 : decode cX10_played 52 = .ok (.iconst (-1), 1) := by decide +kernel
theorem dX10_played_53 : decode cX10_played 53 = .ok (.ireturn, 1) := by decide +kernel
theorem dX10_clauseDone_0 : decode cX10_clauseDone 0 = .ok (.aload_n 1, 1) := by decide +kernel
theorem dX10_clauseDone_1 : decode cX10_clauseDone 1 = .ok (.iload_n 2, 1) := by decide +kernel
theorem dX10_clauseDone_2 : decode cX10_clauseDone 2 = .ok (.iconst 0, 1) := by decide +kernel
theorem dX10_clauseDone_3 : decode cX10_clauseDone 3 = .ok (.invokevirtual 134, 3) := by decide +kernel
theorem dX10_clauseDone_6 : decode cX10_clauseDone 6 = .ok (.istore_n 3, 1) := by decide +kernel
theorem dX10_clauseDone_7 : decode cX10_clauseDone 7 = .ok (.aload_n 1, 1) := by decide +kernel
theorem dX10_clauseDone_8 : decode cX10_clauseDone 8 = .ok (.iload_n 2, 1) := by decide +kernel
theorem dX10_clauseDone_9 : decode cX10_clauseDone 9 = .ok (.iconst 1, 1) := by decide +kernel
theorem dX10_clauseDone_10 : decode cX10_clauseDone 10 = .ok (.invokevirtual 134, 3) := by decide +kernel
theorem dX10_clauseDone_13 : decode cX10_clauseDone 13 = .ok (.istore 4, 2) := by decide +kernel
theorem dX10_clauseDone_15 : decode cX10_clauseDone 15 = .ok (.aload_n 1, 1) := by decide +kernel
theorem dX10_clauseDone_16 : decode cX10_clauseDone 16 = .ok (.iload_n 2, 1) := by decide +kernel
theorem dX10_clauseDone_17 : decode cX10_clauseDone 17 = .ok (.invokevirtual 137, 3) := by decide +kernel
theorem dX10_clauseDone_20 : decode cX10_clauseDone 20 = .ok (.tableswitch 168 19 26 #[48, 68, 95, 115, 124, 133, 106, 150], 48) := by decide +kernel
theorem dX10_clauseDone_68 : decode cX10_clauseDone 68 = .ok (.aload_n 0, 1) := by decide +kernel
theorem dX10_clauseDone_69 : decode cX10_clauseDone 69 = .ok (.getfield 52, 3) := by decide +kernel
theorem dX10_clauseDone_72 : decode cX10_clauseDone 72 = .ok (.iload_n 3, 1) := by decide +kernel
theorem dX10_clauseDone_73 : decode cX10_clauseDone 73 = .ok (.iload 4, 2) := by decide +kernel
theorem dX10_clauseDone_75 : decode cX10_clauseDone 75 = .ok (.invokevirtual 59, 3) := by decide +kernel
theorem dX10_clauseDone_78 : decode cX10_clauseDone 78 = .ok (.iconst (-1), 1) := by decide +kernel
theorem dX10_clauseDone_79 : decode cX10_clauseDone 79 = .ok (.if_icmp .eq 7, 3) := by decide +kernel
theorem dX10_clauseDone_82 : decode cX10_clauseDone 82 = .ok (.iconst 1, 1) := by decide +kernel
theorem dX10_clauseDone_83 : decode cX10_clauseDone 83 = .ok (.goto 4, 3) := by decide +kernel
theorem dX10_clauseDone_86 : decode cX10_clauseDone 86 = .ok (.iconst 0, 1) := by decide +kernel
theorem dX10_clauseDone_87 : decode cX10_clauseDone 87 = .ok (.ireturn, 1) := by decide +kernel
theorem dX10_clauseDone_88 : decode cX10_clauseDone 88 = .ok (.aload_n 0, 1) := by decide +kernel
theorem dX10_clauseDone_89 : decode cX10_clauseDone 89 = .ok (.getfield 52, 3) := by decide +kernel
theorem dX10_clauseDone_92 : decode cX10_clauseDone 92 = .ok (.iload_n 3, 1) := by decide +kernel
theorem dX10_clauseDone_93 : decode cX10_clauseDone 93 = .ok (.iload 4, 2) := by decide +kernel
theorem dX10_clauseDone_95 : decode cX10_clauseDone 95 = .ok (.aload_n 1, 1) := by decide +kernel
theorem dX10_clauseDone_96 : decode cX10_clauseDone 96 = .ok (.iload_n 2, 1) := by decide +kernel
theorem dX10_clauseDone_97 : decode cX10_clauseDone 97 = .ok (.iconst 2, 1) := by decide +kernel
theorem dX10_clauseDone_98 : decode cX10_clauseDone 98 = .ok (.invokevirtual 134, 3) := by decide +kernel
theorem dX10_clauseDone_101 : decode cX10_clauseDone 101 = .ok (.iconst 1, 1) := by decide +kernel
theorem dX10_clauseDone_102 : decode cX10_clauseDone 102 = .ok (.invokevirtual 63, 3) := by decide +kernel
theorem dX10_clauseDone_105 : decode cX10_clauseDone 105 = .ok (.iconst (-1), 1) := by decide +kernel
theorem dX10_clauseDone_106 : decode cX10_clauseDone 106 = .ok (.if_icmp .eq 7, 3) := by decide +kernel
theorem dX10_clauseDone_109 : decode cX10_clauseDone 109 = .ok (.iconst 1, 1) := by decide +kernel
theorem dX10_clauseDone_110 : decode cX10_clauseDone 110 = .ok (.goto 4, 3) := by decide +kernel
theorem dX10_clauseDone_113 : decode cX10_clauseDone 113 = .ok (.iconst 0, 1) := by decide +kernel
theorem dX10_clauseDone_114 : decode cX10_clauseDone 114 = .ok (.ireturn, 1) := by decide +kernel
theorem dX10_clauseDone_115 : decode cX10_clauseDone 115 = .ok (.aload_n 0, 1) := by decide +kernel
theorem dX10_clauseDone_116 : decode cX10_clauseDone 116 = .ok (.getfield 52, 3) := by decide +kernel
theorem dX10_clauseDone_119 : decode cX10_clauseDone 119 = .ok (.iload_n 3, 1) := by decide +kernel
theorem dX10_clauseDone_120 : decode cX10_clauseDone 120 = .ok (.iload 4, 2) := by decide +kernel
theorem dX10_clauseDone_122 : decode cX10_clauseDone 122 = .ok (.invokevirtual 67, 3) := by decide +kernel
theorem dX10_clauseDone_125 : decode cX10_clauseDone 125 = .ok (.ireturn, 1) := by decide +kernel
theorem dX10_clauseDone_126 : decode cX10_clauseDone 126 = .ok (.aload_n 0, 1) := by decide +kernel
theorem dX10_clauseDone_127 : decode cX10_clauseDone 127 = .ok (.getfield 52, 3) := by decide +kernel
theorem dX10_clauseDone_130 : decode cX10_clauseDone 130 = .ok (.iload_n 3, 1) := by decide +kernel
theorem dX10_clauseDone_131 : decode cX10_clauseDone 131 = .ok (.invokevirtual 71, 3) := by decide +kernel
theorem dX10_clauseDone_134 : decode cX10_clauseDone 134 = .ok (.ireturn, 1) := by decide +kernel
theorem dX10_clauseDone_135 : decode cX10_clauseDone 135 = .ok (.aload_n 0, 1) := by decide +kernel
theorem dX10_clauseDone_136 : decode cX10_clauseDone 136 = .ok (.getfield 52, 3) := by decide +kernel
theorem dX10_clauseDone_139 : decode cX10_clauseDone 139 = .ok (.iload_n 3, 1) := by decide +kernel
theorem dX10_clauseDone_140 : decode cX10_clauseDone 140 = .ok (.invokevirtual 102, 3) := by decide +kernel
theorem dX10_clauseDone_143 : decode cX10_clauseDone 143 = .ok (.ireturn, 1) := by decide +kernel
theorem dX10_clauseDone_144 : decode cX10_clauseDone 144 = .ok (.aload_n 0, 1) := by decide +kernel
theorem dX10_clauseDone_145 : decode cX10_clauseDone 145 = .ok (.getfield 52, 3) := by decide +kernel
theorem dX10_clauseDone_148 : decode cX10_clauseDone 148 = .ok (.iload_n 3, 1) := by decide +kernel
theorem dX10_clauseDone_149 : decode cX10_clauseDone 149 = .ok (.invokevirtual 115, 3) := by decide +kernel
theorem dX10_clauseDone_152 : decode cX10_clauseDone 152 = .ok (.ireturn, 1) := by decide +kernel
theorem dX10_clauseDone_153 : decode cX10_clauseDone 153 = .ok (.aload_n 0, 1) := by decide +kernel
theorem dX10_clauseDone_154 : decode cX10_clauseDone 154 = .ok (.getfield 52, 3) := by decide +kernel
theorem dX10_clauseDone_157 : decode cX10_clauseDone 157 = .ok (.iload_n 3, 1) := by decide +kernel
theorem dX10_clauseDone_158 : decode cX10_clauseDone 158 = .ok (.invokevirtual 118, 3) := by decide +kernel
theorem dX10_clauseDone_161 : decode cX10_clauseDone 161 = .ok (.ifCond .lt 7, 3) := by decide +kernel
theorem dX10_clauseDone_164 : decode cX10_clauseDone 164 = .ok (.iconst 1, 1) := by decide +kernel
theorem dX10_clauseDone_165 : decode cX10_clauseDone 165 = .ok (.goto 4, 3) := by decide +kernel
theorem dX10_clauseDone_168 : decode cX10_clauseDone 168 = .ok (.iconst 0, 1) := by decide +kernel
theorem dX10_clauseDone_169 : decode cX10_clauseDone 169 = .ok (.ireturn, 1) := by decide +kernel
theorem dX10_clauseDone_170 : decode cX10_clauseDone 170 = .ok (.aload_n 0, 1) := by decide +kernel
theorem dX10_clauseDone_171 : decode cX10_clauseDone 171 = .ok (.getfield 52, 3) := by decide +kernel
theorem dX10_clauseDone_174 : decode cX10_clauseDone 174 = .ok (.iload_n 3, 1) := by decide +kernel
theorem dX10_clauseDone_175 : decode cX10_clauseDone 175 = .ok (.invokevirtual 124, 3) := by decide +kernel
theorem dX10_clauseDone_178 : decode cX10_clauseDone 178 = .ok (.iload_n 3, 1) := by decide +kernel
theorem dX10_clauseDone_179 : decode cX10_clauseDone 179 = .ok (.if_icmp .ne 7, 3) := by decide +kernel
theorem dX10_clauseDone_182 : decode cX10_clauseDone 182 = .ok (.iconst 1, 1) := by decide +kernel
theorem dX10_clauseDone_183 : decode cX10_clauseDone 183 = .ok (.goto 4, 3) := by decide +kernel
theorem dX10_clauseDone_186 : decode cX10_clauseDone 186 = .ok (.iconst 0, 1) := by decide +kernel
theorem dX10_clauseDone_187 : decode cX10_clauseDone 187 = .ok (.ireturn, 1) := by decide +kernel
theorem dX10_clauseDone_188 : decode cX10_clauseDone 188 = .ok (.iconst 1, 1) := by decide +kernel
theorem dX10_clauseDone_189 : decode cX10_clauseDone 189 = .ok (.ireturn, 1) := by decide +kernel
theorem dX10_seasons_0 : decode cX10_seasons 0 = .ok (.iload_n 1, 1) := by decide +kernel
theorem dX10_seasons_1 : decode cX10_seasons 1 = .ok (.ifCond .lt 21, 3) := by decide +kernel
theorem dX10_seasons_4 : decode cX10_seasons 4 = .ok (.iload_n 1, 1) := by decide +kernel
theorem dX10_seasons_5 : decode cX10_seasons 5 = .ok (.sipush 9999, 3) := by decide +kernel
theorem dX10_seasons_8 : decode cX10_seasons 8 = .ok (.if_icmp .gt 14, 3) := by decide +kernel
theorem dX10_seasons_11 : decode cX10_seasons 11 = .ok (.iload_n 2, 1) := by decide +kernel
theorem dX10_seasons_12 : decode cX10_seasons 12 = .ok (.iconst 1, 1) := by decide +kernel
theorem dX10_seasons_13 : decode cX10_seasons 13 = .ok (.if_icmp .lt 9, 3) := by decide +kernel
theorem dX10_seasons_16 : decode cX10_seasons 16 = .ok (.iload_n 2, 1) := by decide +kernel
theorem dX10_seasons_17 : decode cX10_seasons 17 = .ok (.bipush 40, 2) := by decide +kernel
theorem dX10_seasons_19 : decode cX10_seasons 19 = .ok (.if_icmp .le 5, 3) := by decide +kernel
theorem dX10_seasons_22 : decode cX10_seasons 22 = .ok (.iconst (-1), 1) := by decide +kernel
theorem dX10_seasons_23 : decode cX10_seasons 23 = .ok (.ireturn, 1) := by decide +kernel
theorem dX10_seasons_24 : decode cX10_seasons 24 = .ok (.aload_n 0, 1) := by decide +kernel
theorem dX10_seasons_25 : decode cX10_seasons 25 = .ok (.getfield 52, 3) := by decide +kernel
theorem dX10_seasons_28 : decode cX10_seasons 28 = .ok (.iload_n 1, 1) := by decide +kernel
theorem dX10_seasons_29 : decode cX10_seasons 29 = .ok (.iload_n 2, 1) := by decide +kernel
theorem dX10_seasons_30 : decode cX10_seasons 30 = .ok (.invokevirtual 140, 3) := by decide +kernel
theorem dX10_seasons_33 : decode cX10_seasons 33 = .ok (.ireturn, 1) := by decide +kernel
theorem dX10_undo_0 : decode cX10_undo 0 = .ok (.aload_n 0, 1) := by decide +kernel
theorem dX10_undo_1 : decode cX10_undo 1 = .ok (.getfield 52, 3) := by decide +kernel
theorem dX10_undo_4 : decode cX10_undo 4 = .ok (.invokevirtual 143, 3) := by decide +kernel
theorem dX10_undo_7 : decode cX10_undo 7 = .ok (.ireturn, 1) := by decide +kernel
theorem dX10_of_0 : decode cX10_of 0 = .ok (.aload_n 0, 1) := by decide +kernel
theorem dX10_of_1 : decode cX10_of 1 = .ok (.getfield 52, 3) := by decide +kernel
theorem dX10_of_4 : decode cX10_of 4 = .ok (.iload_n 1, 1) := by decide +kernel
theorem dX10_of_5 : decode cX10_of 5 = .ok (.invokevirtual 147, 3) := by decide +kernel
theorem dX10_of_8 : decode cX10_of 8 = .ok (.ifCond .ne 7, 3) := by decide +kernel
theorem dX10_of_11 : decode cX10_of 11 = .ok (.sipush (-1000), 3) := by decide +kernel
theorem dX10_of_14 : decode cX10_of 14 = .ok (.ireturn, 1) := by decide +kernel
theorem dX10_of_15 : decode cX10_of 15 = .ok (.iload_n 2, 1) := by decide +kernel
theorem dX10_of_16 : decode cX10_of 16 = .ok (.tableswitch 126 0 5 #[40, 50, 63, 72, 89, 113], 40) := by decide +kernel
theorem dX10_of_56 : decode cX10_of 56 = .ok (.aload_n 0, 1) := by decide +kernel
theorem dX10_of_57 : decode cX10_of 57 = .ok (.getfield 52, 3) := by decide +kernel
theorem dX10_of_60 : decode cX10_of 60 = .ok (.getfield 150, 3) := by decide +kernel
theorem dX10_of_63 : decode cX10_of 63 = .ok (.iload_n 1, 1) := by decide +kernel
theorem dX10_of_64 : decode cX10_of 64 = .ok (.iaload, 1) := by decide +kernel
theorem dX10_of_65 : decode cX10_of 65 = .ok (.ireturn, 1) := by decide +kernel
theorem dX10_of_66 : decode cX10_of 66 = .ok (.aload_n 0, 1) := by decide +kernel
theorem dX10_of_67 : decode cX10_of 67 = .ok (.getfield 52, 3) := by decide +kernel
theorem dX10_of_70 : decode cX10_of 70 = .ok (.getfield 105, 3) := by decide +kernel
theorem dX10_of_73 : decode cX10_of 73 = .ok (.getfield 153, 3) := by decide +kernel
theorem dX10_of_76 : decode cX10_of 76 = .ok (.iload_n 1, 1) := by decide +kernel
theorem dX10_of_77 : decode cX10_of 77 = .ok (.iaload, 1) := by decide +kernel
theorem dX10_of_78 : decode cX10_of 78 = .ok (.ireturn, 1) := by decide +kernel
theorem dX10_of_79 : decode cX10_of 79 = .ok (.aload_n 0, 1) := by decide +kernel
theorem dX10_of_80 : decode cX10_of 80 = .ok (.getfield 52, 3) := by decide +kernel
theorem dX10_of_83 : decode cX10_of 83 = .ok (.iload_n 1, 1) := by decide +kernel
theorem dX10_of_84 : decode cX10_of 84 = .ok (.invokevirtual 156, 3) := by decide +kernel
theorem dX10_of_87 : decode cX10_of 87 = .ok (.ireturn, 1) := by decide +kernel
theorem dX10_of_88 : decode cX10_of 88 = .ok (.aload_n 0, 1) := by decide +kernel
theorem dX10_of_89 : decode cX10_of 89 = .ok (.getfield 52, 3) := by decide +kernel
theorem dX10_of_92 : decode cX10_of 92 = .ok (.iload_n 1, 1) := by decide +kernel
theorem dX10_of_93 : decode cX10_of 93 = .ok (.invokevirtual 156, 3) := by decide +kernel
theorem dX10_of_96 : decode cX10_of 96 = .ok (.aload_n 0, 1) := by decide +kernel
theorem dX10_of_97 : decode cX10_of 97 = .ok (.getfield 52, 3) := by decide +kernel
theorem dX10_of_100 : decode cX10_of 100 = .ok (.invokevirtual 159, 3) := by decide +kernel
theorem dX10_of_103 : decode cX10_of 103 = .ok (.iand, 1) := by decide +kernel
theorem dX10_of_104 : decode cX10_of 104 = .ok (.ireturn, 1) := by decide +kernel
theorem dX10_of_105 : decode cX10_of 105 = .ok (.aload_n 0, 1) := by decide +kernel
theorem dX10_of_106 : decode cX10_of 106 = .ok (.getfield 52, 3) := by decide +kernel
theorem dX10_of_109 : decode cX10_of 109 = .ok (.aload_n 0, 1) := by decide +kernel
theorem dX10_of_110 : decode cX10_of 110 = .ok (.getfield 52, 3) := by decide +kernel
theorem dX10_of_113 : decode cX10_of 113 = .ok (.iload_n 1, 1) := by decide +kernel
theorem dX10_of_114 : decode cX10_of 114 = .ok (.invokevirtual 156, 3) := by decide +kernel
theorem dX10_of_117 : decode cX10_of 117 = .ok (.aload_n 0, 1) := by decide +kernel
theorem dX10_of_118 : decode cX10_of 118 = .ok (.getfield 52, 3) := by decide +kernel
theorem dX10_of_121 : decode cX10_of 121 = .ok (.invokevirtual 159, 3) := by decide +kernel
theorem dX10_of_124 : decode cX10_of 124 = .ok (.iand, 1) := by decide +kernel
theorem dX10_of_125 : decode cX10_of 125 = .ok (.invokevirtual 162, 3) := by decide +kernel
theorem dX10_of_128 : decode cX10_of 128 = .ok (.ireturn, 1) := by decide +kernel
theorem dX10_of_129 : decode cX10_of 129 = .ok (.aload_n 0, 1) := by decide +kernel
theorem dX10_of_130 : decode cX10_of 130 = .ok (.getfield 39, 3) := by decide +kernel
theorem dX10_of_133 : decode cX10_of 133 = .ok (.aload_n 0, 1) := by decide +kernel
theorem dX10_of_134 : decode cX10_of 134 = .ok (.getfield 52, 3) := by decide +kernel
theorem dX10_of_137 : decode cX10_of 137 = .ok (.iload_n 1, 1) := by decide +kernel
theorem dX10_of_138 : decode cX10_of 138 = .ok (.invokevirtual 165, 3) := by decide +kernel
theorem dX10_of_141 : decode cX10_of 141 = .ok (.ireturn, 1) := by decide +kernel
theorem dX10_of_142 : decode cX10_of 142 = .ok (.sipush (-1000), 3) := by decide +kernel
theorem dX10_of_145 : decode cX10_of 145 = .ok (.ireturn, 1) := by decide +kernel
theorem dX10_ofCrease_0 : decode cX10_ofCrease 0 = .ok (.aload_n 0, 1) := by decide +kernel
theorem dX10_ofCrease_1 : decode cX10_ofCrease 1 = .ok (.getfield 52, 3) := by decide +kernel
theorem dX10_ofCrease_4 : decode cX10_ofCrease 4 = .ok (.iload_n 1, 1) := by decide +kernel
theorem dX10_ofCrease_5 : decode cX10_ofCrease 5 = .ok (.invokevirtual 169, 3) := by decide +kernel
theorem dX10_ofCrease_8 : decode cX10_ofCrease 8 = .ok (.ifCond .ne 7, 3) := by decide +kernel
theorem dX10_ofCrease_11 : decode cX10_ofCrease 11 = .ok (.sipush (-1000), 3) := by decide +kernel
theorem dX10_ofCrease_14 : decode cX10_ofCrease 14 = .ok (.ireturn, 1) := by decide +kernel
theorem dX10_ofCrease_15 : decode cX10_ofCrease 15 = .ok (.iload_n 2, 1) := by decide +kernel
theorem dX10_ofCrease_16 : decode cX10_ofCrease 16 = .ok (.tableswitch 169 0 8 #[52, 62, 72, 85, 95, 108, 118, 135, 152], 52) := by decide +kernel
theorem dX10_ofCrease_68 : decode cX10_ofCrease 68 = .ok (.aload_n 0, 1) := by decide +kernel
theorem dX10_ofCrease_69 : decode cX10_ofCrease 69 = .ok (.getfield 52, 3) := by decide +kernel
theorem dX10_ofCrease_72 : decode cX10_ofCrease 72 = .ok (.getfield 172, 3) := by decide +kernel
theorem dX10_ofCrease_75 : decode cX10_ofCrease 75 = .ok (.iload_n 1, 1) := by decide +kernel
theorem dX10_ofCrease_76 : decode cX10_ofCrease 76 = .ok (.iaload, 1) := by decide +kernel
theorem dX10_ofCrease_77 : decode cX10_ofCrease 77 = .ok (.ireturn, 1) := by decide +kernel
theorem dX10_ofCrease_78 : decode cX10_ofCrease 78 = .ok (.aload_n 0, 1) := by decide +kernel
theorem dX10_ofCrease_79 : decode cX10_ofCrease 79 = .ok (.getfield 52, 3) := by decide +kernel
theorem dX10_ofCrease_82 : decode cX10_ofCrease 82 = .ok (.getfield 175, 3) := by decide +kernel
theorem dX10_ofCrease_85 : decode cX10_ofCrease 85 = .ok (.iload_n 1, 1) := by decide +kernel
theorem dX10_ofCrease_86 : decode cX10_ofCrease 86 = .ok (.iaload, 1) := by decide +kernel
theorem dX10_ofCrease_87 : decode cX10_ofCrease 87 = .ok (.ireturn, 1) := by decide +kernel
theorem dX10_ofCrease_88 : decode cX10_ofCrease 88 = .ok (.aload_n 0, 1) := by decide +kernel
theorem dX10_ofCrease_89 : decode cX10_ofCrease 89 = .ok (.getfield 52, 3) := by decide +kernel
theorem dX10_ofCrease_92 : decode cX10_ofCrease 92 = .ok (.getfield 105, 3) := by decide +kernel
theorem dX10_ofCrease_95 : decode cX10_ofCrease 95 = .ok (.getfield 109, 3) := by decide +kernel
theorem dX10_ofCrease_98 : decode cX10_ofCrease 98 = .ok (.iload_n 1, 1) := by decide +kernel
theorem dX10_ofCrease_99 : decode cX10_ofCrease 99 = .ok (.iaload, 1) := by decide +kernel
theorem dX10_ofCrease_100 : decode cX10_ofCrease 100 = .ok (.ireturn, 1) := by decide +kernel
theorem dX10_ofCrease_101 : decode cX10_ofCrease 101 = .ok (.aload_n 0, 1) := by decide +kernel
theorem dX10_ofCrease_102 : decode cX10_ofCrease 102 = .ok (.getfield 52, 3) := by decide +kernel
theorem dX10_ofCrease_105 : decode cX10_ofCrease 105 = .ok (.getfield 178, 3) := by decide +kernel
theorem dX10_ofCrease_108 : decode cX10_ofCrease 108 = .ok (.iload_n 1, 1) := by decide +kernel
theorem dX10_ofCrease_109 : decode cX10_ofCrease 109 = .ok (.iaload, 1) := by decide +kernel
theorem dX10_ofCrease_110 : decode cX10_ofCrease 110 = .ok (.ireturn, 1) := by decide +kernel
theorem dX10_ofCrease_111 : decode cX10_ofCrease 111 = .ok (.aload_n 0, 1) := by decide +kernel
theorem dX10_ofCrease_112 : decode cX10_ofCrease 112 = .ok (.getfield 52, 3) := by decide +kernel
theorem dX10_ofCrease_115 : decode cX10_ofCrease 115 = .ok (.getfield 105, 3) := by decide +kernel
theorem dX10_ofCrease_118 : decode cX10_ofCrease 118 = .ok (.getfield 181, 3) := by decide +kernel
theorem dX10_ofCrease_121 : decode cX10_ofCrease 121 = .ok (.iload_n 1, 1) := by decide +kernel
theorem dX10_ofCrease_122 : decode cX10_ofCrease 122 = .ok (.iaload, 1) := by decide +kernel
theorem dX10_ofCrease_123 : decode cX10_ofCrease 123 = .ok (.ireturn, 1) := by decide +kernel
theorem dX10_ofCrease_124 : decode cX10_ofCrease 124 = .ok (.aload_n 0, 1) := by decide +kernel
theorem dX10_ofCrease_125 : decode cX10_ofCrease 125 = .ok (.getfield 52, 3) := by decide +kernel
theorem dX10_ofCrease_128 : decode cX10_ofCrease 128 = .ok (.getfield 184, 3) := by decide +kernel
theorem dX10_ofCrease_131 : decode cX10_ofCrease 131 = .ok (.iload_n 1, 1) := by decide +kernel
theorem dX10_ofCrease_132 : decode cX10_ofCrease 132 = .ok (.iaload, 1) := by decide +kernel
theorem dX10_ofCrease_133 : decode cX10_ofCrease 133 = .ok (.ireturn, 1) := by decide +kernel
theorem dX10_ofCrease_134 : decode cX10_ofCrease 134 = .ok (.aload_n 0, 1) := by decide +kernel
theorem dX10_ofCrease_135 : decode cX10_ofCrease 135 = .ok (.getfield 52, 3) := by decide +kernel
theorem dX10_ofCrease_138 : decode cX10_ofCrease 138 = .ok (.iconst 0, 1) := by decide +kernel
theorem dX10_ofCrease_139 : decode cX10_ofCrease 139 = .ok (.iload_n 1, 1) := by decide +kernel
theorem dX10_ofCrease_140 : decode cX10_ofCrease 140 = .ok (.aload_n 0, 1) := by decide +kernel
theorem dX10_ofCrease_141 : decode cX10_ofCrease 141 = .ok (.getfield 52, 3) := by decide +kernel
theorem dX10_ofCrease_144 : decode cX10_ofCrease 144 = .ok (.getfield 99, 3) := by decide +kernel
theorem dX10_ofCrease_147 : decode cX10_ofCrease 147 = .ok (.invokevirtual 187, 3) := by decide +kernel
theorem dX10_ofCrease_150 : decode cX10_ofCrease 150 = .ok (.ireturn, 1) := by decide +kernel
theorem dX10_ofCrease_151 : decode cX10_ofCrease 151 = .ok (.aload_n 0, 1) := by decide +kernel
theorem dX10_ofCrease_152 : decode cX10_ofCrease 152 = .ok (.getfield 52, 3) := by decide +kernel
theorem dX10_ofCrease_155 : decode cX10_ofCrease 155 = .ok (.iconst 1, 1) := by decide +kernel
theorem dX10_ofCrease_156 : decode cX10_ofCrease 156 = .ok (.iload_n 1, 1) := by decide +kernel
theorem dX10_ofCrease_157 : decode cX10_ofCrease 157 = .ok (.aload_n 0, 1) := by decide +kernel
theorem dX10_ofCrease_158 : decode cX10_ofCrease 158 = .ok (.getfield 52, 3) := by decide +kernel
theorem dX10_ofCrease_161 : decode cX10_ofCrease 161 = .ok (.getfield 99, 3) := by decide +kernel
theorem dX10_ofCrease_164 : decode cX10_ofCrease 164 = .ok (.invokevirtual 187, 3) := by decide +kernel
theorem dX10_ofCrease_167 : decode cX10_ofCrease 167 = .ok (.ireturn, 1) := by decide +kernel
theorem dX10_ofCrease_168 : decode cX10_ofCrease 168 = .ok (.aload_n 0, 1) := by decide +kernel
theorem dX10_ofCrease_169 : decode cX10_ofCrease 169 = .ok (.getfield 52, 3) := by decide +kernel
theorem dX10_ofCrease_172 : decode cX10_ofCrease 172 = .ok (.iconst 2, 1) := by decide +kernel
theorem dX10_ofCrease_173 : decode cX10_ofCrease 173 = .ok (.iload_n 1, 1) := by decide +kernel
theorem dX10_ofCrease_174 : decode cX10_ofCrease 174 = .ok (.aload_n 0, 1) := by decide +kernel
theorem dX10_ofCrease_175 : decode cX10_ofCrease 175 = .ok (.getfield 52, 3) := by decide +kernel
theorem dX10_ofCrease_178 : decode cX10_ofCrease 178 = .ok (.getfield 99, 3) := by decide +kernel
theorem dX10_ofCrease_181 : decode cX10_ofCrease 181 = .ok (.invokevirtual 187, 3) := by decide +kernel
theorem dX10_ofCrease_184 : decode cX10_ofCrease 184 = .ok (.ireturn, 1) := by decide +kernel
theorem dX10_ofCrease_185 : decode cX10_ofCrease 185 = .ok (.sipush (-1000), 3) := by decide +kernel
theorem dX10_ofCrease_188 : decode cX10_ofCrease 188 = .ok (.ireturn, 1) := by decide +kernel
theorem dX10_is_0 : decode cX10_is 0 = .ok (.iload_n 1, 1) := by decide +kernel
theorem dX10_is_1 : decode cX10_is 1 = .ok (.tableswitch 72 0 3 #[31, 42, 50, 61], 31) := by decide +kernel
theorem dX10_is_32 : decode cX10_is 32 = .ok (.aload_n 0, 1) := by decide +kernel
theorem dX10_is_33 : decode cX10_is 33 = .ok (.getfield 52, 3) := by decide +kernel
theorem dX10_is_36 : decode cX10_is 36 = .ok (.getfield 105, 3) := by decide +kernel
theorem dX10_is_39 : decode cX10_is 39 = .ok (.getfield 121, 3) := by decide +kernel
theorem dX10_is_42 : decode cX10_is 42 = .ok (.ireturn, 1) := by decide +kernel
theorem dX10_is_43 : decode cX10_is 43 = .ok (.aload_n 0, 1) := by decide +kernel
theorem dX10_is_44 : decode cX10_is 44 = .ok (.getfield 52, 3) := by decide +kernel
theorem dX10_is_47 : decode cX10_is 47 = .ok (.getfield 191, 3) := by decide +kernel
theorem dX10_is_50 : decode cX10_is 50 = .ok (.ireturn, 1) := by decide +kernel
theorem dX10_is_51 : decode cX10_is 51 = .ok (.aload_n 0, 1) := by decide +kernel
theorem dX10_is_52 : decode cX10_is 52 = .ok (.getfield 52, 3) := by decide +kernel
theorem dX10_is_55 : decode cX10_is 55 = .ok (.getfield 105, 3) := by decide +kernel
theorem dX10_is_58 : decode cX10_is 58 = .ok (.getfield 194, 3) := by decide +kernel
theorem dX10_is_61 : decode cX10_is 61 = .ok (.ireturn, 1) := by decide +kernel
theorem dX10_is_62 : decode cX10_is 62 = .ok (.aload_n 0, 1) := by decide +kernel
theorem dX10_is_63 : decode cX10_is 63 = .ok (.getfield 52, 3) := by decide +kernel
theorem dX10_is_66 : decode cX10_is 66 = .ok (.getfield 105, 3) := by decide +kernel
theorem dX10_is_69 : decode cX10_is 69 = .ok (.getfield 197, 3) := by decide +kernel
theorem dX10_is_72 : decode cX10_is 72 = .ok (.ireturn, 1) := by decide +kernel
theorem dX10_is_73 : decode cX10_is 73 = .ok (.bipush (-2), 2) := by decide +kernel
theorem dX10_is_75 : decode cX10_is 75 = .ok (.ireturn, 1) := by decide +kernel
theorem dX10_book_0 : decode cX10_book 0 = .ok (.iload_n 1, 1) := by decide +kernel
theorem dX10_book_1 : decode cX10_book 1 = .ok (.iconst (-1), 1) := by decide +kernel
theorem dX10_book_2 : decode cX10_book 2 = .ok (.if_icmp .ne 14, 3) := by decide +kernel
theorem dX10_book_5 : decode cX10_book 5 = .ok (.aload_n 0, 1) := by decide +kernel
theorem dX10_book_6 : decode cX10_book 6 = .ok (.getfield 52, 3) := by decide +kernel
theorem dX10_book_9 : decode cX10_book 9 = .ok (.getfield 105, 3) := by decide +kernel
theorem dX10_book_12 : decode cX10_book 12 = .ok (.getfield 200, 3) := by decide +kernel
theorem dX10_book_15 : decode cX10_book 15 = .ok (.ireturn, 1) := by decide +kernel
theorem dX10_book_16 : decode cX10_book 16 = .ok (.aload_n 0, 1) := by decide +kernel
theorem dX10_book_17 : decode cX10_book 17 = .ok (.getfield 52, 3) := by decide +kernel
theorem dX10_book_20 : decode cX10_book 20 = .ok (.getfield 105, 3) := by decide +kernel
theorem dX10_book_23 : decode cX10_book 23 = .ok (.iload_n 1, 1) := by decide +kernel
theorem dX10_book_24 : decode cX10_book 24 = .ok (.iload_n 2, 1) := by decide +kernel
theorem dX10_book_25 : decode cX10_book 25 = .ok (.invokevirtual 203, 3) := by decide +kernel
theorem dX10_book_28 : decode cX10_book 28 = .ok (.ireturn, 1) := by decide +kernel
theorem dX10_hanging_0 : decode cX10_hanging 0 = .ok (.aload_n 0, 1) := by decide +kernel
theorem dX10_hanging_1 : decode cX10_hanging 1 = .ok (.getfield 52, 3) := by decide +kernel
theorem dX10_hanging_4 : decode cX10_hanging 4 = .ok (.iload_n 1, 1) := by decide +kernel
theorem dX10_hanging_5 : decode cX10_hanging 5 = .ok (.invokevirtual 169, 3) := by decide +kernel
theorem dX10_hanging_8 : decode cX10_hanging 8 = .ok (.ifCond .eq 15, 3) := by decide +kernel
theorem dX10_hanging_11 : decode cX10_hanging 11 = .ok (.aload_n 0, 1) := by decide +kernel
theorem dX10_hanging_12 : decode cX10_hanging 12 = .ok (.getfield 52, 3) := by decide +kernel
theorem dX10_hanging_15 : decode cX10_hanging 15 = .ok (.getfield 206, 3) := by decide +kernel
theorem dX10_hanging_18 : decode cX10_hanging 18 = .ok (.iload_n 1, 1) := by decide +kernel
theorem dX10_hanging_19 : decode cX10_hanging 19 = .ok (.iaload, 1) := by decide +kernel
theorem dX10_hanging_20 : decode cX10_hanging 20 = .ok (.goto 4, 3) := by decide +kernel
theorem dX10_hanging_23 : decode cX10_hanging 23 = .ok (.iconst (-1), 1) := by decide +kernel
theorem dX10_hanging_24 : decode cX10_hanging 24 = .ok (.ireturn, 1) := by decide +kernel
theorem dX10_foretold_0 : decode cX10_foretold 0 = .ok (.iload_n 1, 1) := by decide +kernel
theorem dX10_foretold_1 : decode cX10_foretold 1 = .ok (.iconst 1, 1) := by decide +kernel
theorem dX10_foretold_2 : decode cX10_foretold 2 = .ok (.if_icmp .lt 20, 3) := by decide +kernel
theorem dX10_foretold_5 : decode cX10_foretold 5 = .ok (.iload_n 1, 1) := by decide +kernel
theorem dX10_foretold_6 : decode cX10_foretold 6 = .ok (.bipush 60, 2) := by decide +kernel
theorem dX10_foretold_8 : decode cX10_foretold 8 = .ok (.if_icmp .gt 14, 3) := by decide +kernel
theorem dX10_foretold_11 : decode cX10_foretold 11 = .ok (.aload_n 0, 1) := by decide +kernel
theorem dX10_foretold_12 : decode cX10_foretold 12 = .ok (.getfield 52, 3) := by decide +kernel
theorem dX10_foretold_15 : decode cX10_foretold 15 = .ok (.iload_n 2, 1) := by decide +kernel
theorem dX10_foretold_16 : decode cX10_foretold 16 = .ok (.invokevirtual 169, 3) := by decide +kernel
theorem dX10_foretold_19 : decode cX10_foretold 19 = .ok (.ifCond .ne 5, 3) := by decide +kernel
theorem dX10_foretold_22 : decode cX10_foretold 22 = .ok (.iconst (-1), 1) := by decide +kernel
theorem dX10_foretold_23 : decode cX10_foretold 23 = .ok (.ireturn, 1) := by decide +kernel
theorem dX10_foretold_24 : decode cX10_foretold 24 = .ok (.aload_n 0, 1) := by decide +kernel
theorem dX10_foretold_25 : decode cX10_foretold 25 = .ok (.getfield 39, 3) := by decide +kernel
theorem dX10_foretold_28 : decode cX10_foretold 28 = .ok (.aload_n 0, 1) := by decide +kernel
theorem dX10_foretold_29 : decode cX10_foretold 29 = .ok (.getfield 52, 3) := by decide +kernel
theorem dX10_foretold_32 : decode cX10_foretold 32 = .ok (.iload_n 1, 1) := by decide +kernel
theorem dX10_foretold_33 : decode cX10_foretold 33 = .ok (.iload_n 2, 1) := by decide +kernel
theorem dX10_foretold_34 : decode cX10_foretold 34 = .ok (.invokevirtual 209, 3) := by decide +kernel
theorem dX10_foretold_37 : decode cX10_foretold 37 = .ok (.ireturn, 1) := by decide +kernel
theorem dX10_want_0 : decode cX10_want 0 = .ok (.iload_n 1, 1) := by decide +kernel
theorem dX10_want_1 : decode cX10_want 1 = .ok (.iconst (-1), 1) := by decide +kernel
theorem dX10_want_2 : decode cX10_want 2 = .ok (.if_icmp .ne 14, 3) := by decide +kernel
theorem dX10_want_5 : decode cX10_want 5 = .ok (.aload_n 0, 1) := by decide +kernel
theorem dX10_want_6 : decode cX10_want 6 = .ok (.getfield 52, 3) := by decide +kernel
theorem dX10_want_9 : decode cX10_want 9 = .ok (.getfield 213, 3) := by decide +kernel
theorem dX10_want_12 : decode cX10_want 12 = .ok (.invokevirtual 217, 3) := by decide +kernel
theorem dX10_want_15 : decode cX10_want 15 = .ok (.ireturn, 1) := by decide +kernel
theorem dX10_want_16 : decode cX10_want 16 = .ok (.aload_n 0, 1) := by decide +kernel
theorem dX10_want_17 : decode cX10_want 17 = .ok (.getfield 52, 3) := by decide +kernel
theorem dX10_want_20 : decode cX10_want 20 = .ok (.iload_n 1, 1) := by decide +kernel
theorem dX10_want_21 : decode cX10_want 21 = .ok (.invokevirtual 169, 3) := by decide +kernel
theorem dX10_want_24 : decode cX10_want 24 = .ok (.ifCond .eq 12, 3) := by decide +kernel
theorem dX10_want_27 : decode cX10_want 27 = .ok (.iload_n 2, 1) := by decide +kernel
theorem dX10_want_28 : decode cX10_want 28 = .ok (.ifCond .lt 8, 3) := by decide +kernel
theorem dX10_want_31 : decode cX10_want 31 = .ok (.iload_n 2, 1) := by decide +kernel
theorem dX10_want_32 : decode cX10_want 32 = .ok (.iconst 1, 1) := by decide +kernel
theorem dX10_want_33 : decode cX10_want 33 = .ok (.if_icmp .le 6, 3) := by decide +kernel
theorem dX10_want_36 : decode cX10_want 36 = .ok (.bipush (-2), 2) := by decide +kernel
theorem dX10_want_38 : decode cX10_want 38 = .ok (.ireturn, 1) := by decide +kernel
theorem dX10_want_39 : decode cX10_want 39 = .ok (.aload_n 0, 1) := by decide +kernel
theorem dX10_want_40 : decode cX10_want 40 = .ok (.getfield 52, 3) := by decide +kernel
theorem dX10_want_43 : decode cX10_want 43 = .ok (.getfield 213, 3) := by decide +kernel
theorem dX10_want_46 : decode cX10_want 46 = .ok (.iload_n 1, 1) := by decide +kernel
theorem dX10_want_47 : decode cX10_want 47 = .ok (.iload_n 2, 1) := by decide +kernel
theorem dX10_want_48 : decode cX10_want 48 = .ok (.iconst 0, 1) := by decide +kernel
theorem dX10_want_49 : decode cX10_want 49 = .ok (.invokevirtual 222, 3) := by decide +kernel
theorem dX10_want_52 : decode cX10_want 52 = .ok (.ireturn, 1) := by decide +kernel
theorem dX10_cut_0 : decode cX10_cut 0 = .ok (.aload_n 0, 1) := by decide +kernel
theorem dX10_cut_1 : decode cX10_cut 1 = .ok (.getfield 39, 3) := by decide +kernel
theorem dX10_cut_4 : decode cX10_cut 4 = .ok (.aload_n 0, 1) := by decide +kernel
theorem dX10_cut_5 : decode cX10_cut 5 = .ok (.getfield 52, 3) := by decide +kernel
theorem dX10_cut_8 : decode cX10_cut 8 = .ok (.invokevirtual 225, 3) := by decide +kernel
theorem dX10_cut_11 : decode cX10_cut 11 = .ok (.istore_n 2, 1) := by decide +kernel
theorem dX10_cut_12 : decode cX10_cut 12 = .ok (.iload_n 2, 1) := by decide +kernel
theorem dX10_cut_13 : decode cX10_cut 13 = .ok (.ifCond .ge 7, 3) := by decide +kernel
theorem dX10_cut_16 : decode cX10_cut 16 = .ok (.sipush (-1000), 3) := by decide +kernel
theorem dX10_cut_19 : decode cX10_cut 19 = .ok (.ireturn, 1) := by decide +kernel
theorem dX10_cut_20 : decode cX10_cut 20 = .ok (.iload_n 1, 1) := by decide +kernel
theorem dX10_cut_21 : decode cX10_cut 21 = .ok (.ifCond .eq 14, 3) := by decide +kernel
theorem dX10_cut_24 : decode cX10_cut 24 = .ok (.aload_n 0, 1) := by decide +kernel
theorem dX10_cut_25 : decode cX10_cut 25 = .ok (.getfield 52, 3) := by decide +kernel
theorem dX10_cut_28 : decode cX10_cut 28 = .ok (.iload_n 2, 1) := by decide +kernel
theorem dX10_cut_29 : decode cX10_cut 29 = .ok (.invokevirtual 162, 3) := by decide +kernel
theorem dX10_cut_32 : decode cX10_cut 32 = .ok (.goto 4, 3) := by decide +kernel
theorem dX10_cut_35 : decode cX10_cut 35 = .ok (.iload_n 2, 1) := by decide +kernel
theorem dX10_cut_36 : decode cX10_cut 36 = .ok (.ireturn, 1) := by decide +kernel
theorem dX10_board_0 : decode cX10_board 0 = .ok (.iload_n 1, 1) := by decide +kernel
theorem dX10_board_1 : decode cX10_board 1 = .ok (.iconst (-1), 1) := by decide +kernel
theorem dX10_board_2 : decode cX10_board 2 = .ok (.if_icmp .ne 14, 3) := by decide +kernel
theorem dX10_board_5 : decode cX10_board 5 = .ok (.aload_n 0, 1) := by decide +kernel
theorem dX10_board_6 : decode cX10_board 6 = .ok (.getfield 52, 3) := by decide +kernel
theorem dX10_board_9 : decode cX10_board 9 = .ok (.getfield 229, 3) := by decide +kernel
theorem dX10_board_12 : decode cX10_board 12 = .ok (.invokevirtual 217, 3) := by decide +kernel
theorem dX10_board_15 : decode cX10_board 15 = .ok (.ireturn, 1) := by decide +kernel
theorem dX10_board_16 : decode cX10_board 16 = .ok (.iload_n 1, 1) := by decide +kernel
theorem dX10_board_17 : decode cX10_board 17 = .ok (.iconst 1, 1) := by decide +kernel
theorem dX10_board_18 : decode cX10_board 18 = .ok (.if_icmp .lt 9, 3) := by decide +kernel
theorem dX10_board_21 : decode cX10_board 21 = .ok (.iload_n 1, 1) := by decide +kernel
theorem dX10_board_22 : decode cX10_board 22 = .ok (.bipush 99, 2) := by decide +kernel
theorem dX10_board_24 : decode cX10_board 24 = .ok (.if_icmp .le 8, 3) := by decide +kernel
theorem dX10_board_27 : decode cX10_board 27 = .ok (.bipush (-2), 2) := by decide +kernel
theorem dX10_board_29 : decode cX10_board 29 = .ok (.goto 16, 3) := by decide +kernel
theorem dX10_board_32 : decode cX10_board 32 = .ok (.aload_n 0, 1) := by decide +kernel
theorem dX10_board_33 : decode cX10_board 33 = .ok (.getfield 52, 3) := by decide +kernel
theorem dX10_board_36 : decode cX10_board 36 = .ok (.getfield 229, 3) := by decide +kernel
theorem dX10_board_39 : decode cX10_board 39 = .ok (.iload_n 1, 1) := by decide +kernel
theorem dX10_board_40 : decode cX10_board 40 = .ok (.iconst 0, 1) := by decide +kernel
theorem dX10_board_41 : decode cX10_board 41 = .ok (.iconst 0, 1) := by decide +kernel
theorem dX10_board_42 : decode cX10_board 42 = .ok (.invokevirtual 222, 3) := by decide +kernel
theorem dX10_board_45 : decode cX10_board 45 = .ok (.ireturn, 1) := by decide +kernel
theorem dX10_hands_0 : decode cX10_hands 0 = .ok (.iload_n 1, 1) := by decide +kernel
theorem dX10_hands_1 : decode cX10_hands 1 = .ok (.iconst 1, 1) := by decide +kernel
theorem dX10_hands_2 : decode cX10_hands 2 = .ok (.if_icmp .lt 27, 3) := by decide +kernel
theorem dX10_hands_5 : decode cX10_hands 5 = .ok (.iload_n 1, 1) := by decide +kernel
theorem dX10_hands_6 : decode cX10_hands 6 = .ok (.iconst 4, 1) := by decide +kernel
theorem dX10_hands_7 : decode cX10_hands 7 = .ok (.if_icmp .gt 22, 3) := by decide +kernel
theorem dX10_hands_10 : decode cX10_hands 10 = .ok (.iload_n 2, 1) := by decide +kernel
theorem dX10_hands_11 : decode cX10_hands 11 = .ok (.iconst (-1), 1) := by decide +kernel
theorem dX10_hands_12 : decode cX10_hands 12 = .ok (.if_icmp .lt 17, 3) := by decide +kernel
theorem dX10_hands_15 : decode cX10_hands 15 = .ok (.iload_n 2, 1) := by decide +kernel
theorem dX10_hands_16 : decode cX10_hands 16 = .ok (.aload_n 0, 1) := by decide +kernel
theorem dX10_hands_17 : decode cX10_hands 17 = .ok (.getfield 52, 3) := by decide +kernel
theorem dX10_hands_20 : decode cX10_hands 20 = .ok (.getfield 229, 3) := by decide +kernel
theorem dX10_hands_23 : decode cX10_hands 23 = .ok (.getfield 232, 3) := by decide +kernel
theorem dX10_hands_26 : decode cX10_hands 26 = .ok (.if_icmp .lt 6, 3) := by decide +kernel
theorem dX10_hands_29 : decode cX10_hands 29 = .ok (.bipush (-2), 2) := by decide +kernel
theorem dX10_hands_31 : decode cX10_hands 31 = .ok (.ireturn, 1) := by decide +kernel
theorem dX10_hands_32 : decode cX10_hands 32 = .ok (.aload_n 0, 1) := by decide +kernel
theorem dX10_hands_33 : decode cX10_hands 33 = .ok (.getfield 25, 3) := by decide +kernel
theorem dX10_hands_36 : decode cX10_hands 36 = .ok (.aload_n 0, 1) := by decide +kernel
theorem dX10_hands_37 : decode cX10_hands 37 = .ok (.getfield 52, 3) := by decide +kernel
theorem dX10_hands_40 : decode cX10_hands 40 = .ok (.getfield 229, 3) := by decide +kernel
theorem dX10_hands_43 : decode cX10_hands 43 = .ok (.iload_n 1, 1) := by decide +kernel
theorem dX10_hands_44 : decode cX10_hands 44 = .ok (.invokevirtual 235, 3) := by decide +kernel
theorem dX10_hands_47 : decode cX10_hands 47 = .ok (.iload_n 2, 1) := by decide +kernel
theorem dX10_hands_48 : decode cX10_hands 48 = .ok (.iconst (-1), 1) := by decide +kernel
theorem dX10_hands_49 : decode cX10_hands 49 = .ok (.if_icmp .ne 13, 3) := by decide +kernel
theorem dX10_hands_52 : decode cX10_hands 52 = .ok (.aload_n 0, 1) := by decide +kernel
theorem dX10_hands_53 : decode cX10_hands 53 = .ok (.getfield 25, 3) := by decide +kernel
theorem dX10_hands_56 : decode cX10_hands 56 = .ok (.getfield 239, 3) := by decide +kernel
theorem dX10_hands_59 : decode cX10_hands 59 = .ok (.goto 12, 3) := by decide +kernel
theorem dX10_hands_62 : decode cX10_hands 62 = .ok (.aload_n 0, 1) := by decide +kernel
theorem dX10_hands_63 : decode cX10_hands 63 = .ok (.getfield 25, 3) := by decide +kernel
theorem dX10_hands_66 : decode cX10_hands 66 = .ok (.getfield 242, 3) := by decide +kernel
theorem dX10_hands_69 : decode cX10_hands 69 = .ok (.iload_n 2, 1) := by decide +kernel
theorem dX10_hands_70 : decode cX10_hands 70 = .ok (.iaload, 1) := by decide +kernel
theorem dX10_hands_71 : decode cX10_hands 71 = .ok (.ireturn, 1) := by decide +kernel
theorem dX10_flat_0 : decode cX10_flat 0 = .ok (.aload_n 0, 1) := by decide +kernel
theorem dX10_flat_1 : decode cX10_flat 1 = .ok (.getfield 52, 3) := by decide +kernel
theorem dX10_flat_4 : decode cX10_flat 4 = .ok (.iload_n 1, 1) := by decide +kernel
theorem dX10_flat_5 : decode cX10_flat 5 = .ok (.invokevirtual 147, 3) := by decide +kernel
theorem dX10_flat_8 : decode cX10_flat 8 = .ok (.ifCond .eq 24, 3) := by decide +kernel
theorem dX10_flat_11 : decode cX10_flat 11 = .ok (.iload_n 2, 1) := by decide +kernel
theorem dX10_flat_12 : decode cX10_flat 12 = .ok (.ifCond .lt 20, 3) := by decide +kernel
theorem dX10_flat_15 : decode cX10_flat 15 = .ok (.iload_n 2, 1) := by decide +kernel
theorem dX10_flat_16 : decode cX10_flat 16 = .ok (.bipush 12, 2) := by decide +kernel
theorem dX10_flat_18 : decode cX10_flat 18 = .ok (.if_icmp .gt 14, 3) := by decide +kernel
theorem dX10_flat_21 : decode cX10_flat 21 = .ok (.iload_n 3, 1) := by decide +kernel
theorem dX10_flat_22 : decode cX10_flat 22 = .ok (.iconst 1, 1) := by decide +kernel
theorem dX10_flat_23 : decode cX10_flat 23 = .ok (.if_icmp .lt 9, 3) := by decide +kernel
theorem dX10_flat_26 : decode cX10_flat 26 = .ok (.iload_n 3, 1) := by decide +kernel
theorem dX10_flat_27 : decode cX10_flat 27 = .ok (.bipush 100, 2) := by decide +kernel
theorem dX10_flat_29 : decode cX10_flat 29 = .ok (.if_icmp .le 5, 3) := by decide +kernel
theorem dX10_flat_32 : decode cX10_flat 32 = .ok (.iconst (-1), 1) := by decide +kernel
theorem dX10_flat_33 : decode cX10_flat 33 = .ok (.ireturn, 1) := by decide +kernel
theorem dX10_flat_34 : decode cX10_flat 34 = .ok (.aload_n 0, 1) := by decide +kernel
theorem dX10_flat_35 : decode cX10_flat 35 = .ok (.getfield 39, 3) := by decide +kernel
theorem dX10_flat_38 : decode cX10_flat 38 = .ok (.aload_n 0, 1) := by decide +kernel
theorem dX10_flat_39 : decode cX10_flat 39 = .ok (.getfield 52, 3) := by decide +kernel
theorem dX10_flat_42 : decode cX10_flat 42 = .ok (.iload_n 1, 1) := by decide +kernel
theorem dX10_flat_43 : decode cX10_flat 43 = .ok (.iload_n 2, 1) := by decide +kernel
theorem dX10_flat_44 : decode cX10_flat 44 = .ok (.iload_n 3, 1) := by decide +kernel
theorem dX10_flat_45 : decode cX10_flat 45 = .ok (.invokevirtual 245, 3) := by decide +kernel
theorem dX10_flat_48 : decode cX10_flat 48 = .ok (.ireturn, 1) := by decide +kernel
theorem dX10_seam_0 : decode cX10_seam 0 = .ok (.iload_n 1, 1) := by decide +kernel
theorem dX10_seam_1 : decode cX10_seam 1 = .ok (.iconst (-1), 1) := by decide +kernel
theorem dX10_seam_2 : decode cX10_seam 2 = .ok (.if_icmp .ne 14, 3) := by decide +kernel
theorem dX10_seam_5 : decode cX10_seam 5 = .ok (.aload_n 0, 1) := by decide +kernel
theorem dX10_seam_6 : decode cX10_seam 6 = .ok (.getfield 52, 3) := by decide +kernel
theorem dX10_seam_9 : decode cX10_seam 9 = .ok (.getfield 249, 3) := by decide +kernel
theorem dX10_seam_12 : decode cX10_seam 12 = .ok (.invokevirtual 217, 3) := by decide +kernel
theorem dX10_seam_15 : decode cX10_seam 15 = .ok (.ireturn, 1) := by decide +kernel
theorem dX10_seam_16 : decode cX10_seam 16 = .ok (.iload_n 1, 1) := by decide +kernel
theorem dX10_seam_17 : decode cX10_seam 17 = .ok (.ifCond .lt 25, 3) := by decide +kernel
theorem dX10_seam_20 : decode cX10_seam 20 = .ok (.iload_n 2, 1) := by decide +kernel
theorem dX10_seam_21 : decode cX10_seam 21 = .ok (.bipush 99, 2) := by decide +kernel
theorem dX10_seam_23 : decode cX10_seam 23 = .ok (.if_icmp .gt 19, 3) := by decide +kernel
theorem dX10_seam_26 : decode cX10_seam 26 = .ok (.iload_n 1, 1) := by decide +kernel
theorem dX10_seam_27 : decode cX10_seam 27 = .ok (.iload_n 2, 1) := by decide +kernel
theorem dX10_seam_28 : decode cX10_seam 28 = .ok (.if_icmp .gt 14, 3) := by decide +kernel
theorem dX10_seam_31 : decode cX10_seam 31 = .ok (.iload_n 3, 1) := by decide +kernel
theorem dX10_seam_32 : decode cX10_seam 32 = .ok (.ifCond .lt 10, 3) := by decide +kernel
theorem dX10_seam_35 : decode cX10_seam 35 = .ok (.iload_n 3, 1) := by decide +kernel
theorem dX10_seam_36 : decode cX10_seam 36 = .ok (.sipush 999, 3) := by decide +kernel
theorem dX10_seam_39 : decode cX10_seam 39 = .ok (.if_icmp .le 6, 3) := by decide +kernel
theorem dX10_seam_42 : decode cX10_seam 42 = .ok (.bipush (-2), 2) := by decide +kernel
theorem dX10_seam_44 : decode cX10_seam 44 = .ok (.ireturn, 1) := by decide +kernel
theorem dX10_seam_45 : decode cX10_seam 45 = .ok (.aload_n 0, 1) := by decide +kernel
theorem dX10_seam_46 : decode cX10_seam 46 = .ok (.getfield 52, 3) := by decide +kernel
theorem dX10_seam_49 : decode cX10_seam 49 = .ok (.getfield 249, 3) := by decide +kernel
theorem dX10_seam_52 : decode cX10_seam 52 = .ok (.iload_n 1, 1) := by decide +kernel
theorem dX10_seam_53 : decode cX10_seam 53 = .ok (.iload_n 2, 1) := by decide +kernel
theorem dX10_seam_54 : decode cX10_seam 54 = .ok (.iload_n 3, 1) := by decide +kernel
theorem dX10_seam_55 : decode cX10_seam 55 = .ok (.invokevirtual 222, 3) := by decide +kernel
theorem dX10_seam_58 : decode cX10_seam 58 = .ok (.ireturn, 1) := by decide +kernel
theorem dX10_sets_0 : decode cX10_sets 0 = .ok (.aload_n 0, 1) := by decide +kernel
theorem dX10_sets_1 : decode cX10_sets 1 = .ok (.getfield 52, 3) := by decide +kernel
theorem dX10_sets_4 : decode cX10_sets 4 = .ok (.iload_n 1, 1) := by decide +kernel
theorem dX10_sets_5 : decode cX10_sets 5 = .ok (.invokevirtual 147, 3) := by decide +kernel
theorem dX10_sets_8 : decode cX10_sets 8 = .ok (.ifCond .eq 12, 3) := by decide +kernel
theorem dX10_sets_11 : decode cX10_sets 11 = .ok (.iload_n 2, 1) := by decide +kernel
theorem dX10_sets_12 : decode cX10_sets 12 = .ok (.ifCond .lt 8, 3) := by decide +kernel
theorem dX10_sets_15 : decode cX10_sets 15 = .ok (.iload_n 2, 1) := by decide +kernel
theorem dX10_sets_16 : decode cX10_sets 16 = .ok (.iconst 2, 1) := by decide +kernel
theorem dX10_sets_17 : decode cX10_sets 17 = .ok (.if_icmp .le 5, 3) := by decide +kernel
theorem dX10_sets_20 : decode cX10_sets 20 = .ok (.iconst (-1), 1) := by decide +kernel
theorem dX10_sets_21 : decode cX10_sets 21 = .ok (.ireturn, 1) := by decide +kernel
theorem dX10_sets_22 : decode cX10_sets 22 = .ok (.aload_n 0, 1) := by decide +kernel
theorem dX10_sets_23 : decode cX10_sets 23 = .ok (.getfield 32, 3) := by decide +kernel
theorem dX10_sets_26 : decode cX10_sets 26 = .ok (.aload_n 0, 1) := by decide +kernel
theorem dX10_sets_27 : decode cX10_sets 27 = .ok (.getfield 52, 3) := by decide +kernel
theorem dX10_sets_30 : decode cX10_sets 30 = .ok (.iload_n 1, 1) := by decide +kernel
theorem dX10_sets_31 : decode cX10_sets 31 = .ok (.invokevirtual 252, 3) := by decide +kernel
theorem dX10_sets_34 : decode cX10_sets 34 = .ok (.iload_n 2, 1) := by decide +kernel
theorem dX10_sets_35 : decode cX10_sets 35 = .ok (.ifCond .ne 11, 3) := by decide +kernel
theorem dX10_sets_38 : decode cX10_sets 38 = .ok (.aload_n 0, 1) := by decide +kernel
theorem dX10_sets_39 : decode cX10_sets 39 = .ok (.getfield 32, 3) := by decide +kernel
theorem dX10_sets_42 : decode cX10_sets 42 = .ok (.getfield 256, 3) := by decide +kernel
theorem dX10_sets_45 : decode cX10_sets 45 = .ok (.ireturn, 1) := by decide +kernel
theorem dX10_sets_46 : decode cX10_sets 46 = .ok (.iload_n 2, 1) := by decide +kernel
theorem dX10_sets_47 : decode cX10_sets 47 = .ok (.iconst 1, 1) := by decide +kernel
theorem dX10_sets_48 : decode cX10_sets 48 = .ok (.if_icmp .ne 13, 3) := by decide +kernel
theorem dX10_sets_51 : decode cX10_sets 51 = .ok (.aload_n 0, 1) := by decide +kernel
theorem dX10_sets_52 : decode cX10_sets 52 = .ok (.getfield 32, 3) := by decide +kernel
theorem dX10_sets_55 : decode cX10_sets 55 = .ok (.invokevirtual 259, 3) := by decide +kernel
theorem dX10_sets_58 : decode cX10_sets 58 = .ok (.goto 10, 3) := by decide +kernel
theorem dX10_sets_61 : decode cX10_sets 61 = .ok (.aload_n 0, 1) := by decide +kernel
theorem dX10_sets_62 : decode cX10_sets 62 = .ok (.getfield 32, 3) := by decide +kernel
theorem dX10_sets_65 : decode cX10_sets 65 = .ok (.invokevirtual 262, 3) := by decide +kernel
theorem dX10_sets_68 : decode cX10_sets 68 = .ok (.ireturn, 1) := by decide +kernel
theorem dX10_next_0 : decode cX10_next 0 = .ok (.aload_n 0, 1) := by decide +kernel
theorem dX10_next_1 : decode cX10_next 1 = .ok (.getfield 52, 3) := by decide +kernel
theorem dX10_next_4 : decode cX10_next 4 = .ok (.iload_n 1, 1) := by decide +kernel
theorem dX10_next_5 : decode cX10_next 5 = .ok (.invokevirtual 147, 3) := by decide +kernel
theorem dX10_next_8 : decode cX10_next 8 = .ok (.ifCond .ne 5, 3) := by decide +kernel
theorem dX10_next_11 : decode cX10_next 11 = .ok (.iconst (-1), 1) := by decide +kernel
theorem dX10_next_12 : decode cX10_next 12 = .ok (.ireturn, 1) := by decide +kernel
theorem dX10_next_13 : decode cX10_next 13 = .ok (.aload_n 0, 1) := by decide +kernel
theorem dX10_next_14 : decode cX10_next 14 = .ok (.getfield 32, 3) := by decide +kernel
theorem dX10_next_17 : decode cX10_next 17 = .ok (.aload_n 0, 1) := by decide +kernel
theorem dX10_next_18 : decode cX10_next 18 = .ok (.getfield 52, 3) := by decide +kernel
theorem dX10_next_21 : decode cX10_next 21 = .ok (.iload_n 1, 1) := by decide +kernel
theorem dX10_next_22 : decode cX10_next 22 = .ok (.invokevirtual 252, 3) := by decide +kernel
theorem dX10_next_25 : decode cX10_next 25 = .ok (.aload_n 0, 1) := by decide +kernel
theorem dX10_next_26 : decode cX10_next 26 = .ok (.getfield 32, 3) := by decide +kernel
theorem dX10_next_29 : decode cX10_next 29 = .ok (.invokevirtual 265, 3) := by decide +kernel
theorem dX10_next_32 : decode cX10_next 32 = .ok (.ireturn, 1) := by decide +kernel
theorem dX10_heir_0 : decode cX10_heir 0 = .ok (.iload_n 1, 1) := by decide +kernel
theorem dX10_heir_1 : decode cX10_heir 1 = .ok (.iconst (-1), 1) := by decide +kernel
theorem dX10_heir_2 : decode cX10_heir 2 = .ok (.if_icmp .ne 14, 3) := by decide +kernel
theorem dX10_heir_5 : decode cX10_heir 5 = .ok (.aload_n 0, 1) := by decide +kernel
theorem dX10_heir_6 : decode cX10_heir 6 = .ok (.getfield 52, 3) := by decide +kernel
theorem dX10_heir_9 : decode cX10_heir 9 = .ok (.getfield 268, 3) := by decide +kernel
theorem dX10_heir_12 : decode cX10_heir 12 = .ok (.invokevirtual 217, 3) := by decide +kernel
theorem dX10_heir_15 : decode cX10_heir 15 = .ok (.ireturn, 1) := by decide +kernel
theorem dX10_heir_16 : decode cX10_heir 16 = .ok (.iload_n 1, 1) := by decide +kernel
theorem dX10_heir_17 : decode cX10_heir 17 = .ok (.iconst 1, 1) := by decide +kernel
theorem dX10_heir_18 : decode cX10_heir 18 = .ok (.if_icmp .lt 10, 3) := by decide +kernel
theorem dX10_heir_21 : decode cX10_heir 21 = .ok (.iload_n 1, 1) := by decide +kernel
theorem dX10_heir_22 : decode cX10_heir 22 = .ok (.sipush 999, 3) := by decide +kernel
theorem dX10_heir_25 : decode cX10_heir 25 = .ok (.if_icmp .le 8, 3) := by decide +kernel
theorem dX10_heir_28 : decode cX10_heir 28 = .ok (.bipush (-2), 2) := by decide +kernel
theorem dX10_heir_30 : decode cX10_heir 30 = .ok (.goto 16, 3) := by decide +kernel
theorem dX10_heir_33 : decode cX10_heir 33 = .ok (.aload_n 0, 1) := by decide +kernel
theorem dX10_heir_34 : decode cX10_heir 34 = .ok (.getfield 52, 3) := by decide +kernel
theorem dX10_heir_37 : decode cX10_heir 37 = .ok (.getfield 268, 3) := by decide +kernel
theorem dX10_heir_40 : decode cX10_heir 40 = .ok (.iload_n 1, 1) := by decide +kernel
theorem dX10_heir_41 : decode cX10_heir 41 = .ok (.iconst 0, 1) := by decide +kernel
theorem dX10_heir_42 : decode cX10_heir 42 = .ok (.iconst 0, 1) := by decide +kernel
theorem dX10_heir_43 : decode cX10_heir 43 = .ok (.invokevirtual 222, 3) := by decide +kernel
theorem dX10_heir_46 : decode cX10_heir 46 = .ok (.ireturn, 1) := by decide +kernel
theorem dX10_laughs_0 : decode cX10_laughs 0 = .ok (.iload_n 1, 1) := by decide +kernel
theorem dX10_laughs_1 : decode cX10_laughs 1 = .ok (.ifCond .lt 27, 3) := by decide +kernel
theorem dX10_laughs_4 : decode cX10_laughs 4 = .ok (.iload_n 1, 1) := by decide +kernel
theorem dX10_laughs_5 : decode cX10_laughs 5 = .ok (.bipush 99, 2) := by decide +kernel
theorem dX10_laughs_7 : decode cX10_laughs 7 = .ok (.if_icmp .gt 21, 3) := by decide +kernel
theorem dX10_laughs_10 : decode cX10_laughs 10 = .ok (.iload_n 3, 1) := by decide +kernel
theorem dX10_laughs_11 : decode cX10_laughs 11 = .ok (.ifCond .lt 17, 3) := by decide +kernel
theorem dX10_laughs_14 : decode cX10_laughs 14 = .ok (.iload_n 3, 1) := by decide +kernel
theorem dX10_laughs_15 : decode cX10_laughs 15 = .ok (.aload_n 0, 1) := by decide +kernel
theorem dX10_laughs_16 : decode cX10_laughs 16 = .ok (.getfield 52, 3) := by decide +kernel
theorem dX10_laughs_19 : decode cX10_laughs 19 = .ok (.getfield 268, 3) := by decide +kernel
theorem dX10_laughs_22 : decode cX10_laughs 22 = .ok (.getfield 232, 3) := by decide +kernel
theorem dX10_laughs_25 : decode cX10_laughs 25 = .ok (.if_icmp .lt 5, 3) := by decide +kernel
theorem dX10_laughs_28 : decode cX10_laughs 28 = .ok (.iconst (-1), 1) := by decide +kernel
theorem dX10_laughs_29 : decode cX10_laughs 29 = .ok (.ireturn, 1) := by decide +kernel
theorem dX10_laughs_30 : decode cX10_laughs 30 = .ok (.iload_n 2, 1) := by decide +kernel
theorem dX10_laughs_31 : decode cX10_laughs 31 = .ok (.ifCond .eq 22, 3) := by decide +kernel
theorem dX10_laughs_34 : decode cX10_laughs 34 = .ok (.aload_n 0, 1) := by decide +kernel
theorem dX10_laughs_35 : decode cX10_laughs 35 = .ok (.getfield 39, 3) := by decide +kernel
theorem dX10_laughs_38 : decode cX10_laughs 38 = .ok (.aload_n 0, 1) := by decide +kernel
theorem dX10_laughs_39 : decode cX10_laughs 39 = .ok (.getfield 52, 3) := by decide +kernel
theorem dX10_laughs_42 : decode cX10_laughs 42 = .ok (.getfield 268, 3) := by decide +kernel
theorem dX10_laughs_45 : decode cX10_laughs 45 = .ok (.iload_n 1, 1) := by decide +kernel
theorem dX10_laughs_46 : decode cX10_laughs 46 = .ok (.iload_n 3, 1) := by decide +kernel
theorem dX10_laughs_47 : decode cX10_laughs 47 = .ok (.invokevirtual 271, 3) := by decide +kernel
theorem dX10_laughs_50 : decode cX10_laughs 50 = .ok (.goto 19, 3) := by decide +kernel
theorem dX10_laughs_53 : decode cX10_laughs 53 = .ok (.aload_n 0, 1) := by decide +kernel
theorem dX10_laughs_54 : decode cX10_laughs 54 = .ok (.getfield 39, 3) := by decide +kernel
theorem dX10_laughs_57 : decode cX10_laughs 57 = .ok (.aload_n 0, 1) := by decide +kernel
theorem dX10_laughs_58 : decode cX10_laughs 58 = .ok (.getfield 52, 3) := by decide +kernel
theorem dX10_laughs_61 : decode cX10_laughs 61 = .ok (.getfield 268, 3) := by decide +kernel
theorem dX10_laughs_64 : decode cX10_laughs 64 = .ok (.iload_n 1, 1) := by decide +kernel
theorem dX10_laughs_65 : decode cX10_laughs 65 = .ok (.iload_n 3, 1) := by decide +kernel
theorem dX10_laughs_66 : decode cX10_laughs 66 = .ok (.invokevirtual 275, 3) := by decide +kernel
theorem dX10_laughs_69 : decode cX10_laughs 69 = .ok (.ireturn, 1) := by decide +kernel
theorem dX10_offer_0 : decode cX10_offer 0 = .ok (.iload_n 1, 1) := by decide +kernel
theorem dX10_offer_1 : decode cX10_offer 1 = .ok (.iconst (-1), 1) := by decide +kernel
theorem dX10_offer_2 : decode cX10_offer 2 = .ok (.if_icmp .ne 14, 3) := by decide +kernel
theorem dX10_offer_5 : decode cX10_offer 5 = .ok (.aload_n 0, 1) := by decide +kernel
theorem dX10_offer_6 : decode cX10_offer 6 = .ok (.getfield 52, 3) := by decide +kernel
theorem dX10_offer_9 : decode cX10_offer 9 = .ok (.getfield 278, 3) := by decide +kernel
theorem dX10_offer_12 : decode cX10_offer 12 = .ok (.invokevirtual 217, 3) := by decide +kernel
theorem dX10_offer_15 : decode cX10_offer 15 = .ok (.ireturn, 1) := by decide +kernel
theorem dX10_offer_16 : decode cX10_offer 16 = .ok (.iload_n 1, 1) := by decide +kernel
theorem dX10_offer_17 : decode cX10_offer 17 = .ok (.ifCond .lt 10, 3) := by decide +kernel
theorem dX10_offer_20 : decode cX10_offer 20 = .ok (.iload_n 1, 1) := by decide +kernel
theorem dX10_offer_21 : decode cX10_offer 21 = .ok (.sipush 999, 3) := by decide +kernel
theorem dX10_offer_24 : decode cX10_offer 24 = .ok (.if_icmp .le 8, 3) := by decide +kernel
theorem dX10_offer_27 : decode cX10_offer 27 = .ok (.bipush (-2), 2) := by decide +kernel
theorem dX10_offer_29 : decode cX10_offer 29 = .ok (.goto 16, 3) := by decide +kernel
theorem dX10_offer_32 : decode cX10_offer 32 = .ok (.aload_n 0, 1) := by decide +kernel
theorem dX10_offer_33 : decode cX10_offer 33 = .ok (.getfield 52, 3) := by decide +kernel
theorem dX10_offer_36 : decode cX10_offer 36 = .ok (.getfield 278, 3) := by decide +kernel
theorem dX10_offer_39 : decode cX10_offer 39 = .ok (.iload_n 1, 1) := by decide +kernel
theorem dX10_offer_40 : decode cX10_offer 40 = .ok (.iconst 0, 1) := by decide +kernel
theorem dX10_offer_41 : decode cX10_offer 41 = .ok (.iconst 0, 1) := by decide +kernel
theorem dX10_offer_42 : decode cX10_offer 42 = .ok (.invokevirtual 222, 3) := by decide +kernel
theorem dX10_offer_45 : decode cX10_offer 45 = .ok (.ireturn, 1) := by decide +kernel
theorem dX10_price_0 : decode cX10_price 0 = .ok (.aload_n 0, 1) := by decide +kernel
theorem dX10_price_1 : decode cX10_price 1 = .ok (.getfield 39, 3) := by decide +kernel
theorem dX10_price_4 : decode cX10_price 4 = .ok (.aload_n 0, 1) := by decide +kernel
theorem dX10_price_5 : decode cX10_price 5 = .ok (.getfield 52, 3) := by decide +kernel
theorem dX10_price_8 : decode cX10_price 8 = .ok (.getfield 278, 3) := by decide +kernel
theorem dX10_price_11 : decode cX10_price 11 = .ok (.invokevirtual 281, 3) := by decide +kernel
theorem dX10_price_14 : decode cX10_price 14 = .ok (.istore_n 2, 1) := by decide +kernel
theorem dX10_price_15 : decode cX10_price 15 = .ok (.iload_n 1, 1) := by decide +kernel
theorem dX10_price_16 : decode cX10_price 16 = .ok (.ifCond .eq 21, 3) := by decide +kernel
theorem dX10_price_19 : decode cX10_price 19 = .ok (.aload_n 0, 1) := by decide +kernel
theorem dX10_price_20 : decode cX10_price 20 = .ok (.getfield 39, 3) := by decide +kernel
theorem dX10_price_23 : decode cX10_price 23 = .ok (.aload_n 0, 1) := by decide +kernel
theorem dX10_price_24 : decode cX10_price 24 = .ok (.getfield 52, 3) := by decide +kernel
theorem dX10_price_27 : decode cX10_price 27 = .ok (.getfield 278, 3) := by decide +kernel
theorem dX10_price_30 : decode cX10_price 30 = .ok (.iload_n 2, 1) := by decide +kernel
theorem dX10_price_31 : decode cX10_price 31 = .ok (.invokevirtual 285, 3) := by decide +kernel
theorem dX10_price_34 : decode cX10_price 34 = .ok (.goto 4, 3) := by decide +kernel
theorem dX10_price_37 : decode cX10_price 37 = .ok (.iload_n 2, 1) := by decide +kernel
theorem dX10_price_38 : decode cX10_price 38 = .ok (.ireturn, 1) := by decide +kernel
theorem dX10_wrongly_0 : decode cX10_wrongly 0 = .ok (.iload_n 1, 1) := by decide +kernel
theorem dX10_wrongly_1 : decode cX10_wrongly 1 = .ok (.iconst 1, 1) := by decide +kernel
theorem dX10_wrongly_2 : decode cX10_wrongly 2 = .ok (.if_icmp .lt 41, 3) := by decide +kernel
theorem dX10_wrongly_5 : decode cX10_wrongly 5 = .ok (.iload_n 1, 1) := by decide +kernel
theorem dX10_wrongly_6 : decode cX10_wrongly 6 = .ok (.bipush 9, 2) := by decide +kernel
theorem dX10_wrongly_8 : decode cX10_wrongly 8 = .ok (.if_icmp .gt 35, 3) := by decide +kernel
theorem dX10_wrongly_11 : decode cX10_wrongly 11 = .ok (.iload_n 2, 1) := by decide +kernel
theorem dX10_wrongly_12 : decode cX10_wrongly 12 = .ok (.ifCond .lt 31, 3) := by decide +kernel
theorem dX10_wrongly_15 : decode cX10_wrongly 15 = .ok (.iload_n 2, 1) := by decide +kernel
theorem dX10_wrongly_16 : decode cX10_wrongly 16 = .ok (.bipush 9, 2) := by decide +kernel
theorem dX10_wrongly_18 : decode cX10_wrongly 18 = .ok (.if_icmp .gt 25, 3) := by decide +kernel
theorem dX10_wrongly_21 : decode cX10_wrongly 21 = .ok (.iload_n 3, 1) := by decide +kernel
theorem dX10_wrongly_22 : decode cX10_wrongly 22 = .ok (.ifCond .lt 21, 3) := by decide +kernel
theorem dX10_wrongly_25 : decode cX10_wrongly 25 = .ok (.iload_n 3, 1) := by decide +kernel
theorem dX10_wrongly_26 : decode cX10_wrongly 26 = .ok (.bipush 10, 2) := by decide +kernel
theorem dX10_wrongly_28 : decode cX10_wrongly 28 = .ok (.if_icmp .gt 15, 3) := by decide +kernel
theorem dX10_wrongly_31 : decode cX10_wrongly 31 = .ok (.iload 4, 2) := by decide +kernel
theorem dX10_wrongly_33 : decode cX10_wrongly 33 = .ok (.ifCond .lt 10, 3) := by decide +kernel
theorem dX10_wrongly_36 : decode cX10_wrongly 36 = .ok (.iload 4, 2) := by decide +kernel
theorem dX10_wrongly_38 : decode cX10_wrongly 38 = .ok (.bipush 10, 2) := by decide +kernel
theorem dX10_wrongly_40 : decode cX10_wrongly 40 = .ok (.if_icmp .le 7, 3) := by decide +kernel
theorem dX10_wrongly_43 : decode cX10_wrongly 43 = .ok (.ldc2_w 289, 3) := by decide +kernel
theorem dX10_wrongly_46 : decode cX10_wrongly 46 = .ok (.lreturn, 1) := by decide +kernel
theorem dX10_wrongly_47 : decode cX10_wrongly 47 = .ok (.aload_n 0, 1) := by decide +kernel
theorem dX10_wrongly_48 : decode cX10_wrongly 48 = .ok (.getfield 39, 3) := by decide +kernel
theorem dX10_wrongly_51 : decode cX10_wrongly 51 = .ok (.iload_n 1, 1) := by decide +kernel
theorem dX10_wrongly_52 : decode cX10_wrongly 52 = .ok (.iload_n 2, 1) := by decide +kernel
theorem dX10_wrongly_53 : decode cX10_wrongly 53 = .ok (.iload_n 3, 1) := by decide +kernel
theorem dX10_wrongly_54 : decode cX10_wrongly 54 = .ok (.bipush 10, 2) := by decide +kernel
theorem dX10_wrongly_56 : decode cX10_wrongly 56 = .ok (.iload 4, 2) := by decide +kernel
theorem dX10_wrongly_58 : decode cX10_wrongly 58 = .ok (.isub, 1) := by decide +kernel
theorem dX10_wrongly_59 : decode cX10_wrongly 59 = .ok (.imul, 1) := by decide +kernel
theorem dX10_wrongly_60 : decode cX10_wrongly 60 = .ok (.invokevirtual 291, 3) := by decide +kernel
theorem dX10_wrongly_63 : decode cX10_wrongly 63 = .ok (.lstore 6, 2) := by decide +kernel
theorem dX10_wrongly_65 : decode cX10_wrongly 65 = .ok (.aload_n 0, 1) := by decide +kernel
theorem dX10_wrongly_66 : decode cX10_wrongly 66 = .ok (.getfield 39, 3) := by decide +kernel
theorem dX10_wrongly_69 : decode cX10_wrongly 69 = .ok (.ldc2_w 295, 3) := by decide +kernel
theorem dX10_wrongly_72 : decode cX10_wrongly 72 = .ok (.iload_n 1, 1) := by decide +kernel
theorem dX10_wrongly_73 : decode cX10_wrongly 73 = .ok (.invokevirtual 297, 3) := by decide +kernel
theorem dX10_wrongly_76 : decode cX10_wrongly 76 = .ok (.lstore 8, 2) := by decide +kernel
theorem dX10_wrongly_78 : decode cX10_wrongly 78 = .ok (.aload_n 0, 1) := by decide +kernel
theorem dX10_wrongly_79 : decode cX10_wrongly 79 = .ok (.getfield 39, 3) := by decide +kernel
theorem dX10_wrongly_82 : decode cX10_wrongly 82 = .ok (.lload 6, 2) := by decide +kernel
theorem dX10_wrongly_84 : decode cX10_wrongly 84 = .ok (.lload 8, 2) := by decide +kernel
theorem dX10_wrongly_86 : decode cX10_wrongly 86 = .ok (.invokevirtual 301, 3) := by decide +kernel
theorem dX10_wrongly_89 : decode cX10_wrongly 89 = .ok (.lstore 10, 2) := by decide +kernel
theorem dX10_wrongly_91 : decode cX10_wrongly 91 = .ok (.iload 5, 2) := by decide +kernel
theorem dX10_wrongly_93 : decode cX10_wrongly 93 = .ok (.ifCond .eq 8, 3) := by decide +kernel
theorem dX10_wrongly_96 : decode cX10_wrongly 96 = .ok (.lload 8, 2) := by decide +kernel
theorem dX10_wrongly_98 : decode cX10_wrongly 98 = .ok (.goto 5, 3) := by decide +kernel
theorem dX10_wrongly_101 : decode cX10_wrongly 101 = .ok (.lload 6, 2) := by decide +kernel
theorem dX10_wrongly_103 : decode cX10_wrongly 103 = .ok (.lload 10, 2) := by decide +kernel
theorem dX10_wrongly_105 : decode cX10_wrongly 105 = .ok (.lconst 0, 1) := by decide +kernel
theorem dX10_wrongly_106 : decode cX10_wrongly 106 = .ok (.lcmp, 1) := by decide +kernel
theorem dX10_wrongly_107 : decode cX10_wrongly 107 = .ok (.ifCond .ne 7, 3) := by decide +kernel
theorem dX10_wrongly_110 : decode cX10_wrongly 110 = .ok (.lconst 1, 1) := by decide +kernel
theorem dX10_wrongly_111 : decode cX10_wrongly 111 = .ok (.goto 5, 3) := by decide +kernel
theorem dX10_wrongly_114 : decode cX10_wrongly 114 = .ok (.lload 10, 2) := by decide +kernel
theorem dX10_wrongly_116 : decode cX10_wrongly 116 = .ok (.ldiv, 1) := by decide +kernel
theorem dX10_wrongly_117 : decode cX10_wrongly 117 = .ok (.lreturn, 1) := by decide +kernel
theorem dX10_priced_0 : decode cX10_priced 0 = .ok (.iload_n 1, 1) := by decide +kernel
theorem dX10_priced_1 : decode cX10_priced 1 = .ok (.iconst (-1), 1) := by decide +kernel
theorem dX10_priced_2 : decode cX10_priced 2 = .ok (.if_icmp .ne 14, 3) := by decide +kernel
theorem dX10_priced_5 : decode cX10_priced 5 = .ok (.aload_n 0, 1) := by decide +kernel
theorem dX10_priced_6 : decode cX10_priced 6 = .ok (.getfield 52, 3) := by decide +kernel
theorem dX10_priced_9 : decode cX10_priced 9 = .ok (.getfield 305, 3) := by decide +kernel
theorem dX10_priced_12 : decode cX10_priced 12 = .ok (.invokevirtual 217, 3) := by decide +kernel
theorem dX10_priced_15 : decode cX10_priced 15 = .ok (.ireturn, 1) := by decide +kernel
theorem dX10_priced_16 : decode cX10_priced 16 = .ok (.aload_n 0, 1) := by decide +kernel
theorem dX10_priced_17 : decode cX10_priced 17 = .ok (.getfield 52, 3) := by decide +kernel
theorem dX10_priced_20 : decode cX10_priced 20 = .ok (.iload_n 1, 1) := by decide +kernel
theorem dX10_priced_21 : decode cX10_priced 21 = .ok (.invokevirtual 169, 3) := by decide +kernel
theorem dX10_priced_24 : decode cX10_priced 24 = .ok (.ifCond .eq 14, 3) := by decide +kernel
theorem dX10_priced_27 : decode cX10_priced 27 = .ok (.iload_n 2, 1) := by decide +kernel
theorem dX10_priced_28 : decode cX10_priced 28 = .ok (.ifCond .lt 10, 3) := by decide +kernel
theorem dX10_priced_31 : decode cX10_priced 31 = .ok (.iload_n 2, 1) := by decide +kernel
theorem dX10_priced_32 : decode cX10_priced 32 = .ok (.sipush 9999, 3) := by decide +kernel
theorem dX10_priced_35 : decode cX10_priced 35 = .ok (.if_icmp .le 6, 3) := by decide +kernel
theorem dX10_priced_38 : decode cX10_priced 38 = .ok (.bipush (-2), 2) := by decide +kernel
theorem dX10_priced_40 : decode cX10_priced 40 = .ok (.ireturn, 1) := by decide +kernel
theorem dX10_priced_41 : decode cX10_priced 41 = .ok (.aload_n 0, 1) := by decide +kernel
theorem dX10_priced_42 : decode cX10_priced 42 = .ok (.getfield 52, 3) := by decide +kernel
theorem dX10_priced_45 : decode cX10_priced 45 = .ok (.getfield 305, 3) := by decide +kernel
theorem dX10_priced_48 : decode cX10_priced 48 = .ok (.iload_n 1, 1) := by decide +kernel
theorem dX10_priced_49 : decode cX10_priced 49 = .ok (.iload_n 2, 1) := by decide +kernel
theorem dX10_priced_50 : decode cX10_priced 50 = .ok (.iconst 0, 1) := by decide +kernel
theorem dX10_priced_51 : decode cX10_priced 51 = .ok (.invokevirtual 222, 3) := by decide +kernel
theorem dX10_priced_54 : decode cX10_priced 54 = .ok (.ireturn, 1) := by decide +kernel
theorem dX10_whose_0 : decode cX10_whose 0 = .ok (.iconst 0, 1) := by decide +kernel
theorem dX10_whose_1 : decode cX10_whose 1 = .ok (.istore_n 1, 1) := by decide +kernel
theorem dX10_whose_2 : decode cX10_whose 2 = .ok (.iconst 0, 1) := by decide +kernel
theorem dX10_whose_3 : decode cX10_whose 3 = .ok (.istore_n 2, 1) := by decide +kernel
theorem dX10_whose_4 : decode cX10_whose 4 = .ok (.iload_n 2, 1) := by decide +kernel
theorem dX10_whose_5 : decode cX10_whose 5 = .ok (.aload_n 0, 1) := by decide +kernel
theorem dX10_whose_6 : decode cX10_whose 6 = .ok (.getfield 52, 3) := by decide +kernel
theorem dX10_whose_9 : decode cX10_whose 9 = .ok (.getfield 86, 3) := by decide +kernel
theorem dX10_whose_12 : decode cX10_whose 12 = .ok (.if_icmp .ge 26, 3) := by decide +kernel
theorem dX10_whose_15 : decode cX10_whose 15 = .ok (.aload_n 0, 1) := by decide +kernel
theorem dX10_whose_16 : decode cX10_whose 16 = .ok (.getfield 52, 3) := by decide +kernel
theorem dX10_whose_19 : decode cX10_whose 19 = .ok (.iload_n 2, 1) := by decide +kernel
theorem dX10_whose_20 : decode cX10_whose 20 = .ok (.invokevirtual 308, 3) := by decide +kernel
theorem dX10_whose_23 : decode cX10_whose 23 = .ok (.ifCond .eq 9, 3) := by decide +kernel
theorem dX10_whose_26 : decode cX10_whose 26 = .ok (.iload_n 1, 1) := by decide +kernel
theorem dX10_whose_27 : decode cX10_whose 27 = .ok (.iconst 1, 1) := by decide +kernel
theorem dX10_whose_28 : decode cX10_whose 28 = .ok (.iload_n 2, 1) := by decide +kernel
theorem dX10_whose_29 : decode cX10_whose 29 = .ok (.ishl, 1) := by decide +kernel
theorem dX10_whose_30 : decode cX10_whose 30 = .ok (.ior, 1) := by decide +kernel
theorem dX10_whose_31 : decode cX10_whose 31 = .ok (.istore_n 1, 1) := by decide +kernel
theorem dX10_whose_32 : decode cX10_whose 32 = .ok (.iinc 2 1, 3) := by decide +kernel
theorem dX10_whose_35 : decode cX10_whose 35 = .ok (.goto (-31), 3) := by decide +kernel
theorem dX10_whose_38 : decode cX10_whose 38 = .ok (.iload_n 1, 1) := by decide +kernel
theorem dX10_whose_39 : decode cX10_whose 39 = .ok (.ireturn, 1) := by decide +kernel
theorem dX10_befell_0 : decode cX10_befell 0 = .ok (.iload_n 1, 1) := by decide +kernel
theorem dX10_befell_1 : decode cX10_befell 1 = .ok (.iconst (-1), 1) := by decide +kernel
theorem dX10_befell_2 : decode cX10_befell 2 = .ok (.if_icmp .eq 14, 3) := by decide +kernel
theorem dX10_befell_5 : decode cX10_befell 5 = .ok (.aload_n 0, 1) := by decide +kernel
theorem dX10_befell_6 : decode cX10_befell 6 = .ok (.getfield 52, 3) := by decide +kernel
theorem dX10_befell_9 : decode cX10_befell 9 = .ok (.iload_n 1, 1) := by decide +kernel
theorem dX10_befell_10 : decode cX10_befell 10 = .ok (.invokevirtual 169, 3) := by decide +kernel
theorem dX10_befell_13 : decode cX10_befell 13 = .ok (.ifCond .eq 12, 3) := by decide +kernel
theorem dX10_befell_16 : decode cX10_befell 16 = .ok (.iload_n 2, 1) := by decide +kernel
theorem dX10_befell_17 : decode cX10_befell 17 = .ok (.ifCond .lt 8, 3) := by decide +kernel
theorem dX10_befell_20 : decode cX10_befell 20 = .ok (.iload_n 2, 1) := by decide +kernel
theorem dX10_befell_21 : decode cX10_befell 21 = .ok (.iconst 2, 1) := by decide +kernel
theorem dX10_befell_22 : decode cX10_befell 22 = .ok (.if_icmp .le 6, 3) := by decide +kernel
theorem dX10_befell_25 : decode cX10_befell 25 = .ok (.bipush (-2), 2) := by decide +kernel
theorem dX10_befell_27 : decode cX10_befell 27 = .ok (.ireturn, 1) := by decide +kernel
theorem dX10_befell_28 : decode cX10_befell 28 = .ok (.iconst 0, 1) := by decide +kernel
theorem dX10_befell_29 : decode cX10_befell 29 = .ok (.istore_n 3, 1) := by decide +kernel
theorem dX10_befell_30 : decode cX10_befell 30 = .ok (.iconst 0, 1) := by decide +kernel
theorem dX10_befell_31 : decode cX10_befell 31 = .ok (.istore 4, 2) := by decide +kernel
theorem dX10_befell_33 : decode cX10_befell 33 = .ok (.iload 4, 2) := by decide +kernel
theorem dX10_befell_35 : decode cX10_befell 35 = .ok (.aload_n 0, 1) := by decide +kernel
theorem dX10_befell_36 : decode cX10_befell 36 = .ok (.getfield 52, 3) := by decide +kernel
theorem dX10_befell_39 : decode cX10_befell 39 = .ok (.getfield 105, 3) := by decide +kernel
theorem dX10_befell_42 : decode cX10_befell 42 = .ok (.getfield 200, 3) := by decide +kernel
theorem dX10_befell_45 : decode cX10_befell 45 = .ok (.if_icmp .ge 68, 3) := by decide +kernel
theorem dX10_befell_48 : decode cX10_befell 48 = .ok (.iload_n 1, 1) := by decide +kernel
theorem dX10_befell_49 : decode cX10_befell 49 = .ok (.iconst (-1), 1) := by decide +kernel
theorem dX10_befell_50 : decode cX10_befell 50 = .ok (.if_icmp .eq 20, 3) := by decide +kernel
theorem dX10_befell_53 : decode cX10_befell 53 = .ok (.aload_n 0, 1) := by decide +kernel
theorem dX10_befell_54 : decode cX10_befell 54 = .ok (.getfield 52, 3) := by decide +kernel
theorem dX10_befell_57 : decode cX10_befell 57 = .ok (.getfield 105, 3) := by decide +kernel
theorem dX10_befell_60 : decode cX10_befell 60 = .ok (.iload 4, 2) := by decide +kernel
theorem dX10_befell_62 : decode cX10_befell 62 = .ok (.iconst 1, 1) := by decide +kernel
theorem dX10_befell_63 : decode cX10_befell 63 = .ok (.invokevirtual 203, 3) := by decide +kernel
theorem dX10_befell_66 : decode cX10_befell 66 = .ok (.iload_n 1, 1) := by decide +kernel
theorem dX10_befell_67 : decode cX10_befell 67 = .ok (.if_icmp .ne 7, 3) := by decide +kernel
theorem dX10_befell_70 : decode cX10_befell 70 = .ok (.iconst 1, 1) := by decide +kernel
theorem dX10_befell_71 : decode cX10_befell 71 = .ok (.goto 4, 3) := by decide +kernel
theorem dX10_befell_74 : decode cX10_befell 74 = .ok (.iconst 0, 1) := by decide +kernel
theorem dX10_befell_75 : decode cX10_befell 75 = .ok (.istore 5, 2) := by decide +kernel
theorem dX10_befell_77 : decode cX10_befell 77 = .ok (.iload_n 3, 1) := by decide +kernel
theorem dX10_befell_78 : decode cX10_befell 78 = .ok (.iload 5, 2) := by decide +kernel
theorem dX10_befell_80 : decode cX10_befell 80 = .ok (.ifCond .eq 24, 3) := by decide +kernel
theorem dX10_befell_83 : decode cX10_befell 83 = .ok (.aload_n 0, 1) := by decide +kernel
theorem dX10_befell_84 : decode cX10_befell 84 = .ok (.getfield 52, 3) := by decide +kernel
theorem dX10_befell_87 : decode cX10_befell 87 = .ok (.getfield 105, 3) := by decide +kernel
theorem dX10_befell_90 : decode cX10_befell 90 = .ok (.iload 4, 2) := by decide +kernel
theorem dX10_befell_92 : decode cX10_befell 92 = .ok (.iconst 2, 1) := by decide +kernel
theorem dX10_befell_93 : decode cX10_befell 93 = .ok (.invokevirtual 203, 3) := by decide +kernel
theorem dX10_befell_96 : decode cX10_befell 96 = .ok (.iload_n 2, 1) := by decide +kernel
theorem dX10_befell_97 : decode cX10_befell 97 = .ok (.if_icmp .ne 7, 3) := by decide +kernel
theorem dX10_befell_100 : decode cX10_befell 100 = .ok (.iconst 1, 1) := by decide +kernel
theorem dX10_befell_101 : decode cX10_befell 101 = .ok (.goto 4, 3) := by decide +kernel
theorem dX10_befell_104 : decode cX10_befell 104 = .ok (.iconst 0, 1) := by decide +kernel
theorem dX10_befell_105 : decode cX10_befell 105 = .ok (.iadd, 1) := by decide +kernel
theorem dX10_befell_106 : decode cX10_befell 106 = .ok (.istore_n 3, 1) := by decide +kernel
theorem dX10_befell_107 : decode cX10_befell 107 = .ok (.iinc 4 1, 3) := by decide +kernel
theorem dX10_befell_110 : decode cX10_befell 110 = .ok (.goto (-77), 3) := by decide +kernel
theorem dX10_befell_113 : decode cX10_befell 113 = .ok (.iload_n 3, 1) := by decide +kernel
theorem dX10_befell_114 : decode cX10_befell 114 = .ok (.ireturn, 1) := by decide +kernel
theorem dX10_eldest_0 : decode cX10_eldest 0 = .ok (.aload_n 0, 1) := by decide +kernel
theorem dX10_eldest_1 : decode cX10_eldest 1 = .ok (.getfield 52, 3) := by decide +kernel
theorem dX10_eldest_4 : decode cX10_eldest 4 = .ok (.iload_n 1, 1) := by decide +kernel
theorem dX10_eldest_5 : decode cX10_eldest 5 = .ok (.invokevirtual 147, 3) := by decide +kernel
theorem dX10_eldest_8 : decode cX10_eldest 8 = .ok (.ifCond .eq 18, 3) := by decide +kernel
theorem dX10_eldest_11 : decode cX10_eldest 11 = .ok (.aload_n 0, 1) := by decide +kernel
theorem dX10_eldest_12 : decode cX10_eldest 12 = .ok (.getfield 39, 3) := by decide +kernel
theorem dX10_eldest_15 : decode cX10_eldest 15 = .ok (.aload_n 0, 1) := by decide +kernel
theorem dX10_eldest_16 : decode cX10_eldest 16 = .ok (.getfield 52, 3) := by decide +kernel
theorem dX10_eldest_19 : decode cX10_eldest 19 = .ok (.iload_n 1, 1) := by decide +kernel
theorem dX10_eldest_20 : decode cX10_eldest 20 = .ok (.invokevirtual 311, 3) := by decide +kernel
theorem dX10_eldest_23 : decode cX10_eldest 23 = .ok (.goto 4, 3) := by decide +kernel
theorem dX10_eldest_26 : decode cX10_eldest 26 = .ok (.iconst (-1), 1) := by decide +kernel
theorem dX10_eldest_27 : decode cX10_eldest 27 = .ok (.ireturn, 1) := by decide +kernel
theorem dX10_blank_0 : decode cX10_blank 0 = .ok (.iconst 0, 1) := by decide +kernel
theorem dX10_blank_1 : decode cX10_blank 1 = .ok (.istore_n 1, 1) := by decide +kernel
theorem dX10_blank_2 : decode cX10_blank 2 = .ok (.iconst 0, 1) := by decide +kernel
theorem dX10_blank_3 : decode cX10_blank 3 = .ok (.istore_n 2, 1) := by decide +kernel
theorem dX10_blank_4 : decode cX10_blank 4 = .ok (.iload_n 2, 1) := by decide +kernel
theorem dX10_blank_5 : decode cX10_blank 5 = .ok (.aload_n 0, 1) := by decide +kernel
theorem dX10_blank_6 : decode cX10_blank 6 = .ok (.getfield 52, 3) := by decide +kernel
theorem dX10_blank_9 : decode cX10_blank 9 = .ok (.getfield 105, 3) := by decide +kernel
theorem dX10_blank_12 : decode cX10_blank 12 = .ok (.getfield 314, 3) := by decide +kernel
theorem dX10_blank_15 : decode cX10_blank 15 = .ok (.if_icmp .ge 34, 3) := by decide +kernel
theorem dX10_blank_18 : decode cX10_blank 18 = .ok (.aload_n 0, 1) := by decide +kernel
theorem dX10_blank_19 : decode cX10_blank 19 = .ok (.getfield 52, 3) := by decide +kernel
theorem dX10_blank_22 : decode cX10_blank 22 = .ok (.iload_n 2, 1) := by decide +kernel
theorem dX10_blank_23 : decode cX10_blank 23 = .ok (.invokevirtual 156, 3) := by decide +kernel
theorem dX10_blank_26 : decode cX10_blank 26 = .ok (.aload_n 0, 1) := by decide +kernel
theorem dX10_blank_27 : decode cX10_blank 27 = .ok (.getfield 52, 3) := by decide +kernel
theorem dX10_blank_30 : decode cX10_blank 30 = .ok (.invokevirtual 159, 3) := by decide +kernel
theorem dX10_blank_33 : decode cX10_blank 33 = .ok (.iand, 1) := by decide +kernel
theorem dX10_blank_34 : decode cX10_blank 34 = .ok (.ifCond .ne 9, 3) := by decide +kernel
theorem dX10_blank_37 : decode cX10_blank 37 = .ok (.iload_n 1, 1) := by decide +kernel
theorem dX10_blank_38 : decode cX10_blank 38 = .ok (.iconst 1, 1) := by decide +kernel
theorem dX10_blank_39 : decode cX10_blank 39 = .ok (.iload_n 2, 1) := by decide +kernel
theorem dX10_blank_40 : decode cX10_blank 40 = .ok (.ishl, 1) := by decide +kernel
theorem dX10_blank_41 : decode cX10_blank 41 = .ok (.ior, 1) := by decide +kernel
theorem dX10_blank_42 : decode cX10_blank 42 = .ok (.istore_n 1, 1) := by decide +kernel
theorem dX10_blank_43 : decode cX10_blank 43 = .ok (.iinc 2 1, 3) := by decide +kernel
theorem dX10_blank_46 : decode cX10_blank 46 = .ok (.goto (-42), 3) := by decide +kernel
theorem dX10_blank_49 : decode cX10_blank 49 = .ok (.iload_n 1, 1) := by decide +kernel
theorem dX10_blank_50 : decode cX10_blank 50 = .ok (.ireturn, 1) := by decide +kernel
theorem dX10_shared_0 : decode cX10_shared 0 = .ok (.aload_n 0, 1) := by decide +kernel
theorem dX10_shared_1 : decode cX10_shared 1 = .ok (.getfield 52, 3) := by decide +kernel
theorem dX10_shared_4 : decode cX10_shared 4 = .ok (.iload_n 1, 1) := by decide +kernel
theorem dX10_shared_5 : decode cX10_shared 5 = .ok (.invokevirtual 147, 3) := by decide +kernel
theorem dX10_shared_8 : decode cX10_shared 8 = .ok (.ifCond .eq 19, 3) := by decide +kernel
theorem dX10_shared_11 : decode cX10_shared 11 = .ok (.aload_n 0, 1) := by decide +kernel
theorem dX10_shared_12 : decode cX10_shared 12 = .ok (.getfield 52, 3) := by decide +kernel
theorem dX10_shared_15 : decode cX10_shared 15 = .ok (.iload_n 2, 1) := by decide +kernel
theorem dX10_shared_16 : decode cX10_shared 16 = .ok (.invokevirtual 147, 3) := by decide +kernel
theorem dX10_shared_19 : decode cX10_shared 19 = .ok (.ifCond .eq 8, 3) := by decide +kernel
theorem dX10_shared_22 : decode cX10_shared 22 = .ok (.iload_n 1, 1) := by decide +kernel
theorem dX10_shared_23 : decode cX10_shared 23 = .ok (.iload_n 2, 1) := by decide +kernel
theorem dX10_shared_24 : decode cX10_shared 24 = .ok (.if_icmp .ne 5, 3) := by decide +kernel
theorem dX10_shared_27 : decode cX10_shared 27 = .ok (.iconst (-1), 1) := by decide +kernel
theorem dX10_shared_28 : decode cX10_shared 28 = .ok (.ireturn, 1) := by decide +kernel
theorem dX10_shared_29 : decode cX10_shared 29 = .ok (.aload_n 0, 1) := by decide +kernel
theorem dX10_shared_30 : decode cX10_shared 30 = .ok (.getfield 39, 3) := by decide +kernel
theorem dX10_shared_33 : decode cX10_shared 33 = .ok (.aload_n 0, 1) := by decide +kernel
theorem dX10_shared_34 : decode cX10_shared 34 = .ok (.getfield 52, 3) := by decide +kernel
theorem dX10_shared_37 : decode cX10_shared 37 = .ok (.iload_n 1, 1) := by decide +kernel
theorem dX10_shared_38 : decode cX10_shared 38 = .ok (.invokevirtual 317, 3) := by decide +kernel
theorem dX10_shared_41 : decode cX10_shared 41 = .ok (.aload_n 0, 1) := by decide +kernel
theorem dX10_shared_42 : decode cX10_shared 42 = .ok (.getfield 39, 3) := by decide +kernel
theorem dX10_shared_45 : decode cX10_shared 45 = .ok (.aload_n 0, 1) := by decide +kernel
theorem dX10_shared_46 : decode cX10_shared 46 = .ok (.getfield 52, 3) := by decide +kernel
theorem dX10_shared_49 : decode cX10_shared 49 = .ok (.iload_n 2, 1) := by decide +kernel
theorem dX10_shared_50 : decode cX10_shared 50 = .ok (.invokevirtual 317, 3) := by decide +kernel
theorem dX10_shared_53 : decode cX10_shared 53 = .ok (.iand, 1) := by decide +kernel
theorem dX10_shared_54 : decode cX10_shared 54 = .ok (.ireturn, 1) := by decide +kernel
theorem dX10_image_0 : decode cX10_image 0 = .ok (.aload_n 0, 1) := by decide +kernel
theorem dX10_image_1 : decode cX10_image 1 = .ok (.getfield 56, 3) := by decide +kernel
theorem dX10_image_4 : decode cX10_image 4 = .ok (.aload_n 0, 1) := by decide +kernel
theorem dX10_image_5 : decode cX10_image 5 = .ok (.getfield 52, 3) := by decide +kernel
theorem dX10_image_8 : decode cX10_image 8 = .ok (.invokevirtual 320, 3) := by decide +kernel
theorem dX10_image_11 : decode cX10_image 11 = .ok (.aload_n 0, 1) := by decide +kernel
theorem dX10_image_12 : decode cX10_image 12 = .ok (.getfield 52, 3) := by decide +kernel
theorem dX10_image_15 : decode cX10_image 15 = .ok (.getfield 105, 3) := by decide +kernel
theorem dX10_image_18 : decode cX10_image 18 = .ok (.getfield 121, 3) := by decide +kernel
theorem dX10_image_21 : decode cX10_image 21 = .ok (.ireturn, 1) := by decide +kernel
theorem dX10_back_0 : decode cX10_back 0 = .ok (.aload_n 0, 1) := by decide +kernel
theorem dX10_back_1 : decode cX10_back 1 = .ok (.getfield 52, 3) := by decide +kernel
theorem dX10_back_4 : decode cX10_back 4 = .ok (.aload_n 0, 1) := by decide +kernel
theorem dX10_back_5 : decode cX10_back 5 = .ok (.getfield 56, 3) := by decide +kernel
theorem dX10_back_8 : decode cX10_back 8 = .ok (.invokevirtual 320, 3) := by decide +kernel
theorem dX10_back_11 : decode cX10_back 11 = .ok (.aload_n 0, 1) := by decide +kernel
theorem dX10_back_12 : decode cX10_back 12 = .ok (.getfield 52, 3) := by decide +kernel
theorem dX10_back_15 : decode cX10_back 15 = .ok (.getfield 105, 3) := by decide +kernel
theorem dX10_back_18 : decode cX10_back 18 = .ok (.getfield 121, 3) := by decide +kernel
theorem dX10_back_21 : decode cX10_back 21 = .ok (.ireturn, 1) := by decide +kernel
theorem dX10_about_0 : decode cX10_about 0 = .ok (.iload_n 1, 1) := by decide +kernel
theorem dX10_about_1 : decode cX10_about 1 = .ok (.tableswitch 156 0 9 #[55, 66, 74, 82, 93, 104, 115, 126, 137, 148], 55) := by decide +kernel
theorem dX10_about_56 : decode cX10_about 56 = .ok (.aload_n 0, 1) := by decide +kernel
theorem dX10_about_57 : decode cX10_about 57 = .ok (.getfield 52, 3) := by decide +kernel
theorem dX10_about_60 : decode cX10_about 60 = .ok (.getfield 105, 3) := by decide +kernel
theorem dX10_about_63 : decode cX10_about 63 = .ok (.getfield 314, 3) := by decide +kernel
theorem dX10_about_66 : decode cX10_about 66 = .ok (.ireturn, 1) := by decide +kernel
theorem dX10_about_67 : decode cX10_about 67 = .ok (.aload_n 0, 1) := by decide +kernel
theorem dX10_about_68 : decode cX10_about 68 = .ok (.getfield 52, 3) := by decide +kernel
theorem dX10_about_71 : decode cX10_about 71 = .ok (.getfield 86, 3) := by decide +kernel
theorem dX10_about_74 : decode cX10_about 74 = .ok (.ireturn, 1) := by decide +kernel
theorem dX10_about_75 : decode cX10_about 75 = .ok (.aload_n 0, 1) := by decide +kernel
theorem dX10_about_76 : decode cX10_about 76 = .ok (.getfield 52, 3) := by decide +kernel
theorem dX10_about_79 : decode cX10_about 79 = .ok (.getfield 99, 3) := by decide +kernel
theorem dX10_about_82 : decode cX10_about 82 = .ok (.ireturn, 1) := by decide +kernel
theorem dX10_about_83 : decode cX10_about 83 = .ok (.aload_n 0, 1) := by decide +kernel
theorem dX10_about_84 : decode cX10_about 84 = .ok (.getfield 52, 3) := by decide +kernel
theorem dX10_about_87 : decode cX10_about 87 = .ok (.getfield 324, 3) := by decide +kernel
theorem dX10_about_90 : decode cX10_about 90 = .ok (.getfield 328, 3) := by decide +kernel
theorem dX10_about_93 : decode cX10_about 93 = .ok (.ireturn, 1) := by decide +kernel
theorem dX10_about_94 : decode cX10_about 94 = .ok (.aload_n 0, 1) := by decide +kernel
theorem dX10_about_95 : decode cX10_about 95 = .ok (.getfield 52, 3) := by decide +kernel
theorem dX10_about_98 : decode cX10_about 98 = .ok (.getfield 213, 3) := by decide +kernel
theorem dX10_about_101 : decode cX10_about 101 = .ok (.getfield 232, 3) := by decide +kernel
theorem dX10_about_104 : decode cX10_about 104 = .ok (.ireturn, 1) := by decide +kernel
theorem dX10_about_105 : decode cX10_about 105 = .ok (.aload_n 0, 1) := by decide +kernel
theorem dX10_about_106 : decode cX10_about 106 = .ok (.getfield 52, 3) := by decide +kernel
theorem dX10_about_109 : decode cX10_about 109 = .ok (.getfield 229, 3) := by decide +kernel
theorem dX10_about_112 : decode cX10_about 112 = .ok (.getfield 232, 3) := by decide +kernel
theorem dX10_about_115 : decode cX10_about 115 = .ok (.ireturn, 1) := by decide +kernel
theorem dX10_about_116 : decode cX10_about 116 = .ok (.aload_n 0, 1) := by decide +kernel
theorem dX10_about_117 : decode cX10_about 117 = .ok (.getfield 52, 3) := by decide +kernel
theorem dX10_about_120 : decode cX10_about 120 = .ok (.getfield 249, 3) := by decide +kernel
theorem dX10_about_123 : decode cX10_about 123 = .ok (.getfield 232, 3) := by decide +kernel
theorem dX10_about_126 : decode cX10_about 126 = .ok (.ireturn, 1) := by decide +kernel
theorem dX10_about_127 : decode cX10_about 127 = .ok (.aload_n 0, 1) := by decide +kernel
theorem dX10_about_128 : decode cX10_about 128 = .ok (.getfield 52, 3) := by decide +kernel
theorem dX10_about_131 : decode cX10_about 131 = .ok (.getfield 268, 3) := by decide +kernel
theorem dX10_about_134 : decode cX10_about 134 = .ok (.getfield 232, 3) := by decide +kernel
theorem dX10_about_137 : decode cX10_about 137 = .ok (.ireturn, 1) := by decide +kernel
theorem dX10_about_138 : decode cX10_about 138 = .ok (.aload_n 0, 1) := by decide +kernel
theorem dX10_about_139 : decode cX10_about 139 = .ok (.getfield 52, 3) := by decide +kernel
theorem dX10_about_142 : decode cX10_about 142 = .ok (.getfield 278, 3) := by decide +kernel
theorem dX10_about_145 : decode cX10_about 145 = .ok (.getfield 232, 3) := by decide +kernel
theorem dX10_about_148 : decode cX10_about 148 = .ok (.ireturn, 1) := by decide +kernel
theorem dX10_about_149 : decode cX10_about 149 = .ok (.aload_n 0, 1) := by decide +kernel
theorem dX10_about_150 : decode cX10_about 150 = .ok (.getfield 18, 3) := by decide +kernel
theorem dX10_about_153 : decode cX10_about 153 = .ok (.getfield 331, 3) := by decide +kernel
theorem dX10_about_156 : decode cX10_about 156 = .ok (.ireturn, 1) := by decide +kernel
theorem dX10_about_157 : decode cX10_about 157 = .ok (.bipush (-2), 2) := by decide +kernel
theorem dX10_about_159 : decode cX10_about 159 = .ok (.ireturn, 1) := by decide +kernel
theorem dX11_init_0 : decode cX11_init 0 = .ok (.aload_n 0, 1) := by decide +kernel
theorem dX11_init_1 : decode cX11_init 1 = .ok (.invokespecial 1, 3) := by decide +kernel
theorem dX11_init_4 : decode cX11_init 4 = .ok (.aload_n 0, 1) := by decide +kernel
theorem dX11_init_5 : decode cX11_init 5 = .ok (.sipush 2142, 3) := by decide +kernel
theorem dX11_init_8 : decode cX11_init 8 = .ok (.newarray .int, 2) := by decide +kernel
theorem dX11_init_10 : decode cX11_init 10 = .ok (.putfield 7, 3) := by decide +kernel
theorem dX11_init_13 : decode cX11_init 13 = .ok (.aload_n 0, 1) := by decide +kernel
theorem dX11_init_14 : decode cX11_init 14 = .ok (.sipush 2142, 3) := by decide +kernel
theorem dX11_init_17 : decode cX11_init 17 = .ok (.newarray .int, 2) := by decide +kernel
theorem dX11_init_19 : decode cX11_init 19 = .ok (.putfield 13, 3) := by decide +kernel
theorem dX11_init_22 : decode cX11_init 22 = .ok (.aload_n 0, 1) := by decide +kernel
theorem dX11_init_23 : decode cX11_init 23 = .ok (.sipush 2820, 3) := by decide +kernel
theorem dX11_init_26 : decode cX11_init 26 = .ok (.newarray .int, 2) := by decide +kernel
theorem dX11_init_28 : decode cX11_init 28 = .ok (.putfield 16, 3) := by decide +kernel
theorem dX11_init_31 : decode cX11_init 31 = .ok (.aload_n 0, 1) := by decide +kernel
theorem dX11_init_32 : decode cX11_init 32 = .ok (.sipush 300, 3) := by decide +kernel
theorem dX11_init_35 : decode cX11_init 35 = .ok (.newarray .int, 2) := by decide +kernel
theorem dX11_init_37 : decode cX11_init 37 = .ok (.putfield 19, 3) := by decide +kernel
theorem dX11_init_40 : decode cX11_init 40 = .ok (.aload_n 0, 1) := by decide +kernel
theorem dX11_init_41 : decode cX11_init 41 = .ok (.iconst (-1), 1) := by decide +kernel
theorem dX11_init_42 : decode cX11_init 42 = .ok (.putfield 22, 3) := by decide +kernel
theorem dX11_init_45 : decode cX11_init 45 = .ok (.aload_n 0, 1) := by decide +kernel
theorem dX11_init_46 : decode cX11_init 46 = .ok (.iconst (-1), 1) := by decide +kernel
theorem dX11_init_47 : decode cX11_init 47 = .ok (.putfield 26, 3) := by decide +kernel
theorem dX11_init_50 : decode cX11_init 50 = .ok (.aload_n 0, 1) := by decide +kernel
theorem dX11_init_51 : decode cX11_init 51 = .ok (.sipush 160, 3) := by decide +kernel
theorem dX11_init_54 : decode cX11_init 54 = .ok (.newarray .int, 2) := by decide +kernel
theorem dX11_init_56 : decode cX11_init 56 = .ok (.putfield 29, 3) := by decide +kernel
theorem dX11_init_59 : decode cX11_init 59 = .ok (.aload_n 0, 1) := by decide +kernel
theorem dX11_init_60 : decode cX11_init 60 = .ok (.bipush 9, 2) := by decide +kernel
theorem dX11_init_62 : decode cX11_init 62 = .ok (.newarray .int, 2) := by decide +kernel
theorem dX11_init_64 : decode cX11_init 64 = .ok (.putfield 32, 3) := by decide +kernel
theorem dX11_init_67 : decode cX11_init 67 = .ok (.aload_n 0, 1) := by decide +kernel
theorem dX11_init_68 : decode cX11_init 68 = .ok (.sipush 330, 3) := by decide +kernel
theorem dX11_init_71 : decode cX11_init 71 = .ok (.newarray .long, 2) := by decide +kernel
theorem dX11_init_73 : decode cX11_init 73 = .ok (.putfield 35, 3) := by decide +kernel
theorem dX11_init_76 : decode cX11_init 76 = .ok (.aload_n 0, 1) := by decide +kernel
theorem dX11_init_77 : decode cX11_init 77 = .ok (.sipush 330, 3) := by decide +kernel
theorem dX11_init_80 : decode cX11_init 80 = .ok (.newarray .boolean, 2) := by decide +kernel
theorem dX11_init_82 : decode cX11_init 82 = .ok (.putfield 39, 3) := by decide +kernel
theorem dX11_init_85 : decode cX11_init 85 = .ok (.aload_n 0, 1) := by decide +kernel
theorem dX11_init_86 : decode cX11_init 86 = .ok (.iconst 4, 1) := by decide +kernel
theorem dX11_init_87 : decode cX11_init 87 = .ok (.newarray .int, 2) := by decide +kernel
theorem dX11_init_89 : decode cX11_init 89 = .ok (.putfield 43, 3) := by decide +kernel
theorem dX11_init_92 : decode cX11_init 92 = .ok (.aload_n 0, 1) := by decide +kernel
theorem dX11_init_93 : decode cX11_init 93 = .ok (.bipush 8, 2) := by decide +kernel
theorem dX11_init_95 : decode cX11_init 95 = .ok (.newarray .int, 2) := by decide +kernel
theorem dX11_init_97 : decode cX11_init 97 = .ok (.putfield 46, 3) := by decide +kernel
theorem dX11_init_100 : decode cX11_init 100 = .ok (.aload_n 0, 1) := by decide +kernel
theorem dX11_init_101 : decode cX11_init 101 = .ok (.bipush 12, 2) := by decide +kernel
theorem dX11_init_103 : decode cX11_init 103 = .ok (.newarray .int, 2) := by decide +kernel
theorem dX11_init_105 : decode cX11_init 105 = .ok (.putfield 49, 3) := by decide +kernel
theorem dX11_init_108 : decode cX11_init 108 = .ok (.aload_n 0, 1) := by decide +kernel
theorem dX11_init_109 : decode cX11_init 109 = .ok (.bipush 6, 2) := by decide +kernel
theorem dX11_init_111 : decode cX11_init 111 = .ok (.newarray .int, 2) := by decide +kernel
theorem dX11_init_113 : decode cX11_init 113 = .ok (.putfield 52, 3) := by decide +kernel
theorem dX11_init_116 : decode cX11_init 116 = .ok (.aload_n 0, 1) := by decide +kernel
theorem dX11_init_117 : decode cX11_init 117 = .ok (.bipush 6, 2) := by decide +kernel
theorem dX11_init_119 : decode cX11_init 119 = .ok (.newarray .int, 2) := by decide +kernel
theorem dX11_init_121 : decode cX11_init 121 = .ok (.putfield 55, 3) := by decide +kernel
theorem dX11_init_124 : decode cX11_init 124 = .ok (.aload_n 0, 1) := by decide +kernel
theorem dX11_init_125 : decode cX11_init 125 = .ok (.getfield 7, 3) := by decide +kernel
theorem dX11_init_128 : decode cX11_init 128 = .ok (.bipush 11, 2) := by decide +kernel
theorem dX11_init_130 : decode cX11_init 130 = .ok (.sipush 167, 3) := by decide +kernel
theorem dX11_init_133 : decode cX11_init 133 = .ok (.iastore, 1) := by decide +kernel
theorem dX11_init_134 : decode cX11_init 134 = .ok (.aload_n 0, 1) := by decide +kernel
theorem dX11_init_135 : decode cX11_init 135 = .ok (.getfield 7, 3) := by decide +kernel
theorem dX11_init_138 : decode cX11_init 138 = .ok (.iconst 2, 1) := by decide +kernel
theorem dX11_init_139 : decode cX11_init 139 = .ok (.iconst (-1), 1) := by decide +kernel
theorem dX11_init_140 : decode cX11_init 140 = .ok (.iastore, 1) := by decide +kernel
theorem dX11_init_141 : decode cX11_init 141 = .ok (.aload_n 0, 1) := by decide +kernel
theorem dX11_init_142 : decode cX11_init 142 = .ok (.getfield 7, 3) := by decide +kernel
theorem dX11_init_145 : decode cX11_init 145 = .ok (.bipush 13, 2) := by decide +kernel
theorem dX11_init_147 : decode cX11_init 147 = .ok (.iconst 5, 1) := by decide +kernel
theorem dX11_init_148 : decode cX11_init 148 = .ok (.iastore, 1) := by decide +kernel
theorem dX11_init_149 : decode cX11_init 149 = .ok (.aload_n 0, 1) := by decide +kernel
theorem dX11_init_150 : decode cX11_init 150 = .ok (.getfield 7, 3) := by decide +kernel
theorem dX11_init_153 : decode cX11_init 153 = .ok (.aload_n 0, 1) := by decide +kernel
theorem dX11_init_154 : decode cX11_init 154 = .ok (.getfield 13, 3) := by decide +kernel
theorem dX11_init_157 : decode cX11_init 157 = .ok (.invokestatic 58, 3) := by decide +kernel
theorem dX11_init_160 : decode cX11_init 160 = .ok (.return_, 1) := by decide +kernel
theorem dX11_copy_0 : decode cX11_copy 0 = .ok (.iconst 0, 1) := by decide +kernel
theorem dX11_copy_1 : decode cX11_copy 1 = .ok (.istore_n 2, 1) := by decide +kernel
theorem dX11_copy_2 : decode cX11_copy 2 = .ok (.iload_n 2, 1) := by decide +kernel
theorem dX11_copy_3 : decode cX11_copy 3 = .ok (.sipush 2142, 3) := by decide +kernel
theorem dX11_copy_6 : decode cX11_copy 6 = .ok (.if_icmp .ge 15, 3) := by decide +kernel
theorem dX11_copy_9 : decode cX11_copy 9 = .ok (.aload_n 1, 1) := by decide +kernel
theorem dX11_copy_10 : decode cX11_copy 10 = .ok (.iload_n 2, 1) := by decide +kernel
theorem dX11_copy_11 : decode cX11_copy 11 = .ok (.aload_n 0, 1) := by decide +kernel
theorem dX11_copy_12 : decode cX11_copy 12 = .ok (.iload_n 2, 1) := by decide +kernel
theorem dX11_copy_13 : decode cX11_copy 13 = .ok (.iaload, 1) := by decide +kernel
theorem dX11_copy_14 : decode cX11_copy 14 = .ok (.iastore, 1) := by decide +kernel
theorem dX11_copy_15 : decode cX11_copy 15 = .ok (.iinc 2 1, 3) := by decide +kernel
theorem dX11_copy_18 : decode cX11_copy 18 = .ok (.goto (-16), 3) := by decide +kernel
theorem dX11_copy_21 : decode cX11_copy 21 = .ok (.return_, 1) := by decide +kernel
theorem dX11_isIn_0 : decode cX11_isIn 0 = .ok (.iload_n 0, 1) := by decide +kernel
theorem dX11_isIn_1 : decode cX11_isIn 1 = .ok (.iload_n 1, 1) := by decide +kernel
theorem dX11_isIn_2 : decode cX11_isIn 2 = .ok (.if_icmp .lt 12, 3) := by decide +kernel
theorem dX11_isIn_5 : decode cX11_isIn 5 = .ok (.iload_n 0, 1) := by decide +kernel
theorem dX11_isIn_6 : decode cX11_isIn 6 = .ok (.iload_n 2, 1) := by decide +kernel
theorem dX11_isIn_7 : decode cX11_isIn 7 = .ok (.if_icmp .gt 7, 3) := by decide +kernel
theorem dX11_isIn_10 : decode cX11_isIn 10 = .ok (.iconst 1, 1) := by decide +kernel
theorem dX11_isIn_11 : decode cX11_isIn 11 = .ok (.goto 4, 3) := by decide +kernel
theorem dX11_isIn_14 : decode cX11_isIn 14 = .ok (.iconst 0, 1) := by decide +kernel
theorem dX11_isIn_15 : decode cX11_isIn 15 = .ok (.ireturn, 1) := by decide +kernel
theorem dX11_held_0 : decode cX11_held 0 = .ok (.lload_n 0, 1) := by decide +kernel
theorem dX11_held_1 : decode cX11_held 1 = .ok (.iload_n 2, 1) := by decide +kernel
theorem dX11_held_2 : decode cX11_held 2 = .ok (.i2l, 1) := by decide +kernel
theorem dX11_held_3 : decode cX11_held 3 = .ok (.lcmp, 1) := by decide +kernel
theorem dX11_held_4 : decode cX11_held 4 = .ok (.ifCond .ge 7, 3) := by decide +kernel
theorem dX11_held_7 : decode cX11_held 7 = .ok (.iload_n 2, 1) := by decide +kernel
theorem dX11_held_8 : decode cX11_held 8 = .ok (.goto 16, 3) := by decide +kernel
theorem dX11_held_11 : decode cX11_held 11 = .ok (.lload_n 0, 1) := by decide +kernel
theorem dX11_held_12 : decode cX11_held 12 = .ok (.iload_n 3, 1) := by decide +kernel
theorem dX11_held_13 : decode cX11_held 13 = .ok (.i2l, 1) := by decide +kernel
theorem dX11_held_14 : decode cX11_held 14 = .ok (.lcmp, 1) := by decide +kernel
theorem dX11_held_15 : decode cX11_held 15 = .ok (.ifCond .le 7, 3) := by decide +kernel
theorem dX11_held_18 : decode cX11_held 18 = .ok (.iload_n 3, 1) := by decide +kernel
theorem dX11_held_19 : decode cX11_held 19 = .ok (.goto 5, 3) := by decide +kernel
theorem dX11_held_22 : decode cX11_held 22 = .ok (.lload_n 0, 1) := by decide +kernel
theorem dX11_held_23 : decode cX11_held 23 = .ok (.l2i, 1) := by decide +kernel
theorem dX11_held_24 : decode cX11_held 24 = .ok (.ireturn, 1) := by decide +kernel
theorem dX11_has_0 : decode cX11_has 0 = .ok (.iload_n 0, 1) := by decide +kernel
theorem dX11_has_1 : decode cX11_has 1 = .ok (.iload_n 1, 1) := by decide +kernel
theorem dX11_has_2 : decode cX11_has 2 = .ok (.ishr, 1) := by decide +kernel
theorem dX11_has_3 : decode cX11_has 3 = .ok (.iconst 1, 1) := by decide +kernel
theorem dX11_has_4 : decode cX11_has 4 = .ok (.iand, 1) := by decide +kernel
theorem dX11_has_5 : decode cX11_has 5 = .ok (.iconst 1, 1) := by decide +kernel
theorem dX11_has_6 : decode cX11_has 6 = .ok (.if_icmp .ne 7, 3) := by decide +kernel
theorem dX11_has_9 : decode cX11_has 9 = .ok (.iconst 1, 1) := by decide +kernel
theorem dX11_has_10 : decode cX11_has 10 = .ok (.goto 4, 3) := by decide +kernel
theorem dX11_has_13 : decode cX11_has 13 = .ok (.iconst 0, 1) := by decide +kernel
theorem dX11_has_14 : decode cX11_has 14 = .ok (.ireturn, 1) := by decide +kernel
theorem dX11_bits_0 : decode cX11_bits 0 = .ok (.iconst 0, 1) := by decide +kernel
theorem dX11_bits_1 : decode cX11_bits 1 = .ok (.istore_n 1, 1) := by decide +kernel
theorem dX11_bits_2 : decode cX11_bits 2 = .ok (.iload_n 0, 1) := by decide +kernel
theorem dX11_bits_3 : decode cX11_bits 3 = .ok (.istore_n 2, 1) := by decide +kernel
theorem dX11_bits_4 : decode cX11_bits 4 = .ok (.iload_n 2, 1) := by decide +kernel
theorem dX11_bits_5 : decode cX11_bits 5 = .ok (.ifCond .eq 15, 3) := by decide +kernel
theorem dX11_bits_8 : decode cX11_bits 8 = .ok (.iinc 1 1, 3) := by decide +kernel
theorem dX11_bits_11 : decode cX11_bits 11 = .ok (.iload_n 2, 1) := by decide +kernel
theorem dX11_bits_12 : decode cX11_bits 12 = .ok (.iload_n 2, 1) := by decide +kernel
theorem dX11_bits_13 : decode cX11_bits 13 = .ok (.iconst 1, 1) := by decide +kernel
theorem dX11_bits_14 : decode cX11_bits 14 = .ok (.isub, 1) := by decide +kernel
theorem dX11_bits_15 : decode cX11_bits 15 = .ok (.iand, 1) := by decide +kernel
theorem dX11_bits_16 : decode cX11_bits 16 = .ok (.istore_n 2, 1) := by decide +kernel
theorem dX11_bits_17 : decode cX11_bits 17 = .ok (.goto (-13), 3) := by decide +kernel
theorem dX11_bits_20 : decode cX11_bits 20 = .ok (.iload_n 1, 1) := by decide +kernel
theorem dX11_bits_21 : decode cX11_bits 21 = .ok (.ireturn, 1) := by decide +kernel
theorem dX11_isPerson_0 : decode cX11_isPerson 0 = .ok (.iload_n 1, 1) := by decide +kernel
theorem dX11_isPerson_1 : decode cX11_isPerson 1 = .ok (.iconst 0, 1) := by decide +kernel
theorem dX11_isPerson_2 : decode cX11_isPerson 2 = .ok (.aload_n 0, 1) := by decide +kernel
theorem dX11_isPerson_3 : decode cX11_isPerson 3 = .ok (.getfield 7, 3) := by decide +kernel
theorem dX11_isPerson_6 : decode cX11_isPerson 6 = .ok (.iconst 0, 1) := by decide +kernel
theorem dX11_isPerson_7 : decode cX11_isPerson 7 = .ok (.iaload, 1) := by decide +kernel
theorem dX11_isPerson_8 : decode cX11_isPerson 8 = .ok (.iconst 1, 1) := by decide +kernel
theorem dX11_isPerson_9 : decode cX11_isPerson 9 = .ok (.isub, 1) := by decide +kernel
theorem dX11_isPerson_10 : decode cX11_isPerson 10 = .ok (.invokestatic 62, 3) := by decide +kernel
theorem dX11_isPerson_13 : decode cX11_isPerson 13 = .ok (.ireturn, 1) := by decide +kernel
theorem dX11_isCrease_0 : decode cX11_isCrease 0 = .ok (.iload_n 1, 1) := by decide +kernel
theorem dX11_isCrease_1 : decode cX11_isCrease 1 = .ok (.iconst 0, 1) := by decide +kernel
theorem dX11_isCrease_2 : decode cX11_isCrease 2 = .ok (.aload_n 0, 1) := by decide +kernel
theorem dX11_isCrease_3 : decode cX11_isCrease 3 = .ok (.getfield 7, 3) := by decide +kernel
theorem dX11_isCrease_6 : decode cX11_isCrease 6 = .ok (.bipush 14, 2) := by decide +kernel
theorem dX11_isCrease_8 : decode cX11_isCrease 8 = .ok (.iaload, 1) := by decide +kernel
theorem dX11_isCrease_9 : decode cX11_isCrease 9 = .ok (.iconst 1, 1) := by decide +kernel
theorem dX11_isCrease_10 : decode cX11_isCrease 10 = .ok (.isub, 1) := by decide +kernel
theorem dX11_isCrease_11 : decode cX11_isCrease 11 = .ok (.invokestatic 62, 3) := by decide +kernel
theorem dX11_isCrease_14 : decode cX11_isCrease 14 = .ok (.ireturn, 1) := by decide +kernel
theorem dX11_get_0 : decode cX11_get 0 = .ok (.aload_n 0, 1) := by decide +kernel
theorem dX11_get_1 : decode cX11_get 1 = .ok (.getfield 7, 3) := by decide +kernel
theorem dX11_get_4 : decode cX11_get 4 = .ok (.bipush 15, 2) := by decide +kernel
theorem dX11_get_6 : decode cX11_get 6 = .ok (.bipush 7, 2) := by decide +kernel
theorem dX11_get_8 : decode cX11_get 8 = .ok (.iload_n 1, 1) := by decide +kernel
theorem dX11_get_9 : decode cX11_get 9 = .ok (.imul, 1) := by decide +kernel
theorem dX11_get_10 : decode cX11_get 10 = .ok (.iadd, 1) := by decide +kernel
theorem dX11_get_11 : decode cX11_get 11 = .ok (.iload_n 2, 1) := by decide +kernel
theorem dX11_get_12 : decode cX11_get 12 = .ok (.iadd, 1) := by decide +kernel
theorem dX11_get_13 : decode cX11_get 13 = .ok (.iaload, 1) := by decide +kernel
theorem dX11_get_14 : decode cX11_get 14 = .ok (.ireturn, 1) := by decide +kernel
theorem dX11_put_0 : decode cX11_put 0 = .ok (.aload_n 0, 1) := by decide +kernel
theorem dX11_put_1 : decode cX11_put 1 = .ok (.getfield 7, 3) := by decide +kernel
theorem dX11_put_4 : decode cX11_put 4 = .ok (.bipush 15, 2) := by decide +kernel
theorem dX11_put_6 : decode cX11_put 6 = .ok (.bipush 7, 2) := by decide +kernel
theorem dX11_put_8 : decode cX11_put 8 = .ok (.iload_n 1, 1) := by decide +kernel
theorem dX11_put_9 : decode cX11_put 9 = .ok (.imul, 1) := by decide +kernel
theorem dX11_put_10 : decode cX11_put 10 = .ok (.iadd, 1) := by decide +kernel
theorem dX11_put_11 : decode cX11_put 11 = .ok (.iload_n 2, 1) := by decide +kernel
theorem dX11_put_12 : decode cX11_put 12 = .ok (.iadd, 1) := by decide +kernel
theorem dX11_put_13 : decode cX11_put 13 = .ok (.iload_n 3, 1) := by decide +kernel
theorem dX11_put_14 : decode cX11_put 14 = .ok (.iastore, 1) := by decide +kernel
theorem dX11_put_15 : decode cX11_put 15 = .ok (.return_, 1) := by decide +kernel
theorem dX11_own_0 : decode cX11_own 0 = .ok (.aload_n 0, 1) := by decide +kernel
theorem dX11_own_1 : decode cX11_own 1 = .ok (.getfield 7, 3) := by decide +kernel
theorem dX11_own_4 : decode cX11_own 4 = .ok (.bipush 99, 2) := by decide +kernel
theorem dX11_own_6 : decode cX11_own 6 = .ok (.iconst 3, 1) := by decide +kernel
theorem dX11_own_7 : decode cX11_own 7 = .ok (.iload_n 1, 1) := by decide +kernel
theorem dX11_own_8 : decode cX11_own 8 = .ok (.imul, 1) := by decide +kernel
theorem dX11_own_9 : decode cX11_own 9 = .ok (.iadd, 1) := by decide +kernel
theorem dX11_own_10 : decode cX11_own 10 = .ok (.iload_n 2, 1) := by decide +kernel
theorem dX11_own_11 : decode cX11_own 11 = .ok (.iadd, 1) := by decide +kernel
theorem dX11_own_12 : decode cX11_own 12 = .ok (.iaload, 1) := by decide +kernel
theorem dX11_own_13 : decode cX11_own 13 = .ok (.ireturn, 1) := by decide +kernel
theorem dX11_isThere_0 : decode cX11_isThere 0 = .ok (.aload_n 0, 1) := by decide +kernel
theorem dX11_isThere_1 : decode cX11_isThere 1 = .ok (.iload_n 1, 1) := by decide +kernel
theorem dX11_isThere_2 : decode cX11_isThere 2 = .ok (.iconst 1, 1) := by decide +kernel
theorem dX11_isThere_3 : decode cX11_isThere 3 = .ok (.invokevirtual 66, 3) := by decide +kernel
theorem dX11_isThere_6 : decode cX11_isThere 6 = .ok (.ifCond .ne 7, 3) := by decide +kernel
theorem dX11_isThere_9 : decode cX11_isThere 9 = .ok (.iconst 1, 1) := by decide +kernel
theorem dX11_isThere_10 : decode cX11_isThere 10 = .ok (.goto 4, 3) := by decide +kernel
theorem dX11_isThere_13 : decode cX11_isThere 13 = .ok (.iconst 0, 1) := by decide +kernel
theorem dX11_isThere_14 : decode cX11_isThere 14 = .ok (.ireturn, 1) := by decide +kernel
theorem dX11_there_0 : decode cX11_there 0 = .ok (.iconst 0, 1) := by decide +kernel
theorem dX11_there_1 : decode cX11_there 1 = .ok (.istore_n 1, 1) := by decide +kernel
theorem dX11_there_2 : decode cX11_there 2 = .ok (.iconst 0, 1) := by decide +kernel
theorem dX11_there_3 : decode cX11_there 3 = .ok (.istore_n 2, 1) := by decide +kernel
theorem dX11_there_4 : decode cX11_there 4 = .ok (.iload_n 2, 1) := by decide +kernel
theorem dX11_there_5 : decode cX11_there 5 = .ok (.aload_n 0, 1) := by decide +kernel
theorem dX11_there_6 : decode cX11_there 6 = .ok (.getfield 7, 3) := by decide +kernel
theorem dX11_there_9 : decode cX11_there 9 = .ok (.bipush 14, 2) := by decide +kernel
theorem dX11_there_11 : decode cX11_there 11 = .ok (.iaload, 1) := by decide +kernel
theorem dX11_there_12 : decode cX11_there 12 = .ok (.if_icmp .ge 27, 3) := by decide +kernel
theorem dX11_there_15 : decode cX11_there 15 = .ok (.iload_n 1, 1) := by decide +kernel
theorem dX11_there_16 : decode cX11_there 16 = .ok (.aload_n 0, 1) := by decide +kernel
theorem dX11_there_17 : decode cX11_there 17 = .ok (.iload_n 2, 1) := by decide +kernel
theorem dX11_there_18 : decode cX11_there 18 = .ok (.invokevirtual 70, 3) := by decide +kernel
theorem dX11_there_21 : decode cX11_there 21 = .ok (.ifCond .eq 9, 3) := by decide +kernel
theorem dX11_there_24 : decode cX11_there 24 = .ok (.iconst 1, 1) := by decide +kernel
theorem dX11_there_25 : decode cX11_there 25 = .ok (.iload_n 2, 1) := by decide +kernel
theorem dX11_there_26 : decode cX11_there 26 = .ok (.ishl, 1) := by decide +kernel
theorem dX11_there_27 : decode cX11_there 27 = .ok (.goto 4, 3) := by decide +kernel
theorem dX11_there_30 : decode cX11_there 30 = .ok (.iconst 0, 1) := by decide +kernel
theorem dX11_there_31 : decode cX11_there 31 = .ok (.ior, 1) := by decide +kernel
theorem dX11_there_32 : decode cX11_there 32 = .ok (.istore_n 1, 1) := by decide +kernel
theorem dX11_there_33 : decode cX11_there 33 = .ok (.iinc 2 1, 3) := by decide +kernel
theorem dX11_there_36 : decode cX11_there 36 = .ok (.goto (-32), 3) := by decide +kernel
theorem dX11_there_39 : decode cX11_there 39 = .ok (.iload_n 1, 1) := by decide +kernel
theorem dX11_there_40 : decode cX11_there 40 = .ok (.ireturn, 1) := by decide +kernel
theorem dX11_ownedBy_0 : decode cX11_ownedBy 0 = .ok (.iconst 0, 1) := by decide +kernel
theorem dX11_ownedBy_1 : decode cX11_ownedBy 1 = .ok (.istore_n 2, 1) := by decide +kernel
theorem dX11_ownedBy_2 : decode cX11_ownedBy 2 = .ok (.iconst 0, 1) := by decide +kernel
theorem dX11_ownedBy_3 : decode cX11_ownedBy 3 = .ok (.istore_n 3, 1) := by decide +kernel
theorem dX11_ownedBy_4 : decode cX11_ownedBy 4 = .ok (.iload_n 3, 1) := by decide +kernel
theorem dX11_ownedBy_5 : decode cX11_ownedBy 5 = .ok (.aload_n 0, 1) := by decide +kernel
theorem dX11_ownedBy_6 : decode cX11_ownedBy 6 = .ok (.getfield 7, 3) := by decide +kernel
theorem dX11_ownedBy_9 : decode cX11_ownedBy 9 = .ok (.bipush 14, 2) := by decide +kernel
theorem dX11_ownedBy_11 : decode cX11_ownedBy 11 = .ok (.iaload, 1) := by decide +kernel
theorem dX11_ownedBy_12 : decode cX11_ownedBy 12 = .ok (.if_icmp .ge 29, 3) := by decide +kernel
theorem dX11_ownedBy_15 : decode cX11_ownedBy 15 = .ok (.iload_n 2, 1) := by decide +kernel
theorem dX11_ownedBy_16 : decode cX11_ownedBy 16 = .ok (.aload_n 0, 1) := by decide +kernel
theorem dX11_ownedBy_17 : decode cX11_ownedBy 17 = .ok (.iload_n 3, 1) := by decide +kernel
theorem dX11_ownedBy_18 : decode cX11_ownedBy 18 = .ok (.iconst 2, 1) := by decide +kernel
theorem dX11_ownedBy_19 : decode cX11_ownedBy 19 = .ok (.invokevirtual 66, 3) := by decide +kernel
theorem dX11_ownedBy_22 : decode cX11_ownedBy 22 = .ok (.iload_n 1, 1) := by decide +kernel
theorem dX11_ownedBy_23 : decode cX11_ownedBy 23 = .ok (.if_icmp .ne 9, 3) := by decide +kernel
theorem dX11_ownedBy_26 : decode cX11_ownedBy 26 = .ok (.iconst 1, 1) := by decide +kernel
theorem dX11_ownedBy_27 : decode cX11_ownedBy 27 = .ok (.iload_n 3, 1) := by decide +kernel
theorem dX11_ownedBy_28 : decode cX11_ownedBy 28 = .ok (.ishl, 1) := by decide +kernel
theorem dX11_ownedBy_29 : decode cX11_ownedBy 29 = .ok (.goto 4, 3) := by decide +kernel
theorem dX11_ownedBy_32 : decode cX11_ownedBy 32 = .ok (.iconst 0, 1) := by decide +kernel
theorem dX11_ownedBy_33 : decode cX11_ownedBy 33 = .ok (.ior, 1) := by decide +kernel
theorem dX11_ownedBy_34 : decode cX11_ownedBy 34 = .ok (.istore_n 2, 1) := by decide +kernel
theorem dX11_ownedBy_35 : decode cX11_ownedBy 35 = .ok (.iinc 3 1, 3) := by decide +kernel
theorem dX11_ownedBy_38 : decode cX11_ownedBy 38 = .ok (.goto (-34), 3) := by decide +kernel
theorem dX11_ownedBy_41 : decode cX11_ownedBy 41 = .ok (.iload_n 2, 1) := by decide +kernel
theorem dX11_ownedBy_42 : decode cX11_ownedBy 42 = .ok (.ireturn, 1) := by decide +kernel
theorem dX11_hangingOn_0 : decode cX11_hangingOn 0 = .ok (.iconst 1, 1) := by decide +kernel
theorem dX11_hangingOn_1 : decode cX11_hangingOn 1 = .ok (.iload_n 1, 1) := by decide +kernel
theorem dX11_hangingOn_2 : decode cX11_hangingOn 2 = .ok (.ishl, 1) := by decide +kernel
theorem dX11_hangingOn_3 : decode cX11_hangingOn 3 = .ok (.istore_n 2, 1) := by decide +kernel
theorem dX11_hangingOn_4 : decode cX11_hangingOn 4 = .ok (.iconst 0, 1) := by decide +kernel
theorem dX11_hangingOn_5 : decode cX11_hangingOn 5 = .ok (.istore_n 3, 1) := by decide +kernel
theorem dX11_hangingOn_6 : decode cX11_hangingOn 6 = .ok (.iload_n 3, 1) := by decide +kernel
theorem dX11_hangingOn_7 : decode cX11_hangingOn 7 = .ok (.bipush 12, 2) := by decide +kernel
theorem dX11_hangingOn_9 : decode cX11_hangingOn 9 = .ok (.if_icmp .ge 54, 3) := by decide +kernel
theorem dX11_hangingOn_12 : decode cX11_hangingOn 12 = .ok (.iconst 0, 1) := by decide +kernel
theorem dX11_hangingOn_13 : decode cX11_hangingOn 13 = .ok (.istore 4, 2) := by decide +kernel
theorem dX11_hangingOn_15 : decode cX11_hangingOn 15 = .ok (.iload 4, 2) := by decide +kernel
theorem dX11_hangingOn_17 : decode cX11_hangingOn 17 = .ok (.aload_n 0, 1) := by decide +kernel
theorem dX11_hangingOn_18 : decode cX11_hangingOn 18 = .ok (.getfield 7, 3) := by decide +kernel
theorem dX11_hangingOn_21 : decode cX11_hangingOn 21 = .ok (.bipush 14, 2) := by decide +kernel
theorem dX11_hangingOn_23 : decode cX11_hangingOn 23 = .ok (.iaload, 1) := by decide +kernel
theorem dX11_hangingOn_24 : decode cX11_hangingOn 24 = .ok (.if_icmp .ge 33, 3) := by decide +kernel
theorem dX11_hangingOn_27 : decode cX11_hangingOn 27 = .ok (.iload_n 2, 1) := by decide +kernel
theorem dX11_hangingOn_28 : decode cX11_hangingOn 28 = .ok (.aload_n 0, 1) := by decide +kernel
theorem dX11_hangingOn_29 : decode cX11_hangingOn 29 = .ok (.iload 4, 2) := by decide +kernel
theorem dX11_hangingOn_31 : decode cX11_hangingOn 31 = .ok (.bipush 6, 2) := by decide +kernel
theorem dX11_hangingOn_33 : decode cX11_hangingOn 33 = .ok (.invokevirtual 66, 3) := by decide +kernel
theorem dX11_hangingOn_36 : decode cX11_hangingOn 36 = .ok (.iload_n 2, 1) := by decide +kernel
theorem dX11_hangingOn_37 : decode cX11_hangingOn 37 = .ok (.iand, 1) := by decide +kernel
theorem dX11_hangingOn_38 : decode cX11_hangingOn 38 = .ok (.ifCond .eq 10, 3) := by decide +kernel
theorem dX11_hangingOn_41 : decode cX11_hangingOn 41 = .ok (.iconst 1, 1) := by decide +kernel
theorem dX11_hangingOn_42 : decode cX11_hangingOn 42 = .ok (.iload 4, 2) := by decide +kernel
theorem dX11_hangingOn_44 : decode cX11_hangingOn 44 = .ok (.ishl, 1) := by decide +kernel
theorem dX11_hangingOn_45 : decode cX11_hangingOn 45 = .ok (.goto 4, 3) := by decide +kernel
theorem dX11_hangingOn_48 : decode cX11_hangingOn 48 = .ok (.iconst 0, 1) := by decide +kernel
theorem dX11_hangingOn_49 : decode cX11_hangingOn 49 = .ok (.ior, 1) := by decide +kernel
theorem dX11_hangingOn_50 : decode cX11_hangingOn 50 = .ok (.istore_n 2, 1) := by decide +kernel
theorem dX11_hangingOn_51 : decode cX11_hangingOn 51 = .ok (.iinc 4 1, 3) := by decide +kernel
theorem dX11_hangingOn_54 : decode cX11_hangingOn 54 = .ok (.goto (-39), 3) := by decide +kernel
theorem dX11_hangingOn_57 : decode cX11_hangingOn 57 = .ok (.iinc 3 1, 3) := by decide +kernel
theorem dX11_hangingOn_60 : decode cX11_hangingOn 60 = .ok (.goto (-54), 3) := by decide +kernel
theorem dX11_hangingOn_63 : decode cX11_hangingOn 63 = .ok (.iload_n 2, 1) := by decide +kernel
theorem dX11_hangingOn_64 : decode cX11_hangingOn 64 = .ok (.ireturn, 1) := by decide +kernel
theorem dX11_person_0 : decode cX11_person 0 = .ok (.iload_n 1, 1) := by decide +kernel
theorem dX11_person_1 : decode cX11_person 1 = .ok (.iconst 0, 1) := by decide +kernel
theorem dX11_person_2 : decode cX11_person 2 = .ok (.iconst 2, 1) := by decide +kernel
theorem dX11_person_3 : decode cX11_person 3 = .ok (.invokestatic 62, 3) := by decide +kernel
theorem dX11_person_6 : decode cX11_person 6 = .ok (.ifCond .eq 24, 3) := by decide +kernel
theorem dX11_person_9 : decode cX11_person 9 = .ok (.iload_n 2, 1) := by decide +kernel
theorem dX11_person_10 : decode cX11_person 10 = .ok (.iconst 0, 1) := by decide +kernel
theorem dX11_person_11 : decode cX11_person 11 = .ok (.sipush 9999, 3) := by decide +kernel
theorem dX11_person_14 : decode cX11_person 14 = .ok (.invokestatic 62, 3) := by decide +kernel
theorem dX11_person_17 : decode cX11_person 17 = .ok (.ifCond .eq 13, 3) := by decide +kernel
theorem dX11_person_20 : decode cX11_person 20 = .ok (.aload_n 0, 1) := by decide +kernel
theorem dX11_person_21 : decode cX11_person 21 = .ok (.getfield 7, 3) := by decide +kernel
theorem dX11_person_24 : decode cX11_person 24 = .ok (.iconst 0, 1) := by decide +kernel
theorem dX11_person_25 : decode cX11_person 25 = .ok (.iaload, 1) := by decide +kernel
theorem dX11_person_26 : decode cX11_person 26 = .ok (.iconst 5, 1) := by decide +kernel
theorem dX11_person_27 : decode cX11_person 27 = .ok (.if_icmp .ne 5, 3) := by decide +kernel
theorem dX11_person_30 : decode cX11_person 30 = .ok (.iconst (-1), 1) := by decide +kernel
theorem dX11_person_31 : decode cX11_person 31 = .ok (.ireturn, 1) := by decide +kernel
theorem dX11_person_32 : decode cX11_person 32 = .ok (.bipush 99, 2) := by decide +kernel
theorem dX11_person_34 : decode cX11_person 34 = .ok (.iconst 3, 1) := by decide +kernel
theorem dX11_person_35 : decode cX11_person 35 = .ok (.aload_n 0, 1) := by decide +kernel
theorem dX11_person_36 : decode cX11_person 36 = .ok (.getfield 7, 3) := by decide +kernel
theorem dX11_person_39 : decode cX11_person 39 = .ok (.iconst 0, 1) := by decide +kernel
theorem dX11_person_40 : decode cX11_person 40 = .ok (.iaload, 1) := by decide +kernel
theorem dX11_person_41 : decode cX11_person 41 = .ok (.imul, 1) := by decide +kernel
theorem dX11_person_42 : decode cX11_person 42 = .ok (.iadd, 1) := by decide +kernel
theorem dX11_person_43 : decode cX11_person 43 = .ok (.istore_n 3, 1) := by decide +kernel
theorem dX11_person_44 : decode cX11_person 44 = .ok (.aload_n 0, 1) := by decide +kernel
theorem dX11_person_45 : decode cX11_person 45 = .ok (.getfield 7, 3) := by decide +kernel
theorem dX11_person_48 : decode cX11_person 48 = .ok (.iload_n 3, 1) := by decide +kernel
theorem dX11_person_49 : decode cX11_person 49 = .ok (.iload_n 2, 1) := by decide +kernel
theorem dX11_person_50 : decode cX11_person 50 = .ok (.iastore, 1) := by decide +kernel
theorem dX11_person_51 : decode cX11_person 51 = .ok (.aload_n 0, 1) := by decide +kernel
theorem dX11_person_52 : decode cX11_person 52 = .ok (.getfield 7, 3) := by decide +kernel
theorem dX11_person_55 : decode cX11_person 55 = .ok (.iload_n 3, 1) := by decide +kernel
theorem dX11_person_56 : decode cX11_person 56 = .ok (.iconst 1, 1) := by decide +kernel
theorem dX11_person_57 : decode cX11_person 57 = .ok (.iadd, 1) := by decide +kernel
theorem dX11_person_58 : decode cX11_person 58 = .ok (.iload_n 1, 1) := by decide +kernel
theorem dX11_person_59 : decode cX11_person 59 = .ok (.iastore, 1) := by decide +kernel
theorem dX11_person_60 : decode cX11_person 60 = .ok (.aload_n 0, 1) := by decide +kernel
theorem dX11_person_61 : decode cX11_person 61 = .ok (.getfield 7, 3) := by decide +kernel
theorem dX11_person_64 : decode cX11_person 64 = .ok (.iload_n 3, 1) := by decide +kernel
theorem dX11_person_65 : decode cX11_person 65 = .ok (.iconst 2, 1) := by decide +kernel
theorem dX11_person_66 : decode cX11_person 66 = .ok (.iadd, 1) := by decide +kernel
theorem dX11_person_67 : decode cX11_person 67 = .ok (.iload_n 2, 1) := by decide +kernel
theorem dX11_person_68 : decode cX11_person 68 = .ok (.iastore, 1) := by decide +kernel
theorem dX11_person_69 : decode cX11_person 69 = .ok (.aload_n 0, 1) := by decide +kernel
theorem dX11_person_70 : decode cX11_person 70 = .ok (.getfield 7, 3) := by decide +kernel
theorem dX11_person_73 : decode cX11_person 73 = .ok (.iconst 0, 1) := by decide +kernel
theorem dX11_person_74 : decode cX11_person 74 = .ok (.dup2, 1) := by decide +kernel
theorem dX11_person_75 : decode cX11_person 75 = .ok (.iaload, 1) := by decide +kernel
theorem dX11_person_76 : decode cX11_person 76 = .ok (.iconst 1, 1) := by decide +kernel
theorem dX11_person_77 : decode cX11_person 77 = .ok (.iadd, 1) := by decide +kernel
theorem dX11_person_78 : decode cX11_person 78 = .ok (.iastore, 1) := by decide +kernel
theorem dX11_person_79 : decode cX11_person 79 = .ok (.aload_n 0, 1) := by decide +kernel
theorem dX11_person_80 : decode cX11_person 80 = .ok (.getfield 7, 3) := by decide +kernel
theorem dX11_person_83 : decode cX11_person 83 = .ok (.iconst 0, 1) := by decide +kernel
theorem dX11_person_84 : decode cX11_person 84 = .ok (.iaload, 1) := by decide +kernel
theorem dX11_person_85 : decode cX11_person 85 = .ok (.iconst 1, 1) := by decide +kernel
theorem dX11_person_86 : decode cX11_person 86 = .ok (.isub, 1) := by decide +kernel
theorem dX11_person_87 : decode cX11_person 87 = .ok (.ireturn, 1) := by decide +kernel
theorem dX11_crease_0 : decode cX11_crease 0 = .ok (.aload_n 0, 1) := by decide +kernel
theorem dX11_crease_1 : decode cX11_crease 1 = .ok (.iload_n 1, 1) := by decide +kernel
theorem dX11_crease_2 : decode cX11_crease 2 = .ok (.invokevirtual 74, 3) := by decide +kernel
theorem dX11_crease_5 : decode cX11_crease 5 = .ok (.ifCond .eq 47, 3) := by decide +kernel
theorem dX11_crease_8 : decode cX11_crease 8 = .ok (.iload_n 2, 1) := by decide +kernel
theorem dX11_crease_9 : decode cX11_crease 9 = .ok (.iconst 0, 1) := by decide +kernel
theorem dX11_crease_10 : decode cX11_crease 10 = .ok (.bipush 99, 2) := by decide +kernel
theorem dX11_crease_12 : decode cX11_crease 12 = .ok (.invokestatic 62, 3) := by decide +kernel
theorem dX11_crease_15 : decode cX11_crease 15 = .ok (.ifCond .eq 37, 3) := by decide +kernel
theorem dX11_crease_18 : decode cX11_crease 18 = .ok (.iload_n 3, 1) := by decide +kernel
theorem dX11_crease_19 : decode cX11_crease 19 = .ok (.iconst 1, 1) := by decide +kernel
theorem dX11_crease_20 : decode cX11_crease 20 = .ok (.bipush 9, 2) := by decide +kernel
theorem dX11_crease_22 : decode cX11_crease 22 = .ok (.invokestatic 62, 3) := by decide +kernel
theorem dX11_crease_25 : decode cX11_crease 25 = .ok (.ifCond .eq 27, 3) := by decide +kernel
theorem dX11_crease_28 : decode cX11_crease 28 = .ok (.iload 4, 2) := by decide +kernel
theorem dX11_crease_30 : decode cX11_crease 30 = .ok (.bipush (-9), 2) := by decide +kernel
theorem dX11_crease_32 : decode cX11_crease 32 = .ok (.bipush 9, 2) := by decide +kernel
theorem dX11_crease_34 : decode cX11_crease 34 = .ok (.invokestatic 62, 3) := by decide +kernel
theorem dX11_crease_37 : decode cX11_crease 37 = .ok (.ifCond .eq 15, 3) := by decide +kernel
theorem dX11_crease_40 : decode cX11_crease 40 = .ok (.aload_n 0, 1) := by decide +kernel
theorem dX11_crease_41 : decode cX11_crease 41 = .ok (.getfield 7, 3) := by decide +kernel
theorem dX11_crease_44 : decode cX11_crease 44 = .ok (.bipush 14, 2) := by decide +kernel
theorem dX11_crease_46 : decode cX11_crease 46 = .ok (.iaload, 1) := by decide +kernel
theorem dX11_crease_47 : decode cX11_crease 47 = .ok (.bipush 12, 2) := by decide +kernel
theorem dX11_crease_49 : decode cX11_crease 49 = .ok (.if_icmp .ne 5, 3) := by decide +kernel
theorem dX11_crease_52 : decode cX11_crease 52 = .ok (.iconst (-1), 1) := by decide +kernel
theorem dX11_crease_53 : decode cX11_crease 53 = .ok (.ireturn, 1) := by decide +kernel
theorem dX11_crease_54 : decode cX11_crease 54 = .ok (.aload_n 0, 1) := by decide +kernel
theorem dX11_crease_55 : decode cX11_crease 55 = .ok (.getfield 7, 3) := by decide +kernel
theorem dX11_crease_58 : decode cX11_crease 58 = .ok (.bipush 14, 2) := by decide +kernel
theorem dX11_crease_60 : decode cX11_crease 60 = .ok (.iaload, 1) := by decide +kernel
theorem dX11_crease_61 : decode cX11_crease 61 = .ok (.istore 5, 2) := by decide +kernel
theorem dX11_crease_63 : decode cX11_crease 63 = .ok (.aload_n 0, 1) := by decide +kernel
theorem dX11_crease_64 : decode cX11_crease 64 = .ok (.iload 5, 2) := by decide +kernel
theorem dX11_crease_66 : decode cX11_crease 66 = .ok (.iconst 2, 1) := by decide +kernel
theorem dX11_crease_67 : decode cX11_crease 67 = .ok (.iload_n 1, 1) := by decide +kernel
theorem dX11_crease_68 : decode cX11_crease 68 = .ok (.invokevirtual 77, 3) := by decide +kernel
theorem dX11_crease_71 : decode cX11_crease 71 = .ok (.aload_n 0, 1) := by decide +kernel
theorem dX11_crease_72 : decode cX11_crease 72 = .ok (.iload 5, 2) := by decide +kernel
theorem dX11_crease_74 : decode cX11_crease 74 = .ok (.iconst 3, 1) := by decide +kernel
theorem dX11_crease_75 : decode cX11_crease 75 = .ok (.iload_n 2, 1) := by decide +kernel
theorem dX11_crease_76 : decode cX11_crease 76 = .ok (.invokevirtual 77, 3) := by decide +kernel
theorem dX11_crease_79 : decode cX11_crease 79 = .ok (.aload_n 0, 1) := by decide +kernel
theorem dX11_crease_80 : decode cX11_crease 80 = .ok (.iload 5, 2) := by decide +kernel
theorem dX11_crease_82 : decode cX11_crease 82 = .ok (.iconst 4, 1) := by decide +kernel
theorem dX11_crease_83 : decode cX11_crease 83 = .ok (.iload_n 3, 1) := by decide +kernel
theorem dX11_crease_84 : decode cX11_crease 84 = .ok (.invokevirtual 77, 3) := by decide +kernel
theorem dX11_crease_87 : decode cX11_crease 87 = .ok (.aload_n 0, 1) := by decide +kernel
theorem dX11_crease_88 : decode cX11_crease 88 = .ok (.iload 5, 2) := by decide +kernel
theorem dX11_crease_90 : decode cX11_crease 90 = .ok (.iconst 5, 1) := by decide +kernel
theorem dX11_crease_91 : decode cX11_crease 91 = .ok (.iload 4, 2) := by decide +kernel
theorem dX11_crease_93 : decode cX11_crease 93 = .ok (.invokevirtual 77, 3) := by decide +kernel
theorem dX11_crease_96 : decode cX11_crease 96 = .ok (.aload_n 0, 1) := by decide +kernel
theorem dX11_crease_97 : decode cX11_crease 97 = .ok (.iload 5, 2) := by decide +kernel
theorem dX11_crease_99 : decode cX11_crease 99 = .ok (.bipush 6, 2) := by decide +kernel
theorem dX11_crease_101 : decode cX11_crease 101 = .ok (.iconst 0, 1) := by decide +kernel
theorem dX11_crease_102 : decode cX11_crease 102 = .ok (.invokevirtual 77, 3) := by decide +kernel
theorem dX11_crease_105 : decode cX11_crease 105 = .ok (.aload_n 0, 1) := by decide +kernel
theorem dX11_crease_106 : decode cX11_crease 106 = .ok (.iload 5, 2) := by decide +kernel
theorem dX11_crease_108 : decode cX11_crease 108 = .ok (.iconst 0, 1) := by decide +kernel
theorem dX11_crease_109 : decode cX11_crease 109 = .ok (.iload_n 3, 1) := by decide +kernel
theorem dX11_crease_110 : decode cX11_crease 110 = .ok (.invokevirtual 77, 3) := by decide +kernel
theorem dX11_crease_113 : decode cX11_crease 113 = .ok (.aload_n 0, 1) := by decide +kernel
theorem dX11_crease_114 : decode cX11_crease 114 = .ok (.iload 5, 2) := by decide +kernel
theorem dX11_crease_116 : decode cX11_crease 116 = .ok (.iconst 1, 1) := by decide +kernel
theorem dX11_crease_117 : decode cX11_crease 117 = .ok (.iconst 0, 1) := by decide +kernel
theorem dX11_crease_118 : decode cX11_crease 118 = .ok (.invokevirtual 77, 3) := by decide +kernel
theorem dX11_crease_121 : decode cX11_crease 121 = .ok (.aload_n 0, 1) := by decide +kernel
theorem dX11_crease_122 : decode cX11_crease 122 = .ok (.getfield 7, 3) := by decide +kernel
theorem dX11_crease_125 : decode cX11_crease 125 = .ok (.bipush 14, 2) := by decide +kernel
theorem dX11_crease_127 : decode cX11_crease 127 = .ok (.dup2, 1) := by decide +kernel
theorem dX11_crease_128 : decode cX11_crease 128 = .ok (.iaload, 1) := by decide +kernel
theorem dX11_crease_129 : decode cX11_crease 129 = .ok (.iconst 1, 1) := by decide +kernel
theorem dX11_crease_130 : decode cX11_crease 130 = .ok (.iadd, 1) := by decide +kernel
theorem dX11_crease_131 : decode cX11_crease 131 = .ok (.iastore, 1) := by decide +kernel
theorem dX11_crease_132 : decode cX11_crease 132 = .ok (.iload 5, 2) := by decide +kernel
theorem dX11_crease_134 : decode cX11_crease 134 = .ok (.ireturn, 1) := by decide +kernel
theorem dX11_tie_0 : decode cX11_tie 0 = .ok (.aload_n 0, 1) := by decide +kernel
theorem dX11_tie_1 : decode cX11_tie 1 = .ok (.iload_n 1, 1) := by decide +kernel
theorem dX11_tie_2 : decode cX11_tie 2 = .ok (.invokevirtual 81, 3) := by decide +kernel
theorem dX11_tie_5 : decode cX11_tie 5 = .ok (.ifCond .eq 30, 3) := by decide +kernel
theorem dX11_tie_8 : decode cX11_tie 8 = .ok (.aload_n 0, 1) := by decide +kernel
theorem dX11_tie_9 : decode cX11_tie 9 = .ok (.iload_n 2, 1) := by decide +kernel
theorem dX11_tie_10 : decode cX11_tie 10 = .ok (.invokevirtual 81, 3) := by decide +kernel
theorem dX11_tie_13 : decode cX11_tie 13 = .ok (.ifCond .eq 22, 3) := by decide +kernel
theorem dX11_tie_16 : decode cX11_tie 16 = .ok (.iload_n 1, 1) := by decide +kernel
theorem dX11_tie_17 : decode cX11_tie 17 = .ok (.iload_n 2, 1) := by decide +kernel
theorem dX11_tie_18 : decode cX11_tie 18 = .ok (.if_icmp .eq 17, 3) := by decide +kernel
theorem dX11_tie_21 : decode cX11_tie 21 = .ok (.aload_n 0, 1) := by decide +kernel
theorem dX11_tie_22 : decode cX11_tie 22 = .ok (.iload_n 1, 1) := by decide +kernel
theorem dX11_tie_23 : decode cX11_tie 23 = .ok (.bipush 6, 2) := by decide +kernel
theorem dX11_tie_25 : decode cX11_tie 25 = .ok (.invokevirtual 66, 3) := by decide +kernel
theorem dX11_tie_28 : decode cX11_tie 28 = .ok (.iload_n 2, 1) := by decide +kernel
theorem dX11_tie_29 : decode cX11_tie 29 = .ok (.invokestatic 84, 3) := by decide +kernel
theorem dX11_tie_32 : decode cX11_tie 32 = .ok (.ifCond .eq 5, 3) := by decide +kernel
theorem dX11_tie_35 : decode cX11_tie 35 = .ok (.iconst 0, 1) := by decide +kernel
theorem dX11_tie_36 : decode cX11_tie 36 = .ok (.ireturn, 1) := by decide +kernel
theorem dX11_tie_37 : decode cX11_tie 37 = .ok (.aload_n 0, 1) := by decide +kernel
theorem dX11_tie_38 : decode cX11_tie 38 = .ok (.iload_n 1, 1) := by decide +kernel
theorem dX11_tie_39 : decode cX11_tie 39 = .ok (.bipush 6, 2) := by decide +kernel
theorem dX11_tie_41 : decode cX11_tie 41 = .ok (.aload_n 0, 1) := by decide +kernel
theorem dX11_tie_42 : decode cX11_tie 42 = .ok (.iload_n 1, 1) := by decide +kernel
theorem dX11_tie_43 : decode cX11_tie 43 = .ok (.bipush 6, 2) := by decide +kernel
theorem dX11_tie_45 : decode cX11_tie 45 = .ok (.invokevirtual 66, 3) := by decide +kernel
theorem dX11_tie_48 : decode cX11_tie 48 = .ok (.iconst 1, 1) := by decide +kernel
theorem dX11_tie_49 : decode cX11_tie 49 = .ok (.iload_n 2, 1) := by decide +kernel
theorem dX11_tie_50 : decode cX11_tie 50 = .ok (.ishl, 1) := by decide +kernel
theorem dX11_tie_51 : decode cX11_tie 51 = .ok (.ior, 1) := by decide +kernel
theorem dX11_tie_52 : decode cX11_tie 52 = .ok (.invokevirtual 77, 3) := by decide +kernel
theorem dX11_tie_55 : decode cX11_tie 55 = .ok (.iconst 1, 1) := by decide +kernel
theorem dX11_tie_56 : decode cX11_tie 56 = .ok (.ireturn, 1) := by decide +kernel
theorem dX11_heat_0 : decode cX11_heat 0 = .ok (.iload_n 1, 1) := by decide +kernel
theorem dX11_heat_1 : decode cX11_heat 1 = .ok (.iconst 0, 1) := by decide +kernel
theorem dX11_heat_2 : decode cX11_heat 2 = .ok (.bipush 9, 2) := by decide +kernel
theorem dX11_heat_4 : decode cX11_heat 4 = .ok (.invokestatic 62, 3) := by decide +kernel
theorem dX11_heat_7 : decode cX11_heat 7 = .ok (.ifCond .ne 5, 3) := by decide +kernel
theorem dX11_heat_10 : decode cX11_heat 10 = .ok (.iconst 0, 1) := by decide +kernel
theorem dX11_heat_11 : decode cX11_heat 11 = .ok (.ireturn, 1) := by decide +kernel
theorem dX11_heat_12 : decode cX11_heat 12 = .ok (.aload_n 0, 1) := by decide +kernel
theorem dX11_heat_13 : decode cX11_heat 13 = .ok (.getfield 7, 3) := by decide +kernel
theorem dX11_heat_16 : decode cX11_heat 16 = .ok (.bipush 13, 2) := by decide +kernel
theorem dX11_heat_18 : decode cX11_heat 18 = .ok (.iload_n 1, 1) := by decide +kernel
theorem dX11_heat_19 : decode cX11_heat 19 = .ok (.iastore, 1) := by decide +kernel
theorem dX11_heat_20 : decode cX11_heat 20 = .ok (.iconst 1, 1) := by decide +kernel
theorem dX11_heat_21 : decode cX11_heat 21 = .ok (.ireturn, 1) := by decide +kernel
theorem dX11_four_0 : decode cX11_four 0 = .ok (.bipush 24, 2) := by decide +kernel
theorem dX11_four_2 : decode cX11_four 2 = .ok (.istore_n 2, 1) := by decide +kernel
theorem dX11_four_3 : decode cX11_four 3 = .ok (.iload_n 2, 1) := by decide +kernel
theorem dX11_four_4 : decode cX11_four 4 = .ok (.ifCond .lt 35, 3) := by decide +kernel
theorem dX11_four_7 : decode cX11_four 7 = .ok (.aload_n 0, 1) := by decide +kernel
theorem dX11_four_8 : decode cX11_four 8 = .ok (.getfield 19, 3) := by decide +kernel
theorem dX11_four_11 : decode cX11_four 11 = .ok (.aload_n 0, 1) := by decide +kernel
theorem dX11_four_12 : decode cX11_four 12 = .ok (.getfield 88, 3) := by decide +kernel
theorem dX11_four_15 : decode cX11_four 15 = .ok (.iload_n 1, 1) := by decide +kernel
theorem dX11_four_16 : decode cX11_four 16 = .ok (.iload_n 2, 1) := by decide +kernel
theorem dX11_four_17 : decode cX11_four 17 = .ok (.ishr, 1) := by decide +kernel
theorem dX11_four_18 : decode cX11_four 18 = .ok (.sipush 255, 3) := by decide +kernel
theorem dX11_four_21 : decode cX11_four 21 = .ok (.iand, 1) := by decide +kernel
theorem dX11_four_22 : decode cX11_four 22 = .ok (.iastore, 1) := by decide +kernel
theorem dX11_four_23 : decode cX11_four 23 = .ok (.aload_n 0, 1) := by decide +kernel
theorem dX11_four_24 : decode cX11_four 24 = .ok (.dup, 1) := by decide +kernel
theorem dX11_four_25 : decode cX11_four 25 = .ok (.getfield 88, 3) := by decide +kernel
theorem dX11_four_28 : decode cX11_four 28 = .ok (.iconst 1, 1) := by decide +kernel
theorem dX11_four_29 : decode cX11_four 29 = .ok (.iadd, 1) := by decide +kernel
theorem dX11_four_30 : decode cX11_four 30 = .ok (.putfield 88, 3) := by decide +kernel
theorem dX11_four_33 : decode cX11_four 33 = .ok (.iinc 2 (-8), 3) := by decide +kernel
theorem dX11_four_36 : decode cX11_four 36 = .ok (.goto (-33), 3) := by decide +kernel
theorem dX11_four_39 : decode cX11_four 39 = .ok (.return_, 1) := by decide +kernel
theorem dX11_feed_0 : decode cX11_feed 0 = .ok (.aload_n 0, 1) := by decide +kernel
theorem dX11_feed_1 : decode cX11_feed 1 = .ok (.getfield 88, 3) := by decide +kernel
theorem dX11_feed_4 : decode cX11_feed 4 = .ok (.bipush 20, 2) := by decide +kernel
theorem dX11_feed_6 : decode cX11_feed 6 = .ok (.iadd, 1) := by decide +kernel
theorem dX11_feed_7 : decode cX11_feed 7 = .ok (.sipush 300, 3) := by decide +kernel
theorem dX11_feed_10 : decode cX11_feed 10 = .ok (.if_icmp .le 5, 3) := by decide +kernel
theorem dX11_feed_13 : decode cX11_feed 13 = .ok (.iconst (-1), 1) := by decide +kernel
theorem dX11_feed_14 : decode cX11_feed 14 = .ok (.ireturn, 1) := by decide +kernel
theorem dX11_feed_15 : decode cX11_feed 15 = .ok (.aload_n 0, 1) := by decide +kernel
theorem dX11_feed_16 : decode cX11_feed 16 = .ok (.iload_n 1, 1) := by decide +kernel
theorem dX11_feed_17 : decode cX11_feed 17 = .ok (.invokevirtual 91, 3) := by decide +kernel
theorem dX11_feed_20 : decode cX11_feed 20 = .ok (.aload_n 0, 1) := by decide +kernel
theorem dX11_feed_21 : decode cX11_feed 21 = .ok (.iload_n 2, 1) := by decide +kernel
theorem dX11_feed_22 : decode cX11_feed 22 = .ok (.invokevirtual 91, 3) := by decide +kernel
theorem dX11_feed_25 : decode cX11_feed 25 = .ok (.aload_n 0, 1) := by decide +kernel
theorem dX11_feed_26 : decode cX11_feed 26 = .ok (.iload_n 3, 1) := by decide +kernel
theorem dX11_feed_27 : decode cX11_feed 27 = .ok (.invokevirtual 91, 3) := by decide +kernel
theorem dX11_feed_30 : decode cX11_feed 30 = .ok (.aload_n 0, 1) := by decide +kernel
theorem dX11_feed_31 : decode cX11_feed 31 = .ok (.iload 4, 2) := by decide +kernel
theorem dX11_feed_33 : decode cX11_feed 33 = .ok (.invokevirtual 91, 3) := by decide +kernel
theorem dX11_feed_36 : decode cX11_feed 36 = .ok (.aload_n 0, 1) := by decide +kernel
theorem dX11_feed_37 : decode cX11_feed 37 = .ok (.iload 5, 2) := by decide +kernel
theorem dX11_feed_39 : decode cX11_feed 39 = .ok (.invokevirtual 91, 3) := by decide +kernel
theorem dX11_feed_42 : decode cX11_feed 42 = .ok (.aload_n 0, 1) := by decide +kernel
theorem dX11_feed_43 : decode cX11_feed 43 = .ok (.getfield 88, 3) := by decide +kernel
theorem dX11_feed_46 : decode cX11_feed 46 = .ok (.ireturn, 1) := by decide +kernel
theorem dX11_end_0 : decode cX11_end 0 = .ok (.iload_n 1, 1) := by decide +kernel
theorem dX11_end_1 : decode cX11_end 1 = .ok (.iconst 0, 1) := by decide +kernel
theorem dX11_end_2 : decode cX11_end 2 = .ok (.aload_n 0, 1) := by decide +kernel
theorem dX11_end_3 : decode cX11_end 3 = .ok (.getfield 88, 3) := by decide +kernel
theorem dX11_end_6 : decode cX11_end 6 = .ok (.invokestatic 62, 3) := by decide +kernel
theorem dX11_end_9 : decode cX11_end 9 = .ok (.ifCond .ne 5, 3) := by decide +kernel
theorem dX11_end_12 : decode cX11_end 12 = .ok (.iconst (-1), 1) := by decide +kernel
theorem dX11_end_13 : decode cX11_end 13 = .ok (.ireturn, 1) := by decide +kernel
theorem dX11_end_14 : decode cX11_end 14 = .ok (.aload_n 0, 1) := by decide +kernel
theorem dX11_end_15 : decode cX11_end 15 = .ok (.iload_n 1, 1) := by decide +kernel
theorem dX11_end_16 : decode cX11_end 16 = .ok (.putfield 88, 3) := by decide +kernel
theorem dX11_end_19 : decode cX11_end 19 = .ok (.iload_n 1, 1) := by decide +kernel
theorem dX11_end_20 : decode cX11_end 20 = .ok (.ireturn, 1) := by decide +kernel
theorem dX11_byteAt_0 : decode cX11_byteAt 0 = .ok (.iload_n 1, 1) := by decide +kernel
theorem dX11_byteAt_1 : decode cX11_byteAt 1 = .ok (.aload_n 0, 1) := by decide +kernel
theorem dX11_byteAt_2 : decode cX11_byteAt 2 = .ok (.getfield 88, 3) := by decide +kernel
theorem dX11_byteAt_5 : decode cX11_byteAt 5 = .ok (.if_icmp .ge 12, 3) := by decide +kernel
theorem dX11_byteAt_8 : decode cX11_byteAt 8 = .ok (.aload_n 0, 1) := by decide +kernel
theorem dX11_byteAt_9 : decode cX11_byteAt 9 = .ok (.getfield 19, 3) := by decide +kernel
theorem dX11_byteAt_12 : decode cX11_byteAt 12 = .ok (.iload_n 1, 1) := by decide +kernel
theorem dX11_byteAt_13 : decode cX11_byteAt 13 = .ok (.iaload, 1) := by decide +kernel
theorem dX11_byteAt_14 : decode cX11_byteAt 14 = .ok (.goto 4, 3) := by decide +kernel
theorem dX11_byteAt_17 : decode cX11_byteAt 17 = .ok (.iconst (-1), 1) := by decide +kernel
theorem dX11_byteAt_18 : decode cX11_byteAt 18 = .ok (.ireturn, 1) := by decide +kernel
theorem dX11_isLetterByte_0 : decode cX11_isLetterByte 0 = .ok (.iload_n 0, 1) := by decide +kernel
theorem dX11_isLetterByte_1 : decode cX11_isLetterByte 1 = .ok (.bipush 97, 2) := by decide +kernel
theorem dX11_isLetterByte_3 : decode cX11_isLetterByte 3 = .ok (.if_icmp .lt 9, 3) := by decide +kernel
theorem dX11_isLetterByte_6 : decode cX11_isLetterByte 6 = .ok (.iload_n 0, 1) := by decide +kernel
theorem dX11_isLetterByte_7 : decode cX11_isLetterByte 7 = .ok (.bipush 122, 2) := by decide +kernel
theorem dX11_isLetterByte_9 : decode cX11_isLetterByte 9 = .ok (.if_icmp .le 15, 3) := by decide +kernel
theorem dX11_isLetterByte_12 : decode cX11_isLetterByte 12 = .ok (.iload_n 0, 1) := by decide +kernel
theorem dX11_isLetterByte_13 : decode cX11_isLetterByte 13 = .ok (.bipush 65, 2) := by decide +kernel
theorem dX11_isLetterByte_15 : decode cX11_isLetterByte 15 = .ok (.if_icmp .lt 13, 3) := by decide +kernel
theorem dX11_isLetterByte_18 : decode cX11_isLetterByte 18 = .ok (.iload_n 0, 1) := by decide +kernel
theorem dX11_isLetterByte_19 : decode cX11_isLetterByte 19 = .ok (.bipush 90, 2) := by decide +kernel
theorem dX11_isLetterByte_21 : decode cX11_isLetterByte 21 = .ok (.if_icmp .gt 7, 3) := by decide +kernel
theorem dX11_isLetterByte_24 : decode cX11_isLetterByte 24 = .ok (.iconst 1, 1) := by decide +kernel
theorem dX11_isLetterByte_25 : decode cX11_isLetterByte 25 = .ok (.goto 4, 3) := by decide +kernel
theorem dX11_isLetterByte_28 : decode cX11_isLetterByte 28 = .ok (.iconst 0, 1) := by decide +kernel
theorem dX11_isLetterByte_29 : decode cX11_isLetterByte 29 = .ok (.ireturn, 1) := by decide +kernel
theorem dX11_isFigure_0 : decode cX11_isFigure 0 = .ok (.iload_n 0, 1) := by decide +kernel
theorem dX11_isFigure_1 : decode cX11_isFigure 1 = .ok (.bipush 48, 2) := by decide +kernel
theorem dX11_isFigure_3 : decode cX11_isFigure 3 = .ok (.if_icmp .lt 13, 3) := by decide +kernel
theorem dX11_isFigure_6 : decode cX11_isFigure 6 = .ok (.iload_n 0, 1) := by decide +kernel
theorem dX11_isFigure_7 : decode cX11_isFigure 7 = .ok (.bipush 57, 2) := by decide +kernel
theorem dX11_isFigure_9 : decode cX11_isFigure 9 = .ok (.if_icmp .gt 7, 3) := by decide +kernel
theorem dX11_isFigure_12 : decode cX11_isFigure 12 = .ok (.iconst 1, 1) := by decide +kernel
theorem dX11_isFigure_13 : decode cX11_isFigure 13 = .ok (.goto 4, 3) := by decide +kernel
theorem dX11_isFigure_16 : decode cX11_isFigure 16 = .ok (.iconst 0, 1) := by decide +kernel
theorem dX11_isFigure_17 : decode cX11_isFigure 17 = .ok (.ireturn, 1) := by decide +kernel
theorem dX11_isSign_0 : decode cX11_isSign 0 = .ok (.iload_n 0, 1) := by decide +kernel
theorem dX11_isSign_1 : decode cX11_isSign 1 = .ok (.tableswitch 129 35 62 #[127, 129, 129, 129, 129, 127, 127, 127, 127, 129, 127, 129, 127, 129, 129, 129, 129, 129, 129, 129, 129, 129, 129, 127, 127, 127, 127, 127], 127) := by decide +kernel
theorem dX11_isSign_128 : decode cX11_isSign 128 = .ok (.iconst 1, 1) := by decide +kernel
theorem dX11_isSign_129 : decode cX11_isSign 129 = .ok (.ireturn, 1) := by decide +kernel
theorem dX11_isSign_130 : decode cX11_isSign 130 = .ok (.iconst 0, 1) := by decide +kernel
theorem dX11_isSign_131 : decode cX11_isSign 131 = .ok (.ireturn, 1) := by decide +kernel
theorem dX11_nextToken_0 : decode cX11_nextToken 0 = .ok (.aload_n 0, 1) := by decide +kernel
theorem dX11_nextToken_1 : decode cX11_nextToken 1 = .ok (.aload_n 0, 1) := by decide +kernel
theorem dX11_nextToken_2 : decode cX11_nextToken 2 = .ok (.getfield 95, 3) := by decide +kernel
theorem dX11_nextToken_5 : decode cX11_nextToken 5 = .ok (.invokevirtual 98, 3) := by decide +kernel
theorem dX11_nextToken_8 : decode cX11_nextToken 8 = .ok (.bipush 32, 2) := by decide +kernel
theorem dX11_nextToken_10 : decode cX11_nextToken 10 = .ok (.if_icmp .eq 16, 3) := by decide +kernel
theorem dX11_nextToken_13 : decode cX11_nextToken 13 = .ok (.aload_n 0, 1) := by decide +kernel
theorem dX11_nextToken_14 : decode cX11_nextToken 14 = .ok (.aload_n 0, 1) := by decide +kernel
theorem dX11_nextToken_15 : decode cX11_nextToken 15 = .ok (.getfield 95, 3) := by decide +kernel
theorem dX11_nextToken_18 : decode cX11_nextToken 18 = .ok (.invokevirtual 98, 3) := by decide +kernel
theorem dX11_nextToken_21 : decode cX11_nextToken 21 = .ok (.bipush 10, 2) := by decide +kernel
theorem dX11_nextToken_23 : decode cX11_nextToken 23 = .ok (.if_icmp .ne 16, 3) := by decide +kernel
theorem dX11_nextToken_26 : decode cX11_nextToken 26 = .ok (.aload_n 0, 1) := by decide +kernel
theorem dX11_nextToken_27 : decode cX11_nextToken 27 = .ok (.dup, 1) := by decide +kernel
theorem dX11_nextToken_28 : decode cX11_nextToken 28 = .ok (.getfield 95, 3) := by decide +kernel
theorem dX11_nextToken_31 : decode cX11_nextToken 31 = .ok (.iconst 1, 1) := by decide +kernel
theorem dX11_nextToken_32 : decode cX11_nextToken 32 = .ok (.iadd, 1) := by decide +kernel
theorem dX11_nextToken_33 : decode cX11_nextToken 33 = .ok (.putfield 95, 3) := by decide +kernel
theorem dX11_nextToken_36 : decode cX11_nextToken 36 = .ok (.goto (-36), 3) := by decide +kernel
theorem dX11_nextToken_39 : decode cX11_nextToken 39 = .ok (.aload_n 0, 1) := by decide +kernel
theorem dX11_nextToken_40 : decode cX11_nextToken 40 = .ok (.aload_n 0, 1) := by decide +kernel
theorem dX11_nextToken_41 : decode cX11_nextToken 41 = .ok (.getfield 95, 3) := by decide +kernel
theorem dX11_nextToken_44 : decode cX11_nextToken 44 = .ok (.putfield 102, 3) := by decide +kernel
theorem dX11_nextToken_47 : decode cX11_nextToken 47 = .ok (.aload_n 0, 1) := by decide +kernel
theorem dX11_nextToken_48 : decode cX11_nextToken 48 = .ok (.aload_n 0, 1) := by decide +kernel
theorem dX11_nextToken_49 : decode cX11_nextToken 49 = .ok (.getfield 95, 3) := by decide +kernel
theorem dX11_nextToken_52 : decode cX11_nextToken 52 = .ok (.invokevirtual 98, 3) := by decide +kernel
theorem dX11_nextToken_55 : decode cX11_nextToken 55 = .ok (.istore_n 1, 1) := by decide +kernel
theorem dX11_nextToken_56 : decode cX11_nextToken 56 = .ok (.iload_n 1, 1) := by decide +kernel
theorem dX11_nextToken_57 : decode cX11_nextToken 57 = .ok (.ifCond .ge 11, 3) := by decide +kernel
theorem dX11_nextToken_60 : decode cX11_nextToken 60 = .ok (.aload_n 0, 1) := by decide +kernel
theorem dX11_nextToken_61 : decode cX11_nextToken 61 = .ok (.iconst 0, 1) := by decide +kernel
theorem dX11_nextToken_62 : decode cX11_nextToken 62 = .ok (.putfield 105, 3) := by decide +kernel
theorem dX11_nextToken_65 : decode cX11_nextToken 65 = .ok (.goto 245, 3) := by decide +kernel
theorem dX11_nextToken_68 : decode cX11_nextToken 68 = .ok (.iload_n 1, 1) := by decide +kernel
theorem dX11_nextToken_69 : decode cX11_nextToken 69 = .ok (.invokestatic 108, 3) := by decide +kernel
theorem dX11_nextToken_72 : decode cX11_nextToken 72 = .ok (.ifCond .eq 79, 3) := by decide +kernel
theorem dX11_nextToken_75 : decode cX11_nextToken 75 = .ok (.aload_n 0, 1) := by decide +kernel
theorem dX11_nextToken_76 : decode cX11_nextToken 76 = .ok (.iconst 1, 1) := by decide +kernel
theorem dX11_nextToken_77 : decode cX11_nextToken 77 = .ok (.putfield 105, 3) := by decide +kernel
theorem dX11_nextToken_80 : decode cX11_nextToken 80 = .ok (.aload_n 0, 1) := by decide +kernel
theorem dX11_nextToken_81 : decode cX11_nextToken 81 = .ok (.iconst 0, 1) := by decide +kernel
theorem dX11_nextToken_82 : decode cX11_nextToken 82 = .ok (.putfield 111, 3) := by decide +kernel
theorem dX11_nextToken_85 : decode cX11_nextToken 85 = .ok (.aload_n 0, 1) := by decide +kernel
theorem dX11_nextToken_86 : decode cX11_nextToken 86 = .ok (.aload_n 0, 1) := by decide +kernel
theorem dX11_nextToken_87 : decode cX11_nextToken 87 = .ok (.getfield 95, 3) := by decide +kernel
theorem dX11_nextToken_90 : decode cX11_nextToken 90 = .ok (.invokevirtual 98, 3) := by decide +kernel
theorem dX11_nextToken_93 : decode cX11_nextToken 93 = .ok (.invokestatic 108, 3) := by decide +kernel
theorem dX11_nextToken_96 : decode cX11_nextToken 96 = .ok (.ifCond .eq 214, 3) := by decide +kernel
theorem dX11_nextToken_99 : decode cX11_nextToken 99 = .ok (.aload_n 0, 1) := by decide +kernel
theorem dX11_nextToken_100 : decode cX11_nextToken 100 = .ok (.aload_n 0, 1) := by decide +kernel
theorem dX11_nextToken_101 : decode cX11_nextToken 101 = .ok (.getfield 111, 3) := by decide +kernel
theorem dX11_nextToken_104 : decode cX11_nextToken 104 = .ok (.ldc 114, 2) := by decide +kernel
theorem dX11_nextToken_106 : decode cX11_nextToken 106 = .ok (.if_icmp .le 10, 3) := by decide +kernel
theorem dX11_nextToken_109 : decode cX11_nextToken 109 = .ok (.aload_n 0, 1) := by decide +kernel
theorem dX11_nextToken_110 : decode cX11_nextToken 110 = .ok (.getfield 111, 3) := by decide +kernel
theorem dX11_nextToken_113 : decode cX11_nextToken 113 = .ok (.goto 22, 3) := by decide +kernel
theorem dX11_nextToken_116 : decode cX11_nextToken 116 = .ok (.bipush 10, 2) := by decide +kernel
theorem dX11_nextToken_118 : decode cX11_nextToken 118 = .ok (.aload_n 0, 1) := by decide +kernel
theorem dX11_nextToken_119 : decode cX11_nextToken 119 = .ok (.getfield 111, 3) := by decide +kernel
theorem dX11_nextToken_122 : decode cX11_nextToken 122 = .ok (.imul, 1) := by decide +kernel
theorem dX11_nextToken_123 : decode cX11_nextToken 123 = .ok (.aload_n 0, 1) := by decide +kernel
theorem dX11_nextToken_124 : decode cX11_nextToken 124 = .ok (.aload_n 0, 1) := by decide +kernel
theorem dX11_nextToken_125 : decode cX11_nextToken 125 = .ok (.getfield 95, 3) := by decide +kernel
theorem dX11_nextToken_128 : decode cX11_nextToken 128 = .ok (.invokevirtual 98, 3) := by decide +kernel
theorem dX11_nextToken_131 : decode cX11_nextToken 131 = .ok (.iadd, 1) := by decide +kernel
theorem dX11_nextToken_132 : decode cX11_nextToken 132 = .ok (.bipush 48, 2) := by decide +kernel
theorem dX11_nextToken_134 : decode cX11_nextToken 134 = .ok (.isub, 1) := by decide +kernel
theorem dX11_nextToken_135 : decode cX11_nextToken 135 = .ok (.putfield 111, 3) := by decide +kernel
theorem dX11_nextToken_138 : decode cX11_nextToken 138 = .ok (.aload_n 0, 1) := by decide +kernel
theorem dX11_nextToken_139 : decode cX11_nextToken 139 = .ok (.dup, 1) := by decide +kernel
theorem dX11_nextToken_140 : decode cX11_nextToken 140 = .ok (.getfield 95, 3) := by decide +kernel
theorem dX11_nextToken_143 : decode cX11_nextToken 143 = .ok (.iconst 1, 1) := by decide +kernel
theorem dX11_nextToken_144 : decode cX11_nextToken 144 = .ok (.iadd, 1) := by decide +kernel
theorem dX11_nextToken_145 : decode cX11_nextToken 145 = .ok (.putfield 95, 3) := by decide +kernel
theorem dX11_nextToken_148 : decode cX11_nextToken 148 = .ok (.goto (-63), 3) := by decide +kernel
theorem dX11_nextToken_151 : decode cX11_nextToken 151 = .ok (.iload_n 1, 1) := by decide +kernel
theorem dX11_nextToken_152 : decode cX11_nextToken 152 = .ok (.invokestatic 115, 3) := by decide +kernel
theorem dX11_nextToken_155 : decode cX11_nextToken 155 = .ok (.ifCond .eq 79, 3) := by decide +kernel
theorem dX11_nextToken_158 : decode cX11_nextToken 158 = .ok (.aload_n 0, 1) := by decide +kernel
theorem dX11_nextToken_159 : decode cX11_nextToken 159 = .ok (.iconst 2, 1) := by decide +kernel
theorem dX11_nextToken_160 : decode cX11_nextToken 160 = .ok (.putfield 105, 3) := by decide +kernel
theorem dX11_nextToken_163 : decode cX11_nextToken 163 = .ok (.aload_n 0, 1) := by decide +kernel
theorem dX11_nextToken_164 : decode cX11_nextToken 164 = .ok (.lconst 0, 1) := by decide +kernel
theorem dX11_nextToken_165 : decode cX11_nextToken 165 = .ok (.putfield 118, 3) := by decide +kernel
theorem dX11_nextToken_168 : decode cX11_nextToken 168 = .ok (.aload_n 0, 1) := by decide +kernel
theorem dX11_nextToken_169 : decode cX11_nextToken 169 = .ok (.aload_n 0, 1) := by decide +kernel
theorem dX11_nextToken_170 : decode cX11_nextToken 170 = .ok (.getfield 95, 3) := by decide +kernel
theorem dX11_nextToken_173 : decode cX11_nextToken 173 = .ok (.invokevirtual 98, 3) := by decide +kernel
theorem dX11_nextToken_176 : decode cX11_nextToken 176 = .ok (.invokestatic 115, 3) := by decide +kernel
theorem dX11_nextToken_179 : decode cX11_nextToken 179 = .ok (.ifCond .eq 131, 3) := by decide +kernel
theorem dX11_nextToken_182 : decode cX11_nextToken 182 = .ok (.aload_n 0, 1) := by decide +kernel
theorem dX11_nextToken_183 : decode cX11_nextToken 183 = .ok (.aload_n 0, 1) := by decide +kernel
theorem dX11_nextToken_184 : decode cX11_nextToken 184 = .ok (.getfield 118, 3) := by decide +kernel
theorem dX11_nextToken_187 : decode cX11_nextToken 187 = .ok (.bipush 48, 2) := by decide +kernel
theorem dX11_nextToken_189 : decode cX11_nextToken 189 = .ok (.lshr, 1) := by decide +kernel
theorem dX11_nextToken_190 : decode cX11_nextToken 190 = .ok (.lconst 0, 1) := by decide +kernel
theorem dX11_nextToken_191 : decode cX11_nextToken 191 = .ok (.lcmp, 1) := by decide +kernel
theorem dX11_nextToken_192 : decode cX11_nextToken 192 = .ok (.ifCond .eq 9, 3) := by decide +kernel
theorem dX11_nextToken_195 : decode cX11_nextToken 195 = .ok (.ldc2_w 122, 3) := by decide +kernel
theorem dX11_nextToken_198 : decode cX11_nextToken 198 = .ok (.goto 20, 3) := by decide +kernel
theorem dX11_nextToken_201 : decode cX11_nextToken 201 = .ok (.aload_n 0, 1) := by decide +kernel
theorem dX11_nextToken_202 : decode cX11_nextToken 202 = .ok (.getfield 118, 3) := by decide +kernel
theorem dX11_nextToken_205 : decode cX11_nextToken 205 = .ok (.bipush 8, 2) := by decide +kernel
theorem dX11_nextToken_207 : decode cX11_nextToken 207 = .ok (.lshl, 1) := by decide +kernel
theorem dX11_nextToken_208 : decode cX11_nextToken 208 = .ok (.aload_n 0, 1) := by decide +kernel
theorem dX11_nextToken_209 : decode cX11_nextToken 209 = .ok (.aload_n 0, 1) := by decide +kernel
theorem dX11_nextToken_210 : decode cX11_nextToken 210 = .ok (.getfield 95, 3) := by decide +kernel
theorem dX11_nextToken_213 : decode cX11_nextToken 213 = .ok (.invokevirtual 98, 3) := by decide +kernel
theorem dX11_nextToken_216 : decode cX11_nextToken 216 = .ok (.i2l, 1) := by decide +kernel
theorem dX11_nextToken_217 : decode cX11_nextToken 217 = .ok (.lor, 1) := by decide +kernel
theorem dX11_nextToken_218 : decode cX11_nextToken 218 = .ok (.putfield 118, 3) := by decide +kernel
theorem dX11_nextToken_221 : decode cX11_nextToken 221 = .ok (.aload_n 0, 1) := by decide +kernel
theorem dX11_nextToken_222 : decode cX11_nextToken 222 = .ok (.dup, 1) := by decide +kernel
theorem dX11_nextToken_223 : decode cX11_nextToken 223 = .ok (.getfield 95, 3) := by decide +kernel
theorem dX11_nextToken_226 : decode cX11_nextToken 226 = .ok (.iconst 1, 1) := by decide +kernel
theorem dX11_nextToken_227 : decode cX11_nextToken 227 = .ok (.iadd, 1) := by decide +kernel
theorem dX11_nextToken_228 : decode cX11_nextToken 228 = .ok (.putfield 95, 3) := by decide +kernel
theorem dX11_nextToken_231 : decode cX11_nextToken 231 = .ok (.goto (-63), 3) := by decide +kernel
theorem dX11_nextToken_234 : decode cX11_nextToken 234 = .ok (.aload_n 0, 1) := by decide +kernel
theorem dX11_nextToken_235 : decode cX11_nextToken 235 = .ok (.iload_n 1, 1) := by decide +kernel
theorem dX11_nextToken_236 : decode cX11_nextToken 236 = .ok (.invokestatic 124, 3) := by decide +kernel
theorem dX11_nextToken_239 : decode cX11_nextToken 239 = .ok (.ifCond .eq 7, 3) := by decide +kernel
theorem dX11_nextToken_242 : decode cX11_nextToken 242 = .ok (.iload_n 1, 1) := by decide +kernel
theorem dX11_nextToken_243 : decode cX11_nextToken 243 = .ok (.goto 4, 3) := by decide +kernel
theorem dX11_nextToken_246 : decode cX11_nextToken 246 = .ok (.iconst 3, 1) := by decide +kernel
theorem dX11_nextToken_247 : decode cX11_nextToken 247 = .ok (.putfield 105, 3) := by decide +kernel
theorem dX11_nextToken_250 : decode cX11_nextToken 250 = .ok (.aload_n 0, 1) := by decide +kernel
theorem dX11_nextToken_251 : decode cX11_nextToken 251 = .ok (.dup, 1) := by decide +kernel
theorem dX11_nextToken_252 : decode cX11_nextToken 252 = .ok (.getfield 95, 3) := by decide +kernel
theorem dX11_nextToken_255 : decode cX11_nextToken 255 = .ok (.iconst 1, 1) := by decide +kernel
theorem dX11_nextToken_256 : decode cX11_nextToken 256 = .ok (.iadd, 1) := by decide +kernel
theorem dX11_nextToken_257 : decode cX11_nextToken 257 = .ok (.putfield 95, 3) := by decide +kernel
theorem dX11_nextToken_260 : decode cX11_nextToken 260 = .ok (.iload_n 1, 1) := by decide +kernel
theorem dX11_nextToken_261 : decode cX11_nextToken 261 = .ok (.bipush 60, 2) := by decide +kernel
theorem dX11_nextToken_263 : decode cX11_nextToken 263 = .ok (.if_icmp .eq 9, 3) := by decide +kernel
theorem dX11_nextToken_266 : decode cX11_nextToken 266 = .ok (.iload_n 1, 1) := by decide +kernel
theorem dX11_nextToken_267 : decode cX11_nextToken 267 = .ok (.bipush 62, 2) := by decide +kernel
theorem dX11_nextToken_269 : decode cX11_nextToken 269 = .ok (.if_icmp .ne 41, 3) := by decide +kernel
theorem dX11_nextToken_272 : decode cX11_nextToken 272 = .ok (.aload_n 0, 1) := by decide +kernel
theorem dX11_nextToken_273 : decode cX11_nextToken 273 = .ok (.aload_n 0, 1) := by decide +kernel
theorem dX11_nextToken_274 : decode cX11_nextToken 274 = .ok (.getfield 95, 3) := by decide +kernel
theorem dX11_nextToken_277 : decode cX11_nextToken 277 = .ok (.invokevirtual 98, 3) := by decide +kernel
theorem dX11_nextToken_280 : decode cX11_nextToken 280 = .ok (.bipush 61, 2) := by decide +kernel
theorem dX11_nextToken_282 : decode cX11_nextToken 282 = .ok (.if_icmp .ne 28, 3) := by decide +kernel
theorem dX11_nextToken_285 : decode cX11_nextToken 285 = .ok (.aload_n 0, 1) := by decide +kernel
theorem dX11_nextToken_286 : decode cX11_nextToken 286 = .ok (.iload_n 1, 1) := by decide +kernel
theorem dX11_nextToken_287 : decode cX11_nextToken 287 = .ok (.bipush 60, 2) := by decide +kernel
theorem dX11_nextToken_289 : decode cX11_nextToken 289 = .ok (.if_icmp .ne 7, 3) := by decide +kernel
theorem dX11_nextToken_292 : decode cX11_nextToken 292 = .ok (.iconst 4, 1) := by decide +kernel
theorem dX11_nextToken_293 : decode cX11_nextToken 293 = .ok (.goto 4, 3) := by decide +kernel
theorem dX11_nextToken_296 : decode cX11_nextToken 296 = .ok (.iconst 5, 1) := by decide +kernel
theorem dX11_nextToken_297 : decode cX11_nextToken 297 = .ok (.putfield 105, 3) := by decide +kernel
theorem dX11_nextToken_300 : decode cX11_nextToken 300 = .ok (.aload_n 0, 1) := by decide +kernel
theorem dX11_nextToken_301 : decode cX11_nextToken 301 = .ok (.dup, 1) := by decide +kernel
theorem dX11_nextToken_302 : decode cX11_nextToken 302 = .ok (.getfield 95, 3) := by decide +kernel
theorem dX11_nextToken_305 : decode cX11_nextToken 305 = .ok (.iconst 1, 1) := by decide +kernel
theorem dX11_nextToken_306 : decode cX11_nextToken 306 = .ok (.iadd, 1) := by decide +kernel
theorem dX11_nextToken_307 : decode cX11_nextToken 307 = .ok (.putfield 95, 3) := by decide +kernel
theorem dX11_nextToken_310 : decode cX11_nextToken 310 = .ok (.return_, 1) := by decide +kernel
theorem dX11_w2_0 : decode cX11_w2 0 = .ok (.iload_n 0, 1) := by decide +kernel
theorem dX11_w2_1 : decode cX11_w2 1 = .ok (.i2l, 1) := by decide +kernel
theorem dX11_w2_2 : decode cX11_w2 2 = .ok (.bipush 8, 2) := by decide +kernel
theorem dX11_w2_4 : decode cX11_w2 4 = .ok (.lshl, 1) := by decide +kernel
theorem dX11_w2_5 : decode cX11_w2 5 = .ok (.iload_n 1, 1) := by decide +kernel
theorem dX11_w2_6 : decode cX11_w2 6 = .ok (.i2l, 1) := by decide +kernel
theorem dX11_w2_7 : decode cX11_w2 7 = .ok (.lor, 1) := by decide +kernel
theorem dX11_w2_8 : decode cX11_w2 8 = .ok (.lreturn, 1) := by decide +kernel
theorem dX11_w3_0 : decode cX11_w3 0 = .ok (.iload_n 0, 1) := by decide +kernel
theorem dX11_w3_1 : decode cX11_w3 1 = .ok (.iload_n 1, 1) := by decide +kernel
theorem dX11_w3_2 : decode cX11_w3 2 = .ok (.invokestatic 127, 3) := by decide +kernel
theorem dX11_w3_5 : decode cX11_w3 5 = .ok (.bipush 8, 2) := by decide +kernel
theorem dX11_w3_7 : decode cX11_w3 7 = .ok (.lshl, 1) := by decide +kernel
theorem dX11_w3_8 : decode cX11_w3 8 = .ok (.iload_n 2, 1) := by decide +kernel
theorem dX11_w3_9 : decode cX11_w3 9 = .ok (.i2l, 1) := by decide +kernel
theorem dX11_w3_10 : decode cX11_w3 10 = .ok (.lor, 1) := by decide +kernel
theorem dX11_w3_11 : decode cX11_w3 11 = .ok (.lreturn, 1) := by decide +kernel
theorem dX11_w4_0 : decode cX11_w4 0 = .ok (.iload_n 0, 1) := by decide +kernel
theorem dX11_w4_1 : decode cX11_w4 1 = .ok (.iload_n 1, 1) := by decide +kernel
theorem dX11_w4_2 : decode cX11_w4 2 = .ok (.iload_n 2, 1) := by decide +kernel
theorem dX11_w4_3 : decode cX11_w4 3 = .ok (.invokestatic 131, 3) := by decide +kernel
theorem dX11_w4_6 : decode cX11_w4 6 = .ok (.bipush 8, 2) := by decide +kernel
theorem dX11_w4_8 : decode cX11_w4 8 = .ok (.lshl, 1) := by decide +kernel
theorem dX11_w4_9 : decode cX11_w4 9 = .ok (.iload_n 3, 1) := by decide +kernel
theorem dX11_w4_10 : decode cX11_w4 10 = .ok (.i2l, 1) := by decide +kernel
theorem dX11_w4_11 : decode cX11_w4 11 = .ok (.lor, 1) := by decide +kernel
theorem dX11_w4_12 : decode cX11_w4 12 = .ok (.lreturn, 1) := by decide +kernel
theorem dX11_w5_0 : decode cX11_w5 0 = .ok (.iload_n 0, 1) := by decide +kernel
theorem dX11_w5_1 : decode cX11_w5 1 = .ok (.iload_n 1, 1) := by decide +kernel
theorem dX11_w5_2 : decode cX11_w5 2 = .ok (.iload_n 2, 1) := by decide +kernel
theorem dX11_w5_3 : decode cX11_w5 3 = .ok (.iload_n 3, 1) := by decide +kernel
theorem dX11_w5_4 : decode cX11_w5 4 = .ok (.invokestatic 135, 3) := by decide +kernel
theorem dX11_w5_7 : decode cX11_w5 7 = .ok (.bipush 8, 2) := by decide +kernel
theorem dX11_w5_9 : decode cX11_w5 9 = .ok (.lshl, 1) := by decide +kernel
theorem dX11_w5_10 : decode cX11_w5 10 = .ok (.iload 4, 2) := by decide +kernel
theorem dX11_w5_12 : decode cX11_w5 12 = .ok (.i2l, 1) := by decide +kernel
theorem dX11_w5_13 : decode cX11_w5 13 = .ok (.lor, 1) := by decide +kernel
theorem dX11_w5_14 : decode cX11_w5 14 = .ok (.lreturn, 1) := by decide +kernel
theorem dX11_w6_0 : decode cX11_w6 0 = .ok (.iload_n 0, 1) := by decide +kernel
theorem dX11_w6_1 : decode cX11_w6 1 = .ok (.iload_n 1, 1) := by decide +kernel
theorem dX11_w6_2 : decode cX11_w6 2 = .ok (.iload_n 2, 1) := by decide +kernel
theorem dX11_w6_3 : decode cX11_w6 3 = .ok (.iload_n 3, 1) := by decide +kernel
theorem dX11_w6_4 : decode cX11_w6 4 = .ok (.iload 4, 2) := by decide +kernel
theorem dX11_w6_6 : decode cX11_w6 6 = .ok (.invokestatic 139, 3) := by decide +kernel
theorem dX11_w6_9 : decode cX11_w6 9 = .ok (.bipush 8, 2) := by decide +kernel
theorem dX11_w6_11 : decode cX11_w6 11 = .ok (.lshl, 1) := by decide +kernel
theorem dX11_w6_12 : decode cX11_w6 12 = .ok (.iload 5, 2) := by decide +kernel
theorem dX11_w6_14 : decode cX11_w6 14 = .ok (.i2l, 1) := by decide +kernel
theorem dX11_w6_15 : decode cX11_w6 15 = .ok (.lor, 1) := by decide +kernel
theorem dX11_w6_16 : decode cX11_w6 16 = .ok (.lreturn, 1) := by decide +kernel
theorem dX11_isWord_0 : decode cX11_isWord 0 = .ok (.aload_n 0, 1) := by decide +kernel
theorem dX11_isWord_1 : decode cX11_isWord 1 = .ok (.getfield 105, 3) := by decide +kernel
theorem dX11_isWord_4 : decode cX11_isWord 4 = .ok (.iconst 2, 1) := by decide +kernel
theorem dX11_isWord_5 : decode cX11_isWord 5 = .ok (.if_icmp .ne 16, 3) := by decide +kernel
theorem dX11_isWord_8 : decode cX11_isWord 8 = .ok (.aload_n 0, 1) := by decide +kernel
theorem dX11_isWord_9 : decode cX11_isWord 9 = .ok (.getfield 118, 3) := by decide +kernel
theorem dX11_isWord_12 : decode cX11_isWord 12 = .ok (.lload_n 1, 1) := by decide +kernel
theorem dX11_isWord_13 : decode cX11_isWord 13 = .ok (.lcmp, 1) := by decide +kernel
theorem dX11_isWord_14 : decode cX11_isWord 14 = .ok (.ifCond .ne 7, 3) := by decide +kernel
theorem dX11_isWord_17 : decode cX11_isWord 17 = .ok (.iconst 1, 1) := by decide +kernel
theorem dX11_isWord_18 : decode cX11_isWord 18 = .ok (.goto 4, 3) := by decide +kernel
theorem dX11_isWord_21 : decode cX11_isWord 21 = .ok (.iconst 0, 1) := by decide +kernel
theorem dX11_isWord_22 : decode cX11_isWord 22 = .ok (.ireturn, 1) := by decide +kernel
theorem dX11_emit_0 : decode cX11_emit 0 = .ok (.aload_n 0, 1) := by decide +kernel
theorem dX11_emit_1 : decode cX11_emit 1 = .ok (.getfield 16, 3) := by decide +kernel
theorem dX11_emit_4 : decode cX11_emit 4 = .ok (.aload_n 0, 1) := by decide +kernel
theorem dX11_emit_5 : decode cX11_emit 5 = .ok (.getfield 143, 3) := by decide +kernel
theorem dX11_emit_8 : decode cX11_emit 8 = .ok (.bipush 97, 2) := by decide +kernel
theorem dX11_emit_10 : decode cX11_emit 10 = .ok (.iadd, 1) := by decide +kernel
theorem dX11_emit_11 : decode cX11_emit 11 = .ok (.iconst 2, 1) := by decide +kernel
theorem dX11_emit_12 : decode cX11_emit 12 = .ok (.aload_n 0, 1) := by decide +kernel
theorem dX11_emit_13 : decode cX11_emit 13 = .ok (.getfield 146, 3) := by decide +kernel
theorem dX11_emit_16 : decode cX11_emit 16 = .ok (.imul, 1) := by decide +kernel
theorem dX11_emit_17 : decode cX11_emit 17 = .ok (.iadd, 1) := by decide +kernel
theorem dX11_emit_18 : decode cX11_emit 18 = .ok (.iload_n 1, 1) := by decide +kernel
theorem dX11_emit_19 : decode cX11_emit 19 = .ok (.iastore, 1) := by decide +kernel
theorem dX11_emit_20 : decode cX11_emit 20 = .ok (.aload_n 0, 1) := by decide +kernel
theorem dX11_emit_21 : decode cX11_emit 21 = .ok (.getfield 16, 3) := by decide +kernel
theorem dX11_emit_24 : decode cX11_emit 24 = .ok (.aload_n 0, 1) := by decide +kernel
theorem dX11_emit_25 : decode cX11_emit 25 = .ok (.getfield 143, 3) := by decide +kernel
theorem dX11_emit_28 : decode cX11_emit 28 = .ok (.bipush 97, 2) := by decide +kernel
theorem dX11_emit_30 : decode cX11_emit 30 = .ok (.iadd, 1) := by decide +kernel
theorem dX11_emit_31 : decode cX11_emit 31 = .ok (.iconst 2, 1) := by decide +kernel
theorem dX11_emit_32 : decode cX11_emit 32 = .ok (.aload_n 0, 1) := by decide +kernel
theorem dX11_emit_33 : decode cX11_emit 33 = .ok (.getfield 146, 3) := by decide +kernel
theorem dX11_emit_36 : decode cX11_emit 36 = .ok (.imul, 1) := by decide +kernel
theorem dX11_emit_37 : decode cX11_emit 37 = .ok (.iadd, 1) := by decide +kernel
theorem dX11_emit_38 : decode cX11_emit 38 = .ok (.iconst 1, 1) := by decide +kernel
theorem dX11_emit_39 : decode cX11_emit 39 = .ok (.iadd, 1) := by decide +kernel
theorem dX11_emit_40 : decode cX11_emit 40 = .ok (.iload_n 2, 1) := by decide +kernel
theorem dX11_emit_41 : decode cX11_emit 41 = .ok (.iastore, 1) := by decide +kernel
theorem dX11_emit_42 : decode cX11_emit 42 = .ok (.aload_n 0, 1) := by decide +kernel
theorem dX11_emit_43 : decode cX11_emit 43 = .ok (.dup, 1) := by decide +kernel
theorem dX11_emit_44 : decode cX11_emit 44 = .ok (.getfield 146, 3) := by decide +kernel
theorem dX11_emit_47 : decode cX11_emit 47 = .ok (.iconst 1, 1) := by decide +kernel
theorem dX11_emit_48 : decode cX11_emit 48 = .ok (.iadd, 1) := by decide +kernel
theorem dX11_emit_49 : decode cX11_emit 49 = .ok (.putfield 146, 3) := by decide +kernel
theorem dX11_emit_52 : decode cX11_emit 52 = .ok (.return_, 1) := by decide +kernel
theorem dX11_isLong_0 : decode cX11_isLong 0 = .ok (.aload_n 0, 1) := by decide +kernel
theorem dX11_isLong_1 : decode cX11_isLong 1 = .ok (.getfield 105, 3) := by decide +kernel
theorem dX11_isLong_4 : decode cX11_isLong 4 = .ok (.iconst 2, 1) := by decide +kernel
theorem dX11_isLong_5 : decode cX11_isLong 5 = .ok (.if_icmp .ne 17, 3) := by decide +kernel
theorem dX11_isLong_8 : decode cX11_isLong 8 = .ok (.aload_n 0, 1) := by decide +kernel
theorem dX11_isLong_9 : decode cX11_isLong 9 = .ok (.getfield 95, 3) := by decide +kernel
theorem dX11_isLong_12 : decode cX11_isLong 12 = .ok (.aload_n 0, 1) := by decide +kernel
theorem dX11_isLong_13 : decode cX11_isLong 13 = .ok (.getfield 102, 3) := by decide +kernel
