theorem dX11_next_33 : decode cX11_next 33 = .ok (.if_icmp .ge 97, 3) := by decide +kernel
theorem dX11_next_36 : decode cX11_next 36 = .ok (.iconst 2, 1) := by decide +kernel
theorem dX11_next_37 : decode cX11_next 37 = .ok (.aload_n 0, 1) := by decide +kernel
theorem dX11_next_38 : decode cX11_next 38 = .ok (.getfield 49, 3) := by decide +kernel
theorem dX11_next_41 : decode cX11_next 41 = .ok (.iload 4, 2) := by decide +kernel
theorem dX11_next_43 : decode cX11_next 43 = .ok (.iaload, 1) := by decide +kernel
theorem dX11_next_44 : decode cX11_next 44 = .ok (.imul, 1) := by decide +kernel
theorem dX11_next_45 : decode cX11_next 45 = .ok (.aload_n 0, 1) := by decide +kernel
theorem dX11_next_46 : decode cX11_next 46 = .ok (.getfield 415, 3) := by decide +kernel
theorem dX11_next_49 : decode cX11_next 49 = .ok (.if_icmp .le 20, 3) := by decide +kernel
theorem dX11_next_52 : decode cX11_next 52 = .ok (.iconst 2, 1) := by decide +kernel
theorem dX11_next_53 : decode cX11_next 53 = .ok (.aload_n 0, 1) := by decide +kernel
theorem dX11_next_54 : decode cX11_next 54 = .ok (.getfield 49, 3) := by decide +kernel
theorem dX11_next_57 : decode cX11_next 57 = .ok (.iload 4, 2) := by decide +kernel
theorem dX11_next_59 : decode cX11_next 59 = .ok (.iaload, 1) := by decide +kernel
theorem dX11_next_60 : decode cX11_next 60 = .ok (.imul, 1) := by decide +kernel
theorem dX11_next_61 : decode cX11_next 61 = .ok (.aload_n 0, 1) := by decide +kernel
theorem dX11_next_62 : decode cX11_next 62 = .ok (.getfield 415, 3) := by decide +kernel
theorem dX11_next_65 : decode cX11_next 65 = .ok (.isub, 1) := by decide +kernel
theorem dX11_next_66 : decode cX11_next 66 = .ok (.goto 17, 3) := by decide +kernel
theorem dX11_next_69 : decode cX11_next 69 = .ok (.aload_n 0, 1) := by decide +kernel
theorem dX11_next_70 : decode cX11_next 70 = .ok (.getfield 415, 3) := by decide +kernel
theorem dX11_next_73 : decode cX11_next 73 = .ok (.iconst 2, 1) := by decide +kernel
theorem dX11_next_74 : decode cX11_next 74 = .ok (.aload_n 0, 1) := by decide +kernel
theorem dX11_next_75 : decode cX11_next 75 = .ok (.getfield 49, 3) := by decide +kernel
theorem dX11_next_78 : decode cX11_next 78 = .ok (.iload 4, 2) := by decide +kernel
theorem dX11_next_80 : decode cX11_next 80 = .ok (.iaload, 1) := by decide +kernel
theorem dX11_next_81 : decode cX11_next 81 = .ok (.imul, 1) := by decide +kernel
theorem dX11_next_82 : decode cX11_next 82 = .ok (.isub, 1) := by decide +kernel
theorem dX11_next_83 : decode cX11_next 83 = .ok (.istore 5, 2) := by decide +kernel
theorem dX11_next_85 : decode cX11_next 85 = .ok (.aload_n 0, 1) := by decide +kernel
theorem dX11_next_86 : decode cX11_next 86 = .ok (.getfield 49, 3) := by decide +kernel
theorem dX11_next_89 : decode cX11_next 89 = .ok (.iload 4, 2) := by decide +kernel
theorem dX11_next_91 : decode cX11_next 91 = .ok (.iaload, 1) := by decide +kernel
theorem dX11_next_92 : decode cX11_next 92 = .ok (.ifCond .eq 32, 3) := by decide +kernel
theorem dX11_next_95 : decode cX11_next 95 = .ok (.aload_n 0, 1) := by decide +kernel
theorem dX11_next_96 : decode cX11_next 96 = .ok (.getfield 49, 3) := by decide +kernel
theorem dX11_next_99 : decode cX11_next 99 = .ok (.iload 4, 2) := by decide +kernel
theorem dX11_next_101 : decode cX11_next 101 = .ok (.iaload, 1) := by decide +kernel
theorem dX11_next_102 : decode cX11_next 102 = .ok (.aload_n 0, 1) := by decide +kernel
theorem dX11_next_103 : decode cX11_next 103 = .ok (.getfield 415, 3) := by decide +kernel
theorem dX11_next_106 : decode cX11_next 106 = .ok (.if_icmp .eq 18, 3) := by decide +kernel
theorem dX11_next_109 : decode cX11_next 109 = .ok (.iload 5, 2) := by decide +kernel
theorem dX11_next_111 : decode cX11_next 111 = .ok (.iload_n 3, 1) := by decide +kernel
theorem dX11_next_112 : decode cX11_next 112 = .ok (.if_icmp .lt 6, 3) := by decide +kernel
theorem dX11_next_115 : decode cX11_next 115 = .ok (.goto 9, 3) := by decide +kernel
theorem dX11_next_118 : decode cX11_next 118 = .ok (.iload 5, 2) := by decide +kernel
theorem dX11_next_120 : decode cX11_next 120 = .ok (.istore_n 3, 1) := by decide +kernel
theorem dX11_next_121 : decode cX11_next 121 = .ok (.iload 4, 2) := by decide +kernel
theorem dX11_next_123 : decode cX11_next 123 = .ok (.istore_n 2, 1) := by decide +kernel
theorem dX11_next_124 : decode cX11_next 124 = .ok (.iinc 4 1, 3) := by decide +kernel
theorem dX11_next_127 : decode cX11_next 127 = .ok (.goto (-103), 3) := by decide +kernel
theorem dX11_next_130 : decode cX11_next 130 = .ok (.iload_n 2, 1) := by decide +kernel
theorem dX11_next_131 : decode cX11_next 131 = .ok (.ireturn, 1) := by decide +kernel
theorem dX11_heir_0 : decode cX11_heir 0 = .ok (.iload_n 1, 1) := by decide +kernel
theorem dX11_heir_1 : decode cX11_heir 1 = .ok (.iconst (-1), 1) := by decide +kernel
theorem dX11_heir_2 : decode cX11_heir 2 = .ok (.if_icmp .ne 13, 3) := by decide +kernel
theorem dX11_heir_5 : decode cX11_heir 5 = .ok (.aload_n 0, 1) := by decide +kernel
theorem dX11_heir_6 : decode cX11_heir 6 = .ok (.getfield 7, 3) := by decide +kernel
theorem dX11_heir_9 : decode cX11_heir 9 = .ok (.bipush 7, 2) := by decide +kernel
theorem dX11_heir_11 : decode cX11_heir 11 = .ok (.iconst 0, 1) := by decide +kernel
theorem dX11_heir_12 : decode cX11_heir 12 = .ok (.iastore, 1) := by decide +kernel
theorem dX11_heir_13 : decode cX11_heir 13 = .ok (.iconst 0, 1) := by decide +kernel
theorem dX11_heir_14 : decode cX11_heir 14 = .ok (.ireturn, 1) := by decide +kernel
theorem dX11_heir_15 : decode cX11_heir 15 = .ok (.iload_n 1, 1) := by decide +kernel
theorem dX11_heir_16 : decode cX11_heir 16 = .ok (.iconst 1, 1) := by decide +kernel
theorem dX11_heir_17 : decode cX11_heir 17 = .ok (.sipush 999, 3) := by decide +kernel
theorem dX11_heir_20 : decode cX11_heir 20 = .ok (.invokestatic 62, 3) := by decide +kernel
theorem dX11_heir_23 : decode cX11_heir 23 = .ok (.ifCond .eq 15, 3) := by decide +kernel
theorem dX11_heir_26 : decode cX11_heir 26 = .ok (.aload_n 0, 1) := by decide +kernel
theorem dX11_heir_27 : decode cX11_heir 27 = .ok (.getfield 7, 3) := by decide +kernel
theorem dX11_heir_30 : decode cX11_heir 30 = .ok (.bipush 7, 2) := by decide +kernel
theorem dX11_heir_32 : decode cX11_heir 32 = .ok (.iaload, 1) := by decide +kernel
theorem dX11_heir_33 : decode cX11_heir 33 = .ok (.bipush 6, 2) := by decide +kernel
theorem dX11_heir_35 : decode cX11_heir 35 = .ok (.if_icmp .ne 6, 3) := by decide +kernel
theorem dX11_heir_38 : decode cX11_heir 38 = .ok (.bipush (-2), 2) := by decide +kernel
theorem dX11_heir_40 : decode cX11_heir 40 = .ok (.ireturn, 1) := by decide +kernel
theorem dX11_heir_41 : decode cX11_heir 41 = .ok (.aload_n 0, 1) := by decide +kernel
theorem dX11_heir_42 : decode cX11_heir 42 = .ok (.getfield 7, 3) := by decide +kernel
theorem dX11_heir_45 : decode cX11_heir 45 = .ok (.sipush 162, 3) := by decide +kernel
theorem dX11_heir_48 : decode cX11_heir 48 = .ok (.aload_n 0, 1) := by decide +kernel
theorem dX11_heir_49 : decode cX11_heir 49 = .ok (.getfield 7, 3) := by decide +kernel
theorem dX11_heir_52 : decode cX11_heir 52 = .ok (.bipush 7, 2) := by decide +kernel
theorem dX11_heir_54 : decode cX11_heir 54 = .ok (.iaload, 1) := by decide +kernel
theorem dX11_heir_55 : decode cX11_heir 55 = .ok (.iadd, 1) := by decide +kernel
theorem dX11_heir_56 : decode cX11_heir 56 = .ok (.iload_n 1, 1) := by decide +kernel
theorem dX11_heir_57 : decode cX11_heir 57 = .ok (.iastore, 1) := by decide +kernel
theorem dX11_heir_58 : decode cX11_heir 58 = .ok (.aload_n 0, 1) := by decide +kernel
theorem dX11_heir_59 : decode cX11_heir 59 = .ok (.getfield 7, 3) := by decide +kernel
theorem dX11_heir_62 : decode cX11_heir 62 = .ok (.bipush 7, 2) := by decide +kernel
theorem dX11_heir_64 : decode cX11_heir 64 = .ok (.dup2, 1) := by decide +kernel
theorem dX11_heir_65 : decode cX11_heir 65 = .ok (.iaload, 1) := by decide +kernel
theorem dX11_heir_66 : decode cX11_heir 66 = .ok (.iconst 1, 1) := by decide +kernel
theorem dX11_heir_67 : decode cX11_heir 67 = .ok (.iadd, 1) := by decide +kernel
theorem dX11_heir_68 : decode cX11_heir 68 = .ok (.iastore, 1) := by decide +kernel
theorem dX11_heir_69 : decode cX11_heir 69 = .ok (.aload_n 0, 1) := by decide +kernel
theorem dX11_heir_70 : decode cX11_heir 70 = .ok (.getfield 7, 3) := by decide +kernel
theorem dX11_heir_73 : decode cX11_heir 73 = .ok (.bipush 7, 2) := by decide +kernel
theorem dX11_heir_75 : decode cX11_heir 75 = .ok (.iaload, 1) := by decide +kernel
theorem dX11_heir_76 : decode cX11_heir 76 = .ok (.ireturn, 1) := by decide +kernel
theorem dX11_layTurns_0 : decode cX11_layTurns 0 = .ok (.iconst 0, 1) := by decide +kernel
theorem dX11_layTurns_1 : decode cX11_layTurns 1 = .ok (.istore_n 2, 1) := by decide +kernel
theorem dX11_layTurns_2 : decode cX11_layTurns 2 = .ok (.iload_n 2, 1) := by decide +kernel
theorem dX11_layTurns_3 : decode cX11_layTurns 3 = .ok (.bipush 6, 2) := by decide +kernel
theorem dX11_layTurns_5 : decode cX11_layTurns 5 = .ok (.if_icmp .ge 16, 3) := by decide +kernel
theorem dX11_layTurns_8 : decode cX11_layTurns 8 = .ok (.aload_n 0, 1) := by decide +kernel
theorem dX11_layTurns_9 : decode cX11_layTurns 9 = .ok (.getfield 52, 3) := by decide +kernel
theorem dX11_layTurns_12 : decode cX11_layTurns 12 = .ok (.iload_n 2, 1) := by decide +kernel
theorem dX11_layTurns_13 : decode cX11_layTurns 13 = .ok (.iconst 0, 1) := by decide +kernel
theorem dX11_layTurns_14 : decode cX11_layTurns 14 = .ok (.iastore, 1) := by decide +kernel
theorem dX11_layTurns_15 : decode cX11_layTurns 15 = .ok (.iinc 2 1, 3) := by decide +kernel
theorem dX11_layTurns_18 : decode cX11_layTurns 18 = .ok (.goto (-16), 3) := by decide +kernel
theorem dX11_layTurns_21 : decode cX11_layTurns 21 = .ok (.iconst 0, 1) := by decide +kernel
theorem dX11_layTurns_22 : decode cX11_layTurns 22 = .ok (.istore_n 2, 1) := by decide +kernel
theorem dX11_layTurns_23 : decode cX11_layTurns 23 = .ok (.iload_n 2, 1) := by decide +kernel
theorem dX11_layTurns_24 : decode cX11_layTurns 24 = .ok (.iload_n 1, 1) := by decide +kernel
theorem dX11_layTurns_25 : decode cX11_layTurns 25 = .ok (.if_icmp .ge 88, 3) := by decide +kernel
theorem dX11_layTurns_28 : decode cX11_layTurns 28 = .ok (.iconst 0, 1) := by decide +kernel
theorem dX11_layTurns_29 : decode cX11_layTurns 29 = .ok (.istore_n 3, 1) := by decide +kernel
theorem dX11_layTurns_30 : decode cX11_layTurns 30 = .ok (.iconst 1, 1) := by decide +kernel
theorem dX11_layTurns_31 : decode cX11_layTurns 31 = .ok (.istore 4, 2) := by decide +kernel
theorem dX11_layTurns_33 : decode cX11_layTurns 33 = .ok (.iload 4, 2) := by decide +kernel
theorem dX11_layTurns_35 : decode cX11_layTurns 35 = .ok (.aload_n 0, 1) := by decide +kernel
theorem dX11_layTurns_36 : decode cX11_layTurns 36 = .ok (.getfield 7, 3) := by decide +kernel
theorem dX11_layTurns_39 : decode cX11_layTurns 39 = .ok (.bipush 7, 2) := by decide +kernel
theorem dX11_layTurns_41 : decode cX11_layTurns 41 = .ok (.iaload, 1) := by decide +kernel
theorem dX11_layTurns_42 : decode cX11_layTurns 42 = .ok (.if_icmp .ge 55, 3) := by decide +kernel
theorem dX11_layTurns_45 : decode cX11_layTurns 45 = .ok (.aload_n 0, 1) := by decide +kernel
theorem dX11_layTurns_46 : decode cX11_layTurns 46 = .ok (.getfield 7, 3) := by decide +kernel
theorem dX11_layTurns_49 : decode cX11_layTurns 49 = .ok (.sipush 162, 3) := by decide +kernel
theorem dX11_layTurns_52 : decode cX11_layTurns 52 = .ok (.iload 4, 2) := by decide +kernel
theorem dX11_layTurns_54 : decode cX11_layTurns 54 = .ok (.iadd, 1) := by decide +kernel
theorem dX11_layTurns_55 : decode cX11_layTurns 55 = .ok (.iaload, 1) := by decide +kernel
theorem dX11_layTurns_56 : decode cX11_layTurns 56 = .ok (.aload_n 0, 1) := by decide +kernel
theorem dX11_layTurns_57 : decode cX11_layTurns 57 = .ok (.getfield 52, 3) := by decide +kernel
theorem dX11_layTurns_60 : decode cX11_layTurns 60 = .ok (.iload_n 3, 1) := by decide +kernel
theorem dX11_layTurns_61 : decode cX11_layTurns 61 = .ok (.iaload, 1) := by decide +kernel
theorem dX11_layTurns_62 : decode cX11_layTurns 62 = .ok (.iconst 1, 1) := by decide +kernel
theorem dX11_layTurns_63 : decode cX11_layTurns 63 = .ok (.iadd, 1) := by decide +kernel
theorem dX11_layTurns_64 : decode cX11_layTurns 64 = .ok (.imul, 1) := by decide +kernel
theorem dX11_layTurns_65 : decode cX11_layTurns 65 = .ok (.aload_n 0, 1) := by decide +kernel
theorem dX11_layTurns_66 : decode cX11_layTurns 66 = .ok (.getfield 7, 3) := by decide +kernel
theorem dX11_layTurns_69 : decode cX11_layTurns 69 = .ok (.sipush 162, 3) := by decide +kernel
theorem dX11_layTurns_72 : decode cX11_layTurns 72 = .ok (.iload_n 3, 1) := by decide +kernel
theorem dX11_layTurns_73 : decode cX11_layTurns 73 = .ok (.iadd, 1) := by decide +kernel
theorem dX11_layTurns_74 : decode cX11_layTurns 74 = .ok (.iaload, 1) := by decide +kernel
theorem dX11_layTurns_75 : decode cX11_layTurns 75 = .ok (.aload_n 0, 1) := by decide +kernel
theorem dX11_layTurns_76 : decode cX11_layTurns 76 = .ok (.getfield 52, 3) := by decide +kernel
theorem dX11_layTurns_79 : decode cX11_layTurns 79 = .ok (.iload 4, 2) := by decide +kernel
theorem dX11_layTurns_81 : decode cX11_layTurns 81 = .ok (.iaload, 1) := by decide +kernel
theorem dX11_layTurns_82 : decode cX11_layTurns 82 = .ok (.iconst 1, 1) := by decide +kernel
theorem dX11_layTurns_83 : decode cX11_layTurns 83 = .ok (.iadd, 1) := by decide +kernel
theorem dX11_layTurns_84 : decode cX11_layTurns 84 = .ok (.imul, 1) := by decide +kernel
theorem dX11_layTurns_85 : decode cX11_layTurns 85 = .ok (.if_icmp .le 6, 3) := by decide +kernel
theorem dX11_layTurns_88 : decode cX11_layTurns 88 = .ok (.iload 4, 2) := by decide +kernel
theorem dX11_layTurns_90 : decode cX11_layTurns 90 = .ok (.istore_n 3, 1) := by decide +kernel
theorem dX11_layTurns_91 : decode cX11_layTurns 91 = .ok (.iinc 4 1, 3) := by decide +kernel
theorem dX11_layTurns_94 : decode cX11_layTurns 94 = .ok (.goto (-61), 3) := by decide +kernel
theorem dX11_layTurns_97 : decode cX11_layTurns 97 = .ok (.aload_n 0, 1) := by decide +kernel
theorem dX11_layTurns_98 : decode cX11_layTurns 98 = .ok (.getfield 52, 3) := by decide +kernel
theorem dX11_layTurns_101 : decode cX11_layTurns 101 = .ok (.iload_n 3, 1) := by decide +kernel
theorem dX11_layTurns_102 : decode cX11_layTurns 102 = .ok (.dup2, 1) := by decide +kernel
theorem dX11_layTurns_103 : decode cX11_layTurns 103 = .ok (.iaload, 1) := by decide +kernel
theorem dX11_layTurns_104 : decode cX11_layTurns 104 = .ok (.iconst 1, 1) := by decide +kernel
theorem dX11_layTurns_105 : decode cX11_layTurns 105 = .ok (.iadd, 1) := by decide +kernel
theorem dX11_layTurns_106 : decode cX11_layTurns 106 = .ok (.iastore, 1) := by decide +kernel
theorem dX11_layTurns_107 : decode cX11_layTurns 107 = .ok (.iinc 2 1, 3) := by decide +kernel
theorem dX11_layTurns_110 : decode cX11_layTurns 110 = .ok (.goto (-87), 3) := by decide +kernel
theorem dX11_layTurns_113 : decode cX11_layTurns 113 = .ok (.return_, 1) := by decide +kernel
theorem dX11_layWhole_0 : decode cX11_layWhole 0 = .ok (.iconst 0, 1) := by decide +kernel
theorem dX11_layWhole_1 : decode cX11_layWhole 1 = .ok (.istore_n 2, 1) := by decide +kernel
theorem dX11_layWhole_2 : decode cX11_layWhole 2 = .ok (.iconst 0, 1) := by decide +kernel
theorem dX11_layWhole_3 : decode cX11_layWhole 3 = .ok (.istore_n 3, 1) := by decide +kernel
theorem dX11_layWhole_4 : decode cX11_layWhole 4 = .ok (.iload_n 3, 1) := by decide +kernel
theorem dX11_layWhole_5 : decode cX11_layWhole 5 = .ok (.aload_n 0, 1) := by decide +kernel
theorem dX11_layWhole_6 : decode cX11_layWhole 6 = .ok (.getfield 7, 3) := by decide +kernel
theorem dX11_layWhole_9 : decode cX11_layWhole 9 = .ok (.bipush 7, 2) := by decide +kernel
theorem dX11_layWhole_11 : decode cX11_layWhole 11 = .ok (.iaload, 1) := by decide +kernel
theorem dX11_layWhole_12 : decode cX11_layWhole 12 = .ok (.if_icmp .ge 22, 3) := by decide +kernel
theorem dX11_layWhole_15 : decode cX11_layWhole 15 = .ok (.iload_n 2, 1) := by decide +kernel
theorem dX11_layWhole_16 : decode cX11_layWhole 16 = .ok (.aload_n 0, 1) := by decide +kernel
theorem dX11_layWhole_17 : decode cX11_layWhole 17 = .ok (.getfield 7, 3) := by decide +kernel
theorem dX11_layWhole_20 : decode cX11_layWhole 20 = .ok (.sipush 162, 3) := by decide +kernel
theorem dX11_layWhole_23 : decode cX11_layWhole 23 = .ok (.iload_n 3, 1) := by decide +kernel
theorem dX11_layWhole_24 : decode cX11_layWhole 24 = .ok (.iadd, 1) := by decide +kernel
theorem dX11_layWhole_25 : decode cX11_layWhole 25 = .ok (.iaload, 1) := by decide +kernel
theorem dX11_layWhole_26 : decode cX11_layWhole 26 = .ok (.iadd, 1) := by decide +kernel
theorem dX11_layWhole_27 : decode cX11_layWhole 27 = .ok (.istore_n 2, 1) := by decide +kernel
theorem dX11_layWhole_28 : decode cX11_layWhole 28 = .ok (.iinc 3 1, 3) := by decide +kernel
theorem dX11_layWhole_31 : decode cX11_layWhole 31 = .ok (.goto (-27), 3) := by decide +kernel
theorem dX11_layWhole_34 : decode cX11_layWhole 34 = .ok (.iload_n 1, 1) := by decide +kernel
theorem dX11_layWhole_35 : decode cX11_layWhole 35 = .ok (.istore_n 3, 1) := by decide +kernel
theorem dX11_layWhole_36 : decode cX11_layWhole 36 = .ok (.iconst 0, 1) := by decide +kernel
theorem dX11_layWhole_37 : decode cX11_layWhole 37 = .ok (.istore 4, 2) := by decide +kernel
theorem dX11_layWhole_39 : decode cX11_layWhole 39 = .ok (.iload 4, 2) := by decide +kernel
theorem dX11_layWhole_41 : decode cX11_layWhole 41 = .ok (.aload_n 0, 1) := by decide +kernel
theorem dX11_layWhole_42 : decode cX11_layWhole 42 = .ok (.getfield 7, 3) := by decide +kernel
theorem dX11_layWhole_45 : decode cX11_layWhole 45 = .ok (.bipush 7, 2) := by decide +kernel
theorem dX11_layWhole_47 : decode cX11_layWhole 47 = .ok (.iaload, 1) := by decide +kernel
theorem dX11_layWhole_48 : decode cX11_layWhole 48 = .ok (.if_icmp .ge 41, 3) := by decide +kernel
theorem dX11_layWhole_51 : decode cX11_layWhole 51 = .ok (.aload_n 0, 1) := by decide +kernel
theorem dX11_layWhole_52 : decode cX11_layWhole 52 = .ok (.getfield 52, 3) := by decide +kernel
theorem dX11_layWhole_55 : decode cX11_layWhole 55 = .ok (.iload 4, 2) := by decide +kernel
theorem dX11_layWhole_57 : decode cX11_layWhole 57 = .ok (.iload_n 1, 1) := by decide +kernel
theorem dX11_layWhole_58 : decode cX11_layWhole 58 = .ok (.aload_n 0, 1) := by decide +kernel
theorem dX11_layWhole_59 : decode cX11_layWhole 59 = .ok (.getfield 7, 3) := by decide +kernel
theorem dX11_layWhole_62 : decode cX11_layWhole 62 = .ok (.sipush 162, 3) := by decide +kernel
theorem dX11_layWhole_65 : decode cX11_layWhole 65 = .ok (.iload 4, 2) := by decide +kernel
theorem dX11_layWhole_67 : decode cX11_layWhole 67 = .ok (.iadd, 1) := by decide +kernel
theorem dX11_layWhole_68 : decode cX11_layWhole 68 = .ok (.iaload, 1) := by decide +kernel
theorem dX11_layWhole_69 : decode cX11_layWhole 69 = .ok (.imul, 1) := by decide +kernel
theorem dX11_layWhole_70 : decode cX11_layWhole 70 = .ok (.iload_n 2, 1) := by decide +kernel
theorem dX11_layWhole_71 : decode cX11_layWhole 71 = .ok (.idiv, 1) := by decide +kernel
theorem dX11_layWhole_72 : decode cX11_layWhole 72 = .ok (.iastore, 1) := by decide +kernel
theorem dX11_layWhole_73 : decode cX11_layWhole 73 = .ok (.iload_n 3, 1) := by decide +kernel
theorem dX11_layWhole_74 : decode cX11_layWhole 74 = .ok (.aload_n 0, 1) := by decide +kernel
theorem dX11_layWhole_75 : decode cX11_layWhole 75 = .ok (.getfield 52, 3) := by decide +kernel
theorem dX11_layWhole_78 : decode cX11_layWhole 78 = .ok (.iload 4, 2) := by decide +kernel
theorem dX11_layWhole_80 : decode cX11_layWhole 80 = .ok (.iaload, 1) := by decide +kernel
theorem dX11_layWhole_81 : decode cX11_layWhole 81 = .ok (.isub, 1) := by decide +kernel
theorem dX11_layWhole_82 : decode cX11_layWhole 82 = .ok (.istore_n 3, 1) := by decide +kernel
theorem dX11_layWhole_83 : decode cX11_layWhole 83 = .ok (.iinc 4 1, 3) := by decide +kernel
theorem dX11_layWhole_86 : decode cX11_layWhole 86 = .ok (.goto (-47), 3) := by decide +kernel
theorem dX11_layWhole_89 : decode cX11_layWhole 89 = .ok (.iconst 0, 1) := by decide +kernel
theorem dX11_layWhole_90 : decode cX11_layWhole 90 = .ok (.istore 4, 2) := by decide +kernel
theorem dX11_layWhole_92 : decode cX11_layWhole 92 = .ok (.iload 4, 2) := by decide +kernel
theorem dX11_layWhole_94 : decode cX11_layWhole 94 = .ok (.aload_n 0, 1) := by decide +kernel
theorem dX11_layWhole_95 : decode cX11_layWhole 95 = .ok (.getfield 7, 3) := by decide +kernel
theorem dX11_layWhole_98 : decode cX11_layWhole 98 = .ok (.bipush 7, 2) := by decide +kernel
theorem dX11_layWhole_100 : decode cX11_layWhole 100 = .ok (.iaload, 1) := by decide +kernel
theorem dX11_layWhole_101 : decode cX11_layWhole 101 = .ok (.if_icmp .ge 111, 3) := by decide +kernel
theorem dX11_layWhole_104 : decode cX11_layWhole 104 = .ok (.iconst 0, 1) := by decide +kernel
theorem dX11_layWhole_105 : decode cX11_layWhole 105 = .ok (.istore 5, 2) := by decide +kernel
theorem dX11_layWhole_107 : decode cX11_layWhole 107 = .ok (.iconst 0, 1) := by decide +kernel
theorem dX11_layWhole_108 : decode cX11_layWhole 108 = .ok (.istore 6, 2) := by decide +kernel
theorem dX11_layWhole_110 : decode cX11_layWhole 110 = .ok (.iload 6, 2) := by decide +kernel
theorem dX11_layWhole_112 : decode cX11_layWhole 112 = .ok (.aload_n 0, 1) := by decide +kernel
theorem dX11_layWhole_113 : decode cX11_layWhole 113 = .ok (.getfield 7, 3) := by decide +kernel
theorem dX11_layWhole_116 : decode cX11_layWhole 116 = .ok (.bipush 7, 2) := by decide +kernel
theorem dX11_layWhole_118 : decode cX11_layWhole 118 = .ok (.iaload, 1) := by decide +kernel
theorem dX11_layWhole_119 : decode cX11_layWhole 119 = .ok (.if_icmp .ge 69, 3) := by decide +kernel
theorem dX11_layWhole_122 : decode cX11_layWhole 122 = .ok (.iload_n 1, 1) := by decide +kernel
theorem dX11_layWhole_123 : decode cX11_layWhole 123 = .ok (.aload_n 0, 1) := by decide +kernel
theorem dX11_layWhole_124 : decode cX11_layWhole 124 = .ok (.getfield 7, 3) := by decide +kernel
theorem dX11_layWhole_127 : decode cX11_layWhole 127 = .ok (.sipush 162, 3) := by decide +kernel
theorem dX11_layWhole_130 : decode cX11_layWhole 130 = .ok (.iload 6, 2) := by decide +kernel
theorem dX11_layWhole_132 : decode cX11_layWhole 132 = .ok (.iadd, 1) := by decide +kernel
theorem dX11_layWhole_133 : decode cX11_layWhole 133 = .ok (.iaload, 1) := by decide +kernel
theorem dX11_layWhole_134 : decode cX11_layWhole 134 = .ok (.imul, 1) := by decide +kernel
theorem dX11_layWhole_135 : decode cX11_layWhole 135 = .ok (.iload_n 2, 1) := by decide +kernel
theorem dX11_layWhole_136 : decode cX11_layWhole 136 = .ok (.irem, 1) := by decide +kernel
theorem dX11_layWhole_137 : decode cX11_layWhole 137 = .ok (.iload_n 1, 1) := by decide +kernel
theorem dX11_layWhole_138 : decode cX11_layWhole 138 = .ok (.aload_n 0, 1) := by decide +kernel
theorem dX11_layWhole_139 : decode cX11_layWhole 139 = .ok (.getfield 7, 3) := by decide +kernel
theorem dX11_layWhole_142 : decode cX11_layWhole 142 = .ok (.sipush 162, 3) := by decide +kernel
theorem dX11_layWhole_145 : decode cX11_layWhole 145 = .ok (.iload 4, 2) := by decide +kernel
theorem dX11_layWhole_147 : decode cX11_layWhole 147 = .ok (.iadd, 1) := by decide +kernel
theorem dX11_layWhole_148 : decode cX11_layWhole 148 = .ok (.iaload, 1) := by decide +kernel
theorem dX11_layWhole_149 : decode cX11_layWhole 149 = .ok (.imul, 1) := by decide +kernel
theorem dX11_layWhole_150 : decode cX11_layWhole 150 = .ok (.iload_n 2, 1) := by decide +kernel
theorem dX11_layWhole_151 : decode cX11_layWhole 151 = .ok (.irem, 1) := by decide +kernel
theorem dX11_layWhole_152 : decode cX11_layWhole 152 = .ok (.isub, 1) := by decide +kernel
theorem dX11_layWhole_153 : decode cX11_layWhole 153 = .ok (.istore 7, 2) := by decide +kernel
theorem dX11_layWhole_155 : decode cX11_layWhole 155 = .ok (.iload 5, 2) := by decide +kernel
theorem dX11_layWhole_157 : decode cX11_layWhole 157 = .ok (.iload 7, 2) := by decide +kernel
theorem dX11_layWhole_159 : decode cX11_layWhole 159 = .ok (.ifCond .gt 15, 3) := by decide +kernel
theorem dX11_layWhole_162 : decode cX11_layWhole 162 = .ok (.iload 7, 2) := by decide +kernel
theorem dX11_layWhole_164 : decode cX11_layWhole 164 = .ok (.ifCond .ne 14, 3) := by decide +kernel
theorem dX11_layWhole_167 : decode cX11_layWhole 167 = .ok (.iload 6, 2) := by decide +kernel
theorem dX11_layWhole_169 : decode cX11_layWhole 169 = .ok (.iload 4, 2) := by decide +kernel
theorem dX11_layWhole_171 : decode cX11_layWhole 171 = .ok (.if_icmp .ge 7, 3) := by decide +kernel
theorem dX11_layWhole_174 : decode cX11_layWhole 174 = .ok (.iconst 1, 1) := by decide +kernel
theorem dX11_layWhole_175 : decode cX11_layWhole 175 = .ok (.goto 4, 3) := by decide +kernel
theorem dX11_layWhole_178 : decode cX11_layWhole 178 = .ok (.iconst 0, 1) := by decide +kernel
theorem dX11_layWhole_179 : decode cX11_layWhole 179 = .ok (.iadd, 1) := by decide +kernel
theorem dX11_layWhole_180 : decode cX11_layWhole 180 = .ok (.istore 5, 2) := by decide +kernel
theorem dX11_layWhole_182 : decode cX11_layWhole 182 = .ok (.iinc 6 1, 3) := by decide +kernel
theorem dX11_layWhole_185 : decode cX11_layWhole 185 = .ok (.goto (-75), 3) := by decide +kernel
theorem dX11_layWhole_188 : decode cX11_layWhole 188 = .ok (.aload_n 0, 1) := by decide +kernel
theorem dX11_layWhole_189 : decode cX11_layWhole 189 = .ok (.getfield 55, 3) := by decide +kernel
theorem dX11_layWhole_192 : decode cX11_layWhole 192 = .ok (.iload 4, 2) := by decide +kernel
theorem dX11_layWhole_194 : decode cX11_layWhole 194 = .ok (.iload 5, 2) := by decide +kernel
theorem dX11_layWhole_196 : decode cX11_layWhole 196 = .ok (.iload_n 3, 1) := by decide +kernel
theorem dX11_layWhole_197 : decode cX11_layWhole 197 = .ok (.if_icmp .ge 7, 3) := by decide +kernel
theorem dX11_layWhole_200 : decode cX11_layWhole 200 = .ok (.iconst 1, 1) := by decide +kernel
theorem dX11_layWhole_201 : decode cX11_layWhole 201 = .ok (.goto 4, 3) := by decide +kernel
theorem dX11_layWhole_204 : decode cX11_layWhole 204 = .ok (.iconst 0, 1) := by decide +kernel
theorem dX11_layWhole_205 : decode cX11_layWhole 205 = .ok (.iastore, 1) := by decide +kernel
theorem dX11_layWhole_206 : decode cX11_layWhole 206 = .ok (.iinc 4 1, 3) := by decide +kernel
theorem dX11_layWhole_209 : decode cX11_layWhole 209 = .ok (.goto (-117), 3) := by decide +kernel
theorem dX11_layWhole_212 : decode cX11_layWhole 212 = .ok (.iconst 0, 1) := by decide +kernel
theorem dX11_layWhole_213 : decode cX11_layWhole 213 = .ok (.istore 4, 2) := by decide +kernel
theorem dX11_layWhole_215 : decode cX11_layWhole 215 = .ok (.iload 4, 2) := by decide +kernel
theorem dX11_layWhole_217 : decode cX11_layWhole 217 = .ok (.aload_n 0, 1) := by decide +kernel
theorem dX11_layWhole_218 : decode cX11_layWhole 218 = .ok (.getfield 7, 3) := by decide +kernel
theorem dX11_layWhole_221 : decode cX11_layWhole 221 = .ok (.bipush 7, 2) := by decide +kernel
theorem dX11_layWhole_223 : decode cX11_layWhole 223 = .ok (.iaload, 1) := by decide +kernel
theorem dX11_layWhole_224 : decode cX11_layWhole 224 = .ok (.if_icmp .ge 26, 3) := by decide +kernel
theorem dX11_layWhole_227 : decode cX11_layWhole 227 = .ok (.aload_n 0, 1) := by decide +kernel
theorem dX11_layWhole_228 : decode cX11_layWhole 228 = .ok (.getfield 52, 3) := by decide +kernel
theorem dX11_layWhole_231 : decode cX11_layWhole 231 = .ok (.iload 4, 2) := by decide +kernel
theorem dX11_layWhole_233 : decode cX11_layWhole 233 = .ok (.dup2, 1) := by decide +kernel
theorem dX11_layWhole_234 : decode cX11_layWhole 234 = .ok (.iaload, 1) := by decide +kernel
theorem dX11_layWhole_235 : decode cX11_layWhole 235 = .ok (.aload_n 0, 1) := by decide +kernel
theorem dX11_layWhole_236 : decode cX11_layWhole 236 = .ok (.getfield 55, 3) := by decide +kernel
theorem dX11_layWhole_239 : decode cX11_layWhole 239 = .ok (.iload 4, 2) := by decide +kernel
theorem dX11_layWhole_241 : decode cX11_layWhole 241 = .ok (.iaload, 1) := by decide +kernel
theorem dX11_layWhole_242 : decode cX11_layWhole 242 = .ok (.iadd, 1) := by decide +kernel
theorem dX11_layWhole_243 : decode cX11_layWhole 243 = .ok (.iastore, 1) := by decide +kernel
theorem dX11_layWhole_244 : decode cX11_layWhole 244 = .ok (.iinc 4 1, 3) := by decide +kernel
theorem dX11_layWhole_247 : decode cX11_layWhole 247 = .ok (.goto (-32), 3) := by decide +kernel
theorem dX11_layWhole_250 : decode cX11_layWhole 250 = .ok (.return_, 1) := by decide +kernel
theorem dX11_laughs_0 : decode cX11_laughs 0 = .ok (.iload_n 1, 1) := by decide +kernel
theorem dX11_laughs_1 : decode cX11_laughs 1 = .ok (.iconst 0, 1) := by decide +kernel
theorem dX11_laughs_2 : decode cX11_laughs 2 = .ok (.bipush 99, 2) := by decide +kernel
theorem dX11_laughs_4 : decode cX11_laughs 4 = .ok (.invokestatic 62, 3) := by decide +kernel
theorem dX11_laughs_7 : decode cX11_laughs 7 = .ok (.ifCond .eq 20, 3) := by decide +kernel
theorem dX11_laughs_10 : decode cX11_laughs 10 = .ok (.iload_n 3, 1) := by decide +kernel
theorem dX11_laughs_11 : decode cX11_laughs 11 = .ok (.iconst 0, 1) := by decide +kernel
theorem dX11_laughs_12 : decode cX11_laughs 12 = .ok (.aload_n 0, 1) := by decide +kernel
theorem dX11_laughs_13 : decode cX11_laughs 13 = .ok (.getfield 7, 3) := by decide +kernel
theorem dX11_laughs_16 : decode cX11_laughs 16 = .ok (.bipush 7, 2) := by decide +kernel
theorem dX11_laughs_18 : decode cX11_laughs 18 = .ok (.iaload, 1) := by decide +kernel
theorem dX11_laughs_19 : decode cX11_laughs 19 = .ok (.iconst 1, 1) := by decide +kernel
theorem dX11_laughs_20 : decode cX11_laughs 20 = .ok (.isub, 1) := by decide +kernel
theorem dX11_laughs_21 : decode cX11_laughs 21 = .ok (.invokestatic 62, 3) := by decide +kernel
theorem dX11_laughs_24 : decode cX11_laughs 24 = .ok (.ifCond .ne 5, 3) := by decide +kernel
theorem dX11_laughs_27 : decode cX11_laughs 27 = .ok (.iconst (-1), 1) := by decide +kernel
theorem dX11_laughs_28 : decode cX11_laughs 28 = .ok (.ireturn, 1) := by decide +kernel
theorem dX11_laughs_29 : decode cX11_laughs 29 = .ok (.iload_n 2, 1) := by decide +kernel
theorem dX11_laughs_30 : decode cX11_laughs 30 = .ok (.ifCond .eq 11, 3) := by decide +kernel
theorem dX11_laughs_33 : decode cX11_laughs 33 = .ok (.aload_n 0, 1) := by decide +kernel
theorem dX11_laughs_34 : decode cX11_laughs 34 = .ok (.iload_n 1, 1) := by decide +kernel
theorem dX11_laughs_35 : decode cX11_laughs 35 = .ok (.invokevirtual 424, 3) := by decide +kernel
theorem dX11_laughs_38 : decode cX11_laughs 38 = .ok (.goto 8, 3) := by decide +kernel
theorem dX11_laughs_41 : decode cX11_laughs 41 = .ok (.aload_n 0, 1) := by decide +kernel
theorem dX11_laughs_42 : decode cX11_laughs 42 = .ok (.iload_n 1, 1) := by decide +kernel
theorem dX11_laughs_43 : decode cX11_laughs 43 = .ok (.invokevirtual 427, 3) := by decide +kernel
theorem dX11_laughs_46 : decode cX11_laughs 46 = .ok (.aload_n 0, 1) := by decide +kernel
theorem dX11_laughs_47 : decode cX11_laughs 47 = .ok (.getfield 52, 3) := by decide +kernel
theorem dX11_laughs_50 : decode cX11_laughs 50 = .ok (.iload_n 3, 1) := by decide +kernel
theorem dX11_laughs_51 : decode cX11_laughs 51 = .ok (.iaload, 1) := by decide +kernel
theorem dX11_laughs_52 : decode cX11_laughs 52 = .ok (.ireturn, 1) := by decide +kernel
theorem dX11_offer_0 : decode cX11_offer 0 = .ok (.iload_n 1, 1) := by decide +kernel
theorem dX11_offer_1 : decode cX11_offer 1 = .ok (.iconst (-1), 1) := by decide +kernel
theorem dX11_offer_2 : decode cX11_offer 2 = .ok (.if_icmp .ne 13, 3) := by decide +kernel
theorem dX11_offer_5 : decode cX11_offer 5 = .ok (.aload_n 0, 1) := by decide +kernel
theorem dX11_offer_6 : decode cX11_offer 6 = .ok (.getfield 7, 3) := by decide +kernel
theorem dX11_offer_9 : decode cX11_offer 9 = .ok (.bipush 8, 2) := by decide +kernel
theorem dX11_offer_11 : decode cX11_offer 11 = .ok (.iconst 0, 1) := by decide +kernel
theorem dX11_offer_12 : decode cX11_offer 12 = .ok (.iastore, 1) := by decide +kernel
theorem dX11_offer_13 : decode cX11_offer 13 = .ok (.iconst 0, 1) := by decide +kernel
theorem dX11_offer_14 : decode cX11_offer 14 = .ok (.ireturn, 1) := by decide +kernel
theorem dX11_offer_15 : decode cX11_offer 15 = .ok (.iload_n 1, 1) := by decide +kernel
theorem dX11_offer_16 : decode cX11_offer 16 = .ok (.iconst 0, 1) := by decide +kernel
theorem dX11_offer_17 : decode cX11_offer 17 = .ok (.sipush 999, 3) := by decide +kernel
theorem dX11_offer_20 : decode cX11_offer 20 = .ok (.invokestatic 62, 3) := by decide +kernel
theorem dX11_offer_23 : decode cX11_offer 23 = .ok (.ifCond .eq 15, 3) := by decide +kernel
theorem dX11_offer_26 : decode cX11_offer 26 = .ok (.aload_n 0, 1) := by decide +kernel
theorem dX11_offer_27 : decode cX11_offer 27 = .ok (.getfield 7, 3) := by decide +kernel
theorem dX11_offer_30 : decode cX11_offer 30 = .ok (.bipush 8, 2) := by decide +kernel
theorem dX11_offer_32 : decode cX11_offer 32 = .ok (.iaload, 1) := by decide +kernel
theorem dX11_offer_33 : decode cX11_offer 33 = .ok (.bipush 8, 2) := by decide +kernel
theorem dX11_offer_35 : decode cX11_offer 35 = .ok (.if_icmp .ne 6, 3) := by decide +kernel
theorem dX11_offer_38 : decode cX11_offer 38 = .ok (.bipush (-2), 2) := by decide +kernel
theorem dX11_offer_40 : decode cX11_offer 40 = .ok (.ireturn, 1) := by decide +kernel
theorem dX11_offer_41 : decode cX11_offer 41 = .ok (.aload_n 0, 1) := by decide +kernel
theorem dX11_offer_42 : decode cX11_offer 42 = .ok (.getfield 7, 3) := by decide +kernel
theorem dX11_offer_45 : decode cX11_offer 45 = .ok (.sipush 168, 3) := by decide +kernel
theorem dX11_offer_48 : decode cX11_offer 48 = .ok (.aload_n 0, 1) := by decide +kernel
theorem dX11_offer_49 : decode cX11_offer 49 = .ok (.getfield 7, 3) := by decide +kernel
theorem dX11_offer_52 : decode cX11_offer 52 = .ok (.bipush 8, 2) := by decide +kernel
theorem dX11_offer_54 : decode cX11_offer 54 = .ok (.iaload, 1) := by decide +kernel
theorem dX11_offer_55 : decode cX11_offer 55 = .ok (.iadd, 1) := by decide +kernel
theorem dX11_offer_56 : decode cX11_offer 56 = .ok (.iload_n 1, 1) := by decide +kernel
theorem dX11_offer_57 : decode cX11_offer 57 = .ok (.iastore, 1) := by decide +kernel
theorem dX11_offer_58 : decode cX11_offer 58 = .ok (.aload_n 0, 1) := by decide +kernel
theorem dX11_offer_59 : decode cX11_offer 59 = .ok (.getfield 7, 3) := by decide +kernel
theorem dX11_offer_62 : decode cX11_offer 62 = .ok (.bipush 8, 2) := by decide +kernel
theorem dX11_offer_64 : decode cX11_offer 64 = .ok (.dup2, 1) := by decide +kernel
theorem dX11_offer_65 : decode cX11_offer 65 = .ok (.iaload, 1) := by decide +kernel
theorem dX11_offer_66 : decode cX11_offer 66 = .ok (.iconst 1, 1) := by decide +kernel
theorem dX11_offer_67 : decode cX11_offer 67 = .ok (.iadd, 1) := by decide +kernel
theorem dX11_offer_68 : decode cX11_offer 68 = .ok (.iastore, 1) := by decide +kernel
theorem dX11_offer_69 : decode cX11_offer 69 = .ok (.aload_n 0, 1) := by decide +kernel
theorem dX11_offer_70 : decode cX11_offer 70 = .ok (.getfield 7, 3) := by decide +kernel
theorem dX11_offer_73 : decode cX11_offer 73 = .ok (.bipush 8, 2) := by decide +kernel
theorem dX11_offer_75 : decode cX11_offer 75 = .ok (.iaload, 1) := by decide +kernel
theorem dX11_offer_76 : decode cX11_offer 76 = .ok (.ireturn, 1) := by decide +kernel
theorem dX11_price_0 : decode cX11_price 0 = .ok (.iconst 0, 1) := by decide +kernel
theorem dX11_price_1 : decode cX11_price 1 = .ok (.istore_n 2, 1) := by decide +kernel
theorem dX11_price_2 : decode cX11_price 2 = .ok (.iconst 0, 1) := by decide +kernel
theorem dX11_price_3 : decode cX11_price 3 = .ok (.istore_n 3, 1) := by decide +kernel
theorem dX11_price_4 : decode cX11_price 4 = .ok (.iconst 0, 1) := by decide +kernel
theorem dX11_price_5 : decode cX11_price 5 = .ok (.istore 4, 2) := by decide +kernel
theorem dX11_price_7 : decode cX11_price 7 = .ok (.iload 4, 2) := by decide +kernel
theorem dX11_price_9 : decode cX11_price 9 = .ok (.sipush 1000, 3) := by decide +kernel
theorem dX11_price_12 : decode cX11_price 12 = .ok (.if_icmp .ge 75, 3) := by decide +kernel
theorem dX11_price_15 : decode cX11_price 15 = .ok (.iconst 0, 1) := by decide +kernel
theorem dX11_price_16 : decode cX11_price 16 = .ok (.istore 5, 2) := by decide +kernel
theorem dX11_price_18 : decode cX11_price 18 = .ok (.iconst 0, 1) := by decide +kernel
theorem dX11_price_19 : decode cX11_price 19 = .ok (.istore 6, 2) := by decide +kernel
theorem dX11_price_21 : decode cX11_price 21 = .ok (.iload 6, 2) := by decide +kernel
theorem dX11_price_23 : decode cX11_price 23 = .ok (.aload_n 0, 1) := by decide +kernel
theorem dX11_price_24 : decode cX11_price 24 = .ok (.getfield 7, 3) := by decide +kernel
theorem dX11_price_27 : decode cX11_price 27 = .ok (.bipush 8, 2) := by decide +kernel
theorem dX11_price_29 : decode cX11_price 29 = .ok (.iaload, 1) := by decide +kernel
theorem dX11_price_30 : decode cX11_price 30 = .ok (.if_icmp .ge 36, 3) := by decide +kernel
theorem dX11_price_33 : decode cX11_price 33 = .ok (.iload 5, 2) := by decide +kernel
theorem dX11_price_35 : decode cX11_price 35 = .ok (.aload_n 0, 1) := by decide +kernel
theorem dX11_price_36 : decode cX11_price 36 = .ok (.getfield 7, 3) := by decide +kernel
theorem dX11_price_39 : decode cX11_price 39 = .ok (.sipush 168, 3) := by decide +kernel
theorem dX11_price_42 : decode cX11_price 42 = .ok (.iload 6, 2) := by decide +kernel
theorem dX11_price_44 : decode cX11_price 44 = .ok (.iadd, 1) := by decide +kernel
theorem dX11_price_45 : decode cX11_price 45 = .ok (.iaload, 1) := by decide +kernel
theorem dX11_price_46 : decode cX11_price 46 = .ok (.iload 4, 2) := by decide +kernel
theorem dX11_price_48 : decode cX11_price 48 = .ok (.if_icmp .lt 8, 3) := by decide +kernel
theorem dX11_price_51 : decode cX11_price 51 = .ok (.iload 4, 2) := by decide +kernel
theorem dX11_price_53 : decode cX11_price 53 = .ok (.goto 4, 3) := by decide +kernel
theorem dX11_price_56 : decode cX11_price 56 = .ok (.iconst 0, 1) := by decide +kernel
theorem dX11_price_57 : decode cX11_price 57 = .ok (.iadd, 1) := by decide +kernel
theorem dX11_price_58 : decode cX11_price 58 = .ok (.istore 5, 2) := by decide +kernel
theorem dX11_price_60 : decode cX11_price 60 = .ok (.iinc 6 1, 3) := by decide +kernel
theorem dX11_price_63 : decode cX11_price 63 = .ok (.goto (-42), 3) := by decide +kernel
theorem dX11_price_66 : decode cX11_price 66 = .ok (.iload 5, 2) := by decide +kernel
theorem dX11_price_68 : decode cX11_price 68 = .ok (.iload_n 3, 1) := by decide +kernel
theorem dX11_price_69 : decode cX11_price 69 = .ok (.if_icmp .gt 6, 3) := by decide +kernel
theorem dX11_price_72 : decode cX11_price 72 = .ok (.goto 9, 3) := by decide +kernel
theorem dX11_price_75 : decode cX11_price 75 = .ok (.iload 5, 2) := by decide +kernel
theorem dX11_price_77 : decode cX11_price 77 = .ok (.istore_n 3, 1) := by decide +kernel
theorem dX11_price_78 : decode cX11_price 78 = .ok (.iload 4, 2) := by decide +kernel
theorem dX11_price_80 : decode cX11_price 80 = .ok (.istore_n 2, 1) := by decide +kernel
theorem dX11_price_81 : decode cX11_price 81 = .ok (.iinc 4 1, 3) := by decide +kernel
theorem dX11_price_84 : decode cX11_price 84 = .ok (.goto (-77), 3) := by decide +kernel
theorem dX11_price_87 : decode cX11_price 87 = .ok (.iload_n 1, 1) := by decide +kernel
theorem dX11_price_88 : decode cX11_price 88 = .ok (.ifCond .eq 7, 3) := by decide +kernel
theorem dX11_price_91 : decode cX11_price 91 = .ok (.iload_n 3, 1) := by decide +kernel
theorem dX11_price_92 : decode cX11_price 92 = .ok (.goto 4, 3) := by decide +kernel
theorem dX11_price_95 : decode cX11_price 95 = .ok (.iload_n 2, 1) := by decide +kernel
theorem dX11_price_96 : decode cX11_price 96 = .ok (.ireturn, 1) := by decide +kernel
theorem dX11_common_0 : decode cX11_common 0 = .ok (.lload_n 0, 1) := by decide +kernel
theorem dX11_common_1 : decode cX11_common 1 = .ok (.lstore 4, 2) := by decide +kernel
theorem dX11_common_3 : decode cX11_common 3 = .ok (.lload_n 2, 1) := by decide +kernel
theorem dX11_common_4 : decode cX11_common 4 = .ok (.lstore 6, 2) := by decide +kernel
theorem dX11_common_6 : decode cX11_common 6 = .ok (.lload 6, 2) := by decide +kernel
theorem dX11_common_8 : decode cX11_common 8 = .ok (.lconst 0, 1) := by decide +kernel
theorem dX11_common_9 : decode cX11_common 9 = .ok (.lcmp, 1) := by decide +kernel
theorem dX11_common_10 : decode cX11_common 10 = .ok (.ifCond .eq 21, 3) := by decide +kernel
theorem dX11_common_13 : decode cX11_common 13 = .ok (.lload 4, 2) := by decide +kernel
theorem dX11_common_15 : decode cX11_common 15 = .ok (.lload 6, 2) := by decide +kernel
theorem dX11_common_17 : decode cX11_common 17 = .ok (.lrem, 1) := by decide +kernel
theorem dX11_common_18 : decode cX11_common 18 = .ok (.lstore 8, 2) := by decide +kernel
theorem dX11_common_20 : decode cX11_common 20 = .ok (.lload 6, 2) := by decide +kernel
theorem dX11_common_22 : decode cX11_common 22 = .ok (.lstore 4, 2) := by decide +kernel
theorem dX11_common_24 : decode cX11_common 24 = .ok (.lload 8, 2) := by decide +kernel
theorem dX11_common_26 : decode cX11_common 26 = .ok (.lstore 6, 2) := by decide +kernel
theorem dX11_common_28 : decode cX11_common 28 = .ok (.goto (-22), 3) := by decide +kernel
theorem dX11_common_31 : decode cX11_common 31 = .ok (.lload 4, 2) := by decide +kernel
theorem dX11_common_33 : decode cX11_common 33 = .ok (.lreturn, 1) := by decide +kernel
theorem dX11_power_0 : decode cX11_power 0 = .ok (.lconst 1, 1) := by decide +kernel
theorem dX11_power_1 : decode cX11_power 1 = .ok (.lstore_n 2, 1) := by decide +kernel
theorem dX11_power_2 : decode cX11_power 2 = .ok (.iconst 0, 1) := by decide +kernel
theorem dX11_power_3 : decode cX11_power 3 = .ok (.istore 4, 2) := by decide +kernel
theorem dX11_power_5 : decode cX11_power 5 = .ok (.iload 4, 2) := by decide +kernel
theorem dX11_power_7 : decode cX11_power 7 = .ok (.iload_n 1, 1) := by decide +kernel
theorem dX11_power_8 : decode cX11_power 8 = .ok (.if_icmp .ge 14, 3) := by decide +kernel
theorem dX11_power_11 : decode cX11_power 11 = .ok (.lload_n 2, 1) := by decide +kernel
theorem dX11_power_12 : decode cX11_power 12 = .ok (.iload_n 0, 1) := by decide +kernel
theorem dX11_power_13 : decode cX11_power 13 = .ok (.i2l, 1) := by decide +kernel
theorem dX11_power_14 : decode cX11_power 14 = .ok (.lmul, 1) := by decide +kernel
theorem dX11_power_15 : decode cX11_power 15 = .ok (.lstore_n 2, 1) := by decide +kernel
theorem dX11_power_16 : decode cX11_power 16 = .ok (.iinc 4 1, 3) := by decide +kernel
theorem dX11_power_19 : decode cX11_power 19 = .ok (.goto (-14), 3) := by decide +kernel
theorem dX11_power_22 : decode cX11_power 22 = .ok (.lload_n 2, 1) := by decide +kernel
theorem dX11_power_23 : decode cX11_power 23 = .ok (.lreturn, 1) := by decide +kernel
theorem dX11_ways_0 : decode cX11_ways 0 = .ok (.lconst 1, 1) := by decide +kernel
theorem dX11_ways_1 : decode cX11_ways 1 = .ok (.lstore_n 2, 1) := by decide +kernel
theorem dX11_ways_2 : decode cX11_ways 2 = .ok (.iconst 0, 1) := by decide +kernel
theorem dX11_ways_3 : decode cX11_ways 3 = .ok (.istore 4, 2) := by decide +kernel
theorem dX11_ways_5 : decode cX11_ways 5 = .ok (.iload 4, 2) := by decide +kernel
theorem dX11_ways_7 : decode cX11_ways 7 = .ok (.iload_n 1, 1) := by decide +kernel
theorem dX11_ways_8 : decode cX11_ways 8 = .ok (.if_icmp .ge 23, 3) := by decide +kernel
theorem dX11_ways_11 : decode cX11_ways 11 = .ok (.lload_n 2, 1) := by decide +kernel
theorem dX11_ways_12 : decode cX11_ways 12 = .ok (.iload_n 0, 1) := by decide +kernel
theorem dX11_ways_13 : decode cX11_ways 13 = .ok (.iload 4, 2) := by decide +kernel
theorem dX11_ways_15 : decode cX11_ways 15 = .ok (.isub, 1) := by decide +kernel
theorem dX11_ways_16 : decode cX11_ways 16 = .ok (.i2l, 1) := by decide +kernel
theorem dX11_ways_17 : decode cX11_ways 17 = .ok (.lmul, 1) := by decide +kernel
theorem dX11_ways_18 : decode cX11_ways 18 = .ok (.iload 4, 2) := by decide +kernel
theorem dX11_ways_20 : decode cX11_ways 20 = .ok (.iconst 1, 1) := by decide +kernel
theorem dX11_ways_21 : decode cX11_ways 21 = .ok (.iadd, 1) := by decide +kernel
theorem dX11_ways_22 : decode cX11_ways 22 = .ok (.i2l, 1) := by decide +kernel
theorem dX11_ways_23 : decode cX11_ways 23 = .ok (.ldiv, 1) := by decide +kernel
theorem dX11_ways_24 : decode cX11_ways 24 = .ok (.lstore_n 2, 1) := by decide +kernel
theorem dX11_ways_25 : decode cX11_ways 25 = .ok (.iinc 4 1, 3) := by decide +kernel
theorem dX11_ways_28 : decode cX11_ways 28 = .ok (.goto (-23), 3) := by decide +kernel
theorem dX11_ways_31 : decode cX11_ways 31 = .ok (.lload_n 2, 1) := by decide +kernel
theorem dX11_ways_32 : decode cX11_ways 32 = .ok (.lreturn, 1) := by decide +kernel
theorem dX11_wrongly_0 : decode cX11_wrongly 0 = .ok (.iload_n 1, 1) := by decide +kernel
theorem dX11_wrongly_1 : decode cX11_wrongly 1 = .ok (.iconst 1, 1) := by decide +kernel
theorem dX11_wrongly_2 : decode cX11_wrongly 2 = .ok (.bipush 9, 2) := by decide +kernel
theorem dX11_wrongly_4 : decode cX11_wrongly 4 = .ok (.invokestatic 62, 3) := by decide +kernel
theorem dX11_wrongly_7 : decode cX11_wrongly 7 = .ok (.ifCond .eq 34, 3) := by decide +kernel
theorem dX11_wrongly_10 : decode cX11_wrongly 10 = .ok (.iload_n 2, 1) := by decide +kernel
theorem dX11_wrongly_11 : decode cX11_wrongly 11 = .ok (.iconst 0, 1) := by decide +kernel
theorem dX11_wrongly_12 : decode cX11_wrongly 12 = .ok (.bipush 9, 2) := by decide +kernel
theorem dX11_wrongly_14 : decode cX11_wrongly 14 = .ok (.invokestatic 62, 3) := by decide +kernel
theorem dX11_wrongly_17 : decode cX11_wrongly 17 = .ok (.ifCond .eq 24, 3) := by decide +kernel
theorem dX11_wrongly_20 : decode cX11_wrongly 20 = .ok (.iload_n 3, 1) := by decide +kernel
theorem dX11_wrongly_21 : decode cX11_wrongly 21 = .ok (.iconst 0, 1) := by decide +kernel
theorem dX11_wrongly_22 : decode cX11_wrongly 22 = .ok (.bipush 10, 2) := by decide +kernel
theorem dX11_wrongly_24 : decode cX11_wrongly 24 = .ok (.invokestatic 62, 3) := by decide +kernel
theorem dX11_wrongly_27 : decode cX11_wrongly 27 = .ok (.ifCond .eq 14, 3) := by decide +kernel
theorem dX11_wrongly_30 : decode cX11_wrongly 30 = .ok (.iload 4, 2) := by decide +kernel
theorem dX11_wrongly_32 : decode cX11_wrongly 32 = .ok (.iconst 0, 1) := by decide +kernel
theorem dX11_wrongly_33 : decode cX11_wrongly 33 = .ok (.bipush 10, 2) := by decide +kernel
theorem dX11_wrongly_35 : decode cX11_wrongly 35 = .ok (.invokestatic 62, 3) := by decide +kernel
theorem dX11_wrongly_38 : decode cX11_wrongly 38 = .ok (.ifCond .ne 7, 3) := by decide +kernel
theorem dX11_wrongly_41 : decode cX11_wrongly 41 = .ok (.ldc2_w 430, 3) := by decide +kernel
theorem dX11_wrongly_44 : decode cX11_wrongly 44 = .ok (.lreturn, 1) := by decide +kernel
theorem dX11_wrongly_45 : decode cX11_wrongly 45 = .ok (.iload_n 3, 1) := by decide +kernel
theorem dX11_wrongly_46 : decode cX11_wrongly 46 = .ok (.bipush 10, 2) := by decide +kernel
theorem dX11_wrongly_48 : decode cX11_wrongly 48 = .ok (.iload 4, 2) := by decide +kernel
theorem dX11_wrongly_50 : decode cX11_wrongly 50 = .ok (.isub, 1) := by decide +kernel
theorem dX11_wrongly_51 : decode cX11_wrongly 51 = .ok (.imul, 1) := by decide +kernel
theorem dX11_wrongly_52 : decode cX11_wrongly 52 = .ok (.istore 6, 2) := by decide +kernel
theorem dX11_wrongly_54 : decode cX11_wrongly 54 = .ok (.lconst 0, 1) := by decide +kernel
theorem dX11_wrongly_55 : decode cX11_wrongly 55 = .ok (.lstore 7, 2) := by decide +kernel
theorem dX11_wrongly_57 : decode cX11_wrongly 57 = .ok (.iload_n 2, 1) := by decide +kernel
theorem dX11_wrongly_58 : decode cX11_wrongly 58 = .ok (.istore 9, 2) := by decide +kernel
theorem dX11_wrongly_60 : decode cX11_wrongly 60 = .ok (.iload 9, 2) := by decide +kernel
theorem dX11_wrongly_62 : decode cX11_wrongly 62 = .ok (.iload_n 1, 1) := by decide +kernel
theorem dX11_wrongly_63 : decode cX11_wrongly 63 = .ok (.if_icmp .gt 41, 3) := by decide +kernel
theorem dX11_wrongly_66 : decode cX11_wrongly 66 = .ok (.lload 7, 2) := by decide +kernel
theorem dX11_wrongly_68 : decode cX11_wrongly 68 = .ok (.iload_n 1, 1) := by decide +kernel
theorem dX11_wrongly_69 : decode cX11_wrongly 69 = .ok (.iload 9, 2) := by decide +kernel
theorem dX11_wrongly_71 : decode cX11_wrongly 71 = .ok (.invokestatic 432, 3) := by decide +kernel
theorem dX11_wrongly_74 : decode cX11_wrongly 74 = .ok (.iload 6, 2) := by decide +kernel
theorem dX11_wrongly_76 : decode cX11_wrongly 76 = .ok (.iload 9, 2) := by decide +kernel
theorem dX11_wrongly_78 : decode cX11_wrongly 78 = .ok (.invokestatic 435, 3) := by decide +kernel
theorem dX11_wrongly_81 : decode cX11_wrongly 81 = .ok (.lmul, 1) := by decide +kernel
theorem dX11_wrongly_82 : decode cX11_wrongly 82 = .ok (.bipush 100, 2) := by decide +kernel
theorem dX11_wrongly_84 : decode cX11_wrongly 84 = .ok (.iload 6, 2) := by decide +kernel
theorem dX11_wrongly_86 : decode cX11_wrongly 86 = .ok (.isub, 1) := by decide +kernel
theorem dX11_wrongly_87 : decode cX11_wrongly 87 = .ok (.iload_n 1, 1) := by decide +kernel
theorem dX11_wrongly_88 : decode cX11_wrongly 88 = .ok (.iload 9, 2) := by decide +kernel
theorem dX11_wrongly_90 : decode cX11_wrongly 90 = .ok (.isub, 1) := by decide +kernel
theorem dX11_wrongly_91 : decode cX11_wrongly 91 = .ok (.invokestatic 435, 3) := by decide +kernel
theorem dX11_wrongly_94 : decode cX11_wrongly 94 = .ok (.lmul, 1) := by decide +kernel
theorem dX11_wrongly_95 : decode cX11_wrongly 95 = .ok (.ladd, 1) := by decide +kernel
theorem dX11_wrongly_96 : decode cX11_wrongly 96 = .ok (.lstore 7, 2) := by decide +kernel
theorem dX11_wrongly_98 : decode cX11_wrongly 98 = .ok (.iinc 9 1, 3) := by decide +kernel
theorem dX11_wrongly_101 : decode cX11_wrongly 101 = .ok (.goto (-41), 3) := by decide +kernel
theorem dX11_wrongly_104 : decode cX11_wrongly 104 = .ok (.bipush 100, 2) := by decide +kernel
theorem dX11_wrongly_106 : decode cX11_wrongly 106 = .ok (.iload_n 1, 1) := by decide +kernel
theorem dX11_wrongly_107 : decode cX11_wrongly 107 = .ok (.invokestatic 435, 3) := by decide +kernel
theorem dX11_wrongly_110 : decode cX11_wrongly 110 = .ok (.lstore 9, 2) := by decide +kernel
theorem dX11_wrongly_112 : decode cX11_wrongly 112 = .ok (.iload 5, 2) := by decide +kernel
theorem dX11_wrongly_114 : decode cX11_wrongly 114 = .ok (.ifCond .eq 8, 3) := by decide +kernel
theorem dX11_wrongly_117 : decode cX11_wrongly 117 = .ok (.lload 9, 2) := by decide +kernel
theorem dX11_wrongly_119 : decode cX11_wrongly 119 = .ok (.goto 5, 3) := by decide +kernel
theorem dX11_wrongly_122 : decode cX11_wrongly 122 = .ok (.lload 7, 2) := by decide +kernel
theorem dX11_wrongly_124 : decode cX11_wrongly 124 = .ok (.lload 7, 2) := by decide +kernel
theorem dX11_wrongly_126 : decode cX11_wrongly 126 = .ok (.lload 9, 2) := by decide +kernel
theorem dX11_wrongly_128 : decode cX11_wrongly 128 = .ok (.invokestatic 438, 3) := by decide +kernel
theorem dX11_wrongly_131 : decode cX11_wrongly 131 = .ok (.ldiv, 1) := by decide +kernel
theorem dX11_wrongly_132 : decode cX11_wrongly 132 = .ok (.lreturn, 1) := by decide +kernel
theorem dX11_priced_0 : decode cX11_priced 0 = .ok (.iload_n 1, 1) := by decide +kernel
theorem dX11_priced_1 : decode cX11_priced 1 = .ok (.iconst (-1), 1) := by decide +kernel
theorem dX11_priced_2 : decode cX11_priced 2 = .ok (.if_icmp .ne 13, 3) := by decide +kernel
theorem dX11_priced_5 : decode cX11_priced 5 = .ok (.aload_n 0, 1) := by decide +kernel
theorem dX11_priced_6 : decode cX11_priced 6 = .ok (.getfield 7, 3) := by decide +kernel
theorem dX11_priced_9 : decode cX11_priced 9 = .ok (.bipush 9, 2) := by decide +kernel
theorem dX11_priced_11 : decode cX11_priced 11 = .ok (.iconst 0, 1) := by decide +kernel
theorem dX11_priced_12 : decode cX11_priced 12 = .ok (.iastore, 1) := by decide +kernel
theorem dX11_priced_13 : decode cX11_priced 13 = .ok (.iconst 0, 1) := by decide +kernel
theorem dX11_priced_14 : decode cX11_priced 14 = .ok (.ireturn, 1) := by decide +kernel
theorem dX11_priced_15 : decode cX11_priced 15 = .ok (.aload_n 0, 1) := by decide +kernel
theorem dX11_priced_16 : decode cX11_priced 16 = .ok (.iload_n 1, 1) := by decide +kernel
theorem dX11_priced_17 : decode cX11_priced 17 = .ok (.invokevirtual 81, 3) := by decide +kernel
theorem dX11_priced_20 : decode cX11_priced 20 = .ok (.ifCond .eq 26, 3) := by decide +kernel
theorem dX11_priced_23 : decode cX11_priced 23 = .ok (.iload_n 2, 1) := by decide +kernel
theorem dX11_priced_24 : decode cX11_priced 24 = .ok (.iconst 0, 1) := by decide +kernel
theorem dX11_priced_25 : decode cX11_priced 25 = .ok (.sipush 9999, 3) := by decide +kernel
theorem dX11_priced_28 : decode cX11_priced 28 = .ok (.invokestatic 62, 3) := by decide +kernel
theorem dX11_priced_31 : decode cX11_priced 31 = .ok (.ifCond .eq 15, 3) := by decide +kernel
theorem dX11_priced_34 : decode cX11_priced 34 = .ok (.aload_n 0, 1) := by decide +kernel
theorem dX11_priced_35 : decode cX11_priced 35 = .ok (.getfield 7, 3) := by decide +kernel
theorem dX11_priced_38 : decode cX11_priced 38 = .ok (.bipush 9, 2) := by decide +kernel
theorem dX11_priced_40 : decode cX11_priced 40 = .ok (.iaload, 1) := by decide +kernel
theorem dX11_priced_41 : decode cX11_priced 41 = .ok (.bipush 8, 2) := by decide +kernel
theorem dX11_priced_43 : decode cX11_priced 43 = .ok (.if_icmp .ne 6, 3) := by decide +kernel
theorem dX11_priced_46 : decode cX11_priced 46 = .ok (.bipush (-2), 2) := by decide +kernel
theorem dX11_priced_48 : decode cX11_priced 48 = .ok (.ireturn, 1) := by decide +kernel
theorem dX11_priced_49 : decode cX11_priced 49 = .ok (.aload_n 0, 1) := by decide +kernel
theorem dX11_priced_50 : decode cX11_priced 50 = .ok (.getfield 7, 3) := by decide +kernel
theorem dX11_priced_53 : decode cX11_priced 53 = .ok (.sipush 176, 3) := by decide +kernel
theorem dX11_priced_56 : decode cX11_priced 56 = .ok (.iconst 2, 1) := by decide +kernel
theorem dX11_priced_57 : decode cX11_priced 57 = .ok (.aload_n 0, 1) := by decide +kernel
theorem dX11_priced_58 : decode cX11_priced 58 = .ok (.getfield 7, 3) := by decide +kernel
theorem dX11_priced_61 : decode cX11_priced 61 = .ok (.bipush 9, 2) := by decide +kernel
theorem dX11_priced_63 : decode cX11_priced 63 = .ok (.iaload, 1) := by decide +kernel
theorem dX11_priced_64 : decode cX11_priced 64 = .ok (.imul, 1) := by decide +kernel
theorem dX11_priced_65 : decode cX11_priced 65 = .ok (.iadd, 1) := by decide +kernel
theorem dX11_priced_66 : decode cX11_priced 66 = .ok (.iload_n 1, 1) := by decide +kernel
theorem dX11_priced_67 : decode cX11_priced 67 = .ok (.iastore, 1) := by decide +kernel
theorem dX11_priced_68 : decode cX11_priced 68 = .ok (.aload_n 0, 1) := by decide +kernel
theorem dX11_priced_69 : decode cX11_priced 69 = .ok (.getfield 7, 3) := by decide +kernel
theorem dX11_priced_72 : decode cX11_priced 72 = .ok (.sipush 176, 3) := by decide +kernel
theorem dX11_priced_75 : decode cX11_priced 75 = .ok (.iconst 2, 1) := by decide +kernel
theorem dX11_priced_76 : decode cX11_priced 76 = .ok (.aload_n 0, 1) := by decide +kernel
theorem dX11_priced_77 : decode cX11_priced 77 = .ok (.getfield 7, 3) := by decide +kernel
theorem dX11_priced_80 : decode cX11_priced 80 = .ok (.bipush 9, 2) := by decide +kernel
theorem dX11_priced_82 : decode cX11_priced 82 = .ok (.iaload, 1) := by decide +kernel
theorem dX11_priced_83 : decode cX11_priced 83 = .ok (.imul, 1) := by decide +kernel
theorem dX11_priced_84 : decode cX11_priced 84 = .ok (.iadd, 1) := by decide +kernel
theorem dX11_priced_85 : decode cX11_priced 85 = .ok (.iconst 1, 1) := by decide +kernel
theorem dX11_priced_86 : decode cX11_priced 86 = .ok (.iadd, 1) := by decide +kernel
theorem dX11_priced_87 : decode cX11_priced 87 = .ok (.iload_n 2, 1) := by decide +kernel
theorem dX11_priced_88 : decode cX11_priced 88 = .ok (.iastore, 1) := by decide +kernel
theorem dX11_priced_89 : decode cX11_priced 89 = .ok (.aload_n 0, 1) := by decide +kernel
theorem dX11_priced_90 : decode cX11_priced 90 = .ok (.getfield 7, 3) := by decide +kernel
theorem dX11_priced_93 : decode cX11_priced 93 = .ok (.bipush 9, 2) := by decide +kernel
theorem dX11_priced_95 : decode cX11_priced 95 = .ok (.dup2, 1) := by decide +kernel
theorem dX11_priced_96 : decode cX11_priced 96 = .ok (.iaload, 1) := by decide +kernel
theorem dX11_priced_97 : decode cX11_priced 97 = .ok (.iconst 1, 1) := by decide +kernel
theorem dX11_priced_98 : decode cX11_priced 98 = .ok (.iadd, 1) := by decide +kernel
theorem dX11_priced_99 : decode cX11_priced 99 = .ok (.iastore, 1) := by decide +kernel
theorem dX11_priced_100 : decode cX11_priced 100 = .ok (.aload_n 0, 1) := by decide +kernel
theorem dX11_priced_101 : decode cX11_priced 101 = .ok (.getfield 7, 3) := by decide +kernel
theorem dX11_priced_104 : decode cX11_priced 104 = .ok (.bipush 9, 2) := by decide +kernel
theorem dX11_priced_106 : decode cX11_priced 106 = .ok (.iaload, 1) := by decide +kernel
theorem dX11_priced_107 : decode cX11_priced 107 = .ok (.ireturn, 1) := by decide +kernel
theorem dX11_whose_0 : decode cX11_whose 0 = .ok (.iconst 0, 1) := by decide +kernel
theorem dX11_whose_1 : decode cX11_whose 1 = .ok (.istore_n 1, 1) := by decide +kernel
theorem dX11_whose_2 : decode cX11_whose 2 = .ok (.iconst 0, 1) := by decide +kernel
theorem dX11_whose_3 : decode cX11_whose 3 = .ok (.istore_n 2, 1) := by decide +kernel
theorem dX11_whose_4 : decode cX11_whose 4 = .ok (.iload_n 2, 1) := by decide +kernel
theorem dX11_whose_5 : decode cX11_whose 5 = .ok (.aload_n 0, 1) := by decide +kernel
theorem dX11_whose_6 : decode cX11_whose 6 = .ok (.getfield 7, 3) := by decide +kernel
theorem dX11_whose_9 : decode cX11_whose 9 = .ok (.iconst 1, 1) := by decide +kernel
theorem dX11_whose_10 : decode cX11_whose 10 = .ok (.iaload, 1) := by decide +kernel
theorem dX11_whose_11 : decode cX11_whose 11 = .ok (.if_icmp .ge 92, 3) := by decide +kernel
theorem dX11_whose_14 : decode cX11_whose 14 = .ok (.iconst 1, 1) := by decide +kernel
theorem dX11_whose_15 : decode cX11_whose 15 = .ok (.istore_n 3, 1) := by decide +kernel
theorem dX11_whose_16 : decode cX11_whose 16 = .ok (.iconst 0, 1) := by decide +kernel
theorem dX11_whose_17 : decode cX11_whose 17 = .ok (.istore 4, 2) := by decide +kernel
theorem dX11_whose_19 : decode cX11_whose 19 = .ok (.iload 4, 2) := by decide +kernel
theorem dX11_whose_21 : decode cX11_whose 21 = .ok (.aload_n 0, 1) := by decide +kernel
theorem dX11_whose_22 : decode cX11_whose 22 = .ok (.getfield 7, 3) := by decide +kernel
theorem dX11_whose_25 : decode cX11_whose 25 = .ok (.bipush 9, 2) := by decide +kernel
theorem dX11_whose_27 : decode cX11_whose 27 = .ok (.iaload, 1) := by decide +kernel
theorem dX11_whose_28 : decode cX11_whose 28 = .ok (.if_icmp .ge 55, 3) := by decide +kernel
theorem dX11_whose_31 : decode cX11_whose 31 = .ok (.iload_n 3, 1) := by decide +kernel
theorem dX11_whose_32 : decode cX11_whose 32 = .ok (.ifCond .eq 43, 3) := by decide +kernel
theorem dX11_whose_35 : decode cX11_whose 35 = .ok (.aload_n 0, 1) := by decide +kernel
theorem dX11_whose_36 : decode cX11_whose 36 = .ok (.iload_n 2, 1) := by decide +kernel
theorem dX11_whose_37 : decode cX11_whose 37 = .ok (.aload_n 0, 1) := by decide +kernel
theorem dX11_whose_38 : decode cX11_whose 38 = .ok (.getfield 7, 3) := by decide +kernel
theorem dX11_whose_41 : decode cX11_whose 41 = .ok (.sipush 176, 3) := by decide +kernel
theorem dX11_whose_44 : decode cX11_whose 44 = .ok (.iconst 2, 1) := by decide +kernel
theorem dX11_whose_45 : decode cX11_whose 45 = .ok (.iload 4, 2) := by decide +kernel
theorem dX11_whose_47 : decode cX11_whose 47 = .ok (.imul, 1) := by decide +kernel
theorem dX11_whose_48 : decode cX11_whose 48 = .ok (.iadd, 1) := by decide +kernel
theorem dX11_whose_49 : decode cX11_whose 49 = .ok (.iaload, 1) := by decide +kernel
theorem dX11_whose_50 : decode cX11_whose 50 = .ok (.invokevirtual 333, 3) := by decide +kernel
theorem dX11_whose_53 : decode cX11_whose 53 = .ok (.aload_n 0, 1) := by decide +kernel
theorem dX11_whose_54 : decode cX11_whose 54 = .ok (.getfield 7, 3) := by decide +kernel
theorem dX11_whose_57 : decode cX11_whose 57 = .ok (.sipush 176, 3) := by decide +kernel
theorem dX11_whose_60 : decode cX11_whose 60 = .ok (.iconst 2, 1) := by decide +kernel
theorem dX11_whose_61 : decode cX11_whose 61 = .ok (.iload 4, 2) := by decide +kernel
theorem dX11_whose_63 : decode cX11_whose 63 = .ok (.imul, 1) := by decide +kernel
theorem dX11_whose_64 : decode cX11_whose 64 = .ok (.iadd, 1) := by decide +kernel
theorem dX11_whose_65 : decode cX11_whose 65 = .ok (.iconst 1, 1) := by decide +kernel
theorem dX11_whose_66 : decode cX11_whose 66 = .ok (.iadd, 1) := by decide +kernel
theorem dX11_whose_67 : decode cX11_whose 67 = .ok (.iaload, 1) := by decide +kernel
theorem dX11_whose_68 : decode cX11_whose 68 = .ok (.if_icmp .ne 7, 3) := by decide +kernel
theorem dX11_whose_71 : decode cX11_whose 71 = .ok (.iconst 1, 1) := by decide +kernel
theorem dX11_whose_72 : decode cX11_whose 72 = .ok (.goto 4, 3) := by decide +kernel
theorem dX11_whose_75 : decode cX11_whose 75 = .ok (.iconst 0, 1) := by decide +kernel
theorem dX11_whose_76 : decode cX11_whose 76 = .ok (.istore_n 3, 1) := by decide +kernel
theorem dX11_whose_77 : decode cX11_whose 77 = .ok (.iinc 4 1, 3) := by decide +kernel
theorem dX11_whose_80 : decode cX11_whose 80 = .ok (.goto (-61), 3) := by decide +kernel
theorem dX11_whose_83 : decode cX11_whose 83 = .ok (.iload_n 1, 1) := by decide +kernel
theorem dX11_whose_84 : decode cX11_whose 84 = .ok (.iload_n 3, 1) := by decide +kernel
theorem dX11_whose_85 : decode cX11_whose 85 = .ok (.ifCond .eq 9, 3) := by decide +kernel
theorem dX11_whose_88 : decode cX11_whose 88 = .ok (.iconst 1, 1) := by decide +kernel
theorem dX11_whose_89 : decode cX11_whose 89 = .ok (.iload_n 2, 1) := by decide +kernel
theorem dX11_whose_90 : decode cX11_whose 90 = .ok (.ishl, 1) := by decide +kernel
theorem dX11_whose_91 : decode cX11_whose 91 = .ok (.goto 4, 3) := by decide +kernel
theorem dX11_whose_94 : decode cX11_whose 94 = .ok (.iconst 0, 1) := by decide +kernel
theorem dX11_whose_95 : decode cX11_whose 95 = .ok (.ior, 1) := by decide +kernel
theorem dX11_whose_96 : decode cX11_whose 96 = .ok (.istore_n 1, 1) := by decide +kernel
theorem dX11_whose_97 : decode cX11_whose 97 = .ok (.iinc 2 1, 3) := by decide +kernel
theorem dX11_whose_100 : decode cX11_whose 100 = .ok (.goto (-96), 3) := by decide +kernel
theorem dX11_whose_103 : decode cX11_whose 103 = .ok (.iload_n 1, 1) := by decide +kernel
theorem dX11_whose_104 : decode cX11_whose 104 = .ok (.ireturn, 1) := by decide +kernel
theorem dX11_image_0 : decode cX11_image 0 = .ok (.aload_n 0, 1) := by decide +kernel
theorem dX11_image_1 : decode cX11_image 1 = .ok (.getfield 7, 3) := by decide +kernel
theorem dX11_image_4 : decode cX11_image 4 = .ok (.aload_n 0, 1) := by decide +kernel
theorem dX11_image_5 : decode cX11_image 5 = .ok (.getfield 13, 3) := by decide +kernel
theorem dX11_image_8 : decode cX11_image 8 = .ok (.invokestatic 58, 3) := by decide +kernel
theorem dX11_image_11 : decode cX11_image 11 = .ok (.aload_n 0, 1) := by decide +kernel
theorem dX11_image_12 : decode cX11_image 12 = .ok (.getfield 7, 3) := by decide +kernel
theorem dX11_image_15 : decode cX11_image 15 = .ok (.bipush 10, 2) := by decide +kernel
theorem dX11_image_17 : decode cX11_image 17 = .ok (.iaload, 1) := by decide +kernel
theorem dX11_image_18 : decode cX11_image 18 = .ok (.ireturn, 1) := by decide +kernel
theorem dX11_back_0 : decode cX11_back 0 = .ok (.aload_n 0, 1) := by decide +kernel
theorem dX11_back_1 : decode cX11_back 1 = .ok (.getfield 13, 3) := by decide +kernel
theorem dX11_back_4 : decode cX11_back 4 = .ok (.aload_n 0, 1) := by decide +kernel
theorem dX11_back_5 : decode cX11_back 5 = .ok (.getfield 7, 3) := by decide +kernel
theorem dX11_back_8 : decode cX11_back 8 = .ok (.invokestatic 58, 3) := by decide +kernel
theorem dX11_back_11 : decode cX11_back 11 = .ok (.aload_n 0, 1) := by decide +kernel
theorem dX11_back_12 : decode cX11_back 12 = .ok (.getfield 7, 3) := by decide +kernel
theorem dX11_back_15 : decode cX11_back 15 = .ok (.bipush 10, 2) := by decide +kernel
theorem dX11_back_17 : decode cX11_back 17 = .ok (.iaload, 1) := by decide +kernel
theorem dX11_back_18 : decode cX11_back 18 = .ok (.ireturn, 1) := by decide +kernel
theorem dX11_about_0 : decode cX11_about 0 = .ok (.iload_n 1, 1) := by decide +kernel
theorem dX11_about_1 : decode cX11_about 1 = .ok (.iconst 0, 1) := by decide +kernel
theorem dX11_about_2 : decode cX11_about 2 = .ok (.bipush 8, 2) := by decide +kernel
theorem dX11_about_4 : decode cX11_about 4 = .ok (.invokestatic 62, 3) := by decide +kernel
theorem dX11_about_7 : decode cX11_about 7 = .ok (.ifCond .eq 12, 3) := by decide +kernel
theorem dX11_about_10 : decode cX11_about 10 = .ok (.aload_n 0, 1) := by decide +kernel
theorem dX11_about_11 : decode cX11_about 11 = .ok (.getfield 7, 3) := by decide +kernel
theorem dX11_about_14 : decode cX11_about 14 = .ok (.iload_n 1, 1) := by decide +kernel
theorem dX11_about_15 : decode cX11_about 15 = .ok (.iaload, 1) := by decide +kernel
theorem dX11_about_16 : decode cX11_about 16 = .ok (.goto 18, 3) := by decide +kernel
theorem dX11_about_19 : decode cX11_about 19 = .ok (.iload_n 1, 1) := by decide +kernel
theorem dX11_about_20 : decode cX11_about 20 = .ok (.bipush 9, 2) := by decide +kernel
theorem dX11_about_22 : decode cX11_about 22 = .ok (.if_icmp .ne 10, 3) := by decide +kernel
theorem dX11_about_25 : decode cX11_about 25 = .ok (.aload_n 0, 1) := by decide +kernel
theorem dX11_about_26 : decode cX11_about 26 = .ok (.getfield 88, 3) := by decide +kernel
theorem dX11_about_29 : decode cX11_about 29 = .ok (.goto 5, 3) := by decide +kernel
theorem dX11_about_32 : decode cX11_about 32 = .ok (.bipush (-2), 2) := by decide +kernel
theorem dX11_about_34 : decode cX11_about 34 = .ok (.ireturn, 1) := by decide +kernel
theorem dJ6_bitCount_0f7a4_0 : decode cJ6_bitCount_0f7a4 0 = .ok (.iload_n 0, 1) := by decide +kernel
theorem dJ6_bitCount_0f7a4_1 : decode cJ6_bitCount_0f7a4 1 = .ok (.iload_n 0, 1) := by decide +kernel
theorem dJ6_bitCount_0f7a4_2 : decode cJ6_bitCount_0f7a4 2 = .ok (.iconst 1, 1) := by decide +kernel
theorem dJ6_bitCount_0f7a4_3 : decode cJ6_bitCount_0f7a4 3 = .ok (.iushr, 1) := by decide +kernel
theorem dJ6_bitCount_0f7a4_4 : decode cJ6_bitCount_0f7a4 4 = .ok (.ldc_w 265, 3) := by decide +kernel
theorem dJ6_bitCount_0f7a4_7 : decode cJ6_bitCount_0f7a4 7 = .ok (.iand, 1) := by decide +kernel
theorem dJ6_bitCount_0f7a4_8 : decode cJ6_bitCount_0f7a4 8 = .ok (.isub, 1) := by decide +kernel
theorem dJ6_bitCount_0f7a4_9 : decode cJ6_bitCount_0f7a4 9 = .ok (.istore_n 0, 1) := by decide +kernel
theorem dJ6_bitCount_0f7a4_10 : decode cJ6_bitCount_0f7a4 10 = .ok (.iload_n 0, 1) := by decide +kernel
theorem dJ6_bitCount_0f7a4_11 : decode cJ6_bitCount_0f7a4 11 = .ok (.ldc_w 266, 3) := by decide +kernel
theorem dJ6_bitCount_0f7a4_14 : decode cJ6_bitCount_0f7a4 14 = .ok (.iand, 1) := by decide +kernel
theorem dJ6_bitCount_0f7a4_15 : decode cJ6_bitCount_0f7a4 15 = .ok (.iload_n 0, 1) := by decide +kernel
theorem dJ6_bitCount_0f7a4_16 : decode cJ6_bitCount_0f7a4 16 = .ok (.iconst 2, 1) := by decide +kernel
theorem dJ6_bitCount_0f7a4_17 : decode cJ6_bitCount_0f7a4 17 = .ok (.iushr, 1) := by decide +kernel
theorem dJ6_bitCount_0f7a4_18 : decode cJ6_bitCount_0f7a4 18 = .ok (.ldc_w 266, 3) := by decide +kernel
theorem dJ6_bitCount_0f7a4_21 : decode cJ6_bitCount_0f7a4 21 = .ok (.iand, 1) := by decide +kernel
theorem dJ6_bitCount_0f7a4_22 : decode cJ6_bitCount_0f7a4 22 = .ok (.iadd, 1) := by decide +kernel
theorem dJ6_bitCount_0f7a4_23 : decode cJ6_bitCount_0f7a4 23 = .ok (.istore_n 0, 1) := by decide +kernel
theorem dJ6_bitCount_0f7a4_24 : decode cJ6_bitCount_0f7a4 24 = .ok (.iload_n 0, 1) := by decide +kernel
theorem dJ6_bitCount_0f7a4_25 : decode cJ6_bitCount_0f7a4 25 = .ok (.iload_n 0, 1) := by decide +kernel
theorem dJ6_bitCount_0f7a4_26 : decode cJ6_bitCount_0f7a4 26 = .ok (.iconst 4, 1) := by decide +kernel
theorem dJ6_bitCount_0f7a4_27 : decode cJ6_bitCount_0f7a4 27 = .ok (.iushr, 1) := by decide +kernel
theorem dJ6_bitCount_0f7a4_28 : decode cJ6_bitCount_0f7a4 28 = .ok (.iadd, 1) := by decide +kernel
theorem dJ6_bitCount_0f7a4_29 : decode cJ6_bitCount_0f7a4 29 = .ok (.ldc_w 267, 3) := by decide +kernel
theorem dJ6_bitCount_0f7a4_32 : decode cJ6_bitCount_0f7a4 32 = .ok (.iand, 1) := by decide +kernel
theorem dJ6_bitCount_0f7a4_33 : decode cJ6_bitCount_0f7a4 33 = .ok (.istore_n 0, 1) := by decide +kernel
theorem dJ6_bitCount_0f7a4_34 : decode cJ6_bitCount_0f7a4 34 = .ok (.iload_n 0, 1) := by decide +kernel
theorem dJ6_bitCount_0f7a4_35 : decode cJ6_bitCount_0f7a4 35 = .ok (.iload_n 0, 1) := by decide +kernel
theorem dJ6_bitCount_0f7a4_36 : decode cJ6_bitCount_0f7a4 36 = .ok (.bipush 8, 2) := by decide +kernel
theorem dJ6_bitCount_0f7a4_38 : decode cJ6_bitCount_0f7a4 38 = .ok (.iushr, 1) := by decide +kernel
theorem dJ6_bitCount_0f7a4_39 : decode cJ6_bitCount_0f7a4 39 = .ok (.iadd, 1) := by decide +kernel
theorem dJ6_bitCount_0f7a4_40 : decode cJ6_bitCount_0f7a4 40 = .ok (.istore_n 0, 1) := by decide +kernel
theorem dJ6_bitCount_0f7a4_41 : decode cJ6_bitCount_0f7a4 41 = .ok (.iload_n 0, 1) := by decide +kernel
theorem dJ6_bitCount_0f7a4_42 : decode cJ6_bitCount_0f7a4 42 = .ok (.iload_n 0, 1) := by decide +kernel
theorem dJ6_bitCount_0f7a4_43 : decode cJ6_bitCount_0f7a4 43 = .ok (.bipush 16, 2) := by decide +kernel
theorem dJ6_bitCount_0f7a4_45 : decode cJ6_bitCount_0f7a4 45 = .ok (.iushr, 1) := by decide +kernel
theorem dJ6_bitCount_0f7a4_46 : decode cJ6_bitCount_0f7a4 46 = .ok (.iadd, 1) := by decide +kernel
theorem dJ6_bitCount_0f7a4_47 : decode cJ6_bitCount_0f7a4 47 = .ok (.istore_n 0, 1) := by decide +kernel
theorem dJ6_bitCount_0f7a4_48 : decode cJ6_bitCount_0f7a4 48 = .ok (.iload_n 0, 1) := by decide +kernel
theorem dJ6_bitCount_0f7a4_49 : decode cJ6_bitCount_0f7a4 49 = .ok (.bipush 63, 2) := by decide +kernel
theorem dJ6_bitCount_0f7a4_51 : decode cJ6_bitCount_0f7a4 51 = .ok (.iand, 1) := by decide +kernel
theorem dJ6_bitCount_0f7a4_52 : decode cJ6_bitCount_0f7a4 52 = .ok (.ireturn, 1) := by decide +kernel
theorem dJ9_abs_0f7a4_0 : decode cJ9_abs_0f7a4 0 = .ok (.iload_n 0, 1) := by decide +kernel
theorem dJ9_abs_0f7a4_1 : decode cJ9_abs_0f7a4 1 = .ok (.ifCond .ge 8, 3) := by decide +kernel
theorem dJ9_abs_0f7a4_4 : decode cJ9_abs_0f7a4 4 = .ok (.iload_n 0, 1) := by decide +kernel
theorem dJ9_abs_0f7a4_5 : decode cJ9_abs_0f7a4 5 = .ok (.ineg, 1) := by decide +kernel
theorem dJ9_abs_0f7a4_6 : decode cJ9_abs_0f7a4 6 = .ok (.goto 4, 3) := by decide +kernel
theorem dJ9_abs_0f7a4_9 : decode cJ9_abs_0f7a4 9 = .ok (.iload_n 0, 1) := by decide +kernel
theorem dJ9_abs_0f7a4_10 : decode cJ9_abs_0f7a4 10 = .ok (.ireturn, 1) := by decide +kernel
theorem dJ9_max_7cf53_0 : decode cJ9_max_7cf53 0 = .ok (.iload_n 0, 1) := by decide +kernel
theorem dJ9_max_7cf53_1 : decode cJ9_max_7cf53 1 = .ok (.iload_n 1, 1) := by decide +kernel
theorem dJ9_max_7cf53_2 : decode cJ9_max_7cf53 2 = .ok (.if_icmp .lt 7, 3) := by decide +kernel
theorem dJ9_max_7cf53_5 : decode cJ9_max_7cf53 5 = .ok (.iload_n 0, 1) := by decide +kernel
theorem dJ9_max_7cf53_6 : decode cJ9_max_7cf53 6 = .ok (.goto 4, 3) := by decide +kernel
theorem dJ9_max_7cf53_9 : decode cJ9_max_7cf53 9 = .ok (.iload_n 1, 1) := by decide +kernel
theorem dJ9_max_7cf53_10 : decode cJ9_max_7cf53 10 = .ok (.ireturn, 1) := by decide +kernel
theorem dJ9_max_f86c9_0 : decode cJ9_max_f86c9 0 = .ok (.lload_n 0, 1) := by decide +kernel
theorem dJ9_max_f86c9_1 : decode cJ9_max_f86c9 1 = .ok (.lload_n 2, 1) := by decide +kernel
theorem dJ9_max_f86c9_2 : decode cJ9_max_f86c9 2 = .ok (.lcmp, 1) := by decide +kernel
theorem dJ9_max_f86c9_3 : decode cJ9_max_f86c9 3 = .ok (.ifCond .lt 7, 3) := by decide +kernel
theorem dJ9_max_f86c9_6 : decode cJ9_max_f86c9 6 = .ok (.lload_n 0, 1) := by decide +kernel
theorem dJ9_max_f86c9_7 : decode cJ9_max_f86c9 7 = .ok (.goto 4, 3) := by decide +kernel
theorem dJ9_max_f86c9_10 : decode cJ9_max_f86c9 10 = .ok (.lload_n 2, 1) := by decide +kernel
theorem dJ9_max_f86c9_11 : decode cJ9_max_f86c9 11 = .ok (.lreturn, 1) := by decide +kernel
theorem dJ9_min_7cf53_0 : decode cJ9_min_7cf53 0 = .ok (.iload_n 0, 1) := by decide +kernel
theorem dJ9_min_7cf53_1 : decode cJ9_min_7cf53 1 = .ok (.iload_n 1, 1) := by decide +kernel
theorem dJ9_min_7cf53_2 : decode cJ9_min_7cf53 2 = .ok (.if_icmp .gt 7, 3) := by decide +kernel
theorem dJ9_min_7cf53_5 : decode cJ9_min_7cf53 5 = .ok (.iload_n 0, 1) := by decide +kernel
theorem dJ9_min_7cf53_6 : decode cJ9_min_7cf53 6 = .ok (.goto 4, 3) := by decide +kernel
theorem dJ9_min_7cf53_9 : decode cJ9_min_7cf53 9 = .ok (.iload_n 1, 1) := by decide +kernel
theorem dJ9_min_7cf53_10 : decode cJ9_min_7cf53 10 = .ok (.ireturn, 1) := by decide +kernel
theorem dJ9_min_f86c9_0 : decode cJ9_min_f86c9 0 = .ok (.lload_n 0, 1) := by decide +kernel
theorem dJ9_min_f86c9_1 : decode cJ9_min_f86c9 1 = .ok (.lload_n 2, 1) := by decide +kernel
theorem dJ9_min_f86c9_2 : decode cJ9_min_f86c9 2 = .ok (.lcmp, 1) := by decide +kernel
theorem dJ9_min_f86c9_3 : decode cJ9_min_f86c9 3 = .ok (.ifCond .gt 7, 3) := by decide +kernel
theorem dJ9_min_f86c9_6 : decode cJ9_min_f86c9 6 = .ok (.lload_n 0, 1) := by decide +kernel
theorem dJ9_min_f86c9_7 : decode cJ9_min_f86c9 7 = .ok (.goto 4, 3) := by decide +kernel
theorem dJ9_min_f86c9_10 : decode cJ9_min_f86c9 10 = .ok (.lload_n 2, 1) := by decide +kernel
theorem dJ9_min_f86c9_11 : decode cJ9_min_f86c9 11 = .ok (.lreturn, 1) := by decide +kernel
theorem dJ0_length_8abf5_0 : decode cJ0_length_8abf5 0 = .ok (.aload_n 0, 1) := by decide +kernel
theorem dJ0_length_8abf5_1 : decode cJ0_length_8abf5 1 = .ok (.getfield 9, 3) := by decide +kernel
theorem dJ0_length_8abf5_4 : decode cJ0_length_8abf5 4 = .ok (.arraylength, 1) := by decide +kernel
theorem dJ0_length_8abf5_5 : decode cJ0_length_8abf5 5 = .ok (.aload_n 0, 1) := by decide +kernel
theorem dJ0_length_8abf5_6 : decode cJ0_length_8abf5 6 = .ok (.invokevirtual 335, 3) := by decide +kernel
theorem dJ0_length_8abf5_9 : decode cJ0_length_8abf5 9 = .ok (.ishr, 1) := by decide +kernel
theorem dJ0_length_8abf5_10 : decode cJ0_length_8abf5 10 = .ok (.ireturn, 1) := by decide +kernel
theorem dJ0_charAt_5068e_0 : decode cJ0_charAt_5068e 0 = .ok (.aload_n 0, 1) := by decide +kernel
theorem dJ0_charAt_5068e_1 : decode cJ0_charAt_5068e 1 = .ok (.invokevirtual 492, 3) := by decide +kernel
theorem dJ0_charAt_5068e_4 : decode cJ0_charAt_5068e 4 = .ok (.ifCond .eq 12, 3) := by decide +kernel
theorem dJ0_charAt_5068e_7 : decode cJ0_charAt_5068e 7 = .ok (.aload_n 0, 1) := by decide +kernel
theorem dJ0_charAt_5068e_8 : decode cJ0_charAt_5068e 8 = .ok (.getfield 9, 3) := by decide +kernel
theorem dJ0_charAt_5068e_11 : decode cJ0_charAt_5068e 11 = .ok (.iload_n 1, 1) := by decide +kernel
theorem dJ0_charAt_5068e_12 : decode cJ0_charAt_5068e 12 = .ok (.invokestatic 495, 3) := by decide +kernel
theorem dJ0_charAt_5068e_15 : decode cJ0_charAt_5068e 15 = .ok (.ireturn, 1) := by decide +kernel
theorem dJ0_charAt_5068e_16 : decode cJ0_charAt_5068e 16 = .ok (.aload_n 0, 1) := by decide +kernel
theorem dJ0_charAt_5068e_17 : decode cJ0_charAt_5068e 17 = .ok (.getfield 9, 3) := by decide +kernel
theorem dJ0_charAt_5068e_20 : decode cJ0_charAt_5068e 20 = .ok (.iload_n 1, 1) := by decide +kernel
theorem dJ0_charAt_5068e_21 : decode cJ0_charAt_5068e 21 = .ok (.invokestatic 498, 3) := by decide +kernel
theorem dJ0_charAt_5068e_24 : decode cJ0_charAt_5068e 24 = .ok (.ireturn, 1) := by decide +kernel
theorem dJ0_coder_7d493_0 : decode cJ0_coder_7d493 0 = .ok (.getstatic 38, 3) := by decide +kernel
theorem dJ0_coder_7d493_3 : decode cJ0_coder_7d493 3 = .ok (.ifCond .eq 10, 3) := by decide +kernel
theorem dJ0_coder_7d493_6 : decode cJ0_coder_7d493 6 = .ok (.aload_n 0, 1) := by decide +kernel
theorem dJ0_coder_7d493_7 : decode cJ0_coder_7d493 7 = .ok (.getfield 15, 3) := by decide +kernel
theorem dJ0_coder_7d493_10 : decode cJ0_coder_7d493 10 = .ok (.goto 4, 3) := by decide +kernel
theorem dJ0_coder_7d493_13 : decode cJ0_coder_7d493 13 = .ok (.iconst 1, 1) := by decide +kernel
theorem dJ0_coder_7d493_14 : decode cJ0_coder_7d493 14 = .ok (.ireturn, 1) := by decide +kernel
theorem dJ0_isLatin1_aae02_0 : decode cJ0_isLatin1_aae02 0 = .ok (.getstatic 38, 3) := by decide +kernel
theorem dJ0_isLatin1_aae02_3 : decode cJ0_isLatin1_aae02 3 = .ok (.ifCond .eq 14, 3) := by decide +kernel
theorem dJ0_isLatin1_aae02_6 : decode cJ0_isLatin1_aae02 6 = .ok (.aload_n 0, 1) := by decide +kernel
theorem dJ0_isLatin1_aae02_7 : decode cJ0_isLatin1_aae02 7 = .ok (.getfield 15, 3) := by decide +kernel
theorem dJ0_isLatin1_aae02_10 : decode cJ0_isLatin1_aae02 10 = .ok (.ifCond .ne 7, 3) := by decide +kernel
theorem dJ0_isLatin1_aae02_13 : decode cJ0_isLatin1_aae02 13 = .ok (.iconst 1, 1) := by decide +kernel
theorem dJ0_isLatin1_aae02_14 : decode cJ0_isLatin1_aae02 14 = .ok (.goto 4, 3) := by decide +kernel
theorem dJ0_isLatin1_aae02_17 : decode cJ0_isLatin1_aae02 17 = .ok (.iconst 0, 1) := by decide +kernel
theorem dJ0_isLatin1_aae02_18 : decode cJ0_isLatin1_aae02 18 = .ok (.ireturn, 1) := by decide +kernel
theorem dJ0_checkIndex_df160_0 : decode cJ0_checkIndex_df160 0 = .ok (.iload_n 0, 1) := by decide +kernel
theorem dJ0_checkIndex_df160_1 : decode cJ0_checkIndex_df160 1 = .ok (.iload_n 1, 1) := by decide +kernel
theorem dJ0_checkIndex_df160_2 : decode cJ0_checkIndex_df160 2 = .ok (.getstatic 1053, 3) := by decide +kernel
theorem dJ0_checkIndex_df160_5 : decode cJ0_checkIndex_df160 5 = .ok (.invokestatic 1059, 3) := by decide +kernel
theorem dJ0_checkIndex_df160_8 : decode cJ0_checkIndex_df160 8 = .ok (.pop, 1) := by decide +kernel
theorem dJ0_checkIndex_df160_9 : decode cJ0_checkIndex_df160 9 = .ok (.return_, 1) := by decide +kernel
theorem dJ1_charAt_3b067_0 : decode cJ1_charAt_3b067 0 = .ok (.iload_n 1, 1) := by decide +kernel
theorem dJ1_charAt_3b067_1 : decode cJ1_charAt_3b067 1 = .ok (.aload_n 0, 1) := by decide +kernel
theorem dJ1_charAt_3b067_2 : decode cJ1_charAt_3b067 2 = .ok (.arraylength, 1) := by decide +kernel
theorem dJ1_charAt_3b067_3 : decode cJ1_charAt_3b067 3 = .ok (.invokestatic 9, 3) := by decide +kernel
theorem dJ1_charAt_3b067_6 : decode cJ1_charAt_3b067 6 = .ok (.aload_n 0, 1) := by decide +kernel
theorem dJ1_charAt_3b067_7 : decode cJ1_charAt_3b067 7 = .ok (.iload_n 1, 1) := by decide +kernel
theorem dJ1_charAt_3b067_8 : decode cJ1_charAt_3b067 8 = .ok (.baload, 1) := by decide +kernel
theorem dJ1_charAt_3b067_9 : decode cJ1_charAt_3b067 9 = .ok (.sipush 255, 3) := by decide +kernel
theorem dJ1_charAt_3b067_12 : decode cJ1_charAt_3b067 12 = .ok (.iand, 1) := by decide +kernel
theorem dJ1_charAt_3b067_13 : decode cJ1_charAt_3b067 13 = .ok (.i2c, 1) := by decide +kernel
theorem dJ1_charAt_3b067_14 : decode cJ1_charAt_3b067 14 = .ok (.ireturn, 1) := by decide +kernel
theorem dJ2_getChar_3b067_0 : decode cJ2_getChar_3b067 0 = .ok (.getstatic 44, 3) := by decide +kernel
theorem dJ2_getChar_3b067_3 : decode cJ2_getChar_3b067 3 = .ok (.ifCond .ne 25, 3) := by decide +kernel
theorem dJ2_getChar_3b067_6 : decode cJ2_getChar_3b067 6 = .ok (.iload_n 1, 1) := by decide +kernel
theorem dJ2_getChar_3b067_7 : decode cJ2_getChar_3b067 7 = .ok (.ifCond .lt 11, 3) := by decide +kernel
theorem dJ2_getChar_3b067_10 : decode cJ2_getChar_3b067 10 = .ok (.iload_n 1, 1) := by decide +kernel
theorem dJ2_getChar_3b067_11 : decode cJ2_getChar_3b067 11 = .ok (.aload_n 0, 1) := by decide +kernel
theorem dJ2_getChar_3b067_12 : decode cJ2_getChar_3b067 12 = .ok (.invokestatic 48, 3) := by decide +kernel
theorem dJ2_getChar_3b067_15 : decode cJ2_getChar_3b067 15 = .ok (.if_icmp .lt 13, 3) := by decide +kernel
theorem dJ2_getChar_3b067_18 : decode cJ2_getChar_3b067 18 = .ok (.new 52, 3) := by decide +kernel
theorem dJ2_getChar_3b067_21 : decode cJ2_getChar_3b067 21 = .ok (.dup, 1) := by decide +kernel
theorem dJ2_getChar_3b067_22 : decode cJ2_getChar_3b067 22 = .ok (.ldc 54, 2) := by decide +kernel
theorem dJ2_getChar_3b067_24 : decode cJ2_getChar_3b067 24 = .ok (.invokespecial 56, 3) := by decide +kernel
theorem dJ2_getChar_3b067_27 : decode cJ2_getChar_3b067 27 = .ok (.athrow, 1) := by decide +kernel
theorem dJ2_getChar_3b067_28 : decode cJ2_getChar_3b067 28 = .ok (.iload_n 1, 1) := by decide +kernel
theorem dJ2_getChar_3b067_29 : decode cJ2_getChar_3b067 29 = .ok (.iconst 1, 1) := by decide +kernel
theorem dJ2_getChar_3b067_30 : decode cJ2_getChar_3b067 30 = .ok (.ishl, 1) := by decide +kernel
theorem dJ2_getChar_3b067_31 : decode cJ2_getChar_3b067 31 = .ok (.istore_n 1, 1) := by decide +kernel
theorem dJ2_getChar_3b067_32 : decode cJ2_getChar_3b067 32 = .ok (.aload_n 0, 1) := by decide +kernel
theorem dJ2_getChar_3b067_33 : decode cJ2_getChar_3b067 33 = .ok (.iload_n 1, 1) := by decide +kernel
theorem dJ2_getChar_3b067_34 : decode cJ2_getChar_3b067 34 = .ok (.iinc 1 1, 3) := by decide +kernel
theorem dJ2_getChar_3b067_37 : decode cJ2_getChar_3b067 37 = .ok (.baload, 1) := by decide +kernel
theorem dJ2_getChar_3b067_38 : decode cJ2_getChar_3b067 38 = .ok (.sipush 255, 3) := by decide +kernel
theorem dJ2_getChar_3b067_41 : decode cJ2_getChar_3b067 41 = .ok (.iand, 1) := by decide +kernel
theorem dJ2_getChar_3b067_42 : decode cJ2_getChar_3b067 42 = .ok (.getstatic 59, 3) := by decide +kernel
theorem dJ2_getChar_3b067_45 : decode cJ2_getChar_3b067 45 = .ok (.ishl, 1) := by decide +kernel
theorem dJ2_getChar_3b067_46 : decode cJ2_getChar_3b067 46 = .ok (.aload_n 0, 1) := by decide +kernel
theorem dJ2_getChar_3b067_47 : decode cJ2_getChar_3b067 47 = .ok (.iload_n 1, 1) := by decide +kernel
theorem dJ2_getChar_3b067_48 : decode cJ2_getChar_3b067 48 = .ok (.baload, 1) := by decide +kernel
theorem dJ2_getChar_3b067_49 : decode cJ2_getChar_3b067 49 = .ok (.sipush 255, 3) := by decide +kernel
theorem dJ2_getChar_3b067_52 : decode cJ2_getChar_3b067 52 = .ok (.iand, 1) := by decide +kernel
theorem dJ2_getChar_3b067_53 : decode cJ2_getChar_3b067 53 = .ok (.getstatic 63, 3) := by decide +kernel
theorem dJ2_getChar_3b067_56 : decode cJ2_getChar_3b067 56 = .ok (.ishl, 1) := by decide +kernel
theorem dJ2_getChar_3b067_57 : decode cJ2_getChar_3b067 57 = .ok (.ior, 1) := by decide +kernel
theorem dJ2_getChar_3b067_58 : decode cJ2_getChar_3b067 58 = .ok (.i2c, 1) := by decide +kernel
theorem dJ2_getChar_3b067_59 : decode cJ2_getChar_3b067 59 = .ok (.ireturn, 1) := by decide +kernel
theorem dJ2_length_9d52b_0 : decode cJ2_length_9d52b 0 = .ok (.aload_n 0, 1) := by decide +kernel
theorem dJ2_length_9d52b_1 : decode cJ2_length_9d52b 1 = .ok (.arraylength, 1) := by decide +kernel
theorem dJ2_length_9d52b_2 : decode cJ2_length_9d52b 2 = .ok (.iconst 1, 1) := by decide +kernel
theorem dJ2_length_9d52b_3 : decode cJ2_length_9d52b 3 = .ok (.ishr, 1) := by decide +kernel
theorem dJ2_length_9d52b_4 : decode cJ2_length_9d52b 4 = .ok (.ireturn, 1) := by decide +kernel
theorem dJ2_charAt_3b067_0 : decode cJ2_charAt_3b067 0 = .ok (.iload_n 1, 1) := by decide +kernel
theorem dJ2_charAt_3b067_1 : decode cJ2_charAt_3b067 1 = .ok (.aload_n 0, 1) := by decide +kernel
theorem dJ2_charAt_3b067_2 : decode cJ2_charAt_3b067 2 = .ok (.invokestatic 67, 3) := by decide +kernel
theorem dJ2_charAt_3b067_5 : decode cJ2_charAt_3b067 5 = .ok (.aload_n 0, 1) := by decide +kernel
theorem dJ2_charAt_3b067_6 : decode cJ2_charAt_3b067 6 = .ok (.iload_n 1, 1) := by decide +kernel
theorem dJ2_charAt_3b067_7 : decode cJ2_charAt_3b067 7 = .ok (.invokestatic 71, 3) := by decide +kernel
theorem dJ2_charAt_3b067_10 : decode cJ2_charAt_3b067 10 = .ok (.ireturn, 1) := by decide +kernel
theorem dJ2_checkIndex_2214a_0 : decode cJ2_checkIndex_2214a 0 = .ok (.iload_n 0, 1) := by decide +kernel
theorem dJ2_checkIndex_2214a_1 : decode cJ2_checkIndex_2214a 1 = .ok (.aload_n 1, 1) := by decide +kernel
theorem dJ2_checkIndex_2214a_2 : decode cJ2_checkIndex_2214a 2 = .ok (.invokestatic 48, 3) := by decide +kernel
theorem dJ2_checkIndex_2214a_5 : decode cJ2_checkIndex_2214a 5 = .ok (.invokestatic 414, 3) := by decide +kernel
theorem dJ2_checkIndex_2214a_8 : decode cJ2_checkIndex_2214a 8 = .ok (.return_, 1) := by decide +kernel
theorem dJ3_checkIndex_8e157_0 : decode cJ3_checkIndex_8e157 0 = .ok (.iload_n 0, 1) := by decide +kernel
theorem dJ3_checkIndex_8e157_1 : decode cJ3_checkIndex_8e157 1 = .ok (.ifCond .lt 8, 3) := by decide +kernel
theorem dJ3_checkIndex_8e157_4 : decode cJ3_checkIndex_8e157 4 = .ok (.iload_n 0, 1) := by decide +kernel
theorem dJ3_checkIndex_8e157_5 : decode cJ3_checkIndex_8e157 5 = .ok (.iload_n 1, 1) := by decide +kernel
theorem dJ3_checkIndex_8e157_6 : decode cJ3_checkIndex_8e157 6 = .ok (.if_icmp .lt 10, 3) := by decide +kernel
theorem dJ3_checkIndex_8e157_9 : decode cJ3_checkIndex_8e157 9 = .ok (.aload_n 2, 1) := by decide +kernel
theorem dJ3_checkIndex_8e157_10 : decode cJ3_checkIndex_8e157 10 = .ok (.iload_n 0, 1) := by decide +kernel
theorem dJ3_checkIndex_8e157_11 : decode cJ3_checkIndex_8e157 11 = .ok (.iload_n 1, 1) := by decide +kernel
theorem dJ3_checkIndex_8e157_12 : decode cJ3_checkIndex_8e157 12 = .ok (.invokestatic 95, 3) := by decide +kernel
theorem dJ3_checkIndex_8e157_15 : decode cJ3_checkIndex_8e157 15 = .ok (.athrow, 1) := by decide +kernel
theorem dJ3_checkIndex_8e157_16 : decode cJ3_checkIndex_8e157 16 = .ok (.iload_n 0, 1) := by decide +kernel
theorem dJ3_checkIndex_8e157_17 : decode cJ3_checkIndex_8e157 17 = .ok (.ireturn, 1) := by decide +kernel
theorem dL_law_0 : decode cL_law 0 = .ok (.new 7, 3) := by decide +kernel
theorem dL_law_3 : decode cL_law 3 = .ok (.dup, 1) := by decide +kernel
theorem dL_law_4 : decode cL_law 4 = .ok (.invokespecial 9, 3) := by decide +kernel
theorem dL_law_7 : decode cL_law 7 = .ok (.astore_n 1, 1) := by decide +kernel
theorem dL_law_8 : decode cL_law 8 = .ok (.new 10, 3) := by decide +kernel
theorem dL_law_11 : decode cL_law 11 = .ok (.dup, 1) := by decide +kernel
theorem dL_law_12 : decode cL_law 12 = .ok (.invokespecial 12, 3) := by decide +kernel
theorem dL_law_15 : decode cL_law 15 = .ok (.astore_n 2, 1) := by decide +kernel
theorem dL_law_16 : decode cL_law 16 = .ok (.iconst 0, 1) := by decide +kernel
theorem dL_law_17 : decode cL_law 17 = .ok (.istore_n 3, 1) := by decide +kernel
theorem dL_law_18 : decode cL_law 18 = .ok (.iload_n 3, 1) := by decide +kernel
theorem dL_law_19 : decode cL_law 19 = .ok (.aload_n 0, 1) := by decide +kernel
theorem dL_law_20 : decode cL_law 20 = .ok (.arraylength, 1) := by decide +kernel
theorem dL_law_21 : decode cL_law 21 = .ok (.bipush 6, 2) := by decide +kernel
theorem dL_law_23 : decode cL_law 23 = .ok (.isub, 1) := by decide +kernel
theorem dL_law_24 : decode cL_law 24 = .ok (.if_icmp .gt 1523, 3) := by decide +kernel
theorem dL_law_27 : decode cL_law 27 = .ok (.aload_n 0, 1) := by decide +kernel
theorem dL_law_28 : decode cL_law 28 = .ok (.iload_n 3, 1) := by decide +kernel
theorem dL_law_29 : decode cL_law 29 = .ok (.iaload, 1) := by decide +kernel
theorem dL_law_30 : decode cL_law 30 = .ok (.bipush 63, 2) := by decide +kernel
theorem dL_law_32 : decode cL_law 32 = .ok (.iand, 1) := by decide +kernel
theorem dL_law_33 : decode cL_law 33 = .ok (.tableswitch 1508 0 43 #[191, 224, 277, 310, 333, 396, 419, 432, 455, 478, 501, 524, 547, 570, 593, 626, 639, 672, 705, 728, 761, 784, 817, 850, 889, 912, 945, 988, 1031, 1064, 1087, 1110, 1169, 1192, 1231, 1311, 1344, 1357, 1390, 1413, 1426, 1459, 1472, 1485], 191) := by decide +kernel
theorem dL_law_224 : decode cL_law 224 = .ok (.aload_n 1, 1) := by decide +kernel
theorem dL_law_225 : decode cL_law 225 = .ok (.aload_n 0, 1) := by decide +kernel
theorem dL_law_226 : decode cL_law 226 = .ok (.iload_n 3, 1) := by decide +kernel
theorem dL_law_227 : decode cL_law 227 = .ok (.iconst 1, 1) := by decide +kernel
theorem dL_law_228 : decode cL_law 228 = .ok (.iadd, 1) := by decide +kernel
theorem dL_law_229 : decode cL_law 229 = .ok (.iaload, 1) := by decide +kernel
theorem dL_law_230 : decode cL_law 230 = .ok (.aload_n 0, 1) := by decide +kernel
theorem dL_law_231 : decode cL_law 231 = .ok (.iload_n 3, 1) := by decide +kernel
theorem dL_law_232 : decode cL_law 232 = .ok (.iconst 2, 1) := by decide +kernel
theorem dL_law_233 : decode cL_law 233 = .ok (.iadd, 1) := by decide +kernel
theorem dL_law_234 : decode cL_law 234 = .ok (.iaload, 1) := by decide +kernel
theorem dL_law_235 : decode cL_law 235 = .ok (.invokevirtual 13, 3) := by decide +kernel
theorem dL_law_238 : decode cL_law 238 = .ok (.aload_n 2, 1) := by decide +kernel
theorem dL_law_239 : decode cL_law 239 = .ok (.aload_n 0, 1) := by decide +kernel
theorem dL_law_240 : decode cL_law 240 = .ok (.iload_n 3, 1) := by decide +kernel
theorem dL_law_241 : decode cL_law 241 = .ok (.iconst 1, 1) := by decide +kernel
theorem dL_law_242 : decode cL_law 242 = .ok (.iadd, 1) := by decide +kernel
theorem dL_law_243 : decode cL_law 243 = .ok (.iaload, 1) := by decide +kernel
theorem dL_law_244 : decode cL_law 244 = .ok (.aload_n 0, 1) := by decide +kernel
theorem dL_law_245 : decode cL_law 245 = .ok (.iload_n 3, 1) := by decide +kernel
theorem dL_law_246 : decode cL_law 246 = .ok (.iconst 2, 1) := by decide +kernel
theorem dL_law_247 : decode cL_law 247 = .ok (.iadd, 1) := by decide +kernel
theorem dL_law_248 : decode cL_law 248 = .ok (.iaload, 1) := by decide +kernel
theorem dL_law_249 : decode cL_law 249 = .ok (.invokevirtual 17, 3) := by decide +kernel
theorem dL_law_252 : decode cL_law 252 = .ok (.if_icmp .eq 1289, 3) := by decide +kernel
theorem dL_law_255 : decode cL_law 255 = .ok (.iconst 0, 1) := by decide +kernel
theorem dL_law_256 : decode cL_law 256 = .ok (.ireturn, 1) := by decide +kernel
theorem dL_law_257 : decode cL_law 257 = .ok (.aload_n 1, 1) := by decide +kernel
theorem dL_law_258 : decode cL_law 258 = .ok (.aload_n 0, 1) := by decide +kernel
theorem dL_law_259 : decode cL_law 259 = .ok (.iload_n 3, 1) := by decide +kernel
theorem dL_law_260 : decode cL_law 260 = .ok (.iconst 1, 1) := by decide +kernel
theorem dL_law_261 : decode cL_law 261 = .ok (.iadd, 1) := by decide +kernel
theorem dL_law_262 : decode cL_law 262 = .ok (.iaload, 1) := by decide +kernel
theorem dL_law_263 : decode cL_law 263 = .ok (.aload_n 0, 1) := by decide +kernel
theorem dL_law_264 : decode cL_law 264 = .ok (.iload_n 3, 1) := by decide +kernel
theorem dL_law_265 : decode cL_law 265 = .ok (.iconst 2, 1) := by decide +kernel
theorem dL_law_266 : decode cL_law 266 = .ok (.iadd, 1) := by decide +kernel
theorem dL_law_267 : decode cL_law 267 = .ok (.iaload, 1) := by decide +kernel
theorem dL_law_268 : decode cL_law 268 = .ok (.aload_n 0, 1) := by decide +kernel
theorem dL_law_269 : decode cL_law 269 = .ok (.iload_n 3, 1) := by decide +kernel
theorem dL_law_270 : decode cL_law 270 = .ok (.iconst 3, 1) := by decide +kernel
theorem dL_law_271 : decode cL_law 271 = .ok (.iadd, 1) := by decide +kernel
theorem dL_law_272 : decode cL_law 272 = .ok (.iaload, 1) := by decide +kernel
theorem dL_law_273 : decode cL_law 273 = .ok (.aload_n 0, 1) := by decide +kernel
theorem dL_law_274 : decode cL_law 274 = .ok (.iload_n 3, 1) := by decide +kernel
theorem dL_law_275 : decode cL_law 275 = .ok (.iconst 4, 1) := by decide +kernel
theorem dL_law_276 : decode cL_law 276 = .ok (.iadd, 1) := by decide +kernel
theorem dL_law_277 : decode cL_law 277 = .ok (.iaload, 1) := by decide +kernel
theorem dL_law_278 : decode cL_law 278 = .ok (.invokevirtual 18, 3) := by decide +kernel
theorem dL_law_281 : decode cL_law 281 = .ok (.aload_n 2, 1) := by decide +kernel
theorem dL_law_282 : decode cL_law 282 = .ok (.aload_n 0, 1) := by decide +kernel
theorem dL_law_283 : decode cL_law 283 = .ok (.iload_n 3, 1) := by decide +kernel
theorem dL_law_284 : decode cL_law 284 = .ok (.iconst 1, 1) := by decide +kernel
theorem dL_law_285 : decode cL_law 285 = .ok (.iadd, 1) := by decide +kernel
theorem dL_law_286 : decode cL_law 286 = .ok (.iaload, 1) := by decide +kernel
theorem dL_law_287 : decode cL_law 287 = .ok (.aload_n 0, 1) := by decide +kernel
theorem dL_law_288 : decode cL_law 288 = .ok (.iload_n 3, 1) := by decide +kernel
theorem dL_law_289 : decode cL_law 289 = .ok (.iconst 2, 1) := by decide +kernel
theorem dL_law_290 : decode cL_law 290 = .ok (.iadd, 1) := by decide +kernel
theorem dL_law_291 : decode cL_law 291 = .ok (.iaload, 1) := by decide +kernel
theorem dL_law_292 : decode cL_law 292 = .ok (.aload_n 0, 1) := by decide +kernel
theorem dL_law_293 : decode cL_law 293 = .ok (.iload_n 3, 1) := by decide +kernel
theorem dL_law_294 : decode cL_law 294 = .ok (.iconst 3, 1) := by decide +kernel
theorem dL_law_295 : decode cL_law 295 = .ok (.iadd, 1) := by decide +kernel
theorem dL_law_296 : decode cL_law 296 = .ok (.iaload, 1) := by decide +kernel
theorem dL_law_297 : decode cL_law 297 = .ok (.aload_n 0, 1) := by decide +kernel
theorem dL_law_298 : decode cL_law 298 = .ok (.iload_n 3, 1) := by decide +kernel
theorem dL_law_299 : decode cL_law 299 = .ok (.iconst 4, 1) := by decide +kernel
theorem dL_law_300 : decode cL_law 300 = .ok (.iadd, 1) := by decide +kernel
theorem dL_law_301 : decode cL_law 301 = .ok (.iaload, 1) := by decide +kernel
theorem dL_law_302 : decode cL_law 302 = .ok (.invokevirtual 22, 3) := by decide +kernel
theorem dL_law_305 : decode cL_law 305 = .ok (.if_icmp .eq 1236, 3) := by decide +kernel
theorem dL_law_308 : decode cL_law 308 = .ok (.iconst 0, 1) := by decide +kernel
theorem dL_law_309 : decode cL_law 309 = .ok (.ireturn, 1) := by decide +kernel
theorem dL_law_310 : decode cL_law 310 = .ok (.aload_n 1, 1) := by decide +kernel
theorem dL_law_311 : decode cL_law 311 = .ok (.aload_n 0, 1) := by decide +kernel
theorem dL_law_312 : decode cL_law 312 = .ok (.iload_n 3, 1) := by decide +kernel
theorem dL_law_313 : decode cL_law 313 = .ok (.iconst 1, 1) := by decide +kernel
theorem dL_law_314 : decode cL_law 314 = .ok (.iadd, 1) := by decide +kernel
theorem dL_law_315 : decode cL_law 315 = .ok (.iaload, 1) := by decide +kernel
theorem dL_law_316 : decode cL_law 316 = .ok (.aload_n 0, 1) := by decide +kernel
theorem dL_law_317 : decode cL_law 317 = .ok (.iload_n 3, 1) := by decide +kernel
theorem dL_law_318 : decode cL_law 318 = .ok (.iconst 2, 1) := by decide +kernel
theorem dL_law_319 : decode cL_law 319 = .ok (.iadd, 1) := by decide +kernel
theorem dL_law_320 : decode cL_law 320 = .ok (.iaload, 1) := by decide +kernel
theorem dL_law_321 : decode cL_law 321 = .ok (.invokevirtual 23, 3) := by decide +kernel
theorem dL_law_324 : decode cL_law 324 = .ok (.aload_n 2, 1) := by decide +kernel
theorem dL_law_325 : decode cL_law 325 = .ok (.aload_n 0, 1) := by decide +kernel
theorem dL_law_326 : decode cL_law 326 = .ok (.iload_n 3, 1) := by decide +kernel
theorem dL_law_327 : decode cL_law 327 = .ok (.iconst 1, 1) := by decide +kernel
theorem dL_law_328 : decode cL_law 328 = .ok (.iadd, 1) := by decide +kernel
theorem dL_law_329 : decode cL_law 329 = .ok (.iaload, 1) := by decide +kernel
theorem dL_law_330 : decode cL_law 330 = .ok (.aload_n 0, 1) := by decide +kernel
theorem dL_law_331 : decode cL_law 331 = .ok (.iload_n 3, 1) := by decide +kernel
theorem dL_law_332 : decode cL_law 332 = .ok (.iconst 2, 1) := by decide +kernel
theorem dL_law_333 : decode cL_law 333 = .ok (.iadd, 1) := by decide +kernel
theorem dL_law_334 : decode cL_law 334 = .ok (.iaload, 1) := by decide +kernel
theorem dL_law_335 : decode cL_law 335 = .ok (.invokevirtual 27, 3) := by decide +kernel
theorem dL_law_338 : decode cL_law 338 = .ok (.if_icmp .eq 1203, 3) := by decide +kernel
theorem dL_law_341 : decode cL_law 341 = .ok (.iconst 0, 1) := by decide +kernel
theorem dL_law_342 : decode cL_law 342 = .ok (.ireturn, 1) := by decide +kernel
theorem dL_law_343 : decode cL_law 343 = .ok (.aload_n 1, 1) := by decide +kernel
theorem dL_law_344 : decode cL_law 344 = .ok (.aload_n 0, 1) := by decide +kernel
theorem dL_law_345 : decode cL_law 345 = .ok (.iload_n 3, 1) := by decide +kernel
theorem dL_law_346 : decode cL_law 346 = .ok (.iconst 1, 1) := by decide +kernel
theorem dL_law_347 : decode cL_law 347 = .ok (.iadd, 1) := by decide +kernel
theorem dL_law_348 : decode cL_law 348 = .ok (.iaload, 1) := by decide +kernel
theorem dL_law_349 : decode cL_law 349 = .ok (.invokevirtual 28, 3) := by decide +kernel
theorem dL_law_352 : decode cL_law 352 = .ok (.aload_n 2, 1) := by decide +kernel
theorem dL_law_353 : decode cL_law 353 = .ok (.aload_n 0, 1) := by decide +kernel
theorem dL_law_354 : decode cL_law 354 = .ok (.iload_n 3, 1) := by decide +kernel
theorem dL_law_355 : decode cL_law 355 = .ok (.iconst 1, 1) := by decide +kernel
theorem dL_law_356 : decode cL_law 356 = .ok (.iadd, 1) := by decide +kernel
theorem dL_law_357 : decode cL_law 357 = .ok (.iaload, 1) := by decide +kernel
theorem dL_law_358 : decode cL_law 358 = .ok (.invokevirtual 32, 3) := by decide +kernel
theorem dL_law_361 : decode cL_law 361 = .ok (.if_icmp .eq 1180, 3) := by decide +kernel
theorem dL_law_364 : decode cL_law 364 = .ok (.iconst 0, 1) := by decide +kernel
theorem dL_law_365 : decode cL_law 365 = .ok (.ireturn, 1) := by decide +kernel
theorem dL_law_366 : decode cL_law 366 = .ok (.aload_n 1, 1) := by decide +kernel
theorem dL_law_367 : decode cL_law 367 = .ok (.aload_n 0, 1) := by decide +kernel
theorem dL_law_368 : decode cL_law 368 = .ok (.iload_n 3, 1) := by decide +kernel
theorem dL_law_369 : decode cL_law 369 = .ok (.iconst 1, 1) := by decide +kernel
theorem dL_law_370 : decode cL_law 370 = .ok (.iadd, 1) := by decide +kernel
theorem dL_law_371 : decode cL_law 371 = .ok (.iaload, 1) := by decide +kernel
theorem dL_law_372 : decode cL_law 372 = .ok (.aload_n 0, 1) := by decide +kernel
theorem dL_law_373 : decode cL_law 373 = .ok (.iload_n 3, 1) := by decide +kernel
theorem dL_law_374 : decode cL_law 374 = .ok (.iconst 2, 1) := by decide +kernel
theorem dL_law_375 : decode cL_law 375 = .ok (.iadd, 1) := by decide +kernel
theorem dL_law_376 : decode cL_law 376 = .ok (.iaload, 1) := by decide +kernel
theorem dL_law_377 : decode cL_law 377 = .ok (.aload_n 0, 1) := by decide +kernel
theorem dL_law_378 : decode cL_law 378 = .ok (.iload_n 3, 1) := by decide +kernel
theorem dL_law_379 : decode cL_law 379 = .ok (.iconst 3, 1) := by decide +kernel
theorem dL_law_380 : decode cL_law 380 = .ok (.iadd, 1) := by decide +kernel
theorem dL_law_381 : decode cL_law 381 = .ok (.iaload, 1) := by decide +kernel
theorem dL_law_382 : decode cL_law 382 = .ok (.aload_n 0, 1) := by decide +kernel
theorem dL_law_383 : decode cL_law 383 = .ok (.iload_n 3, 1) := by decide +kernel
theorem dL_law_384 : decode cL_law 384 = .ok (.iconst 4, 1) := by decide +kernel
theorem dL_law_385 : decode cL_law 385 = .ok (.iadd, 1) := by decide +kernel
theorem dL_law_386 : decode cL_law 386 = .ok (.iaload, 1) := by decide +kernel
theorem dL_law_387 : decode cL_law 387 = .ok (.aload_n 0, 1) := by decide +kernel
theorem dL_law_388 : decode cL_law 388 = .ok (.iload_n 3, 1) := by decide +kernel
theorem dL_law_389 : decode cL_law 389 = .ok (.iconst 5, 1) := by decide +kernel
theorem dL_law_390 : decode cL_law 390 = .ok (.iadd, 1) := by decide +kernel
theorem dL_law_391 : decode cL_law 391 = .ok (.iaload, 1) := by decide +kernel
theorem dL_law_392 : decode cL_law 392 = .ok (.invokevirtual 33, 3) := by decide +kernel
theorem dL_law_395 : decode cL_law 395 = .ok (.aload_n 2, 1) := by decide +kernel
theorem dL_law_396 : decode cL_law 396 = .ok (.aload_n 0, 1) := by decide +kernel
theorem dL_law_397 : decode cL_law 397 = .ok (.iload_n 3, 1) := by decide +kernel
theorem dL_law_398 : decode cL_law 398 = .ok (.iconst 1, 1) := by decide +kernel
theorem dL_law_399 : decode cL_law 399 = .ok (.iadd, 1) := by decide +kernel
theorem dL_law_400 : decode cL_law 400 = .ok (.iaload, 1) := by decide +kernel
theorem dL_law_401 : decode cL_law 401 = .ok (.aload_n 0, 1) := by decide +kernel
theorem dL_law_402 : decode cL_law 402 = .ok (.iload_n 3, 1) := by decide +kernel
theorem dL_law_403 : decode cL_law 403 = .ok (.iconst 2, 1) := by decide +kernel
theorem dL_law_404 : decode cL_law 404 = .ok (.iadd, 1) := by decide +kernel
theorem dL_law_405 : decode cL_law 405 = .ok (.iaload, 1) := by decide +kernel
theorem dL_law_406 : decode cL_law 406 = .ok (.aload_n 0, 1) := by decide +kernel
theorem dL_law_407 : decode cL_law 407 = .ok (.iload_n 3, 1) := by decide +kernel
theorem dL_law_408 : decode cL_law 408 = .ok (.iconst 3, 1) := by decide +kernel
theorem dL_law_409 : decode cL_law 409 = .ok (.iadd, 1) := by decide +kernel
theorem dL_law_410 : decode cL_law 410 = .ok (.iaload, 1) := by decide +kernel
theorem dL_law_411 : decode cL_law 411 = .ok (.aload_n 0, 1) := by decide +kernel
theorem dL_law_412 : decode cL_law 412 = .ok (.iload_n 3, 1) := by decide +kernel
theorem dL_law_413 : decode cL_law 413 = .ok (.iconst 4, 1) := by decide +kernel
theorem dL_law_414 : decode cL_law 414 = .ok (.iadd, 1) := by decide +kernel
theorem dL_law_415 : decode cL_law 415 = .ok (.iaload, 1) := by decide +kernel
theorem dL_law_416 : decode cL_law 416 = .ok (.aload_n 0, 1) := by decide +kernel
theorem dL_law_417 : decode cL_law 417 = .ok (.iload_n 3, 1) := by decide +kernel
theorem dL_law_418 : decode cL_law 418 = .ok (.iconst 5, 1) := by decide +kernel
theorem dL_law_419 : decode cL_law 419 = .ok (.iadd, 1) := by decide +kernel
theorem dL_law_420 : decode cL_law 420 = .ok (.iaload, 1) := by decide +kernel
theorem dL_law_421 : decode cL_law 421 = .ok (.invokevirtual 37, 3) := by decide +kernel
theorem dL_law_424 : decode cL_law 424 = .ok (.if_icmp .eq 1117, 3) := by decide +kernel
theorem dL_law_427 : decode cL_law 427 = .ok (.iconst 0, 1) := by decide +kernel
theorem dL_law_428 : decode cL_law 428 = .ok (.ireturn, 1) := by decide +kernel
theorem dL_law_429 : decode cL_law 429 = .ok (.aload_n 1, 1) := by decide +kernel
theorem dL_law_430 : decode cL_law 430 = .ok (.aload_n 0, 1) := by decide +kernel
theorem dL_law_431 : decode cL_law 431 = .ok (.iload_n 3, 1) := by decide +kernel
theorem dL_law_432 : decode cL_law 432 = .ok (.iconst 1, 1) := by decide +kernel
theorem dL_law_433 : decode cL_law 433 = .ok (.iadd, 1) := by decide +kernel
theorem dL_law_434 : decode cL_law 434 = .ok (.iaload, 1) := by decide +kernel
theorem dL_law_435 : decode cL_law 435 = .ok (.invokevirtual 38, 3) := by decide +kernel
theorem dL_law_438 : decode cL_law 438 = .ok (.aload_n 2, 1) := by decide +kernel
theorem dL_law_439 : decode cL_law 439 = .ok (.aload_n 0, 1) := by decide +kernel
theorem dL_law_440 : decode cL_law 440 = .ok (.iload_n 3, 1) := by decide +kernel
theorem dL_law_441 : decode cL_law 441 = .ok (.iconst 1, 1) := by decide +kernel
theorem dL_law_442 : decode cL_law 442 = .ok (.iadd, 1) := by decide +kernel
theorem dL_law_443 : decode cL_law 443 = .ok (.iaload, 1) := by decide +kernel
theorem dL_law_444 : decode cL_law 444 = .ok (.invokevirtual 42, 3) := by decide +kernel
theorem dL_law_447 : decode cL_law 447 = .ok (.if_icmp .eq 1094, 3) := by decide +kernel
theorem dL_law_450 : decode cL_law 450 = .ok (.iconst 0, 1) := by decide +kernel
theorem dL_law_451 : decode cL_law 451 = .ok (.ireturn, 1) := by decide +kernel
theorem dL_law_452 : decode cL_law 452 = .ok (.aload_n 1, 1) := by decide +kernel
theorem dL_law_453 : decode cL_law 453 = .ok (.invokevirtual 43, 3) := by decide +kernel
theorem dL_law_456 : decode cL_law 456 = .ok (.aload_n 2, 1) := by decide +kernel
theorem dL_law_457 : decode cL_law 457 = .ok (.invokevirtual 47, 3) := by decide +kernel
theorem dL_law_460 : decode cL_law 460 = .ok (.if_icmp .eq 1081, 3) := by decide +kernel
theorem dL_law_463 : decode cL_law 463 = .ok (.iconst 0, 1) := by decide +kernel
theorem dL_law_464 : decode cL_law 464 = .ok (.ireturn, 1) := by decide +kernel
theorem dL_law_465 : decode cL_law 465 = .ok (.aload_n 1, 1) := by decide +kernel
theorem dL_law_466 : decode cL_law 466 = .ok (.aload_n 0, 1) := by decide +kernel
theorem dL_law_467 : decode cL_law 467 = .ok (.iload_n 3, 1) := by decide +kernel
theorem dL_law_468 : decode cL_law 468 = .ok (.iconst 1, 1) := by decide +kernel
theorem dL_law_469 : decode cL_law 469 = .ok (.iadd, 1) := by decide +kernel
theorem dL_law_470 : decode cL_law 470 = .ok (.iaload, 1) := by decide +kernel
theorem dL_law_471 : decode cL_law 471 = .ok (.invokevirtual 48, 3) := by decide +kernel
theorem dL_law_474 : decode cL_law 474 = .ok (.aload_n 2, 1) := by decide +kernel
theorem dL_law_475 : decode cL_law 475 = .ok (.aload_n 0, 1) := by decide +kernel
theorem dL_law_476 : decode cL_law 476 = .ok (.iload_n 3, 1) := by decide +kernel
theorem dL_law_477 : decode cL_law 477 = .ok (.iconst 1, 1) := by decide +kernel
theorem dL_law_478 : decode cL_law 478 = .ok (.iadd, 1) := by decide +kernel
theorem dL_law_479 : decode cL_law 479 = .ok (.iaload, 1) := by decide +kernel
theorem dL_law_480 : decode cL_law 480 = .ok (.invokevirtual 51, 3) := by decide +kernel
theorem dL_law_483 : decode cL_law 483 = .ok (.if_icmp .eq 1058, 3) := by decide +kernel
theorem dL_law_486 : decode cL_law 486 = .ok (.iconst 0, 1) := by decide +kernel
theorem dL_law_487 : decode cL_law 487 = .ok (.ireturn, 1) := by decide +kernel
theorem dL_law_488 : decode cL_law 488 = .ok (.aload_n 1, 1) := by decide +kernel
theorem dL_law_489 : decode cL_law 489 = .ok (.aload_n 0, 1) := by decide +kernel
theorem dL_law_490 : decode cL_law 490 = .ok (.iload_n 3, 1) := by decide +kernel
theorem dL_law_491 : decode cL_law 491 = .ok (.iconst 1, 1) := by decide +kernel
theorem dL_law_492 : decode cL_law 492 = .ok (.iadd, 1) := by decide +kernel
theorem dL_law_493 : decode cL_law 493 = .ok (.iaload, 1) := by decide +kernel
theorem dL_law_494 : decode cL_law 494 = .ok (.invokevirtual 52, 3) := by decide +kernel
theorem dL_law_497 : decode cL_law 497 = .ok (.aload_n 2, 1) := by decide +kernel
theorem dL_law_498 : decode cL_law 498 = .ok (.aload_n 0, 1) := by decide +kernel
theorem dL_law_499 : decode cL_law 499 = .ok (.iload_n 3, 1) := by decide +kernel
theorem dL_law_500 : decode cL_law 500 = .ok (.iconst 1, 1) := by decide +kernel
theorem dL_law_501 : decode cL_law 501 = .ok (.iadd, 1) := by decide +kernel
theorem dL_law_502 : decode cL_law 502 = .ok (.iaload, 1) := by decide +kernel
theorem dL_law_503 : decode cL_law 503 = .ok (.invokevirtual 55, 3) := by decide +kernel
theorem dL_law_506 : decode cL_law 506 = .ok (.if_icmp .eq 1035, 3) := by decide +kernel
theorem dL_law_509 : decode cL_law 509 = .ok (.iconst 0, 1) := by decide +kernel
theorem dL_law_510 : decode cL_law 510 = .ok (.ireturn, 1) := by decide +kernel
theorem dL_law_511 : decode cL_law 511 = .ok (.aload_n 1, 1) := by decide +kernel
theorem dL_law_512 : decode cL_law 512 = .ok (.aload_n 0, 1) := by decide +kernel
theorem dL_law_513 : decode cL_law 513 = .ok (.iload_n 3, 1) := by decide +kernel
theorem dL_law_514 : decode cL_law 514 = .ok (.iconst 1, 1) := by decide +kernel
theorem dL_law_515 : decode cL_law 515 = .ok (.iadd, 1) := by decide +kernel
theorem dL_law_516 : decode cL_law 516 = .ok (.iaload, 1) := by decide +kernel
theorem dL_law_517 : decode cL_law 517 = .ok (.invokevirtual 56, 3) := by decide +kernel
theorem dL_law_520 : decode cL_law 520 = .ok (.aload_n 2, 1) := by decide +kernel
theorem dL_law_521 : decode cL_law 521 = .ok (.aload_n 0, 1) := by decide +kernel
theorem dL_law_522 : decode cL_law 522 = .ok (.iload_n 3, 1) := by decide +kernel
theorem dL_law_523 : decode cL_law 523 = .ok (.iconst 1, 1) := by decide +kernel
theorem dL_law_524 : decode cL_law 524 = .ok (.iadd, 1) := by decide +kernel
theorem dL_law_525 : decode cL_law 525 = .ok (.iaload, 1) := by decide +kernel
theorem dL_law_526 : decode cL_law 526 = .ok (.invokevirtual 59, 3) := by decide +kernel
theorem dL_law_529 : decode cL_law 529 = .ok (.if_icmp .eq 1012, 3) := by decide +kernel
theorem dL_law_532 : decode cL_law 532 = .ok (.iconst 0, 1) := by decide +kernel
theorem dL_law_533 : decode cL_law 533 = .ok (.ireturn, 1) := by decide +kernel
theorem dL_law_534 : decode cL_law 534 = .ok (.aload_n 1, 1) := by decide +kernel
theorem dL_law_535 : decode cL_law 535 = .ok (.aload_n 0, 1) := by decide +kernel
theorem dL_law_536 : decode cL_law 536 = .ok (.iload_n 3, 1) := by decide +kernel
theorem dL_law_537 : decode cL_law 537 = .ok (.iconst 1, 1) := by decide +kernel
theorem dL_law_538 : decode cL_law 538 = .ok (.iadd, 1) := by decide +kernel
theorem dL_law_539 : decode cL_law 539 = .ok (.iaload, 1) := by decide +kernel
theorem dL_law_540 : decode cL_law 540 = .ok (.invokevirtual 60, 3) := by decide +kernel
theorem dL_law_543 : decode cL_law 543 = .ok (.aload_n 2, 1) := by decide +kernel
theorem dL_law_544 : decode cL_law 544 = .ok (.aload_n 0, 1) := by decide +kernel
theorem dL_law_545 : decode cL_law 545 = .ok (.iload_n 3, 1) := by decide +kernel
theorem dL_law_546 : decode cL_law 546 = .ok (.iconst 1, 1) := by decide +kernel
theorem dL_law_547 : decode cL_law 547 = .ok (.iadd, 1) := by decide +kernel
theorem dL_law_548 : decode cL_law 548 = .ok (.iaload, 1) := by decide +kernel
theorem dL_law_549 : decode cL_law 549 = .ok (.invokevirtual 63, 3) := by decide +kernel
theorem dL_law_552 : decode cL_law 552 = .ok (.if_icmp .eq 989, 3) := by decide +kernel
theorem dL_law_555 : decode cL_law 555 = .ok (.iconst 0, 1) := by decide +kernel
theorem dL_law_556 : decode cL_law 556 = .ok (.ireturn, 1) := by decide +kernel
theorem dL_law_557 : decode cL_law 557 = .ok (.aload_n 1, 1) := by decide +kernel
theorem dL_law_558 : decode cL_law 558 = .ok (.aload_n 0, 1) := by decide +kernel
theorem dL_law_559 : decode cL_law 559 = .ok (.iload_n 3, 1) := by decide +kernel
theorem dL_law_560 : decode cL_law 560 = .ok (.iconst 1, 1) := by decide +kernel
theorem dL_law_561 : decode cL_law 561 = .ok (.iadd, 1) := by decide +kernel
theorem dL_law_562 : decode cL_law 562 = .ok (.iaload, 1) := by decide +kernel
theorem dL_law_563 : decode cL_law 563 = .ok (.invokevirtual 64, 3) := by decide +kernel
theorem dL_law_566 : decode cL_law 566 = .ok (.aload_n 2, 1) := by decide +kernel
theorem dL_law_567 : decode cL_law 567 = .ok (.aload_n 0, 1) := by decide +kernel
theorem dL_law_568 : decode cL_law 568 = .ok (.iload_n 3, 1) := by decide +kernel
theorem dL_law_569 : decode cL_law 569 = .ok (.iconst 1, 1) := by decide +kernel
theorem dL_law_570 : decode cL_law 570 = .ok (.iadd, 1) := by decide +kernel
theorem dL_law_571 : decode cL_law 571 = .ok (.iaload, 1) := by decide +kernel
theorem dL_law_572 : decode cL_law 572 = .ok (.invokevirtual 67, 3) := by decide +kernel
theorem dL_law_575 : decode cL_law 575 = .ok (.if_icmp .eq 966, 3) := by decide +kernel
theorem dL_law_578 : decode cL_law 578 = .ok (.iconst 0, 1) := by decide +kernel
theorem dL_law_579 : decode cL_law 579 = .ok (.ireturn, 1) := by decide +kernel
theorem dL_law_580 : decode cL_law 580 = .ok (.aload_n 1, 1) := by decide +kernel
theorem dL_law_581 : decode cL_law 581 = .ok (.aload_n 0, 1) := by decide +kernel
theorem dL_law_582 : decode cL_law 582 = .ok (.iload_n 3, 1) := by decide +kernel
theorem dL_law_583 : decode cL_law 583 = .ok (.iconst 1, 1) := by decide +kernel
theorem dL_law_584 : decode cL_law 584 = .ok (.iadd, 1) := by decide +kernel
theorem dL_law_585 : decode cL_law 585 = .ok (.iaload, 1) := by decide +kernel
theorem dL_law_586 : decode cL_law 586 = .ok (.invokevirtual 68, 3) := by decide +kernel
theorem dL_law_589 : decode cL_law 589 = .ok (.aload_n 2, 1) := by decide +kernel
theorem dL_law_590 : decode cL_law 590 = .ok (.aload_n 0, 1) := by decide +kernel
theorem dL_law_591 : decode cL_law 591 = .ok (.iload_n 3, 1) := by decide +kernel
theorem dL_law_592 : decode cL_law 592 = .ok (.iconst 1, 1) := by decide +kernel
theorem dL_law_593 : decode cL_law 593 = .ok (.iadd, 1) := by decide +kernel
theorem dL_law_594 : decode cL_law 594 = .ok (.iaload, 1) := by decide +kernel
theorem dL_law_595 : decode cL_law 595 = .ok (.invokevirtual 71, 3) := by decide +kernel
theorem dL_law_598 : decode cL_law 598 = .ok (.if_icmp .eq 943, 3) := by decide +kernel
theorem dL_law_601 : decode cL_law 601 = .ok (.iconst 0, 1) := by decide +kernel
theorem dL_law_602 : decode cL_law 602 = .ok (.ireturn, 1) := by decide +kernel
theorem dL_law_603 : decode cL_law 603 = .ok (.aload_n 1, 1) := by decide +kernel
theorem dL_law_604 : decode cL_law 604 = .ok (.aload_n 0, 1) := by decide +kernel
theorem dL_law_605 : decode cL_law 605 = .ok (.iload_n 3, 1) := by decide +kernel
theorem dL_law_606 : decode cL_law 606 = .ok (.iconst 1, 1) := by decide +kernel
theorem dL_law_607 : decode cL_law 607 = .ok (.iadd, 1) := by decide +kernel
theorem dL_law_608 : decode cL_law 608 = .ok (.iaload, 1) := by decide +kernel
theorem dL_law_609 : decode cL_law 609 = .ok (.invokevirtual 72, 3) := by decide +kernel
theorem dL_law_612 : decode cL_law 612 = .ok (.aload_n 2, 1) := by decide +kernel
theorem dL_law_613 : decode cL_law 613 = .ok (.aload_n 0, 1) := by decide +kernel
theorem dL_law_614 : decode cL_law 614 = .ok (.iload_n 3, 1) := by decide +kernel
theorem dL_law_615 : decode cL_law 615 = .ok (.iconst 1, 1) := by decide +kernel
theorem dL_law_616 : decode cL_law 616 = .ok (.iadd, 1) := by decide +kernel
theorem dL_law_617 : decode cL_law 617 = .ok (.iaload, 1) := by decide +kernel
theorem dL_law_618 : decode cL_law 618 = .ok (.invokevirtual 75, 3) := by decide +kernel
theorem dL_law_621 : decode cL_law 621 = .ok (.if_icmp .eq 920, 3) := by decide +kernel
theorem dL_law_624 : decode cL_law 624 = .ok (.iconst 0, 1) := by decide +kernel
theorem dL_law_625 : decode cL_law 625 = .ok (.ireturn, 1) := by decide +kernel
theorem dL_law_626 : decode cL_law 626 = .ok (.aload_n 1, 1) := by decide +kernel
theorem dL_law_627 : decode cL_law 627 = .ok (.aload_n 0, 1) := by decide +kernel
theorem dL_law_628 : decode cL_law 628 = .ok (.iload_n 3, 1) := by decide +kernel
theorem dL_law_629 : decode cL_law 629 = .ok (.iconst 1, 1) := by decide +kernel
theorem dL_law_630 : decode cL_law 630 = .ok (.iadd, 1) := by decide +kernel
theorem dL_law_631 : decode cL_law 631 = .ok (.iaload, 1) := by decide +kernel
theorem dL_law_632 : decode cL_law 632 = .ok (.aload_n 0, 1) := by decide +kernel
theorem dL_law_633 : decode cL_law 633 = .ok (.iload_n 3, 1) := by decide +kernel
theorem dL_law_634 : decode cL_law 634 = .ok (.iconst 2, 1) := by decide +kernel
theorem dL_law_635 : decode cL_law 635 = .ok (.iadd, 1) := by decide +kernel
theorem dL_law_636 : decode cL_law 636 = .ok (.iaload, 1) := by decide +kernel
theorem dL_law_637 : decode cL_law 637 = .ok (.invokevirtual 76, 3) := by decide +kernel
theorem dL_law_640 : decode cL_law 640 = .ok (.aload_n 2, 1) := by decide +kernel
theorem dL_law_641 : decode cL_law 641 = .ok (.aload_n 0, 1) := by decide +kernel
theorem dL_law_642 : decode cL_law 642 = .ok (.iload_n 3, 1) := by decide +kernel
theorem dL_law_643 : decode cL_law 643 = .ok (.iconst 1, 1) := by decide +kernel
theorem dL_law_644 : decode cL_law 644 = .ok (.iadd, 1) := by decide +kernel
theorem dL_law_645 : decode cL_law 645 = .ok (.iaload, 1) := by decide +kernel
theorem dL_law_646 : decode cL_law 646 = .ok (.aload_n 0, 1) := by decide +kernel
theorem dL_law_647 : decode cL_law 647 = .ok (.iload_n 3, 1) := by decide +kernel
theorem dL_law_648 : decode cL_law 648 = .ok (.iconst 2, 1) := by decide +kernel
theorem dL_law_649 : decode cL_law 649 = .ok (.iadd, 1) := by decide +kernel
theorem dL_law_650 : decode cL_law 650 = .ok (.iaload, 1) := by decide +kernel
theorem dL_law_651 : decode cL_law 651 = .ok (.invokevirtual 79, 3) := by decide +kernel
theorem dL_law_654 : decode cL_law 654 = .ok (.if_icmp .eq 887, 3) := by decide +kernel
theorem dL_law_657 : decode cL_law 657 = .ok (.iconst 0, 1) := by decide +kernel
theorem dL_law_658 : decode cL_law 658 = .ok (.ireturn, 1) := by decide +kernel
theorem dL_law_659 : decode cL_law 659 = .ok (.aload_n 1, 1) := by decide +kernel
theorem dL_law_660 : decode cL_law 660 = .ok (.invokevirtual 80, 3) := by decide +kernel
theorem dL_law_663 : decode cL_law 663 = .ok (.aload_n 2, 1) := by decide +kernel
theorem dL_law_664 : decode cL_law 664 = .ok (.invokevirtual 83, 3) := by decide +kernel
theorem dL_law_667 : decode cL_law 667 = .ok (.if_icmp .eq 874, 3) := by decide +kernel
theorem dL_law_670 : decode cL_law 670 = .ok (.iconst 0, 1) := by decide +kernel
theorem dL_law_671 : decode cL_law 671 = .ok (.ireturn, 1) := by decide +kernel
theorem dL_law_672 : decode cL_law 672 = .ok (.aload_n 1, 1) := by decide +kernel
theorem dL_law_673 : decode cL_law 673 = .ok (.aload_n 0, 1) := by decide +kernel
theorem dL_law_674 : decode cL_law 674 = .ok (.iload_n 3, 1) := by decide +kernel
theorem dL_law_675 : decode cL_law 675 = .ok (.iconst 1, 1) := by decide +kernel
theorem dL_law_676 : decode cL_law 676 = .ok (.iadd, 1) := by decide +kernel
theorem dL_law_677 : decode cL_law 677 = .ok (.iaload, 1) := by decide +kernel
theorem dL_law_678 : decode cL_law 678 = .ok (.aload_n 0, 1) := by decide +kernel
theorem dL_law_679 : decode cL_law 679 = .ok (.iload_n 3, 1) := by decide +kernel
theorem dL_law_680 : decode cL_law 680 = .ok (.iconst 2, 1) := by decide +kernel
theorem dL_law_681 : decode cL_law 681 = .ok (.iadd, 1) := by decide +kernel
theorem dL_law_682 : decode cL_law 682 = .ok (.iaload, 1) := by decide +kernel
theorem dL_law_683 : decode cL_law 683 = .ok (.invokevirtual 84, 3) := by decide +kernel
theorem dL_law_686 : decode cL_law 686 = .ok (.aload_n 2, 1) := by decide +kernel
theorem dL_law_687 : decode cL_law 687 = .ok (.aload_n 0, 1) := by decide +kernel
theorem dL_law_688 : decode cL_law 688 = .ok (.iload_n 3, 1) := by decide +kernel
theorem dL_law_689 : decode cL_law 689 = .ok (.iconst 1, 1) := by decide +kernel
theorem dL_law_690 : decode cL_law 690 = .ok (.iadd, 1) := by decide +kernel
theorem dL_law_691 : decode cL_law 691 = .ok (.iaload, 1) := by decide +kernel
theorem dL_law_692 : decode cL_law 692 = .ok (.aload_n 0, 1) := by decide +kernel
theorem dL_law_693 : decode cL_law 693 = .ok (.iload_n 3, 1) := by decide +kernel
theorem dL_law_694 : decode cL_law 694 = .ok (.iconst 2, 1) := by decide +kernel
theorem dL_law_695 : decode cL_law 695 = .ok (.iadd, 1) := by decide +kernel
theorem dL_law_696 : decode cL_law 696 = .ok (.iaload, 1) := by decide +kernel
theorem dL_law_697 : decode cL_law 697 = .ok (.invokevirtual 87, 3) := by decide +kernel
theorem dL_law_700 : decode cL_law 700 = .ok (.if_icmp .eq 841, 3) := by decide +kernel
theorem dL_law_703 : decode cL_law 703 = .ok (.iconst 0, 1) := by decide +kernel
theorem dL_law_704 : decode cL_law 704 = .ok (.ireturn, 1) := by decide +kernel
theorem dL_law_705 : decode cL_law 705 = .ok (.aload_n 1, 1) := by decide +kernel
theorem dL_law_706 : decode cL_law 706 = .ok (.aload_n 0, 1) := by decide +kernel
theorem dL_law_707 : decode cL_law 707 = .ok (.iload_n 3, 1) := by decide +kernel
theorem dL_law_708 : decode cL_law 708 = .ok (.iconst 1, 1) := by decide +kernel
theorem dL_law_709 : decode cL_law 709 = .ok (.iadd, 1) := by decide +kernel
theorem dL_law_710 : decode cL_law 710 = .ok (.iaload, 1) := by decide +kernel
theorem dL_law_711 : decode cL_law 711 = .ok (.aload_n 0, 1) := by decide +kernel
theorem dL_law_712 : decode cL_law 712 = .ok (.iload_n 3, 1) := by decide +kernel
theorem dL_law_713 : decode cL_law 713 = .ok (.iconst 2, 1) := by decide +kernel
theorem dL_law_714 : decode cL_law 714 = .ok (.iadd, 1) := by decide +kernel
theorem dL_law_715 : decode cL_law 715 = .ok (.iaload, 1) := by decide +kernel
theorem dL_law_716 : decode cL_law 716 = .ok (.invokevirtual 88, 3) := by decide +kernel
theorem dL_law_719 : decode cL_law 719 = .ok (.aload_n 2, 1) := by decide +kernel
theorem dL_law_720 : decode cL_law 720 = .ok (.aload_n 0, 1) := by decide +kernel
theorem dL_law_721 : decode cL_law 721 = .ok (.iload_n 3, 1) := by decide +kernel
theorem dL_law_722 : decode cL_law 722 = .ok (.iconst 1, 1) := by decide +kernel
theorem dL_law_723 : decode cL_law 723 = .ok (.iadd, 1) := by decide +kernel
theorem dL_law_724 : decode cL_law 724 = .ok (.iaload, 1) := by decide +kernel
theorem dL_law_725 : decode cL_law 725 = .ok (.aload_n 0, 1) := by decide +kernel
theorem dL_law_726 : decode cL_law 726 = .ok (.iload_n 3, 1) := by decide +kernel
theorem dL_law_727 : decode cL_law 727 = .ok (.iconst 2, 1) := by decide +kernel
theorem dL_law_728 : decode cL_law 728 = .ok (.iadd, 1) := by decide +kernel
theorem dL_law_729 : decode cL_law 729 = .ok (.iaload, 1) := by decide +kernel
theorem dL_law_730 : decode cL_law 730 = .ok (.invokevirtual 91, 3) := by decide +kernel
theorem dL_law_733 : decode cL_law 733 = .ok (.if_icmp .eq 808, 3) := by decide +kernel
theorem dL_law_736 : decode cL_law 736 = .ok (.iconst 0, 1) := by decide +kernel
theorem dL_law_737 : decode cL_law 737 = .ok (.ireturn, 1) := by decide +kernel
theorem dL_law_738 : decode cL_law 738 = .ok (.aload_n 1, 1) := by decide +kernel
theorem dL_law_739 : decode cL_law 739 = .ok (.aload_n 0, 1) := by decide +kernel
theorem dL_law_740 : decode cL_law 740 = .ok (.iload_n 3, 1) := by decide +kernel
theorem dL_law_741 : decode cL_law 741 = .ok (.iconst 1, 1) := by decide +kernel
theorem dL_law_742 : decode cL_law 742 = .ok (.iadd, 1) := by decide +kernel
theorem dL_law_743 : decode cL_law 743 = .ok (.iaload, 1) := by decide +kernel
theorem dL_law_744 : decode cL_law 744 = .ok (.invokevirtual 92, 3) := by decide +kernel
theorem dL_law_747 : decode cL_law 747 = .ok (.aload_n 2, 1) := by decide +kernel
theorem dL_law_748 : decode cL_law 748 = .ok (.aload_n 0, 1) := by decide +kernel
theorem dL_law_749 : decode cL_law 749 = .ok (.iload_n 3, 1) := by decide +kernel
theorem dL_law_750 : decode cL_law 750 = .ok (.iconst 1, 1) := by decide +kernel
theorem dL_law_751 : decode cL_law 751 = .ok (.iadd, 1) := by decide +kernel
theorem dL_law_752 : decode cL_law 752 = .ok (.iaload, 1) := by decide +kernel
theorem dL_law_753 : decode cL_law 753 = .ok (.invokevirtual 95, 3) := by decide +kernel
theorem dL_law_756 : decode cL_law 756 = .ok (.if_icmp .eq 785, 3) := by decide +kernel
theorem dL_law_759 : decode cL_law 759 = .ok (.iconst 0, 1) := by decide +kernel
theorem dL_law_760 : decode cL_law 760 = .ok (.ireturn, 1) := by decide +kernel
theorem dL_law_761 : decode cL_law 761 = .ok (.aload_n 1, 1) := by decide +kernel
theorem dL_law_762 : decode cL_law 762 = .ok (.aload_n 0, 1) := by decide +kernel
theorem dL_law_763 : decode cL_law 763 = .ok (.iload_n 3, 1) := by decide +kernel
theorem dL_law_764 : decode cL_law 764 = .ok (.iconst 1, 1) := by decide +kernel
theorem dL_law_765 : decode cL_law 765 = .ok (.iadd, 1) := by decide +kernel
theorem dL_law_766 : decode cL_law 766 = .ok (.iaload, 1) := by decide +kernel
theorem dL_law_767 : decode cL_law 767 = .ok (.aload_n 0, 1) := by decide +kernel
theorem dL_law_768 : decode cL_law 768 = .ok (.iload_n 3, 1) := by decide +kernel
theorem dL_law_769 : decode cL_law 769 = .ok (.iconst 2, 1) := by decide +kernel
theorem dL_law_770 : decode cL_law 770 = .ok (.iadd, 1) := by decide +kernel
theorem dL_law_771 : decode cL_law 771 = .ok (.iaload, 1) := by decide +kernel
theorem dL_law_772 : decode cL_law 772 = .ok (.invokevirtual 96, 3) := by decide +kernel
theorem dL_law_775 : decode cL_law 775 = .ok (.aload_n 2, 1) := by decide +kernel
theorem dL_law_776 : decode cL_law 776 = .ok (.aload_n 0, 1) := by decide +kernel
theorem dL_law_777 : decode cL_law 777 = .ok (.iload_n 3, 1) := by decide +kernel
theorem dL_law_778 : decode cL_law 778 = .ok (.iconst 1, 1) := by decide +kernel
theorem dL_law_779 : decode cL_law 779 = .ok (.iadd, 1) := by decide +kernel
theorem dL_law_780 : decode cL_law 780 = .ok (.iaload, 1) := by decide +kernel
theorem dL_law_781 : decode cL_law 781 = .ok (.aload_n 0, 1) := by decide +kernel
theorem dL_law_782 : decode cL_law 782 = .ok (.iload_n 3, 1) := by decide +kernel
theorem dL_law_783 : decode cL_law 783 = .ok (.iconst 2, 1) := by decide +kernel
theorem dL_law_784 : decode cL_law 784 = .ok (.iadd, 1) := by decide +kernel
theorem dL_law_785 : decode cL_law 785 = .ok (.iaload, 1) := by decide +kernel
theorem dL_law_786 : decode cL_law 786 = .ok (.invokevirtual 99, 3) := by decide +kernel
theorem dL_law_789 : decode cL_law 789 = .ok (.if_icmp .eq 752, 3) := by decide +kernel
theorem dL_law_792 : decode cL_law 792 = .ok (.iconst 0, 1) := by decide +kernel
theorem dL_law_793 : decode cL_law 793 = .ok (.ireturn, 1) := by decide +kernel
theorem dL_law_794 : decode cL_law 794 = .ok (.aload_n 1, 1) := by decide +kernel
theorem dL_law_795 : decode cL_law 795 = .ok (.aload_n 0, 1) := by decide +kernel
theorem dL_law_796 : decode cL_law 796 = .ok (.iload_n 3, 1) := by decide +kernel
theorem dL_law_797 : decode cL_law 797 = .ok (.iconst 1, 1) := by decide +kernel
theorem dL_law_798 : decode cL_law 798 = .ok (.iadd, 1) := by decide +kernel
theorem dL_law_799 : decode cL_law 799 = .ok (.iaload, 1) := by decide +kernel
theorem dL_law_800 : decode cL_law 800 = .ok (.invokevirtual 100, 3) := by decide +kernel
theorem dL_law_803 : decode cL_law 803 = .ok (.aload_n 2, 1) := by decide +kernel
theorem dL_law_804 : decode cL_law 804 = .ok (.aload_n 0, 1) := by decide +kernel
theorem dL_law_805 : decode cL_law 805 = .ok (.iload_n 3, 1) := by decide +kernel
theorem dL_law_806 : decode cL_law 806 = .ok (.iconst 1, 1) := by decide +kernel
theorem dL_law_807 : decode cL_law 807 = .ok (.iadd, 1) := by decide +kernel
theorem dL_law_808 : decode cL_law 808 = .ok (.iaload, 1) := by decide +kernel
theorem dL_law_809 : decode cL_law 809 = .ok (.invokevirtual 103, 3) := by decide +kernel
theorem dL_law_812 : decode cL_law 812 = .ok (.if_icmp .eq 729, 3) := by decide +kernel
theorem dL_law_815 : decode cL_law 815 = .ok (.iconst 0, 1) := by decide +kernel
theorem dL_law_816 : decode cL_law 816 = .ok (.ireturn, 1) := by decide +kernel
theorem dL_law_817 : decode cL_law 817 = .ok (.aload_n 1, 1) := by decide +kernel
theorem dL_law_818 : decode cL_law 818 = .ok (.aload_n 0, 1) := by decide +kernel
theorem dL_law_819 : decode cL_law 819 = .ok (.iload_n 3, 1) := by decide +kernel
theorem dL_law_820 : decode cL_law 820 = .ok (.iconst 1, 1) := by decide +kernel
theorem dL_law_821 : decode cL_law 821 = .ok (.iadd, 1) := by decide +kernel
theorem dL_law_822 : decode cL_law 822 = .ok (.iaload, 1) := by decide +kernel
theorem dL_law_823 : decode cL_law 823 = .ok (.aload_n 0, 1) := by decide +kernel
theorem dL_law_824 : decode cL_law 824 = .ok (.iload_n 3, 1) := by decide +kernel
theorem dL_law_825 : decode cL_law 825 = .ok (.iconst 2, 1) := by decide +kernel
theorem dL_law_826 : decode cL_law 826 = .ok (.iadd, 1) := by decide +kernel
theorem dL_law_827 : decode cL_law 827 = .ok (.iaload, 1) := by decide +kernel
theorem dL_law_828 : decode cL_law 828 = .ok (.invokevirtual 104, 3) := by decide +kernel
theorem dL_law_831 : decode cL_law 831 = .ok (.aload_n 2, 1) := by decide +kernel
theorem dL_law_832 : decode cL_law 832 = .ok (.aload_n 0, 1) := by decide +kernel
theorem dL_law_833 : decode cL_law 833 = .ok (.iload_n 3, 1) := by decide +kernel
theorem dL_law_834 : decode cL_law 834 = .ok (.iconst 1, 1) := by decide +kernel
theorem dL_law_835 : decode cL_law 835 = .ok (.iadd, 1) := by decide +kernel
theorem dL_law_836 : decode cL_law 836 = .ok (.iaload, 1) := by decide +kernel
theorem dL_law_837 : decode cL_law 837 = .ok (.aload_n 0, 1) := by decide +kernel
theorem dL_law_838 : decode cL_law 838 = .ok (.iload_n 3, 1) := by decide +kernel
theorem dL_law_839 : decode cL_law 839 = .ok (.iconst 2, 1) := by decide +kernel
theorem dL_law_840 : decode cL_law 840 = .ok (.iadd, 1) := by decide +kernel
theorem dL_law_841 : decode cL_law 841 = .ok (.iaload, 1) := by decide +kernel
theorem dL_law_842 : decode cL_law 842 = .ok (.invokevirtual 107, 3) := by decide +kernel
theorem dL_law_845 : decode cL_law 845 = .ok (.if_icmp .eq 696, 3) := by decide +kernel
theorem dL_law_848 : decode cL_law 848 = .ok (.iconst 0, 1) := by decide +kernel
theorem dL_law_849 : decode cL_law 849 = .ok (.ireturn, 1) := by decide +kernel
theorem dL_law_850 : decode cL_law 850 = .ok (.aload_n 1, 1) := by decide +kernel
theorem dL_law_851 : decode cL_law 851 = .ok (.aload_n 0, 1) := by decide +kernel
theorem dL_law_852 : decode cL_law 852 = .ok (.iload_n 3, 1) := by decide +kernel
theorem dL_law_853 : decode cL_law 853 = .ok (.iconst 1, 1) := by decide +kernel
theorem dL_law_854 : decode cL_law 854 = .ok (.iadd, 1) := by decide +kernel
theorem dL_law_855 : decode cL_law 855 = .ok (.iaload, 1) := by decide +kernel
theorem dL_law_856 : decode cL_law 856 = .ok (.aload_n 0, 1) := by decide +kernel
theorem dL_law_857 : decode cL_law 857 = .ok (.iload_n 3, 1) := by decide +kernel
theorem dL_law_858 : decode cL_law 858 = .ok (.iconst 2, 1) := by decide +kernel
theorem dL_law_859 : decode cL_law 859 = .ok (.iadd, 1) := by decide +kernel
theorem dL_law_860 : decode cL_law 860 = .ok (.iaload, 1) := by decide +kernel
theorem dL_law_861 : decode cL_law 861 = .ok (.invokevirtual 108, 3) := by decide +kernel
theorem dL_law_864 : decode cL_law 864 = .ok (.aload_n 2, 1) := by decide +kernel
theorem dL_law_865 : decode cL_law 865 = .ok (.aload_n 0, 1) := by decide +kernel
theorem dL_law_866 : decode cL_law 866 = .ok (.iload_n 3, 1) := by decide +kernel
theorem dL_law_867 : decode cL_law 867 = .ok (.iconst 1, 1) := by decide +kernel
theorem dL_law_868 : decode cL_law 868 = .ok (.iadd, 1) := by decide +kernel
theorem dL_law_869 : decode cL_law 869 = .ok (.iaload, 1) := by decide +kernel
theorem dL_law_870 : decode cL_law 870 = .ok (.aload_n 0, 1) := by decide +kernel
theorem dL_law_871 : decode cL_law 871 = .ok (.iload_n 3, 1) := by decide +kernel
theorem dL_law_872 : decode cL_law 872 = .ok (.iconst 2, 1) := by decide +kernel
theorem dL_law_873 : decode cL_law 873 = .ok (.iadd, 1) := by decide +kernel
theorem dL_law_874 : decode cL_law 874 = .ok (.iaload, 1) := by decide +kernel
theorem dL_law_875 : decode cL_law 875 = .ok (.invokevirtual 111, 3) := by decide +kernel
theorem dL_law_878 : decode cL_law 878 = .ok (.if_icmp .eq 663, 3) := by decide +kernel
theorem dL_law_881 : decode cL_law 881 = .ok (.iconst 0, 1) := by decide +kernel
theorem dL_law_882 : decode cL_law 882 = .ok (.ireturn, 1) := by decide +kernel
theorem dL_law_883 : decode cL_law 883 = .ok (.aload_n 1, 1) := by decide +kernel
theorem dL_law_884 : decode cL_law 884 = .ok (.aload_n 0, 1) := by decide +kernel
theorem dL_law_885 : decode cL_law 885 = .ok (.iload_n 3, 1) := by decide +kernel
theorem dL_law_886 : decode cL_law 886 = .ok (.iconst 1, 1) := by decide +kernel
theorem dL_law_887 : decode cL_law 887 = .ok (.iadd, 1) := by decide +kernel
theorem dL_law_888 : decode cL_law 888 = .ok (.iaload, 1) := by decide +kernel
theorem dL_law_889 : decode cL_law 889 = .ok (.ifCond .eq 7, 3) := by decide +kernel
theorem dL_law_892 : decode cL_law 892 = .ok (.iconst 1, 1) := by decide +kernel
theorem dL_law_893 : decode cL_law 893 = .ok (.goto 4, 3) := by decide +kernel
theorem dL_law_896 : decode cL_law 896 = .ok (.iconst 0, 1) := by decide +kernel
theorem dL_law_897 : decode cL_law 897 = .ok (.invokevirtual 112, 3) := by decide +kernel
theorem dL_law_900 : decode cL_law 900 = .ok (.aload_n 2, 1) := by decide +kernel
theorem dL_law_901 : decode cL_law 901 = .ok (.aload_n 0, 1) := by decide +kernel
theorem dL_law_902 : decode cL_law 902 = .ok (.iload_n 3, 1) := by decide +kernel
theorem dL_law_903 : decode cL_law 903 = .ok (.iconst 1, 1) := by decide +kernel
theorem dL_law_904 : decode cL_law 904 = .ok (.iadd, 1) := by decide +kernel
theorem dL_law_905 : decode cL_law 905 = .ok (.iaload, 1) := by decide +kernel
theorem dL_law_906 : decode cL_law 906 = .ok (.ifCond .eq 7, 3) := by decide +kernel
theorem dL_law_909 : decode cL_law 909 = .ok (.iconst 1, 1) := by decide +kernel
theorem dL_law_910 : decode cL_law 910 = .ok (.goto 4, 3) := by decide +kernel
theorem dL_law_913 : decode cL_law 913 = .ok (.iconst 0, 1) := by decide +kernel
theorem dL_law_914 : decode cL_law 914 = .ok (.invokevirtual 116, 3) := by decide +kernel
theorem dL_law_917 : decode cL_law 917 = .ok (.if_icmp .eq 624, 3) := by decide +kernel
theorem dL_law_920 : decode cL_law 920 = .ok (.iconst 0, 1) := by decide +kernel
theorem dL_law_921 : decode cL_law 921 = .ok (.ireturn, 1) := by decide +kernel
theorem dL_law_922 : decode cL_law 922 = .ok (.aload_n 1, 1) := by decide +kernel
theorem dL_law_923 : decode cL_law 923 = .ok (.aload_n 0, 1) := by decide +kernel
theorem dL_law_924 : decode cL_law 924 = .ok (.iload_n 3, 1) := by decide +kernel
theorem dL_law_925 : decode cL_law 925 = .ok (.iconst 1, 1) := by decide +kernel
theorem dL_law_926 : decode cL_law 926 = .ok (.iadd, 1) := by decide +kernel
theorem dL_law_927 : decode cL_law 927 = .ok (.iaload, 1) := by decide +kernel
theorem dL_law_928 : decode cL_law 928 = .ok (.invokevirtual 117, 3) := by decide +kernel
theorem dL_law_931 : decode cL_law 931 = .ok (.aload_n 2, 1) := by decide +kernel
theorem dL_law_932 : decode cL_law 932 = .ok (.aload_n 0, 1) := by decide +kernel
theorem dL_law_933 : decode cL_law 933 = .ok (.iload_n 3, 1) := by decide +kernel
theorem dL_law_934 : decode cL_law 934 = .ok (.iconst 1, 1) := by decide +kernel
theorem dL_law_935 : decode cL_law 935 = .ok (.iadd, 1) := by decide +kernel
theorem dL_law_936 : decode cL_law 936 = .ok (.iaload, 1) := by decide +kernel
theorem dL_law_937 : decode cL_law 937 = .ok (.invokevirtual 120, 3) := by decide +kernel
theorem dL_law_940 : decode cL_law 940 = .ok (.if_icmp .eq 601, 3) := by decide +kernel
theorem dL_law_943 : decode cL_law 943 = .ok (.iconst 0, 1) := by decide +kernel
theorem dL_law_944 : decode cL_law 944 = .ok (.ireturn, 1) := by decide +kernel
theorem dL_law_945 : decode cL_law 945 = .ok (.aload_n 1, 1) := by decide +kernel
theorem dL_law_946 : decode cL_law 946 = .ok (.aload_n 0, 1) := by decide +kernel
theorem dL_law_947 : decode cL_law 947 = .ok (.iload_n 3, 1) := by decide +kernel
theorem dL_law_948 : decode cL_law 948 = .ok (.iconst 1, 1) := by decide +kernel
theorem dL_law_949 : decode cL_law 949 = .ok (.iadd, 1) := by decide +kernel
theorem dL_law_950 : decode cL_law 950 = .ok (.iaload, 1) := by decide +kernel
theorem dL_law_951 : decode cL_law 951 = .ok (.aload_n 0, 1) := by decide +kernel
theorem dL_law_952 : decode cL_law 952 = .ok (.iload_n 3, 1) := by decide +kernel
theorem dL_law_953 : decode cL_law 953 = .ok (.iconst 2, 1) := by decide +kernel
theorem dL_law_954 : decode cL_law 954 = .ok (.iadd, 1) := by decide +kernel
theorem dL_law_955 : decode cL_law 955 = .ok (.iaload, 1) := by decide +kernel
theorem dL_law_956 : decode cL_law 956 = .ok (.invokevirtual 121, 3) := by decide +kernel
theorem dL_law_959 : decode cL_law 959 = .ok (.aload_n 2, 1) := by decide +kernel
theorem dL_law_960 : decode cL_law 960 = .ok (.aload_n 0, 1) := by decide +kernel
theorem dL_law_961 : decode cL_law 961 = .ok (.iload_n 3, 1) := by decide +kernel
theorem dL_law_962 : decode cL_law 962 = .ok (.iconst 1, 1) := by decide +kernel
theorem dL_law_963 : decode cL_law 963 = .ok (.iadd, 1) := by decide +kernel
theorem dL_law_964 : decode cL_law 964 = .ok (.iaload, 1) := by decide +kernel
theorem dL_law_965 : decode cL_law 965 = .ok (.aload_n 0, 1) := by decide +kernel
theorem dL_law_966 : decode cL_law 966 = .ok (.iload_n 3, 1) := by decide +kernel
theorem dL_law_967 : decode cL_law 967 = .ok (.iconst 2, 1) := by decide +kernel
theorem dL_law_968 : decode cL_law 968 = .ok (.iadd, 1) := by decide +kernel
theorem dL_law_969 : decode cL_law 969 = .ok (.iaload, 1) := by decide +kernel
theorem dL_law_970 : decode cL_law 970 = .ok (.invokevirtual 124, 3) := by decide +kernel
theorem dL_law_973 : decode cL_law 973 = .ok (.if_icmp .eq 568, 3) := by decide +kernel
theorem dL_law_976 : decode cL_law 976 = .ok (.iconst 0, 1) := by decide +kernel
theorem dL_law_977 : decode cL_law 977 = .ok (.ireturn, 1) := by decide +kernel
theorem dL_law_978 : decode cL_law 978 = .ok (.aload_n 1, 1) := by decide +kernel
theorem dL_law_979 : decode cL_law 979 = .ok (.aload_n 0, 1) := by decide +kernel
theorem dL_law_980 : decode cL_law 980 = .ok (.iload_n 3, 1) := by decide +kernel
theorem dL_law_981 : decode cL_law 981 = .ok (.iconst 1, 1) := by decide +kernel
theorem dL_law_982 : decode cL_law 982 = .ok (.iadd, 1) := by decide +kernel
theorem dL_law_983 : decode cL_law 983 = .ok (.iaload, 1) := by decide +kernel
theorem dL_law_984 : decode cL_law 984 = .ok (.aload_n 0, 1) := by decide +kernel
theorem dL_law_985 : decode cL_law 985 = .ok (.iload_n 3, 1) := by decide +kernel
theorem dL_law_986 : decode cL_law 986 = .ok (.iconst 2, 1) := by decide +kernel
theorem dL_law_987 : decode cL_law 987 = .ok (.iadd, 1) := by decide +kernel
theorem dL_law_988 : decode cL_law 988 = .ok (.iaload, 1) := by decide +kernel
theorem dL_law_989 : decode cL_law 989 = .ok (.aload_n 0, 1) := by decide +kernel
theorem dL_law_990 : decode cL_law 990 = .ok (.iload_n 3, 1) := by decide +kernel
theorem dL_law_991 : decode cL_law 991 = .ok (.iconst 3, 1) := by decide +kernel
theorem dL_law_992 : decode cL_law 992 = .ok (.iadd, 1) := by decide +kernel
theorem dL_law_993 : decode cL_law 993 = .ok (.iaload, 1) := by decide +kernel
theorem dL_law_994 : decode cL_law 994 = .ok (.invokevirtual 125, 3) := by decide +kernel
theorem dL_law_997 : decode cL_law 997 = .ok (.aload_n 2, 1) := by decide +kernel
theorem dL_law_998 : decode cL_law 998 = .ok (.aload_n 0, 1) := by decide +kernel
theorem dL_law_999 : decode cL_law 999 = .ok (.iload_n 3, 1) := by decide +kernel
theorem dL_law_1000 : decode cL_law 1000 = .ok (.iconst 1, 1) := by decide +kernel
theorem dL_law_1001 : decode cL_law 1001 = .ok (.iadd, 1) := by decide +kernel
theorem dL_law_1002 : decode cL_law 1002 = .ok (.iaload, 1) := by decide +kernel
theorem dL_law_1003 : decode cL_law 1003 = .ok (.aload_n 0, 1) := by decide +kernel
theorem dL_law_1004 : decode cL_law 1004 = .ok (.iload_n 3, 1) := by decide +kernel
theorem dL_law_1005 : decode cL_law 1005 = .ok (.iconst 2, 1) := by decide +kernel
theorem dL_law_1006 : decode cL_law 1006 = .ok (.iadd, 1) := by decide +kernel
theorem dL_law_1007 : decode cL_law 1007 = .ok (.iaload, 1) := by decide +kernel
theorem dL_law_1008 : decode cL_law 1008 = .ok (.aload_n 0, 1) := by decide +kernel
theorem dL_law_1009 : decode cL_law 1009 = .ok (.iload_n 3, 1) := by decide +kernel
theorem dL_law_1010 : decode cL_law 1010 = .ok (.iconst 3, 1) := by decide +kernel
theorem dL_law_1011 : decode cL_law 1011 = .ok (.iadd, 1) := by decide +kernel
theorem dL_law_1012 : decode cL_law 1012 = .ok (.iaload, 1) := by decide +kernel
theorem dL_law_1013 : decode cL_law 1013 = .ok (.invokevirtual 129, 3) := by decide +kernel
theorem dL_law_1016 : decode cL_law 1016 = .ok (.if_icmp .eq 525, 3) := by decide +kernel
theorem dL_law_1019 : decode cL_law 1019 = .ok (.iconst 0, 1) := by decide +kernel
theorem dL_law_1020 : decode cL_law 1020 = .ok (.ireturn, 1) := by decide +kernel
theorem dL_law_1021 : decode cL_law 1021 = .ok (.aload_n 1, 1) := by decide +kernel
theorem dL_law_1022 : decode cL_law 1022 = .ok (.aload_n 0, 1) := by decide +kernel
theorem dL_law_1023 : decode cL_law 1023 = .ok (.iload_n 3, 1) := by decide +kernel
theorem dL_law_1024 : decode cL_law 1024 = .ok (.iconst 1, 1) := by decide +kernel
theorem dL_law_1025 : decode cL_law 1025 = .ok (.iadd, 1) := by decide +kernel
theorem dL_law_1026 : decode cL_law 1026 = .ok (.iaload, 1) := by decide +kernel
theorem dL_law_1027 : decode cL_law 1027 = .ok (.aload_n 0, 1) := by decide +kernel
theorem dL_law_1028 : decode cL_law 1028 = .ok (.iload_n 3, 1) := by decide +kernel
theorem dL_law_1029 : decode cL_law 1029 = .ok (.iconst 2, 1) := by decide +kernel
theorem dL_law_1030 : decode cL_law 1030 = .ok (.iadd, 1) := by decide +kernel
theorem dL_law_1031 : decode cL_law 1031 = .ok (.iaload, 1) := by decide +kernel
theorem dL_law_1032 : decode cL_law 1032 = .ok (.aload_n 0, 1) := by decide +kernel
theorem dL_law_1033 : decode cL_law 1033 = .ok (.iload_n 3, 1) := by decide +kernel
theorem dL_law_1034 : decode cL_law 1034 = .ok (.iconst 3, 1) := by decide +kernel
theorem dL_law_1035 : decode cL_law 1035 = .ok (.iadd, 1) := by decide +kernel
theorem dL_law_1036 : decode cL_law 1036 = .ok (.iaload, 1) := by decide +kernel
theorem dL_law_1037 : decode cL_law 1037 = .ok (.invokevirtual 130, 3) := by decide +kernel
theorem dL_law_1040 : decode cL_law 1040 = .ok (.aload_n 2, 1) := by decide +kernel
theorem dL_law_1041 : decode cL_law 1041 = .ok (.aload_n 0, 1) := by decide +kernel
theorem dL_law_1042 : decode cL_law 1042 = .ok (.iload_n 3, 1) := by decide +kernel
theorem dL_law_1043 : decode cL_law 1043 = .ok (.iconst 1, 1) := by decide +kernel
theorem dL_law_1044 : decode cL_law 1044 = .ok (.iadd, 1) := by decide +kernel
theorem dL_law_1045 : decode cL_law 1045 = .ok (.iaload, 1) := by decide +kernel
theorem dL_law_1046 : decode cL_law 1046 = .ok (.aload_n 0, 1) := by decide +kernel
theorem dL_law_1047 : decode cL_law 1047 = .ok (.iload_n 3, 1) := by decide +kernel
theorem dL_law_1048 : decode cL_law 1048 = .ok (.iconst 2, 1) := by decide +kernel
theorem dL_law_1049 : decode cL_law 1049 = .ok (.iadd, 1) := by decide +kernel
theorem dL_law_1050 : decode cL_law 1050 = .ok (.iaload, 1) := by decide +kernel
theorem dL_law_1051 : decode cL_law 1051 = .ok (.aload_n 0, 1) := by decide +kernel
theorem dL_law_1052 : decode cL_law 1052 = .ok (.iload_n 3, 1) := by decide +kernel
theorem dL_law_1053 : decode cL_law 1053 = .ok (.iconst 3, 1) := by decide +kernel
theorem dL_law_1054 : decode cL_law 1054 = .ok (.iadd, 1) := by decide +kernel
theorem dL_law_1055 : decode cL_law 1055 = .ok (.iaload, 1) := by decide +kernel
theorem dL_law_1056 : decode cL_law 1056 = .ok (.invokevirtual 133, 3) := by decide +kernel
theorem dL_law_1059 : decode cL_law 1059 = .ok (.if_icmp .eq 482, 3) := by decide +kernel
theorem dL_law_1062 : decode cL_law 1062 = .ok (.iconst 0, 1) := by decide +kernel
theorem dL_law_1063 : decode cL_law 1063 = .ok (.ireturn, 1) := by decide +kernel
theorem dL_law_1064 : decode cL_law 1064 = .ok (.aload_n 1, 1) := by decide +kernel
theorem dL_law_1065 : decode cL_law 1065 = .ok (.aload_n 0, 1) := by decide +kernel
theorem dL_law_1066 : decode cL_law 1066 = .ok (.iload_n 3, 1) := by decide +kernel
theorem dL_law_1067 : decode cL_law 1067 = .ok (.iconst 1, 1) := by decide +kernel
theorem dL_law_1068 : decode cL_law 1068 = .ok (.iadd, 1) := by decide +kernel
theorem dL_law_1069 : decode cL_law 1069 = .ok (.iaload, 1) := by decide +kernel
theorem dL_law_1070 : decode cL_law 1070 = .ok (.aload_n 0, 1) := by decide +kernel
theorem dL_law_1071 : decode cL_law 1071 = .ok (.iload_n 3, 1) := by decide +kernel
theorem dL_law_1072 : decode cL_law 1072 = .ok (.iconst 2, 1) := by decide +kernel
theorem dL_law_1073 : decode cL_law 1073 = .ok (.iadd, 1) := by decide +kernel
theorem dL_law_1074 : decode cL_law 1074 = .ok (.iaload, 1) := by decide +kernel
theorem dL_law_1075 : decode cL_law 1075 = .ok (.invokevirtual 134, 3) := by decide +kernel
theorem dL_law_1078 : decode cL_law 1078 = .ok (.aload_n 2, 1) := by decide +kernel
theorem dL_law_1079 : decode cL_law 1079 = .ok (.aload_n 0, 1) := by decide +kernel
theorem dL_law_1080 : decode cL_law 1080 = .ok (.iload_n 3, 1) := by decide +kernel
theorem dL_law_1081 : decode cL_law 1081 = .ok (.iconst 1, 1) := by decide +kernel
theorem dL_law_1082 : decode cL_law 1082 = .ok (.iadd, 1) := by decide +kernel
theorem dL_law_1083 : decode cL_law 1083 = .ok (.iaload, 1) := by decide +kernel
theorem dL_law_1084 : decode cL_law 1084 = .ok (.aload_n 0, 1) := by decide +kernel
theorem dL_law_1085 : decode cL_law 1085 = .ok (.iload_n 3, 1) := by decide +kernel
theorem dL_law_1086 : decode cL_law 1086 = .ok (.iconst 2, 1) := by decide +kernel
theorem dL_law_1087 : decode cL_law 1087 = .ok (.iadd, 1) := by decide +kernel
theorem dL_law_1088 : decode cL_law 1088 = .ok (.iaload, 1) := by decide +kernel
theorem dL_law_1089 : decode cL_law 1089 = .ok (.invokevirtual 137, 3) := by decide +kernel
theorem dL_law_1092 : decode cL_law 1092 = .ok (.if_icmp .eq 449, 3) := by decide +kernel
theorem dL_law_1095 : decode cL_law 1095 = .ok (.iconst 0, 1) := by decide +kernel
theorem dL_law_1096 : decode cL_law 1096 = .ok (.ireturn, 1) := by decide +kernel
theorem dL_law_1097 : decode cL_law 1097 = .ok (.aload_n 1, 1) := by decide +kernel
theorem dL_law_1098 : decode cL_law 1098 = .ok (.aload_n 0, 1) := by decide +kernel
theorem dL_law_1099 : decode cL_law 1099 = .ok (.iload_n 3, 1) := by decide +kernel
theorem dL_law_1100 : decode cL_law 1100 = .ok (.iconst 1, 1) := by decide +kernel
theorem dL_law_1101 : decode cL_law 1101 = .ok (.iadd, 1) := by decide +kernel
theorem dL_law_1102 : decode cL_law 1102 = .ok (.iaload, 1) := by decide +kernel
theorem dL_law_1103 : decode cL_law 1103 = .ok (.invokevirtual 138, 3) := by decide +kernel
theorem dL_law_1106 : decode cL_law 1106 = .ok (.aload_n 2, 1) := by decide +kernel
theorem dL_law_1107 : decode cL_law 1107 = .ok (.aload_n 0, 1) := by decide +kernel
theorem dL_law_1108 : decode cL_law 1108 = .ok (.iload_n 3, 1) := by decide +kernel
theorem dL_law_1109 : decode cL_law 1109 = .ok (.iconst 1, 1) := by decide +kernel
theorem dL_law_1110 : decode cL_law 1110 = .ok (.iadd, 1) := by decide +kernel
theorem dL_law_1111 : decode cL_law 1111 = .ok (.iaload, 1) := by decide +kernel
theorem dL_law_1112 : decode cL_law 1112 = .ok (.invokevirtual 141, 3) := by decide +kernel
theorem dL_law_1115 : decode cL_law 1115 = .ok (.if_icmp .eq 426, 3) := by decide +kernel
theorem dL_law_1118 : decode cL_law 1118 = .ok (.iconst 0, 1) := by decide +kernel
theorem dL_law_1119 : decode cL_law 1119 = .ok (.ireturn, 1) := by decide +kernel
theorem dL_law_1120 : decode cL_law 1120 = .ok (.aload_n 1, 1) := by decide +kernel
theorem dL_law_1121 : decode cL_law 1121 = .ok (.aload_n 0, 1) := by decide +kernel
theorem dL_law_1122 : decode cL_law 1122 = .ok (.iload_n 3, 1) := by decide +kernel
theorem dL_law_1123 : decode cL_law 1123 = .ok (.iconst 1, 1) := by decide +kernel
theorem dL_law_1124 : decode cL_law 1124 = .ok (.iadd, 1) := by decide +kernel
theorem dL_law_1125 : decode cL_law 1125 = .ok (.iaload, 1) := by decide +kernel
theorem dL_law_1126 : decode cL_law 1126 = .ok (.invokevirtual 142, 3) := by decide +kernel
theorem dL_law_1129 : decode cL_law 1129 = .ok (.aload_n 2, 1) := by decide +kernel
theorem dL_law_1130 : decode cL_law 1130 = .ok (.aload_n 0, 1) := by decide +kernel
theorem dL_law_1131 : decode cL_law 1131 = .ok (.iload_n 3, 1) := by decide +kernel
theorem dL_law_1132 : decode cL_law 1132 = .ok (.iconst 1, 1) := by decide +kernel
theorem dL_law_1133 : decode cL_law 1133 = .ok (.iadd, 1) := by decide +kernel
theorem dL_law_1134 : decode cL_law 1134 = .ok (.iaload, 1) := by decide +kernel
theorem dL_law_1135 : decode cL_law 1135 = .ok (.invokevirtual 145, 3) := by decide +kernel
theorem dL_law_1138 : decode cL_law 1138 = .ok (.if_icmp .eq 403, 3) := by decide +kernel
theorem dL_law_1141 : decode cL_law 1141 = .ok (.iconst 0, 1) := by decide +kernel
theorem dL_law_1142 : decode cL_law 1142 = .ok (.ireturn, 1) := by decide +kernel
theorem dL_law_1143 : decode cL_law 1143 = .ok (.aload_n 1, 1) := by decide +kernel
theorem dL_law_1144 : decode cL_law 1144 = .ok (.aload_n 0, 1) := by decide +kernel
theorem dL_law_1145 : decode cL_law 1145 = .ok (.iload_n 3, 1) := by decide +kernel
theorem dL_law_1146 : decode cL_law 1146 = .ok (.iconst 1, 1) := by decide +kernel
theorem dL_law_1147 : decode cL_law 1147 = .ok (.iadd, 1) := by decide +kernel
theorem dL_law_1148 : decode cL_law 1148 = .ok (.iaload, 1) := by decide +kernel
theorem dL_law_1149 : decode cL_law 1149 = .ok (.aload_n 0, 1) := by decide +kernel
theorem dL_law_1150 : decode cL_law 1150 = .ok (.iload_n 3, 1) := by decide +kernel
theorem dL_law_1151 : decode cL_law 1151 = .ok (.iconst 2, 1) := by decide +kernel
theorem dL_law_1152 : decode cL_law 1152 = .ok (.iadd, 1) := by decide +kernel
theorem dL_law_1153 : decode cL_law 1153 = .ok (.iaload, 1) := by decide +kernel
theorem dL_law_1154 : decode cL_law 1154 = .ok (.ifCond .eq 7, 3) := by decide +kernel
theorem dL_law_1157 : decode cL_law 1157 = .ok (.iconst 1, 1) := by decide +kernel
theorem dL_law_1158 : decode cL_law 1158 = .ok (.goto 4, 3) := by decide +kernel
theorem dL_law_1161 : decode cL_law 1161 = .ok (.iconst 0, 1) := by decide +kernel
theorem dL_law_1162 : decode cL_law 1162 = .ok (.aload_n 0, 1) := by decide +kernel
theorem dL_law_1163 : decode cL_law 1163 = .ok (.iload_n 3, 1) := by decide +kernel
theorem dL_law_1164 : decode cL_law 1164 = .ok (.iconst 3, 1) := by decide +kernel
theorem dL_law_1165 : decode cL_law 1165 = .ok (.iadd, 1) := by decide +kernel
theorem dL_law_1166 : decode cL_law 1166 = .ok (.iaload, 1) := by decide +kernel
theorem dL_law_1167 : decode cL_law 1167 = .ok (.invokevirtual 146, 3) := by decide +kernel
theorem dL_law_1170 : decode cL_law 1170 = .ok (.aload_n 2, 1) := by decide +kernel
theorem dL_law_1171 : decode cL_law 1171 = .ok (.aload_n 0, 1) := by decide +kernel
theorem dL_law_1172 : decode cL_law 1172 = .ok (.iload_n 3, 1) := by decide +kernel
theorem dL_law_1173 : decode cL_law 1173 = .ok (.iconst 1, 1) := by decide +kernel
theorem dL_law_1174 : decode cL_law 1174 = .ok (.iadd, 1) := by decide +kernel
theorem dL_law_1175 : decode cL_law 1175 = .ok (.iaload, 1) := by decide +kernel
theorem dL_law_1176 : decode cL_law 1176 = .ok (.aload_n 0, 1) := by decide +kernel
theorem dL_law_1177 : decode cL_law 1177 = .ok (.iload_n 3, 1) := by decide +kernel
theorem dL_law_1178 : decode cL_law 1178 = .ok (.iconst 2, 1) := by decide +kernel
theorem dL_law_1179 : decode cL_law 1179 = .ok (.iadd, 1) := by decide +kernel
theorem dL_law_1180 : decode cL_law 1180 = .ok (.iaload, 1) := by decide +kernel
theorem dL_law_1181 : decode cL_law 1181 = .ok (.ifCond .eq 7, 3) := by decide +kernel
theorem dL_law_1184 : decode cL_law 1184 = .ok (.iconst 1, 1) := by decide +kernel
theorem dL_law_1185 : decode cL_law 1185 = .ok (.goto 4, 3) := by decide +kernel
theorem dL_law_1188 : decode cL_law 1188 = .ok (.iconst 0, 1) := by decide +kernel
theorem dL_law_1189 : decode cL_law 1189 = .ok (.aload_n 0, 1) := by decide +kernel
theorem dL_law_1190 : decode cL_law 1190 = .ok (.iload_n 3, 1) := by decide +kernel
theorem dL_law_1191 : decode cL_law 1191 = .ok (.iconst 3, 1) := by decide +kernel
theorem dL_law_1192 : decode cL_law 1192 = .ok (.iadd, 1) := by decide +kernel
theorem dL_law_1193 : decode cL_law 1193 = .ok (.iaload, 1) := by decide +kernel
theorem dL_law_1194 : decode cL_law 1194 = .ok (.invokevirtual 150, 3) := by decide +kernel
theorem dL_law_1197 : decode cL_law 1197 = .ok (.if_icmp .eq 344, 3) := by decide +kernel
theorem dL_law_1200 : decode cL_law 1200 = .ok (.iconst 0, 1) := by decide +kernel
theorem dL_law_1201 : decode cL_law 1201 = .ok (.ireturn, 1) := by decide +kernel
theorem dL_law_1202 : decode cL_law 1202 = .ok (.aload_n 1, 1) := by decide +kernel
theorem dL_law_1203 : decode cL_law 1203 = .ok (.aload_n 0, 1) := by decide +kernel
theorem dL_law_1204 : decode cL_law 1204 = .ok (.iload_n 3, 1) := by decide +kernel
theorem dL_law_1205 : decode cL_law 1205 = .ok (.iconst 1, 1) := by decide +kernel
theorem dL_law_1206 : decode cL_law 1206 = .ok (.iadd, 1) := by decide +kernel
theorem dL_law_1207 : decode cL_law 1207 = .ok (.iaload, 1) := by decide +kernel
theorem dL_law_1208 : decode cL_law 1208 = .ok (.invokevirtual 151, 3) := by decide +kernel
theorem dL_law_1211 : decode cL_law 1211 = .ok (.aload_n 2, 1) := by decide +kernel
theorem dL_law_1212 : decode cL_law 1212 = .ok (.aload_n 0, 1) := by decide +kernel
theorem dL_law_1213 : decode cL_law 1213 = .ok (.iload_n 3, 1) := by decide +kernel
theorem dL_law_1214 : decode cL_law 1214 = .ok (.iconst 1, 1) := by decide +kernel
theorem dL_law_1215 : decode cL_law 1215 = .ok (.iadd, 1) := by decide +kernel
theorem dL_law_1216 : decode cL_law 1216 = .ok (.iaload, 1) := by decide +kernel
theorem dL_law_1217 : decode cL_law 1217 = .ok (.invokevirtual 154, 3) := by decide +kernel
theorem dL_law_1220 : decode cL_law 1220 = .ok (.if_icmp .eq 321, 3) := by decide +kernel
theorem dL_law_1223 : decode cL_law 1223 = .ok (.iconst 0, 1) := by decide +kernel
theorem dL_law_1224 : decode cL_law 1224 = .ok (.ireturn, 1) := by decide +kernel
theorem dL_law_1225 : decode cL_law 1225 = .ok (.aload_n 1, 1) := by decide +kernel
theorem dL_law_1226 : decode cL_law 1226 = .ok (.aload_n 0, 1) := by decide +kernel
theorem dL_law_1227 : decode cL_law 1227 = .ok (.iload_n 3, 1) := by decide +kernel
theorem dL_law_1228 : decode cL_law 1228 = .ok (.iconst 1, 1) := by decide +kernel
theorem dL_law_1229 : decode cL_law 1229 = .ok (.iadd, 1) := by decide +kernel
theorem dL_law_1230 : decode cL_law 1230 = .ok (.iaload, 1) := by decide +kernel
theorem dL_law_1231 : decode cL_law 1231 = .ok (.ifCond .eq 7, 3) := by decide +kernel
theorem dL_law_1234 : decode cL_law 1234 = .ok (.iconst 1, 1) := by decide +kernel
theorem dL_law_1235 : decode cL_law 1235 = .ok (.goto 4, 3) := by decide +kernel
theorem dL_law_1238 : decode cL_law 1238 = .ok (.iconst 0, 1) := by decide +kernel
theorem dL_law_1239 : decode cL_law 1239 = .ok (.invokevirtual 155, 3) := by decide +kernel
theorem dL_law_1242 : decode cL_law 1242 = .ok (.aload_n 2, 1) := by decide +kernel
theorem dL_law_1243 : decode cL_law 1243 = .ok (.aload_n 0, 1) := by decide +kernel
theorem dL_law_1244 : decode cL_law 1244 = .ok (.iload_n 3, 1) := by decide +kernel
theorem dL_law_1245 : decode cL_law 1245 = .ok (.iconst 1, 1) := by decide +kernel
theorem dL_law_1246 : decode cL_law 1246 = .ok (.iadd, 1) := by decide +kernel
theorem dL_law_1247 : decode cL_law 1247 = .ok (.iaload, 1) := by decide +kernel
theorem dL_law_1248 : decode cL_law 1248 = .ok (.ifCond .eq 7, 3) := by decide +kernel
theorem dL_law_1251 : decode cL_law 1251 = .ok (.iconst 1, 1) := by decide +kernel
theorem dL_law_1252 : decode cL_law 1252 = .ok (.goto 4, 3) := by decide +kernel
theorem dL_law_1255 : decode cL_law 1255 = .ok (.iconst 0, 1) := by decide +kernel
theorem dL_law_1256 : decode cL_law 1256 = .ok (.invokevirtual 158, 3) := by decide +kernel
theorem dL_law_1259 : decode cL_law 1259 = .ok (.if_icmp .eq 282, 3) := by decide +kernel
theorem dL_law_1262 : decode cL_law 1262 = .ok (.iconst 0, 1) := by decide +kernel
theorem dL_law_1263 : decode cL_law 1263 = .ok (.ireturn, 1) := by decide +kernel
theorem dL_law_1264 : decode cL_law 1264 = .ok (.aload_n 1, 1) := by decide +kernel
theorem dL_law_1265 : decode cL_law 1265 = .ok (.aload_n 0, 1) := by decide +kernel
theorem dL_law_1266 : decode cL_law 1266 = .ok (.iload_n 3, 1) := by decide +kernel
theorem dL_law_1267 : decode cL_law 1267 = .ok (.iconst 1, 1) := by decide +kernel
theorem dL_law_1268 : decode cL_law 1268 = .ok (.iadd, 1) := by decide +kernel
theorem dL_law_1269 : decode cL_law 1269 = .ok (.iaload, 1) := by decide +kernel
theorem dL_law_1270 : decode cL_law 1270 = .ok (.aload_n 0, 1) := by decide +kernel
theorem dL_law_1271 : decode cL_law 1271 = .ok (.iload_n 3, 1) := by decide +kernel
theorem dL_law_1272 : decode cL_law 1272 = .ok (.iconst 2, 1) := by decide +kernel
theorem dL_law_1273 : decode cL_law 1273 = .ok (.iadd, 1) := by decide +kernel
theorem dL_law_1274 : decode cL_law 1274 = .ok (.iaload, 1) := by decide +kernel
theorem dL_law_1275 : decode cL_law 1275 = .ok (.aload_n 0, 1) := by decide +kernel
theorem dL_law_1276 : decode cL_law 1276 = .ok (.iload_n 3, 1) := by decide +kernel
theorem dL_law_1277 : decode cL_law 1277 = .ok (.iconst 3, 1) := by decide +kernel
theorem dL_law_1278 : decode cL_law 1278 = .ok (.iadd, 1) := by decide +kernel
theorem dL_law_1279 : decode cL_law 1279 = .ok (.iaload, 1) := by decide +kernel
theorem dL_law_1280 : decode cL_law 1280 = .ok (.aload_n 0, 1) := by decide +kernel
theorem dL_law_1281 : decode cL_law 1281 = .ok (.iload_n 3, 1) := by decide +kernel
theorem dL_law_1282 : decode cL_law 1282 = .ok (.iconst 4, 1) := by decide +kernel
theorem dL_law_1283 : decode cL_law 1283 = .ok (.iadd, 1) := by decide +kernel
theorem dL_law_1284 : decode cL_law 1284 = .ok (.iaload, 1) := by decide +kernel
theorem dL_law_1285 : decode cL_law 1285 = .ok (.aload_n 0, 1) := by decide +kernel
theorem dL_law_1286 : decode cL_law 1286 = .ok (.iload_n 3, 1) := by decide +kernel
theorem dL_law_1287 : decode cL_law 1287 = .ok (.iconst 5, 1) := by decide +kernel
theorem dL_law_1288 : decode cL_law 1288 = .ok (.iadd, 1) := by decide +kernel
theorem dL_law_1289 : decode cL_law 1289 = .ok (.iaload, 1) := by decide +kernel
theorem dL_law_1290 : decode cL_law 1290 = .ok (.ifCond .eq 7, 3) := by decide +kernel
theorem dL_law_1293 : decode cL_law 1293 = .ok (.iconst 1, 1) := by decide +kernel
theorem dL_law_1294 : decode cL_law 1294 = .ok (.goto 4, 3) := by decide +kernel
theorem dL_law_1297 : decode cL_law 1297 = .ok (.iconst 0, 1) := by decide +kernel
theorem dL_law_1298 : decode cL_law 1298 = .ok (.invokevirtual 159, 3) := by decide +kernel
theorem dL_law_1301 : decode cL_law 1301 = .ok (.aload_n 2, 1) := by decide +kernel
theorem dL_law_1302 : decode cL_law 1302 = .ok (.aload_n 0, 1) := by decide +kernel
theorem dL_law_1303 : decode cL_law 1303 = .ok (.iload_n 3, 1) := by decide +kernel
theorem dL_law_1304 : decode cL_law 1304 = .ok (.iconst 1, 1) := by decide +kernel
theorem dL_law_1305 : decode cL_law 1305 = .ok (.iadd, 1) := by decide +kernel
theorem dL_law_1306 : decode cL_law 1306 = .ok (.iaload, 1) := by decide +kernel
theorem dL_law_1307 : decode cL_law 1307 = .ok (.aload_n 0, 1) := by decide +kernel
theorem dL_law_1308 : decode cL_law 1308 = .ok (.iload_n 3, 1) := by decide +kernel
theorem dL_law_1309 : decode cL_law 1309 = .ok (.iconst 2, 1) := by decide +kernel
theorem dL_law_1310 : decode cL_law 1310 = .ok (.iadd, 1) := by decide +kernel
theorem dL_law_1311 : decode cL_law 1311 = .ok (.iaload, 1) := by decide +kernel
theorem dL_law_1312 : decode cL_law 1312 = .ok (.aload_n 0, 1) := by decide +kernel
theorem dL_law_1313 : decode cL_law 1313 = .ok (.iload_n 3, 1) := by decide +kernel
theorem dL_law_1314 : decode cL_law 1314 = .ok (.iconst 3, 1) := by decide +kernel
theorem dL_law_1315 : decode cL_law 1315 = .ok (.iadd, 1) := by decide +kernel
theorem dL_law_1316 : decode cL_law 1316 = .ok (.iaload, 1) := by decide +kernel
theorem dL_law_1317 : decode cL_law 1317 = .ok (.aload_n 0, 1) := by decide +kernel
theorem dL_law_1318 : decode cL_law 1318 = .ok (.iload_n 3, 1) := by decide +kernel
theorem dL_law_1319 : decode cL_law 1319 = .ok (.iconst 4, 1) := by decide +kernel
theorem dL_law_1320 : decode cL_law 1320 = .ok (.iadd, 1) := by decide +kernel
theorem dL_law_1321 : decode cL_law 1321 = .ok (.iaload, 1) := by decide +kernel
theorem dL_law_1322 : decode cL_law 1322 = .ok (.aload_n 0, 1) := by decide +kernel
theorem dL_law_1323 : decode cL_law 1323 = .ok (.iload_n 3, 1) := by decide +kernel
theorem dL_law_1324 : decode cL_law 1324 = .ok (.iconst 5, 1) := by decide +kernel
theorem dL_law_1325 : decode cL_law 1325 = .ok (.iadd, 1) := by decide +kernel
theorem dL_law_1326 : decode cL_law 1326 = .ok (.iaload, 1) := by decide +kernel
theorem dL_law_1327 : decode cL_law 1327 = .ok (.ifCond .eq 7, 3) := by decide +kernel
theorem dL_law_1330 : decode cL_law 1330 = .ok (.iconst 1, 1) := by decide +kernel
theorem dL_law_1331 : decode cL_law 1331 = .ok (.goto 4, 3) := by decide +kernel
theorem dL_law_1334 : decode cL_law 1334 = .ok (.iconst 0, 1) := by decide +kernel
theorem dL_law_1335 : decode cL_law 1335 = .ok (.invokevirtual 163, 3) := by decide +kernel
theorem dL_law_1338 : decode cL_law 1338 = .ok (.lcmp, 1) := by decide +kernel
theorem dL_law_1339 : decode cL_law 1339 = .ok (.ifCond .eq 202, 3) := by decide +kernel
theorem dL_law_1342 : decode cL_law 1342 = .ok (.iconst 0, 1) := by decide +kernel
theorem dL_law_1343 : decode cL_law 1343 = .ok (.ireturn, 1) := by decide +kernel
theorem dL_law_1344 : decode cL_law 1344 = .ok (.aload_n 1, 1) := by decide +kernel
theorem dL_law_1345 : decode cL_law 1345 = .ok (.aload_n 0, 1) := by decide +kernel
theorem dL_law_1346 : decode cL_law 1346 = .ok (.iload_n 3, 1) := by decide +kernel
theorem dL_law_1347 : decode cL_law 1347 = .ok (.iconst 1, 1) := by decide +kernel
theorem dL_law_1348 : decode cL_law 1348 = .ok (.iadd, 1) := by decide +kernel
theorem dL_law_1349 : decode cL_law 1349 = .ok (.iaload, 1) := by decide +kernel
theorem dL_law_1350 : decode cL_law 1350 = .ok (.aload_n 0, 1) := by decide +kernel
theorem dL_law_1351 : decode cL_law 1351 = .ok (.iload_n 3, 1) := by decide +kernel
theorem dL_law_1352 : decode cL_law 1352 = .ok (.iconst 2, 1) := by decide +kernel
theorem dL_law_1353 : decode cL_law 1353 = .ok (.iadd, 1) := by decide +kernel
theorem dL_law_1354 : decode cL_law 1354 = .ok (.iaload, 1) := by decide +kernel
theorem dL_law_1355 : decode cL_law 1355 = .ok (.invokevirtual 164, 3) := by decide +kernel
theorem dL_law_1358 : decode cL_law 1358 = .ok (.aload_n 2, 1) := by decide +kernel
theorem dL_law_1359 : decode cL_law 1359 = .ok (.aload_n 0, 1) := by decide +kernel
theorem dL_law_1360 : decode cL_law 1360 = .ok (.iload_n 3, 1) := by decide +kernel
theorem dL_law_1361 : decode cL_law 1361 = .ok (.iconst 1, 1) := by decide +kernel
theorem dL_law_1362 : decode cL_law 1362 = .ok (.iadd, 1) := by decide +kernel
theorem dL_law_1363 : decode cL_law 1363 = .ok (.iaload, 1) := by decide +kernel
theorem dL_law_1364 : decode cL_law 1364 = .ok (.aload_n 0, 1) := by decide +kernel
theorem dL_law_1365 : decode cL_law 1365 = .ok (.iload_n 3, 1) := by decide +kernel
theorem dL_law_1366 : decode cL_law 1366 = .ok (.iconst 2, 1) := by decide +kernel
theorem dL_law_1367 : decode cL_law 1367 = .ok (.iadd, 1) := by decide +kernel
theorem dL_law_1368 : decode cL_law 1368 = .ok (.iaload, 1) := by decide +kernel
theorem dL_law_1369 : decode cL_law 1369 = .ok (.invokevirtual 167, 3) := by decide +kernel
theorem dL_law_1372 : decode cL_law 1372 = .ok (.if_icmp .eq 169, 3) := by decide +kernel
theorem dL_law_1375 : decode cL_law 1375 = .ok (.iconst 0, 1) := by decide +kernel
theorem dL_law_1376 : decode cL_law 1376 = .ok (.ireturn, 1) := by decide +kernel
theorem dL_law_1377 : decode cL_law 1377 = .ok (.aload_n 1, 1) := by decide +kernel
theorem dL_law_1378 : decode cL_law 1378 = .ok (.invokevirtual 168, 3) := by decide +kernel
theorem dL_law_1381 : decode cL_law 1381 = .ok (.aload_n 2, 1) := by decide +kernel
theorem dL_law_1382 : decode cL_law 1382 = .ok (.invokevirtual 171, 3) := by decide +kernel
theorem dL_law_1385 : decode cL_law 1385 = .ok (.if_icmp .eq 156, 3) := by decide +kernel
theorem dL_law_1388 : decode cL_law 1388 = .ok (.iconst 0, 1) := by decide +kernel
theorem dL_law_1389 : decode cL_law 1389 = .ok (.ireturn, 1) := by decide +kernel
theorem dL_law_1390 : decode cL_law 1390 = .ok (.aload_n 1, 1) := by decide +kernel
theorem dL_law_1391 : decode cL_law 1391 = .ok (.aload_n 0, 1) := by decide +kernel
theorem dL_law_1392 : decode cL_law 1392 = .ok (.iload_n 3, 1) := by decide +kernel
theorem dL_law_1393 : decode cL_law 1393 = .ok (.iconst 1, 1) := by decide +kernel
theorem dL_law_1394 : decode cL_law 1394 = .ok (.iadd, 1) := by decide +kernel
theorem dL_law_1395 : decode cL_law 1395 = .ok (.iaload, 1) := by decide +kernel
theorem dL_law_1396 : decode cL_law 1396 = .ok (.aload_n 0, 1) := by decide +kernel
theorem dL_law_1397 : decode cL_law 1397 = .ok (.iload_n 3, 1) := by decide +kernel
theorem dL_law_1398 : decode cL_law 1398 = .ok (.iconst 2, 1) := by decide +kernel
theorem dL_law_1399 : decode cL_law 1399 = .ok (.iadd, 1) := by decide +kernel
theorem dL_law_1400 : decode cL_law 1400 = .ok (.iaload, 1) := by decide +kernel
theorem dL_law_1401 : decode cL_law 1401 = .ok (.invokevirtual 172, 3) := by decide +kernel
theorem dL_law_1404 : decode cL_law 1404 = .ok (.aload_n 2, 1) := by decide +kernel
theorem dL_law_1405 : decode cL_law 1405 = .ok (.aload_n 0, 1) := by decide +kernel
theorem dL_law_1406 : decode cL_law 1406 = .ok (.iload_n 3, 1) := by decide +kernel
theorem dL_law_1407 : decode cL_law 1407 = .ok (.iconst 1, 1) := by decide +kernel
theorem dL_law_1408 : decode cL_law 1408 = .ok (.iadd, 1) := by decide +kernel
theorem dL_law_1409 : decode cL_law 1409 = .ok (.iaload, 1) := by decide +kernel
theorem dL_law_1410 : decode cL_law 1410 = .ok (.aload_n 0, 1) := by decide +kernel
theorem dL_law_1411 : decode cL_law 1411 = .ok (.iload_n 3, 1) := by decide +kernel
theorem dL_law_1412 : decode cL_law 1412 = .ok (.iconst 2, 1) := by decide +kernel
theorem dL_law_1413 : decode cL_law 1413 = .ok (.iadd, 1) := by decide +kernel
theorem dL_law_1414 : decode cL_law 1414 = .ok (.iaload, 1) := by decide +kernel
theorem dL_law_1415 : decode cL_law 1415 = .ok (.invokevirtual 175, 3) := by decide +kernel
theorem dL_law_1418 : decode cL_law 1418 = .ok (.if_icmp .eq 123, 3) := by decide +kernel
theorem dL_law_1421 : decode cL_law 1421 = .ok (.iconst 0, 1) := by decide +kernel
theorem dL_law_1422 : decode cL_law 1422 = .ok (.ireturn, 1) := by decide +kernel
theorem dL_law_1423 : decode cL_law 1423 = .ok (.aload_n 1, 1) := by decide +kernel
theorem dL_law_1424 : decode cL_law 1424 = .ok (.aload_n 0, 1) := by decide +kernel
theorem dL_law_1425 : decode cL_law 1425 = .ok (.iload_n 3, 1) := by decide +kernel
theorem dL_law_1426 : decode cL_law 1426 = .ok (.iconst 1, 1) := by decide +kernel
theorem dL_law_1427 : decode cL_law 1427 = .ok (.iadd, 1) := by decide +kernel
theorem dL_law_1428 : decode cL_law 1428 = .ok (.iaload, 1) := by decide +kernel
theorem dL_law_1429 : decode cL_law 1429 = .ok (.invokevirtual 176, 3) := by decide +kernel
theorem dL_law_1432 : decode cL_law 1432 = .ok (.aload_n 2, 1) := by decide +kernel
theorem dL_law_1433 : decode cL_law 1433 = .ok (.aload_n 0, 1) := by decide +kernel
theorem dL_law_1434 : decode cL_law 1434 = .ok (.iload_n 3, 1) := by decide +kernel
theorem dL_law_1435 : decode cL_law 1435 = .ok (.iconst 1, 1) := by decide +kernel
theorem dL_law_1436 : decode cL_law 1436 = .ok (.iadd, 1) := by decide +kernel
theorem dL_law_1437 : decode cL_law 1437 = .ok (.iaload, 1) := by decide +kernel
theorem dL_law_1438 : decode cL_law 1438 = .ok (.invokevirtual 179, 3) := by decide +kernel
theorem dL_law_1441 : decode cL_law 1441 = .ok (.if_icmp .eq 100, 3) := by decide +kernel
theorem dL_law_1444 : decode cL_law 1444 = .ok (.iconst 0, 1) := by decide +kernel
theorem dL_law_1445 : decode cL_law 1445 = .ok (.ireturn, 1) := by decide +kernel
theorem dL_law_1446 : decode cL_law 1446 = .ok (.aload_n 1, 1) := by decide +kernel
theorem dL_law_1447 : decode cL_law 1447 = .ok (.invokevirtual 180, 3) := by decide +kernel
theorem dL_law_1450 : decode cL_law 1450 = .ok (.aload_n 2, 1) := by decide +kernel
theorem dL_law_1451 : decode cL_law 1451 = .ok (.invokevirtual 183, 3) := by decide +kernel
theorem dL_law_1454 : decode cL_law 1454 = .ok (.if_icmp .eq 87, 3) := by decide +kernel
theorem dL_law_1457 : decode cL_law 1457 = .ok (.iconst 0, 1) := by decide +kernel
theorem dL_law_1458 : decode cL_law 1458 = .ok (.ireturn, 1) := by decide +kernel
theorem dL_law_1459 : decode cL_law 1459 = .ok (.aload_n 1, 1) := by decide +kernel
theorem dL_law_1460 : decode cL_law 1460 = .ok (.aload_n 0, 1) := by decide +kernel
theorem dL_law_1461 : decode cL_law 1461 = .ok (.iload_n 3, 1) := by decide +kernel
theorem dL_law_1462 : decode cL_law 1462 = .ok (.iconst 1, 1) := by decide +kernel
theorem dL_law_1463 : decode cL_law 1463 = .ok (.iadd, 1) := by decide +kernel
theorem dL_law_1464 : decode cL_law 1464 = .ok (.iaload, 1) := by decide +kernel
theorem dL_law_1465 : decode cL_law 1465 = .ok (.aload_n 0, 1) := by decide +kernel
theorem dL_law_1466 : decode cL_law 1466 = .ok (.iload_n 3, 1) := by decide +kernel
theorem dL_law_1467 : decode cL_law 1467 = .ok (.iconst 2, 1) := by decide +kernel
theorem dL_law_1468 : decode cL_law 1468 = .ok (.iadd, 1) := by decide +kernel
theorem dL_law_1469 : decode cL_law 1469 = .ok (.iaload, 1) := by decide +kernel
theorem dL_law_1470 : decode cL_law 1470 = .ok (.invokevirtual 184, 3) := by decide +kernel
theorem dL_law_1473 : decode cL_law 1473 = .ok (.aload_n 2, 1) := by decide +kernel
theorem dL_law_1474 : decode cL_law 1474 = .ok (.aload_n 0, 1) := by decide +kernel
theorem dL_law_1475 : decode cL_law 1475 = .ok (.iload_n 3, 1) := by decide +kernel
theorem dL_law_1476 : decode cL_law 1476 = .ok (.iconst 1, 1) := by decide +kernel
theorem dL_law_1477 : decode cL_law 1477 = .ok (.iadd, 1) := by decide +kernel
theorem dL_law_1478 : decode cL_law 1478 = .ok (.iaload, 1) := by decide +kernel
theorem dL_law_1479 : decode cL_law 1479 = .ok (.aload_n 0, 1) := by decide +kernel
theorem dL_law_1480 : decode cL_law 1480 = .ok (.iload_n 3, 1) := by decide +kernel
theorem dL_law_1481 : decode cL_law 1481 = .ok (.iconst 2, 1) := by decide +kernel
theorem dL_law_1482 : decode cL_law 1482 = .ok (.iadd, 1) := by decide +kernel
theorem dL_law_1483 : decode cL_law 1483 = .ok (.iaload, 1) := by decide +kernel
theorem dL_law_1484 : decode cL_law 1484 = .ok (.invokevirtual 187, 3) := by decide +kernel
theorem dL_law_1487 : decode cL_law 1487 = .ok (.if_icmp .eq 54, 3) := by decide +kernel
theorem dL_law_1490 : decode cL_law 1490 = .ok (.iconst 0, 1) := by decide +kernel
theorem dL_law_1491 : decode cL_law 1491 = .ok (.ireturn, 1) := by decide +kernel
theorem dL_law_1492 : decode cL_law 1492 = .ok (.aload_n 1, 1) := by decide +kernel
theorem dL_law_1493 : decode cL_law 1493 = .ok (.invokevirtual 188, 3) := by decide +kernel
theorem dL_law_1496 : decode cL_law 1496 = .ok (.aload_n 2, 1) := by decide +kernel
theorem dL_law_1497 : decode cL_law 1497 = .ok (.invokevirtual 191, 3) := by decide +kernel
theorem dL_law_1500 : decode cL_law 1500 = .ok (.if_icmp .eq 41, 3) := by decide +kernel
theorem dL_law_1503 : decode cL_law 1503 = .ok (.iconst 0, 1) := by decide +kernel
theorem dL_law_1504 : decode cL_law 1504 = .ok (.ireturn, 1) := by decide +kernel
theorem dL_law_1505 : decode cL_law 1505 = .ok (.aload_n 1, 1) := by decide +kernel
theorem dL_law_1506 : decode cL_law 1506 = .ok (.invokevirtual 192, 3) := by decide +kernel
theorem dL_law_1509 : decode cL_law 1509 = .ok (.aload_n 2, 1) := by decide +kernel
theorem dL_law_1510 : decode cL_law 1510 = .ok (.invokevirtual 195, 3) := by decide +kernel
theorem dL_law_1513 : decode cL_law 1513 = .ok (.if_icmp .eq 28, 3) := by decide +kernel
theorem dL_law_1516 : decode cL_law 1516 = .ok (.iconst 0, 1) := by decide +kernel
theorem dL_law_1517 : decode cL_law 1517 = .ok (.ireturn, 1) := by decide +kernel
theorem dL_law_1518 : decode cL_law 1518 = .ok (.aload_n 1, 1) := by decide +kernel
theorem dL_law_1519 : decode cL_law 1519 = .ok (.aload_n 0, 1) := by decide +kernel
theorem dL_law_1520 : decode cL_law 1520 = .ok (.iload_n 3, 1) := by decide +kernel
theorem dL_law_1521 : decode cL_law 1521 = .ok (.iconst 1, 1) := by decide +kernel
theorem dL_law_1522 : decode cL_law 1522 = .ok (.iadd, 1) := by decide +kernel
theorem dL_law_1523 : decode cL_law 1523 = .ok (.iaload, 1) := by decide +kernel
theorem dL_law_1524 : decode cL_law 1524 = .ok (.invokevirtual 196, 3) := by decide +kernel
theorem dL_law_1527 : decode cL_law 1527 = .ok (.aload_n 2, 1) := by decide +kernel
theorem dL_law_1528 : decode cL_law 1528 = .ok (.aload_n 0, 1) := by decide +kernel
theorem dL_law_1529 : decode cL_law 1529 = .ok (.iload_n 3, 1) := by decide +kernel
theorem dL_law_1530 : decode cL_law 1530 = .ok (.iconst 1, 1) := by decide +kernel
theorem dL_law_1531 : decode cL_law 1531 = .ok (.iadd, 1) := by decide +kernel
theorem dL_law_1532 : decode cL_law 1532 = .ok (.iaload, 1) := by decide +kernel
theorem dL_law_1533 : decode cL_law 1533 = .ok (.invokevirtual 199, 3) := by decide +kernel
theorem dL_law_1536 : decode cL_law 1536 = .ok (.if_icmp .eq 5, 3) := by decide +kernel
theorem dL_law_1539 : decode cL_law 1539 = .ok (.iconst 0, 1) := by decide +kernel
theorem dL_law_1540 : decode cL_law 1540 = .ok (.ireturn, 1) := by decide +kernel
theorem dL_law_1541 : decode cL_law 1541 = .ok (.iinc 3 6, 3) := by decide +kernel
theorem dL_law_1544 : decode cL_law 1544 = .ok (.goto (-1526), 3) := by decide +kernel
theorem dL_law_1547 : decode cL_law 1547 = .ok (.iconst 1, 1) := by decide +kernel
theorem dL_law_1548 : decode cL_law 1548 = .ok (.ireturn, 1) := by decide +kernel
