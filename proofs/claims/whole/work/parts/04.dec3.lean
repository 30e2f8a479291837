theorem dX8_tripPart_78 : decode cX8_tripPart 78 = .ok (.return_, 1) := by decide +kernel
theorem dX8_contractPart_0 : decode cX8_contractPart 0 = .ok (.aload_n 0, 1) := by decide +kernel
theorem dX8_contractPart_1 : decode cX8_contractPart 1 = .ok (.bipush 8, 2) := by decide +kernel
theorem dX8_contractPart_3 : decode cX8_contractPart 3 = .ok (.bipush 8, 2) := by decide +kernel
theorem dX8_contractPart_5 : decode cX8_contractPart 5 = .ok (.invokevirtual 126, 3) := by decide +kernel
theorem dX8_contractPart_8 : decode cX8_contractPart 8 = .ok (.ifCond .ne 4, 3) := by decide +kernel
theorem dX8_contractPart_11 : decode cX8_contractPart 11 = .ok (.return_, 1) := by decide +kernel
theorem dX8_contractPart_12 : decode cX8_contractPart 12 = .ok (.sipush 270, 3) := by decide +kernel
theorem dX8_contractPart_15 : decode cX8_contractPart 15 = .ok (.bipush 6, 2) := by decide +kernel
theorem dX8_contractPart_17 : decode cX8_contractPart 17 = .ok (.aload_n 0, 1) := by decide +kernel
theorem dX8_contractPart_18 : decode cX8_contractPart 18 = .ok (.getfield 13, 3) := by decide +kernel
theorem dX8_contractPart_21 : decode cX8_contractPart 21 = .ok (.bipush 8, 2) := by decide +kernel
theorem dX8_contractPart_23 : decode cX8_contractPart 23 = .ok (.iaload, 1) := by decide +kernel
theorem dX8_contractPart_24 : decode cX8_contractPart 24 = .ok (.imul, 1) := by decide +kernel
theorem dX8_contractPart_25 : decode cX8_contractPart 25 = .ok (.iadd, 1) := by decide +kernel
theorem dX8_contractPart_26 : decode cX8_contractPart 26 = .ok (.istore_n 1, 1) := by decide +kernel
theorem dX8_contractPart_27 : decode cX8_contractPart 27 = .ok (.aload_n 0, 1) := by decide +kernel
theorem dX8_contractPart_28 : decode cX8_contractPart 28 = .ok (.invokevirtual 131, 3) := by decide +kernel
theorem dX8_contractPart_31 : decode cX8_contractPart 31 = .ok (.istore_n 2, 1) := by decide +kernel
theorem dX8_contractPart_32 : decode cX8_contractPart 32 = .ok (.aload_n 0, 1) := by decide +kernel
theorem dX8_contractPart_33 : decode cX8_contractPart 33 = .ok (.invokevirtual 131, 3) := by decide +kernel
theorem dX8_contractPart_36 : decode cX8_contractPart 36 = .ok (.istore_n 3, 1) := by decide +kernel
theorem dX8_contractPart_37 : decode cX8_contractPart 37 = .ok (.aload_n 0, 1) := by decide +kernel
theorem dX8_contractPart_38 : decode cX8_contractPart 38 = .ok (.getfield 76, 3) := by decide +kernel
theorem dX8_contractPart_41 : decode cX8_contractPart 41 = .ok (.ifCond .ne 26, 3) := by decide +kernel
theorem dX8_contractPart_44 : decode cX8_contractPart 44 = .ok (.iload_n 2, 1) := by decide +kernel
theorem dX8_contractPart_45 : decode cX8_contractPart 45 = .ok (.iload_n 3, 1) := by decide +kernel
theorem dX8_contractPart_46 : decode cX8_contractPart 46 = .ok (.if_icmp .eq 16, 3) := by decide +kernel
theorem dX8_contractPart_49 : decode cX8_contractPart 49 = .ok (.aload_n 0, 1) := by decide +kernel
theorem dX8_contractPart_50 : decode cX8_contractPart 50 = .ok (.getfield 13, 3) := by decide +kernel
theorem dX8_contractPart_53 : decode cX8_contractPart 53 = .ok (.iload_n 2, 1) := by decide +kernel
theorem dX8_contractPart_54 : decode cX8_contractPart 54 = .ok (.iload_n 3, 1) := by decide +kernel
theorem dX8_contractPart_55 : decode cX8_contractPart 55 = .ok (.invokestatic 134, 3) := by decide +kernel
theorem dX8_contractPart_58 : decode cX8_contractPart 58 = .ok (.iconst (-1), 1) := by decide +kernel
theorem dX8_contractPart_59 : decode cX8_contractPart 59 = .ok (.if_icmp .ne 8, 3) := by decide +kernel
theorem dX8_contractPart_62 : decode cX8_contractPart 62 = .ok (.aload_n 0, 1) := by decide +kernel
theorem dX8_contractPart_63 : decode cX8_contractPart 63 = .ok (.iconst 3, 1) := by decide +kernel
theorem dX8_contractPart_64 : decode cX8_contractPart 64 = .ok (.invokevirtual 101, 3) := by decide +kernel
theorem dX8_contractPart_67 : decode cX8_contractPart 67 = .ok (.aload_n 0, 1) := by decide +kernel
theorem dX8_contractPart_68 : decode cX8_contractPart 68 = .ok (.getfield 13, 3) := by decide +kernel
theorem dX8_contractPart_71 : decode cX8_contractPart 71 = .ok (.iload_n 1, 1) := by decide +kernel
theorem dX8_contractPart_72 : decode cX8_contractPart 72 = .ok (.iconst 0, 1) := by decide +kernel
theorem dX8_contractPart_73 : decode cX8_contractPart 73 = .ok (.iadd, 1) := by decide +kernel
theorem dX8_contractPart_74 : decode cX8_contractPart 74 = .ok (.iload_n 2, 1) := by decide +kernel
theorem dX8_contractPart_75 : decode cX8_contractPart 75 = .ok (.iastore, 1) := by decide +kernel
theorem dX8_contractPart_76 : decode cX8_contractPart 76 = .ok (.aload_n 0, 1) := by decide +kernel
theorem dX8_contractPart_77 : decode cX8_contractPart 77 = .ok (.getfield 13, 3) := by decide +kernel
theorem dX8_contractPart_80 : decode cX8_contractPart 80 = .ok (.iload_n 1, 1) := by decide +kernel
theorem dX8_contractPart_81 : decode cX8_contractPart 81 = .ok (.iconst 1, 1) := by decide +kernel
theorem dX8_contractPart_82 : decode cX8_contractPart 82 = .ok (.iadd, 1) := by decide +kernel
theorem dX8_contractPart_83 : decode cX8_contractPart 83 = .ok (.iload_n 3, 1) := by decide +kernel
theorem dX8_contractPart_84 : decode cX8_contractPart 84 = .ok (.iastore, 1) := by decide +kernel
theorem dX8_contractPart_85 : decode cX8_contractPart 85 = .ok (.aload_n 0, 1) := by decide +kernel
theorem dX8_contractPart_86 : decode cX8_contractPart 86 = .ok (.getfield 13, 3) := by decide +kernel
theorem dX8_contractPart_89 : decode cX8_contractPart 89 = .ok (.iload_n 1, 1) := by decide +kernel
theorem dX8_contractPart_90 : decode cX8_contractPart 90 = .ok (.iconst 2, 1) := by decide +kernel
theorem dX8_contractPart_91 : decode cX8_contractPart 91 = .ok (.iadd, 1) := by decide +kernel
theorem dX8_contractPart_92 : decode cX8_contractPart 92 = .ok (.aload_n 0, 1) := by decide +kernel
theorem dX8_contractPart_93 : decode cX8_contractPart 93 = .ok (.iconst 1, 1) := by decide +kernel
theorem dX8_contractPart_94 : decode cX8_contractPart 94 = .ok (.ldc 130, 2) := by decide +kernel
theorem dX8_contractPart_96 : decode cX8_contractPart 96 = .ok (.invokevirtual 111, 3) := by decide +kernel
theorem dX8_contractPart_99 : decode cX8_contractPart 99 = .ok (.iastore, 1) := by decide +kernel
theorem dX8_contractPart_100 : decode cX8_contractPart 100 = .ok (.aload_n 0, 1) := by decide +kernel
theorem dX8_contractPart_101 : decode cX8_contractPart 101 = .ok (.getfield 13, 3) := by decide +kernel
theorem dX8_contractPart_104 : decode cX8_contractPart 104 = .ok (.iload_n 1, 1) := by decide +kernel
theorem dX8_contractPart_105 : decode cX8_contractPart 105 = .ok (.iconst 3, 1) := by decide +kernel
theorem dX8_contractPart_106 : decode cX8_contractPart 106 = .ok (.iadd, 1) := by decide +kernel
theorem dX8_contractPart_107 : decode cX8_contractPart 107 = .ok (.aload_n 0, 1) := by decide +kernel
theorem dX8_contractPart_108 : decode cX8_contractPart 108 = .ok (.iconst 0, 1) := by decide +kernel
theorem dX8_contractPart_109 : decode cX8_contractPart 109 = .ok (.bipush 99, 2) := by decide +kernel
theorem dX8_contractPart_111 : decode cX8_contractPart 111 = .ok (.invokevirtual 111, 3) := by decide +kernel
theorem dX8_contractPart_114 : decode cX8_contractPart 114 = .ok (.iastore, 1) := by decide +kernel
theorem dX8_contractPart_115 : decode cX8_contractPart 115 = .ok (.aload_n 0, 1) := by decide +kernel
theorem dX8_contractPart_116 : decode cX8_contractPart 116 = .ok (.getfield 13, 3) := by decide +kernel
theorem dX8_contractPart_119 : decode cX8_contractPart 119 = .ok (.iload_n 1, 1) := by decide +kernel
theorem dX8_contractPart_120 : decode cX8_contractPart 120 = .ok (.iconst 4, 1) := by decide +kernel
theorem dX8_contractPart_121 : decode cX8_contractPart 121 = .ok (.iadd, 1) := by decide +kernel
theorem dX8_contractPart_122 : decode cX8_contractPart 122 = .ok (.aload_n 0, 1) := by decide +kernel
theorem dX8_contractPart_123 : decode cX8_contractPart 123 = .ok (.iconst 0, 1) := by decide +kernel
theorem dX8_contractPart_124 : decode cX8_contractPart 124 = .ok (.bipush 99, 2) := by decide +kernel
theorem dX8_contractPart_126 : decode cX8_contractPart 126 = .ok (.invokevirtual 111, 3) := by decide +kernel
theorem dX8_contractPart_129 : decode cX8_contractPart 129 = .ok (.iastore, 1) := by decide +kernel
theorem dX8_contractPart_130 : decode cX8_contractPart 130 = .ok (.aload_n 0, 1) := by decide +kernel
theorem dX8_contractPart_131 : decode cX8_contractPart 131 = .ok (.getfield 13, 3) := by decide +kernel
theorem dX8_contractPart_134 : decode cX8_contractPart 134 = .ok (.bipush 8, 2) := by decide +kernel
theorem dX8_contractPart_136 : decode cX8_contractPart 136 = .ok (.dup2, 1) := by decide +kernel
theorem dX8_contractPart_137 : decode cX8_contractPart 137 = .ok (.iaload, 1) := by decide +kernel
theorem dX8_contractPart_138 : decode cX8_contractPart 138 = .ok (.iconst 1, 1) := by decide +kernel
theorem dX8_contractPart_139 : decode cX8_contractPart 139 = .ok (.iadd, 1) := by decide +kernel
theorem dX8_contractPart_140 : decode cX8_contractPart 140 = .ok (.iastore, 1) := by decide +kernel
theorem dX8_contractPart_141 : decode cX8_contractPart 141 = .ok (.return_, 1) := by decide +kernel
theorem dX8_statement_0 : decode cX8_statement 0 = .ok (.aload_n 0, 1) := by decide +kernel
theorem dX8_statement_1 : decode cX8_statement 1 = .ok (.invokevirtual 117, 3) := by decide +kernel
theorem dX8_statement_4 : decode cX8_statement 4 = .ok (.aload_n 0, 1) := by decide +kernel
theorem dX8_statement_5 : decode cX8_statement 5 = .ok (.aload_n 0, 1) := by decide +kernel
theorem dX8_statement_6 : decode cX8_statement 6 = .ok (.getfield 73, 3) := by decide +kernel
theorem dX8_statement_9 : decode cX8_statement 9 = .ok (.putfield 114, 3) := by decide +kernel
theorem dX8_statement_12 : decode cX8_statement 12 = .ok (.aload_n 0, 1) := by decide +kernel
theorem dX8_statement_13 : decode cX8_statement 13 = .ok (.ldc 138, 2) := by decide +kernel
theorem dX8_statement_15 : decode cX8_statement 15 = .ok (.invokevirtual 122, 3) := by decide +kernel
theorem dX8_statement_18 : decode cX8_statement 18 = .ok (.ifCond .eq 10, 3) := by decide +kernel
theorem dX8_statement_21 : decode cX8_statement 21 = .ok (.aload_n 0, 1) := by decide +kernel
theorem dX8_statement_22 : decode cX8_statement 22 = .ok (.invokevirtual 140, 3) := by decide +kernel
theorem dX8_statement_25 : decode cX8_statement 25 = .ok (.goto 88, 3) := by decide +kernel
theorem dX8_statement_28 : decode cX8_statement 28 = .ok (.aload_n 0, 1) := by decide +kernel
theorem dX8_statement_29 : decode cX8_statement 29 = .ok (.ldc 143, 2) := by decide +kernel
theorem dX8_statement_31 : decode cX8_statement 31 = .ok (.invokevirtual 122, 3) := by decide +kernel
theorem dX8_statement_34 : decode cX8_statement 34 = .ok (.ifCond .eq 10, 3) := by decide +kernel
theorem dX8_statement_37 : decode cX8_statement 37 = .ok (.aload_n 0, 1) := by decide +kernel
theorem dX8_statement_38 : decode cX8_statement 38 = .ok (.invokevirtual 145, 3) := by decide +kernel
theorem dX8_statement_41 : decode cX8_statement 41 = .ok (.goto 72, 3) := by decide +kernel
theorem dX8_statement_44 : decode cX8_statement 44 = .ok (.aload_n 0, 1) := by decide +kernel
theorem dX8_statement_45 : decode cX8_statement 45 = .ok (.ldc 148, 2) := by decide +kernel
theorem dX8_statement_47 : decode cX8_statement 47 = .ok (.invokevirtual 122, 3) := by decide +kernel
theorem dX8_statement_50 : decode cX8_statement 50 = .ok (.ifCond .eq 10, 3) := by decide +kernel
theorem dX8_statement_53 : decode cX8_statement 53 = .ok (.aload_n 0, 1) := by decide +kernel
theorem dX8_statement_54 : decode cX8_statement 54 = .ok (.invokevirtual 150, 3) := by decide +kernel
theorem dX8_statement_57 : decode cX8_statement 57 = .ok (.goto 56, 3) := by decide +kernel
theorem dX8_statement_60 : decode cX8_statement 60 = .ok (.aload_n 0, 1) := by decide +kernel
theorem dX8_statement_61 : decode cX8_statement 61 = .ok (.ldc 153, 2) := by decide +kernel
theorem dX8_statement_63 : decode cX8_statement 63 = .ok (.invokevirtual 122, 3) := by decide +kernel
theorem dX8_statement_66 : decode cX8_statement 66 = .ok (.ifCond .eq 10, 3) := by decide +kernel
theorem dX8_statement_69 : decode cX8_statement 69 = .ok (.aload_n 0, 1) := by decide +kernel
theorem dX8_statement_70 : decode cX8_statement 70 = .ok (.invokevirtual 155, 3) := by decide +kernel
theorem dX8_statement_73 : decode cX8_statement 73 = .ok (.goto 40, 3) := by decide +kernel
theorem dX8_statement_76 : decode cX8_statement 76 = .ok (.aload_n 0, 1) := by decide +kernel
theorem dX8_statement_77 : decode cX8_statement 77 = .ok (.ldc 158, 2) := by decide +kernel
theorem dX8_statement_79 : decode cX8_statement 79 = .ok (.invokevirtual 122, 3) := by decide +kernel
theorem dX8_statement_82 : decode cX8_statement 82 = .ok (.ifCond .eq 10, 3) := by decide +kernel
theorem dX8_statement_85 : decode cX8_statement 85 = .ok (.aload_n 0, 1) := by decide +kernel
theorem dX8_statement_86 : decode cX8_statement 86 = .ok (.invokevirtual 160, 3) := by decide +kernel
theorem dX8_statement_89 : decode cX8_statement 89 = .ok (.goto 24, 3) := by decide +kernel
theorem dX8_statement_92 : decode cX8_statement 92 = .ok (.aload_n 0, 1) := by decide +kernel
theorem dX8_statement_93 : decode cX8_statement 93 = .ok (.ldc 163, 2) := by decide +kernel
theorem dX8_statement_95 : decode cX8_statement 95 = .ok (.invokevirtual 122, 3) := by decide +kernel
theorem dX8_statement_98 : decode cX8_statement 98 = .ok (.ifCond .eq 10, 3) := by decide +kernel
theorem dX8_statement_101 : decode cX8_statement 101 = .ok (.aload_n 0, 1) := by decide +kernel
theorem dX8_statement_102 : decode cX8_statement 102 = .ok (.invokevirtual 165, 3) := by decide +kernel
theorem dX8_statement_105 : decode cX8_statement 105 = .ok (.goto 8, 3) := by decide +kernel
theorem dX8_statement_108 : decode cX8_statement 108 = .ok (.aload_n 0, 1) := by decide +kernel
theorem dX8_statement_109 : decode cX8_statement 109 = .ok (.iconst 1, 1) := by decide +kernel
theorem dX8_statement_110 : decode cX8_statement 110 = .ok (.invokevirtual 101, 3) := by decide +kernel
theorem dX8_statement_113 : decode cX8_statement 113 = .ok (.return_, 1) := by decide +kernel
theorem dX8_isMore_0 : decode cX8_isMore 0 = .ok (.aload_n 0, 1) := by decide +kernel
theorem dX8_isMore_1 : decode cX8_isMore 1 = .ok (.getfield 76, 3) := by decide +kernel
theorem dX8_isMore_4 : decode cX8_isMore 4 = .ok (.ifCond .ne 10, 3) := by decide +kernel
theorem dX8_isMore_7 : decode cX8_isMore 7 = .ok (.aload_n 0, 1) := by decide +kernel
theorem dX8_isMore_8 : decode cX8_isMore 8 = .ok (.invokevirtual 82, 3) := by decide +kernel
theorem dX8_isMore_11 : decode cX8_isMore 11 = .ok (.ifCond .ge 5, 3) := by decide +kernel
theorem dX8_isMore_14 : decode cX8_isMore 14 = .ok (.iconst 0, 1) := by decide +kernel
theorem dX8_isMore_15 : decode cX8_isMore 15 = .ok (.ireturn, 1) := by decide +kernel
theorem dX8_isMore_16 : decode cX8_isMore 16 = .ok (.aload_n 0, 1) := by decide +kernel
theorem dX8_isMore_17 : decode cX8_isMore 17 = .ok (.invokevirtual 69, 3) := by decide +kernel
theorem dX8_isMore_20 : decode cX8_isMore 20 = .ok (.bipush 59, 2) := by decide +kernel
theorem dX8_isMore_22 : decode cX8_isMore 22 = .ok (.if_icmp .eq 10, 3) := by decide +kernel
theorem dX8_isMore_25 : decode cX8_isMore 25 = .ok (.aload_n 0, 1) := by decide +kernel
theorem dX8_isMore_26 : decode cX8_isMore 26 = .ok (.iconst 1, 1) := by decide +kernel
theorem dX8_isMore_27 : decode cX8_isMore 27 = .ok (.invokevirtual 101, 3) := by decide +kernel
theorem dX8_isMore_30 : decode cX8_isMore 30 = .ok (.iconst 0, 1) := by decide +kernel
theorem dX8_isMore_31 : decode cX8_isMore 31 = .ok (.ireturn, 1) := by decide +kernel
theorem dX8_isMore_32 : decode cX8_isMore 32 = .ok (.aload_n 0, 1) := by decide +kernel
theorem dX8_isMore_33 : decode cX8_isMore 33 = .ok (.dup, 1) := by decide +kernel
theorem dX8_isMore_34 : decode cX8_isMore 34 = .ok (.getfield 66, 3) := by decide +kernel
theorem dX8_isMore_37 : decode cX8_isMore 37 = .ok (.iconst 1, 1) := by decide +kernel
theorem dX8_isMore_38 : decode cX8_isMore 38 = .ok (.iadd, 1) := by decide +kernel
theorem dX8_isMore_39 : decode cX8_isMore 39 = .ok (.putfield 66, 3) := by decide +kernel
theorem dX8_isMore_42 : decode cX8_isMore 42 = .ok (.aload_n 0, 1) := by decide +kernel
theorem dX8_isMore_43 : decode cX8_isMore 43 = .ok (.dup, 1) := by decide +kernel
theorem dX8_isMore_44 : decode cX8_isMore 44 = .ok (.getfield 168, 3) := by decide +kernel
theorem dX8_isMore_47 : decode cX8_isMore 47 = .ok (.iconst 1, 1) := by decide +kernel
theorem dX8_isMore_48 : decode cX8_isMore 48 = .ok (.iadd, 1) := by decide +kernel
theorem dX8_isMore_49 : decode cX8_isMore 49 = .ok (.putfield 168, 3) := by decide +kernel
theorem dX8_isMore_52 : decode cX8_isMore 52 = .ok (.iconst 1, 1) := by decide +kernel
theorem dX8_isMore_53 : decode cX8_isMore 53 = .ok (.ireturn, 1) := by decide +kernel
theorem dX8_load_0 : decode cX8_load 0 = .ok (.aload_n 0, 1) := by decide +kernel
theorem dX8_load_1 : decode cX8_load 1 = .ok (.iconst 0, 1) := by decide +kernel
theorem dX8_load_2 : decode cX8_load 2 = .ok (.putfield 41, 3) := by decide +kernel
theorem dX8_load_5 : decode cX8_load 5 = .ok (.aload_n 0, 1) := by decide +kernel
theorem dX8_load_6 : decode cX8_load 6 = .ok (.iconst 0, 1) := by decide +kernel
theorem dX8_load_7 : decode cX8_load 7 = .ok (.putfield 66, 3) := by decide +kernel
theorem dX8_load_10 : decode cX8_load 10 = .ok (.aload_n 0, 1) := by decide +kernel
theorem dX8_load_11 : decode cX8_load 11 = .ok (.iconst 0, 1) := by decide +kernel
theorem dX8_load_12 : decode cX8_load 12 = .ok (.putfield 76, 3) := by decide +kernel
theorem dX8_load_15 : decode cX8_load 15 = .ok (.aload_n 0, 1) := by decide +kernel
theorem dX8_load_16 : decode cX8_load 16 = .ok (.iconst 0, 1) := by decide +kernel
theorem dX8_load_17 : decode cX8_load 17 = .ok (.putfield 168, 3) := by decide +kernel
theorem dX8_load_20 : decode cX8_load 20 = .ok (.aload_n 0, 1) := by decide +kernel
theorem dX8_load_21 : decode cX8_load 21 = .ok (.getfield 13, 3) := by decide +kernel
theorem dX8_load_24 : decode cX8_load 24 = .ok (.invokestatic 37, 3) := by decide +kernel
theorem dX8_load_27 : decode cX8_load 27 = .ok (.aload_n 0, 1) := by decide +kernel
theorem dX8_load_28 : decode cX8_load 28 = .ok (.invokevirtual 171, 3) := by decide +kernel
theorem dX8_load_31 : decode cX8_load 31 = .ok (.aload_n 0, 1) := by decide +kernel
theorem dX8_load_32 : decode cX8_load 32 = .ok (.invokevirtual 174, 3) := by decide +kernel
theorem dX8_load_35 : decode cX8_load 35 = .ok (.ifCond .eq 10, 3) := by decide +kernel
theorem dX8_load_38 : decode cX8_load 38 = .ok (.aload_n 0, 1) := by decide +kernel
theorem dX8_load_39 : decode cX8_load 39 = .ok (.invokevirtual 178, 3) := by decide +kernel
theorem dX8_load_42 : decode cX8_load 42 = .ok (.goto (-11), 3) := by decide +kernel
theorem dX8_load_45 : decode cX8_load 45 = .ok (.aload_n 0, 1) := by decide +kernel
theorem dX8_load_46 : decode cX8_load 46 = .ok (.iconst 0, 1) := by decide +kernel
theorem dX8_load_47 : decode cX8_load 47 = .ok (.putfield 63, 3) := by decide +kernel
theorem dX8_load_50 : decode cX8_load 50 = .ok (.aload_n 0, 1) := by decide +kernel
theorem dX8_load_51 : decode cX8_load 51 = .ok (.aload_n 0, 1) := by decide +kernel
theorem dX8_load_52 : decode cX8_load 52 = .ok (.getfield 76, 3) := by decide +kernel
theorem dX8_load_55 : decode cX8_load 55 = .ok (.putfield 180, 3) := by decide +kernel
theorem dX8_load_58 : decode cX8_load 58 = .ok (.aload_n 0, 1) := by decide +kernel
theorem dX8_load_59 : decode cX8_load 59 = .ok (.aload_n 0, 1) := by decide +kernel
theorem dX8_load_60 : decode cX8_load 60 = .ok (.getfield 76, 3) := by decide +kernel
theorem dX8_load_63 : decode cX8_load 63 = .ok (.ifCond .ne 7, 3) := by decide +kernel
theorem dX8_load_66 : decode cX8_load 66 = .ok (.iconst (-1), 1) := by decide +kernel
theorem dX8_load_67 : decode cX8_load 67 = .ok (.goto 7, 3) := by decide +kernel
theorem dX8_load_70 : decode cX8_load 70 = .ok (.aload_n 0, 1) := by decide +kernel
theorem dX8_load_71 : decode cX8_load 71 = .ok (.getfield 168, 3) := by decide +kernel
theorem dX8_load_74 : decode cX8_load 74 = .ok (.putfield 33, 3) := by decide +kernel
theorem dX8_load_77 : decode cX8_load 77 = .ok (.aload_n 0, 1) := by decide +kernel
theorem dX8_load_78 : decode cX8_load 78 = .ok (.getfield 76, 3) := by decide +kernel
theorem dX8_load_81 : decode cX8_load 81 = .ok (.ifCond .eq 11, 3) := by decide +kernel
theorem dX8_load_84 : decode cX8_load 84 = .ok (.bipush (-100), 2) := by decide +kernel
theorem dX8_load_86 : decode cX8_load 86 = .ok (.aload_n 0, 1) := by decide +kernel
theorem dX8_load_87 : decode cX8_load 87 = .ok (.getfield 79, 3) := by decide +kernel
theorem dX8_load_90 : decode cX8_load 90 = .ok (.isub, 1) := by decide +kernel
theorem dX8_load_91 : decode cX8_load 91 = .ok (.ireturn, 1) := by decide +kernel
theorem dX8_load_92 : decode cX8_load 92 = .ok (.aload_n 0, 1) := by decide +kernel
theorem dX8_load_93 : decode cX8_load 93 = .ok (.getfield 13, 3) := by decide +kernel
theorem dX8_load_96 : decode cX8_load 96 = .ok (.iconst 0, 1) := by decide +kernel
theorem dX8_load_97 : decode cX8_load 97 = .ok (.aload_n 0, 1) := by decide +kernel
theorem dX8_load_98 : decode cX8_load 98 = .ok (.getfield 9, 3) := by decide +kernel
theorem dX8_load_101 : decode cX8_load 101 = .ok (.iconst 0, 1) := by decide +kernel
theorem dX8_load_102 : decode cX8_load 102 = .ok (.invokestatic 183, 3) := by decide +kernel
theorem dX8_load_105 : decode cX8_load 105 = .ok (.aload_n 0, 1) := by decide +kernel
theorem dX8_load_106 : decode cX8_load 106 = .ok (.iconst 0, 1) := by decide +kernel
theorem dX8_load_107 : decode cX8_load 107 = .ok (.putfield 186, 3) := by decide +kernel
theorem dX8_load_110 : decode cX8_load 110 = .ok (.aload_n 0, 1) := by decide +kernel
theorem dX8_load_111 : decode cX8_load 111 = .ok (.getfield 9, 3) := by decide +kernel
theorem dX8_load_114 : decode cX8_load 114 = .ok (.iconst 3, 1) := by decide +kernel
theorem dX8_load_115 : decode cX8_load 115 = .ok (.iaload, 1) := by decide +kernel
theorem dX8_load_116 : decode cX8_load 116 = .ok (.ireturn, 1) := by decide +kernel
theorem dX8_loadError_0 : decode cX8_loadError 0 = .ok (.aload_n 0, 1) := by decide +kernel
theorem dX8_loadError_1 : decode cX8_loadError 1 = .ok (.iconst 0, 1) := by decide +kernel
theorem dX8_loadError_2 : decode cX8_loadError 2 = .ok (.putfield 41, 3) := by decide +kernel
theorem dX8_loadError_5 : decode cX8_loadError 5 = .ok (.aload_n 0, 1) := by decide +kernel
theorem dX8_loadError_6 : decode cX8_loadError 6 = .ok (.getfield 180, 3) := by decide +kernel
theorem dX8_loadError_9 : decode cX8_loadError 9 = .ok (.ireturn, 1) := by decide +kernel
theorem dX8_loadStatement_0 : decode cX8_loadStatement 0 = .ok (.aload_n 0, 1) := by decide +kernel
theorem dX8_loadStatement_1 : decode cX8_loadStatement 1 = .ok (.iconst 0, 1) := by decide +kernel
theorem dX8_loadStatement_2 : decode cX8_loadStatement 2 = .ok (.putfield 41, 3) := by decide +kernel
theorem dX8_loadStatement_5 : decode cX8_loadStatement 5 = .ok (.aload_n 0, 1) := by decide +kernel
theorem dX8_loadStatement_6 : decode cX8_loadStatement 6 = .ok (.getfield 33, 3) := by decide +kernel
theorem dX8_loadStatement_9 : decode cX8_loadStatement 9 = .ok (.ireturn, 1) := by decide +kernel
theorem dX8_roomOf_0 : decode cX8_roomOf 0 = .ok (.aload_n 0, 1) := by decide +kernel
theorem dX8_roomOf_1 : decode cX8_roomOf 1 = .ok (.iload_n 1, 1) := by decide +kernel
theorem dX8_roomOf_2 : decode cX8_roomOf 2 = .ok (.iconst 0, 1) := by decide +kernel
theorem dX8_roomOf_3 : decode cX8_roomOf 3 = .ok (.invokevirtual 189, 3) := by decide +kernel
theorem dX8_roomOf_6 : decode cX8_roomOf 6 = .ok (.istore_n 2, 1) := by decide +kernel
theorem dX8_roomOf_7 : decode cX8_roomOf 7 = .ok (.iload_n 2, 1) := by decide +kernel
theorem dX8_roomOf_8 : decode cX8_roomOf 8 = .ok (.iload_n 2, 1) := by decide +kernel
theorem dX8_roomOf_9 : decode cX8_roomOf 9 = .ok (.iconst 2, 1) := by decide +kernel
theorem dX8_roomOf_10 : decode cX8_roomOf 10 = .ok (.idiv, 1) := by decide +kernel
theorem dX8_roomOf_11 : decode cX8_roomOf 11 = .ok (.isub, 1) := by decide +kernel
theorem dX8_roomOf_12 : decode cX8_roomOf 12 = .ok (.iload_n 2, 1) := by decide +kernel
theorem dX8_roomOf_13 : decode cX8_roomOf 13 = .ok (.aload_n 0, 1) := by decide +kernel
theorem dX8_roomOf_14 : decode cX8_roomOf 14 = .ok (.iload_n 1, 1) := by decide +kernel
theorem dX8_roomOf_15 : decode cX8_roomOf 15 = .ok (.iconst 2, 1) := by decide +kernel
theorem dX8_roomOf_16 : decode cX8_roomOf 16 = .ok (.invokevirtual 189, 3) := by decide +kernel
theorem dX8_roomOf_19 : decode cX8_roomOf 19 = .ok (.aload_n 0, 1) := by decide +kernel
theorem dX8_roomOf_20 : decode cX8_roomOf 20 = .ok (.getfield 9, 3) := by decide +kernel
theorem dX8_roomOf_23 : decode cX8_roomOf 23 = .ok (.iconst 0, 1) := by decide +kernel
theorem dX8_roomOf_24 : decode cX8_roomOf 24 = .ok (.iaload, 1) := by decide +kernel
theorem dX8_roomOf_25 : decode cX8_roomOf 25 = .ok (.idiv, 1) := by decide +kernel
theorem dX8_roomOf_26 : decode cX8_roomOf 26 = .ok (.isub, 1) := by decide +kernel
theorem dX8_roomOf_27 : decode cX8_roomOf 27 = .ok (.invokestatic 192, 3) := by decide +kernel
theorem dX8_roomOf_30 : decode cX8_roomOf 30 = .ok (.ireturn, 1) := by decide +kernel
theorem dX8_quarterOf_0 : decode cX8_quarterOf 0 = .ok (.ldc2_w 195, 3) := by decide +kernel
theorem dX8_quarterOf_3 : decode cX8_quarterOf 3 = .ok (.ldc2_w 197, 3) := by decide +kernel
theorem dX8_quarterOf_6 : decode cX8_quarterOf 6 = .ok (.aload_n 0, 1) := by decide +kernel
theorem dX8_quarterOf_7 : decode cX8_quarterOf 7 = .ok (.iload_n 1, 1) := by decide +kernel
theorem dX8_quarterOf_8 : decode cX8_quarterOf 8 = .ok (.iconst 1, 1) := by decide +kernel
theorem dX8_quarterOf_9 : decode cX8_quarterOf 9 = .ok (.invokevirtual 189, 3) := by decide +kernel
theorem dX8_quarterOf_12 : decode cX8_quarterOf 12 = .ok (.i2l, 1) := by decide +kernel
theorem dX8_quarterOf_13 : decode cX8_quarterOf 13 = .ok (.lmul, 1) := by decide +kernel
theorem dX8_quarterOf_14 : decode cX8_quarterOf 14 = .ok (.aload_n 0, 1) := by decide +kernel
theorem dX8_quarterOf_15 : decode cX8_quarterOf 15 = .ok (.iload_n 1, 1) := by decide +kernel
theorem dX8_quarterOf_16 : decode cX8_quarterOf 16 = .ok (.invokevirtual 199, 3) := by decide +kernel
theorem dX8_quarterOf_19 : decode cX8_quarterOf 19 = .ok (.i2l, 1) := by decide +kernel
theorem dX8_quarterOf_20 : decode cX8_quarterOf 20 = .ok (.ldiv, 1) := by decide +kernel
theorem dX8_quarterOf_21 : decode cX8_quarterOf 21 = .ok (.invokestatic 203, 3) := by decide +kernel
theorem dX8_quarterOf_24 : decode cX8_quarterOf 24 = .ok (.l2i, 1) := by decide +kernel
theorem dX8_quarterOf_25 : decode cX8_quarterOf 25 = .ok (.ireturn, 1) := by decide +kernel
theorem dX8_weightOf_0 : decode cX8_weightOf 0 = .ok (.aload_n 0, 1) := by decide +kernel
theorem dX8_weightOf_1 : decode cX8_weightOf 1 = .ok (.iload_n 1, 1) := by decide +kernel
theorem dX8_weightOf_2 : decode cX8_weightOf 2 = .ok (.iconst 3, 1) := by decide +kernel
theorem dX8_weightOf_3 : decode cX8_weightOf 3 = .ok (.invokevirtual 189, 3) := by decide +kernel
theorem dX8_weightOf_6 : decode cX8_weightOf 6 = .ok (.istore_n 2, 1) := by decide +kernel
theorem dX8_weightOf_7 : decode cX8_weightOf 7 = .ok (.iload_n 2, 1) := by decide +kernel
theorem dX8_weightOf_8 : decode cX8_weightOf 8 = .ok (.iconst (-1), 1) := by decide +kernel
theorem dX8_weightOf_9 : decode cX8_weightOf 9 = .ok (.if_icmp .ne 7, 3) := by decide +kernel
theorem dX8_weightOf_12 : decode cX8_weightOf 12 = .ok (.iconst 1, 1) := by decide +kernel
theorem dX8_weightOf_13 : decode cX8_weightOf 13 = .ok (.goto 20, 3) := by decide +kernel
theorem dX8_weightOf_16 : decode cX8_weightOf 16 = .ok (.aload_n 0, 1) := by decide +kernel
theorem dX8_weightOf_17 : decode cX8_weightOf 17 = .ok (.getfield 9, 3) := by decide +kernel
theorem dX8_weightOf_20 : decode cX8_weightOf 20 = .ok (.bipush 14, 2) := by decide +kernel
theorem dX8_weightOf_22 : decode cX8_weightOf 22 = .ok (.iconst 4, 1) := by decide +kernel
theorem dX8_weightOf_23 : decode cX8_weightOf 23 = .ok (.iload_n 2, 1) := by decide +kernel
theorem dX8_weightOf_24 : decode cX8_weightOf 24 = .ok (.imul, 1) := by decide +kernel
theorem dX8_weightOf_25 : decode cX8_weightOf 25 = .ok (.iadd, 1) := by decide +kernel
theorem dX8_weightOf_26 : decode cX8_weightOf 26 = .ok (.aload_n 0, 1) := by decide +kernel
theorem dX8_weightOf_27 : decode cX8_weightOf 27 = .ok (.iload_n 1, 1) := by decide +kernel
theorem dX8_weightOf_28 : decode cX8_weightOf 28 = .ok (.invokevirtual 206, 3) := by decide +kernel
theorem dX8_weightOf_31 : decode cX8_weightOf 31 = .ok (.iadd, 1) := by decide +kernel
theorem dX8_weightOf_32 : decode cX8_weightOf 32 = .ok (.iaload, 1) := by decide +kernel
theorem dX8_weightOf_33 : decode cX8_weightOf 33 = .ok (.ireturn, 1) := by decide +kernel
theorem dX8_spills_0 : decode cX8_spills 0 = .ok (.iconst 0, 1) := by decide +kernel
theorem dX8_spills_1 : decode cX8_spills 1 = .ok (.aload_n 0, 1) := by decide +kernel
theorem dX8_spills_2 : decode cX8_spills 2 = .ok (.iload_n 1, 1) := by decide +kernel
theorem dX8_spills_3 : decode cX8_spills 3 = .ok (.iconst 1, 1) := by decide +kernel
theorem dX8_spills_4 : decode cX8_spills 4 = .ok (.invokevirtual 189, 3) := by decide +kernel
theorem dX8_spills_7 : decode cX8_spills 7 = .ok (.aload_n 0, 1) := by decide +kernel
theorem dX8_spills_8 : decode cX8_spills 8 = .ok (.iload_n 1, 1) := by decide +kernel
theorem dX8_spills_9 : decode cX8_spills 9 = .ok (.invokevirtual 199, 3) := by decide +kernel
theorem dX8_spills_12 : decode cX8_spills 12 = .ok (.isub, 1) := by decide +kernel
theorem dX8_spills_13 : decode cX8_spills 13 = .ok (.invokestatic 192, 3) := by decide +kernel
theorem dX8_spills_16 : decode cX8_spills 16 = .ok (.istore_n 2, 1) := by decide +kernel
theorem dX8_spills_17 : decode cX8_spills 17 = .ok (.aload_n 0, 1) := by decide +kernel
theorem dX8_spills_18 : decode cX8_spills 18 = .ok (.iload_n 1, 1) := by decide +kernel
theorem dX8_spills_19 : decode cX8_spills 19 = .ok (.iconst 1, 1) := by decide +kernel
theorem dX8_spills_20 : decode cX8_spills 20 = .ok (.iload_n 2, 1) := by decide +kernel
theorem dX8_spills_21 : decode cX8_spills 21 = .ok (.ineg, 1) := by decide +kernel
theorem dX8_spills_22 : decode cX8_spills 22 = .ok (.invokevirtual 209, 3) := by decide +kernel
theorem dX8_spills_25 : decode cX8_spills 25 = .ok (.aload_n 0, 1) := by decide +kernel
theorem dX8_spills_26 : decode cX8_spills 26 = .ok (.getfield 9, 3) := by decide +kernel
theorem dX8_spills_29 : decode cX8_spills 29 = .ok (.bipush 13, 2) := by decide +kernel
theorem dX8_spills_31 : decode cX8_spills 31 = .ok (.dup2, 1) := by decide +kernel
theorem dX8_spills_32 : decode cX8_spills 32 = .ok (.iaload, 1) := by decide +kernel
theorem dX8_spills_33 : decode cX8_spills 33 = .ok (.iload_n 2, 1) := by decide +kernel
theorem dX8_spills_34 : decode cX8_spills 34 = .ok (.iadd, 1) := by decide +kernel
theorem dX8_spills_35 : decode cX8_spills 35 = .ok (.iastore, 1) := by decide +kernel
theorem dX8_spills_36 : decode cX8_spills 36 = .ok (.return_, 1) := by decide +kernel
theorem dX8_gets_0 : decode cX8_gets 0 = .ok (.aload_n 0, 1) := by decide +kernel
theorem dX8_gets_1 : decode cX8_gets 1 = .ok (.iload_n 1, 1) := by decide +kernel
theorem dX8_gets_2 : decode cX8_gets 2 = .ok (.iconst 1, 1) := by decide +kernel
theorem dX8_gets_3 : decode cX8_gets 3 = .ok (.iload_n 2, 1) := by decide +kernel
theorem dX8_gets_4 : decode cX8_gets 4 = .ok (.invokevirtual 209, 3) := by decide +kernel
theorem dX8_gets_7 : decode cX8_gets 7 = .ok (.aload_n 0, 1) := by decide +kernel
theorem dX8_gets_8 : decode cX8_gets 8 = .ok (.iload_n 1, 1) := by decide +kernel
theorem dX8_gets_9 : decode cX8_gets 9 = .ok (.invokevirtual 213, 3) := by decide +kernel
theorem dX8_gets_12 : decode cX8_gets 12 = .ok (.return_, 1) := by decide +kernel
theorem dX8_gives_0 : decode cX8_gives 0 = .ok (.aload_n 0, 1) := by decide +kernel
theorem dX8_gives_1 : decode cX8_gives 1 = .ok (.iload_n 1, 1) := by decide +kernel
theorem dX8_gives_2 : decode cX8_gives 2 = .ok (.iconst 2, 1) := by decide +kernel
theorem dX8_gives_3 : decode cX8_gives 3 = .ok (.invokevirtual 189, 3) := by decide +kernel
theorem dX8_gives_6 : decode cX8_gives 6 = .ok (.i2l, 1) := by decide +kernel
theorem dX8_gives_7 : decode cX8_gives 7 = .ok (.iload_n 2, 1) := by decide +kernel
theorem dX8_gives_8 : decode cX8_gives 8 = .ok (.i2l, 1) := by decide +kernel
theorem dX8_gives_9 : decode cX8_gives 9 = .ok (.aload_n 0, 1) := by decide +kernel
theorem dX8_gives_10 : decode cX8_gives 10 = .ok (.iload_n 1, 1) := by decide +kernel
theorem dX8_gives_11 : decode cX8_gives 11 = .ok (.invokevirtual 216, 3) := by decide +kernel
theorem dX8_gives_14 : decode cX8_gives 14 = .ok (.i2l, 1) := by decide +kernel
theorem dX8_gives_15 : decode cX8_gives 15 = .ok (.lmul, 1) := by decide +kernel
theorem dX8_gives_16 : decode cX8_gives 16 = .ok (.ladd, 1) := by decide +kernel
theorem dX8_gives_17 : decode cX8_gives 17 = .ok (.lstore_n 3, 1) := by decide +kernel
theorem dX8_gives_18 : decode cX8_gives 18 = .ok (.aload_n 0, 1) := by decide +kernel
theorem dX8_gives_19 : decode cX8_gives 19 = .ok (.getfield 9, 3) := by decide +kernel
theorem dX8_gives_22 : decode cX8_gives 22 = .ok (.bipush 30, 2) := by decide +kernel
theorem dX8_gives_24 : decode cX8_gives 24 = .ok (.bipush 7, 2) := by decide +kernel
theorem dX8_gives_26 : decode cX8_gives 26 = .ok (.iload_n 1, 1) := by decide +kernel
theorem dX8_gives_27 : decode cX8_gives 27 = .ok (.imul, 1) := by decide +kernel
theorem dX8_gives_28 : decode cX8_gives 28 = .ok (.iadd, 1) := by decide +kernel
theorem dX8_gives_29 : decode cX8_gives 29 = .ok (.iconst 2, 1) := by decide +kernel
theorem dX8_gives_30 : decode cX8_gives 30 = .ok (.iadd, 1) := by decide +kernel
theorem dX8_gives_31 : decode cX8_gives 31 = .ok (.ldc2_w 219, 3) := by decide +kernel
theorem dX8_gives_34 : decode cX8_gives 34 = .ok (.lload_n 3, 1) := by decide +kernel
theorem dX8_gives_35 : decode cX8_gives 35 = .ok (.invokestatic 203, 3) := by decide +kernel
theorem dX8_gives_38 : decode cX8_gives 38 = .ok (.l2i, 1) := by decide +kernel
theorem dX8_gives_39 : decode cX8_gives 39 = .ok (.iastore, 1) := by decide +kernel
theorem dX8_gives_40 : decode cX8_gives 40 = .ok (.aload_n 0, 1) := by decide +kernel
theorem dX8_gives_41 : decode cX8_gives 41 = .ok (.iload_n 1, 1) := by decide +kernel
theorem dX8_gives_42 : decode cX8_gives 42 = .ok (.iconst 1, 1) := by decide +kernel
theorem dX8_gives_43 : decode cX8_gives 43 = .ok (.iload_n 2, 1) := by decide +kernel
theorem dX8_gives_44 : decode cX8_gives 44 = .ok (.ineg, 1) := by decide +kernel
theorem dX8_gives_45 : decode cX8_gives 45 = .ok (.invokevirtual 209, 3) := by decide +kernel
theorem dX8_gives_48 : decode cX8_gives 48 = .ok (.aload_n 0, 1) := by decide +kernel
theorem dX8_gives_49 : decode cX8_gives 49 = .ok (.iload_n 1, 1) := by decide +kernel
theorem dX8_gives_50 : decode cX8_gives 50 = .ok (.invokevirtual 213, 3) := by decide +kernel
theorem dX8_gives_53 : decode cX8_gives 53 = .ok (.return_, 1) := by decide +kernel
theorem dX8_openMany_0 : decode cX8_openMany 0 = .ok (.iconst 0, 1) := by decide +kernel
theorem dX8_openMany_1 : decode cX8_openMany 1 = .ok (.istore_n 2, 1) := by decide +kernel
theorem dX8_openMany_2 : decode cX8_openMany 2 = .ok (.iconst 0, 1) := by decide +kernel
theorem dX8_openMany_3 : decode cX8_openMany 3 = .ok (.istore_n 3, 1) := by decide +kernel
theorem dX8_openMany_4 : decode cX8_openMany 4 = .ok (.iload_n 3, 1) := by decide +kernel
theorem dX8_openMany_5 : decode cX8_openMany 5 = .ok (.aload_n 0, 1) := by decide +kernel
theorem dX8_openMany_6 : decode cX8_openMany 6 = .ok (.getfield 9, 3) := by decide +kernel
theorem dX8_openMany_9 : decode cX8_openMany 9 = .ok (.bipush 9, 2) := by decide +kernel
theorem dX8_openMany_11 : decode cX8_openMany 11 = .ok (.iaload, 1) := by decide +kernel
theorem dX8_openMany_12 : decode cX8_openMany 12 = .ok (.if_icmp .ge 40, 3) := by decide +kernel
theorem dX8_openMany_15 : decode cX8_openMany 15 = .ok (.iload_n 2, 1) := by decide +kernel
theorem dX8_openMany_16 : decode cX8_openMany 16 = .ok (.aload_n 0, 1) := by decide +kernel
theorem dX8_openMany_17 : decode cX8_openMany 17 = .ok (.iload_n 3, 1) := by decide +kernel
theorem dX8_openMany_18 : decode cX8_openMany 18 = .ok (.invokevirtual 221, 3) := by decide +kernel
theorem dX8_openMany_21 : decode cX8_openMany 21 = .ok (.ifCond .eq 22, 3) := by decide +kernel
theorem dX8_openMany_24 : decode cX8_openMany 24 = .ok (.iload_n 1, 1) := by decide +kernel
theorem dX8_openMany_25 : decode cX8_openMany 25 = .ok (.iconst (-1), 1) := by decide +kernel
theorem dX8_openMany_26 : decode cX8_openMany 26 = .ok (.if_icmp .eq 13, 3) := by decide +kernel
theorem dX8_openMany_29 : decode cX8_openMany 29 = .ok (.aload_n 0, 1) := by decide +kernel
theorem dX8_openMany_30 : decode cX8_openMany 30 = .ok (.iload_n 3, 1) := by decide +kernel
theorem dX8_openMany_31 : decode cX8_openMany 31 = .ok (.iconst 0, 1) := by decide +kernel
theorem dX8_openMany_32 : decode cX8_openMany 32 = .ok (.invokevirtual 50, 3) := by decide +kernel
theorem dX8_openMany_35 : decode cX8_openMany 35 = .ok (.iload_n 1, 1) := by decide +kernel
theorem dX8_openMany_36 : decode cX8_openMany 36 = .ok (.if_icmp .ne 7, 3) := by decide +kernel
theorem dX8_openMany_39 : decode cX8_openMany 39 = .ok (.iconst 1, 1) := by decide +kernel
theorem dX8_openMany_40 : decode cX8_openMany 40 = .ok (.goto 4, 3) := by decide +kernel
theorem dX8_openMany_43 : decode cX8_openMany 43 = .ok (.iconst 0, 1) := by decide +kernel
theorem dX8_openMany_44 : decode cX8_openMany 44 = .ok (.iadd, 1) := by decide +kernel
theorem dX8_openMany_45 : decode cX8_openMany 45 = .ok (.istore_n 2, 1) := by decide +kernel
theorem dX8_openMany_46 : decode cX8_openMany 46 = .ok (.iinc 3 1, 3) := by decide +kernel
theorem dX8_openMany_49 : decode cX8_openMany 49 = .ok (.goto (-45), 3) := by decide +kernel
theorem dX8_openMany_52 : decode cX8_openMany 52 = .ok (.iload_n 2, 1) := by decide +kernel
theorem dX8_openMany_53 : decode cX8_openMany 53 = .ok (.ireturn, 1) := by decide +kernel
theorem dX8_count_0 : decode cX8_count 0 = .ok (.aload_n 0, 1) := by decide +kernel
theorem dX8_count_1 : decode cX8_count 1 = .ok (.iload_n 1, 1) := by decide +kernel
theorem dX8_count_2 : decode cX8_count 2 = .ok (.i2l, 1) := by decide +kernel
theorem dX8_count_3 : decode cX8_count 3 = .ok (.lconst 0, 1) := by decide +kernel
theorem dX8_count_4 : decode cX8_count 4 = .ok (.ldc2_w 225, 3) := by decide +kernel
theorem dX8_count_7 : decode cX8_count 7 = .ok (.invokestatic 44, 3) := by decide +kernel
theorem dX8_count_10 : decode cX8_count 10 = .ok (.iconst 1, 1) := by decide +kernel
theorem dX8_count_11 : decode cX8_count 11 = .ok (.invokevirtual 227, 3) := by decide +kernel
theorem dX8_count_14 : decode cX8_count 14 = .ok (.ifCond .eq 5, 3) := by decide +kernel
theorem dX8_count_17 : decode cX8_count 17 = .ok (.iconst 0, 1) := by decide +kernel
theorem dX8_count_18 : decode cX8_count 18 = .ok (.ireturn, 1) := by decide +kernel
theorem dX8_count_19 : decode cX8_count 19 = .ok (.iload_n 1, 1) := by decide +kernel
theorem dX8_count_20 : decode cX8_count 20 = .ok (.bipush 7, 2) := by decide +kernel
theorem dX8_count_22 : decode cX8_count 22 = .ok (.if_icmp .ne 11, 3) := by decide +kernel
theorem dX8_count_25 : decode cX8_count 25 = .ok (.aload_n 0, 1) := by decide +kernel
theorem dX8_count_26 : decode cX8_count 26 = .ok (.iconst (-1), 1) := by decide +kernel
theorem dX8_count_27 : decode cX8_count 27 = .ok (.invokevirtual 231, 3) := by decide +kernel
theorem dX8_count_30 : decode cX8_count 30 = .ok (.goto 24, 3) := by decide +kernel
theorem dX8_count_33 : decode cX8_count 33 = .ok (.iload_n 1, 1) := by decide +kernel
theorem dX8_count_34 : decode cX8_count 34 = .ok (.bipush 8, 2) := by decide +kernel
theorem dX8_count_36 : decode cX8_count 36 = .ok (.if_icmp .ne 10, 3) := by decide +kernel
theorem dX8_count_39 : decode cX8_count 39 = .ok (.aload_n 0, 1) := by decide +kernel
theorem dX8_count_40 : decode cX8_count 40 = .ok (.getfield 186, 3) := by decide +kernel
theorem dX8_count_43 : decode cX8_count 43 = .ok (.goto 11, 3) := by decide +kernel
theorem dX8_count_46 : decode cX8_count 46 = .ok (.aload_n 0, 1) := by decide +kernel
theorem dX8_count_47 : decode cX8_count 47 = .ok (.getfield 9, 3) := by decide +kernel
theorem dX8_count_50 : decode cX8_count 50 = .ok (.iconst 3, 1) := by decide +kernel
theorem dX8_count_51 : decode cX8_count 51 = .ok (.iload_n 1, 1) := by decide +kernel
theorem dX8_count_52 : decode cX8_count 52 = .ok (.iadd, 1) := by decide +kernel
theorem dX8_count_53 : decode cX8_count 53 = .ok (.iaload, 1) := by decide +kernel
theorem dX8_count_54 : decode cX8_count 54 = .ok (.ireturn, 1) := by decide +kernel
theorem dX8_pack_0 : decode cX8_pack 0 = .ok (.aload_n 0, 1) := by decide +kernel
theorem dX8_pack_1 : decode cX8_pack 1 = .ok (.aload_n 0, 1) := by decide +kernel
theorem dX8_pack_2 : decode cX8_pack 2 = .ok (.iload_n 1, 1) := by decide +kernel
theorem dX8_pack_3 : decode cX8_pack 3 = .ok (.invokevirtual 234, 3) := by decide +kernel
theorem dX8_pack_6 : decode cX8_pack 6 = .ok (.iconst 1, 1) := by decide +kernel
theorem dX8_pack_7 : decode cX8_pack 7 = .ok (.invokevirtual 227, 3) := by decide +kernel
theorem dX8_pack_10 : decode cX8_pack 10 = .ok (.ifCond .ne 20, 3) := by decide +kernel
theorem dX8_pack_13 : decode cX8_pack 13 = .ok (.aload_n 0, 1) := by decide +kernel
theorem dX8_pack_14 : decode cX8_pack 14 = .ok (.iload_n 2, 1) := by decide +kernel
theorem dX8_pack_15 : decode cX8_pack 15 = .ok (.i2l, 1) := by decide +kernel
theorem dX8_pack_16 : decode cX8_pack 16 = .ok (.lconst 0, 1) := by decide +kernel
theorem dX8_pack_17 : decode cX8_pack 17 = .ok (.ldc2_w 225, 3) := by decide +kernel
theorem dX8_pack_20 : decode cX8_pack 20 = .ok (.invokestatic 44, 3) := by decide +kernel
theorem dX8_pack_23 : decode cX8_pack 23 = .ok (.iconst 2, 1) := by decide +kernel
theorem dX8_pack_24 : decode cX8_pack 24 = .ok (.invokevirtual 227, 3) := by decide +kernel
theorem dX8_pack_27 : decode cX8_pack 27 = .ok (.ifCond .eq 5, 3) := by decide +kernel
theorem dX8_pack_30 : decode cX8_pack 30 = .ok (.iconst 0, 1) := by decide +kernel
theorem dX8_pack_31 : decode cX8_pack 31 = .ok (.ireturn, 1) := by decide +kernel
theorem dX8_pack_32 : decode cX8_pack 32 = .ok (.iload_n 2, 1) := by decide +kernel
theorem dX8_pack_33 : decode cX8_pack 33 = .ok (.tableswitch 84 0 8 #[51, 58, 64, 71, 84, 84, 84, 84, 78], 51) := by decide +kernel
theorem dX8_pack_84 : decode cX8_pack 84 = .ok (.aload_n 0, 1) := by decide +kernel
theorem dX8_pack_85 : decode cX8_pack 85 = .ok (.iload_n 1, 1) := by decide +kernel
theorem dX8_pack_86 : decode cX8_pack 86 = .ok (.iconst 0, 1) := by decide +kernel
theorem dX8_pack_87 : decode cX8_pack 87 = .ok (.invokevirtual 189, 3) := by decide +kernel
theorem dX8_pack_90 : decode cX8_pack 90 = .ok (.ireturn, 1) := by decide +kernel
theorem dX8_pack_91 : decode cX8_pack 91 = .ok (.aload_n 0, 1) := by decide +kernel
theorem dX8_pack_92 : decode cX8_pack 92 = .ok (.iload_n 1, 1) := by decide +kernel
theorem dX8_pack_93 : decode cX8_pack 93 = .ok (.invokevirtual 199, 3) := by decide +kernel
theorem dX8_pack_96 : decode cX8_pack 96 = .ok (.ireturn, 1) := by decide +kernel
theorem dX8_pack_97 : decode cX8_pack 97 = .ok (.aload_n 0, 1) := by decide +kernel
theorem dX8_pack_98 : decode cX8_pack 98 = .ok (.iload_n 1, 1) := by decide +kernel
theorem dX8_pack_99 : decode cX8_pack 99 = .ok (.iconst 1, 1) := by decide +kernel
theorem dX8_pack_100 : decode cX8_pack 100 = .ok (.invokevirtual 189, 3) := by decide +kernel
theorem dX8_pack_103 : decode cX8_pack 103 = .ok (.ireturn, 1) := by decide +kernel
theorem dX8_pack_104 : decode cX8_pack 104 = .ok (.aload_n 0, 1) := by decide +kernel
theorem dX8_pack_105 : decode cX8_pack 105 = .ok (.iload_n 1, 1) := by decide +kernel
theorem dX8_pack_106 : decode cX8_pack 106 = .ok (.iconst 2, 1) := by decide +kernel
theorem dX8_pack_107 : decode cX8_pack 107 = .ok (.invokevirtual 189, 3) := by decide +kernel
theorem dX8_pack_110 : decode cX8_pack 110 = .ok (.ireturn, 1) := by decide +kernel
theorem dX8_pack_111 : decode cX8_pack 111 = .ok (.aload_n 0, 1) := by decide +kernel
theorem dX8_pack_112 : decode cX8_pack 112 = .ok (.iload_n 1, 1) := by decide +kernel
theorem dX8_pack_113 : decode cX8_pack 113 = .ok (.invokevirtual 206, 3) := by decide +kernel
theorem dX8_pack_116 : decode cX8_pack 116 = .ok (.ireturn, 1) := by decide +kernel
theorem dX8_pack_117 : decode cX8_pack 117 = .ok (.aload_n 0, 1) := by decide +kernel
theorem dX8_pack_118 : decode cX8_pack 118 = .ok (.iload_n 1, 1) := by decide +kernel
theorem dX8_pack_119 : decode cX8_pack 119 = .ok (.iload_n 2, 1) := by decide +kernel
theorem dX8_pack_120 : decode cX8_pack 120 = .ok (.iconst 1, 1) := by decide +kernel
theorem dX8_pack_121 : decode cX8_pack 121 = .ok (.isub, 1) := by decide +kernel
theorem dX8_pack_122 : decode cX8_pack 122 = .ok (.invokevirtual 189, 3) := by decide +kernel
theorem dX8_pack_125 : decode cX8_pack 125 = .ok (.ireturn, 1) := by decide +kernel
theorem dX8_cable_0 : decode cX8_cable 0 = .ok (.aload_n 0, 1) := by decide +kernel
theorem dX8_cable_1 : decode cX8_cable 1 = .ok (.aload_n 0, 1) := by decide +kernel
theorem dX8_cable_2 : decode cX8_cable 2 = .ok (.iload_n 1, 1) := by decide +kernel
theorem dX8_cable_3 : decode cX8_cable 3 = .ok (.invokevirtual 234, 3) := by decide +kernel
theorem dX8_cable_6 : decode cX8_cable 6 = .ok (.ifCond .eq 15, 3) := by decide +kernel
theorem dX8_cable_9 : decode cX8_cable 9 = .ok (.aload_n 0, 1) := by decide +kernel
theorem dX8_cable_10 : decode cX8_cable 10 = .ok (.iload_n 2, 1) := by decide +kernel
theorem dX8_cable_11 : decode cX8_cable 11 = .ok (.invokevirtual 234, 3) := by decide +kernel
theorem dX8_cable_14 : decode cX8_cable 14 = .ok (.ifCond .eq 7, 3) := by decide +kernel
theorem dX8_cable_17 : decode cX8_cable 17 = .ok (.iconst 1, 1) := by decide +kernel
theorem dX8_cable_18 : decode cX8_cable 18 = .ok (.goto 4, 3) := by decide +kernel
theorem dX8_cable_21 : decode cX8_cable 21 = .ok (.iconst 0, 1) := by decide +kernel
theorem dX8_cable_22 : decode cX8_cable 22 = .ok (.iconst 1, 1) := by decide +kernel
theorem dX8_cable_23 : decode cX8_cable 23 = .ok (.invokevirtual 227, 3) := by decide +kernel
theorem dX8_cable_26 : decode cX8_cable 26 = .ok (.ifCond .ne 20, 3) := by decide +kernel
theorem dX8_cable_29 : decode cX8_cable 29 = .ok (.aload_n 0, 1) := by decide +kernel
theorem dX8_cable_30 : decode cX8_cable 30 = .ok (.iload_n 3, 1) := by decide +kernel
theorem dX8_cable_31 : decode cX8_cable 31 = .ok (.i2l, 1) := by decide +kernel
theorem dX8_cable_32 : decode cX8_cable 32 = .ok (.lconst 0, 1) := by decide +kernel
theorem dX8_cable_33 : decode cX8_cable 33 = .ok (.ldc2_w 195, 3) := by decide +kernel
theorem dX8_cable_36 : decode cX8_cable 36 = .ok (.invokestatic 44, 3) := by decide +kernel
theorem dX8_cable_39 : decode cX8_cable 39 = .ok (.iconst 2, 1) := by decide +kernel
theorem dX8_cable_40 : decode cX8_cable 40 = .ok (.invokevirtual 227, 3) := by decide +kernel
theorem dX8_cable_43 : decode cX8_cable 43 = .ok (.ifCond .eq 5, 3) := by decide +kernel
theorem dX8_cable_46 : decode cX8_cable 46 = .ok (.iconst 0, 1) := by decide +kernel
theorem dX8_cable_47 : decode cX8_cable 47 = .ok (.ireturn, 1) := by decide +kernel
theorem dX8_cable_48 : decode cX8_cable 48 = .ok (.aload_n 0, 1) := by decide +kernel
theorem dX8_cable_49 : decode cX8_cable 49 = .ok (.getfield 9, 3) := by decide +kernel
theorem dX8_cable_52 : decode cX8_cable 52 = .ok (.iload_n 1, 1) := by decide +kernel
theorem dX8_cable_53 : decode cX8_cable 53 = .ok (.iload_n 2, 1) := by decide +kernel
theorem dX8_cable_54 : decode cX8_cable 54 = .ok (.invokestatic 134, 3) := by decide +kernel
theorem dX8_cable_57 : decode cX8_cable 57 = .ok (.istore 4, 2) := by decide +kernel
theorem dX8_cable_59 : decode cX8_cable 59 = .ok (.iload 4, 2) := by decide +kernel
theorem dX8_cable_61 : decode cX8_cable 61 = .ok (.iconst (-1), 1) := by decide +kernel
theorem dX8_cable_62 : decode cX8_cable 62 = .ok (.if_icmp .ne 7, 3) := by decide +kernel
theorem dX8_cable_65 : decode cX8_cable 65 = .ok (.iconst (-1), 1) := by decide +kernel
theorem dX8_cable_66 : decode cX8_cable 66 = .ok (.goto 12, 3) := by decide +kernel
theorem dX8_cable_69 : decode cX8_cable 69 = .ok (.aload_n 0, 1) := by decide +kernel
theorem dX8_cable_70 : decode cX8_cable 70 = .ok (.iload 4, 2) := by decide +kernel
theorem dX8_cable_72 : decode cX8_cable 72 = .ok (.iconst 2, 1) := by decide +kernel
theorem dX8_cable_73 : decode cX8_cable 73 = .ok (.iload_n 3, 1) := by decide +kernel
theorem dX8_cable_74 : decode cX8_cable 74 = .ok (.iadd, 1) := by decide +kernel
theorem dX8_cable_75 : decode cX8_cable 75 = .ok (.invokevirtual 237, 3) := by decide +kernel
theorem dX8_cable_78 : decode cX8_cable 78 = .ok (.ireturn, 1) := by decide +kernel
theorem dX8_gainOf_0 : decode cX8_gainOf 0 = .ok (.iconst 0, 1) := by decide +kernel
theorem dX8_gainOf_1 : decode cX8_gainOf 1 = .ok (.istore_n 3, 1) := by decide +kernel
theorem dX8_gainOf_2 : decode cX8_gainOf 2 = .ok (.iconst 0, 1) := by decide +kernel
theorem dX8_gainOf_3 : decode cX8_gainOf 3 = .ok (.istore 4, 2) := by decide +kernel
theorem dX8_gainOf_5 : decode cX8_gainOf 5 = .ok (.iload 4, 2) := by decide +kernel
theorem dX8_gainOf_7 : decode cX8_gainOf 7 = .ok (.aload_n 0, 1) := by decide +kernel
theorem dX8_gainOf_8 : decode cX8_gainOf 8 = .ok (.getfield 9, 3) := by decide +kernel
theorem dX8_gainOf_11 : decode cX8_gainOf 11 = .ok (.bipush 6, 2) := by decide +kernel
theorem dX8_gainOf_13 : decode cX8_gainOf 13 = .ok (.iaload, 1) := by decide +kernel
theorem dX8_gainOf_14 : decode cX8_gainOf 14 = .ok (.if_icmp .ge 74, 3) := by decide +kernel
theorem dX8_gainOf_17 : decode cX8_gainOf 17 = .ok (.sipush 158, 3) := by decide +kernel
theorem dX8_gainOf_20 : decode cX8_gainOf 20 = .ok (.iconst 4, 1) := by decide +kernel
theorem dX8_gainOf_21 : decode cX8_gainOf 21 = .ok (.iload 4, 2) := by decide +kernel
theorem dX8_gainOf_23 : decode cX8_gainOf 23 = .ok (.imul, 1) := by decide +kernel
theorem dX8_gainOf_24 : decode cX8_gainOf 24 = .ok (.iadd, 1) := by decide +kernel
theorem dX8_gainOf_25 : decode cX8_gainOf 25 = .ok (.istore 5, 2) := by decide +kernel
theorem dX8_gainOf_27 : decode cX8_gainOf 27 = .ok (.iload_n 3, 1) := by decide +kernel
theorem dX8_gainOf_28 : decode cX8_gainOf 28 = .ok (.aload_n 0, 1) := by decide +kernel
theorem dX8_gainOf_29 : decode cX8_gainOf 29 = .ok (.getfield 9, 3) := by decide +kernel
theorem dX8_gainOf_32 : decode cX8_gainOf 32 = .ok (.iload 5, 2) := by decide +kernel
theorem dX8_gainOf_34 : decode cX8_gainOf 34 = .ok (.iaload, 1) := by decide +kernel
theorem dX8_gainOf_35 : decode cX8_gainOf 35 = .ok (.iload_n 1, 1) := by decide +kernel
theorem dX8_gainOf_36 : decode cX8_gainOf 36 = .ok (.if_icmp .ne 43, 3) := by decide +kernel
theorem dX8_gainOf_39 : decode cX8_gainOf 39 = .ok (.iload_n 2, 1) := by decide +kernel
theorem dX8_gainOf_40 : decode cX8_gainOf 40 = .ok (.i2l, 1) := by decide +kernel
theorem dX8_gainOf_41 : decode cX8_gainOf 41 = .ok (.aload_n 0, 1) := by decide +kernel
theorem dX8_gainOf_42 : decode cX8_gainOf 42 = .ok (.getfield 9, 3) := by decide +kernel
theorem dX8_gainOf_45 : decode cX8_gainOf 45 = .ok (.iload 5, 2) := by decide +kernel
theorem dX8_gainOf_47 : decode cX8_gainOf 47 = .ok (.iconst 1, 1) := by decide +kernel
theorem dX8_gainOf_48 : decode cX8_gainOf 48 = .ok (.iadd, 1) := by decide +kernel
theorem dX8_gainOf_49 : decode cX8_gainOf 49 = .ok (.iaload, 1) := by decide +kernel
theorem dX8_gainOf_50 : decode cX8_gainOf 50 = .ok (.i2l, 1) := by decide +kernel
theorem dX8_gainOf_51 : decode cX8_gainOf 51 = .ok (.aload_n 0, 1) := by decide +kernel
theorem dX8_gainOf_52 : decode cX8_gainOf 52 = .ok (.getfield 9, 3) := by decide +kernel
theorem dX8_gainOf_55 : decode cX8_gainOf 55 = .ok (.iload 5, 2) := by decide +kernel
theorem dX8_gainOf_57 : decode cX8_gainOf 57 = .ok (.iconst 2, 1) := by decide +kernel
theorem dX8_gainOf_58 : decode cX8_gainOf 58 = .ok (.iadd, 1) := by decide +kernel
theorem dX8_gainOf_59 : decode cX8_gainOf 59 = .ok (.iaload, 1) := by decide +kernel
theorem dX8_gainOf_60 : decode cX8_gainOf 60 = .ok (.i2l, 1) := by decide +kernel
theorem dX8_gainOf_61 : decode cX8_gainOf 61 = .ok (.invokestatic 44, 3) := by decide +kernel
theorem dX8_gainOf_64 : decode cX8_gainOf 64 = .ok (.ifCond .eq 15, 3) := by decide +kernel
theorem dX8_gainOf_67 : decode cX8_gainOf 67 = .ok (.aload_n 0, 1) := by decide +kernel
theorem dX8_gainOf_68 : decode cX8_gainOf 68 = .ok (.getfield 9, 3) := by decide +kernel
theorem dX8_gainOf_71 : decode cX8_gainOf 71 = .ok (.iload 5, 2) := by decide +kernel
theorem dX8_gainOf_73 : decode cX8_gainOf 73 = .ok (.iconst 3, 1) := by decide +kernel
theorem dX8_gainOf_74 : decode cX8_gainOf 74 = .ok (.iadd, 1) := by decide +kernel
theorem dX8_gainOf_75 : decode cX8_gainOf 75 = .ok (.iaload, 1) := by decide +kernel
theorem dX8_gainOf_76 : decode cX8_gainOf 76 = .ok (.goto 4, 3) := by decide +kernel
theorem dX8_gainOf_79 : decode cX8_gainOf 79 = .ok (.iconst 0, 1) := by decide +kernel
theorem dX8_gainOf_80 : decode cX8_gainOf 80 = .ok (.iadd, 1) := by decide +kernel
theorem dX8_gainOf_81 : decode cX8_gainOf 81 = .ok (.istore_n 3, 1) := by decide +kernel
theorem dX8_gainOf_82 : decode cX8_gainOf 82 = .ok (.iinc 4 1, 3) := by decide +kernel
theorem dX8_gainOf_85 : decode cX8_gainOf 85 = .ok (.goto (-80), 3) := by decide +kernel
theorem dX8_gainOf_88 : decode cX8_gainOf 88 = .ok (.iload_n 3, 1) := by decide +kernel
theorem dX8_gainOf_89 : decode cX8_gainOf 89 = .ok (.ireturn, 1) := by decide +kernel
theorem dX8_gainAt_0 : decode cX8_gainAt 0 = .ok (.aload_n 0, 1) := by decide +kernel
theorem dX8_gainAt_1 : decode cX8_gainAt 1 = .ok (.aload_n 0, 1) := by decide +kernel
theorem dX8_gainAt_2 : decode cX8_gainAt 2 = .ok (.iload_n 1, 1) := by decide +kernel
theorem dX8_gainAt_3 : decode cX8_gainAt 3 = .ok (.invokevirtual 234, 3) := by decide +kernel
theorem dX8_gainAt_6 : decode cX8_gainAt 6 = .ok (.iconst 1, 1) := by decide +kernel
theorem dX8_gainAt_7 : decode cX8_gainAt 7 = .ok (.invokevirtual 227, 3) := by decide +kernel
theorem dX8_gainAt_10 : decode cX8_gainAt 10 = .ok (.ifCond .ne 20, 3) := by decide +kernel
theorem dX8_gainAt_13 : decode cX8_gainAt 13 = .ok (.aload_n 0, 1) := by decide +kernel
theorem dX8_gainAt_14 : decode cX8_gainAt 14 = .ok (.iload_n 2, 1) := by decide +kernel
theorem dX8_gainAt_15 : decode cX8_gainAt 15 = .ok (.i2l, 1) := by decide +kernel
theorem dX8_gainAt_16 : decode cX8_gainAt 16 = .ok (.lconst 0, 1) := by decide +kernel
theorem dX8_gainAt_17 : decode cX8_gainAt 17 = .ok (.ldc2_w 240, 3) := by decide +kernel
theorem dX8_gainAt_20 : decode cX8_gainAt 20 = .ok (.invokestatic 44, 3) := by decide +kernel
theorem dX8_gainAt_23 : decode cX8_gainAt 23 = .ok (.iconst 2, 1) := by decide +kernel
theorem dX8_gainAt_24 : decode cX8_gainAt 24 = .ok (.invokevirtual 227, 3) := by decide +kernel
theorem dX8_gainAt_27 : decode cX8_gainAt 27 = .ok (.ifCond .eq 5, 3) := by decide +kernel
theorem dX8_gainAt_30 : decode cX8_gainAt 30 = .ok (.iconst 0, 1) := by decide +kernel
theorem dX8_gainAt_31 : decode cX8_gainAt 31 = .ok (.ireturn, 1) := by decide +kernel
theorem dX8_gainAt_32 : decode cX8_gainAt 32 = .ok (.aload_n 0, 1) := by decide +kernel
theorem dX8_gainAt_33 : decode cX8_gainAt 33 = .ok (.iload_n 1, 1) := by decide +kernel
theorem dX8_gainAt_34 : decode cX8_gainAt 34 = .ok (.iload_n 2, 1) := by decide +kernel
theorem dX8_gainAt_35 : decode cX8_gainAt 35 = .ok (.invokevirtual 242, 3) := by decide +kernel
theorem dX8_gainAt_38 : decode cX8_gainAt 38 = .ok (.ireturn, 1) := by decide +kernel
theorem dX8_trip_0 : decode cX8_trip 0 = .ok (.aload_n 0, 1) := by decide +kernel
theorem dX8_trip_1 : decode cX8_trip 1 = .ok (.aload_n 0, 1) := by decide +kernel
theorem dX8_trip_2 : decode cX8_trip 2 = .ok (.iload_n 1, 1) := by decide +kernel
theorem dX8_trip_3 : decode cX8_trip 3 = .ok (.invokevirtual 245, 3) := by decide +kernel
theorem dX8_trip_6 : decode cX8_trip 6 = .ok (.iconst 1, 1) := by decide +kernel
theorem dX8_trip_7 : decode cX8_trip 7 = .ok (.invokevirtual 227, 3) := by decide +kernel
theorem dX8_trip_10 : decode cX8_trip 10 = .ok (.ifCond .ne 20, 3) := by decide +kernel
theorem dX8_trip_13 : decode cX8_trip 13 = .ok (.aload_n 0, 1) := by decide +kernel
theorem dX8_trip_14 : decode cX8_trip 14 = .ok (.iload_n 2, 1) := by decide +kernel
theorem dX8_trip_15 : decode cX8_trip 15 = .ok (.i2l, 1) := by decide +kernel
theorem dX8_trip_16 : decode cX8_trip 16 = .ok (.lconst 0, 1) := by decide +kernel
theorem dX8_trip_17 : decode cX8_trip 17 = .ok (.ldc2_w 195, 3) := by decide +kernel
theorem dX8_trip_20 : decode cX8_trip 20 = .ok (.invokestatic 44, 3) := by decide +kernel
theorem dX8_trip_23 : decode cX8_trip 23 = .ok (.iconst 2, 1) := by decide +kernel
theorem dX8_trip_24 : decode cX8_trip 24 = .ok (.invokevirtual 227, 3) := by decide +kernel
theorem dX8_trip_27 : decode cX8_trip 27 = .ok (.ifCond .eq 5, 3) := by decide +kernel
theorem dX8_trip_30 : decode cX8_trip 30 = .ok (.iconst 0, 1) := by decide +kernel
theorem dX8_trip_31 : decode cX8_trip 31 = .ok (.ireturn, 1) := by decide +kernel
theorem dX8_trip_32 : decode cX8_trip 32 = .ok (.aload_n 0, 1) := by decide +kernel
theorem dX8_trip_33 : decode cX8_trip 33 = .ok (.iload_n 1, 1) := by decide +kernel
theorem dX8_trip_34 : decode cX8_trip 34 = .ok (.iload_n 2, 1) := by decide +kernel
theorem dX8_trip_35 : decode cX8_trip 35 = .ok (.invokevirtual 248, 3) := by decide +kernel
theorem dX8_trip_38 : decode cX8_trip 38 = .ok (.ireturn, 1) := by decide +kernel
theorem dX8_isOpen_0 : decode cX8_isOpen 0 = .ok (.aload_n 0, 1) := by decide +kernel
theorem dX8_isOpen_1 : decode cX8_isOpen 1 = .ok (.iload_n 1, 1) := by decide +kernel
theorem dX8_isOpen_2 : decode cX8_isOpen 2 = .ok (.iconst 5, 1) := by decide +kernel
theorem dX8_isOpen_3 : decode cX8_isOpen 3 = .ok (.invokevirtual 50, 3) := by decide +kernel
theorem dX8_isOpen_6 : decode cX8_isOpen 6 = .ok (.iconst 2, 1) := by decide +kernel
theorem dX8_isOpen_7 : decode cX8_isOpen 7 = .ok (.if_icmp .gt 7, 3) := by decide +kernel
theorem dX8_isOpen_10 : decode cX8_isOpen 10 = .ok (.iconst 1, 1) := by decide +kernel
theorem dX8_isOpen_11 : decode cX8_isOpen 11 = .ok (.goto 4, 3) := by decide +kernel
theorem dX8_isOpen_14 : decode cX8_isOpen 14 = .ok (.iconst 0, 1) := by decide +kernel
theorem dX8_isOpen_15 : decode cX8_isOpen 15 = .ok (.ireturn, 1) := by decide +kernel
theorem dX8_interestOf_0 : decode cX8_interestOf 0 = .ok (.iload_n 1, 1) := by decide +kernel
theorem dX8_interestOf_1 : decode cX8_interestOf 1 = .ok (.aload_n 0, 1) := by decide +kernel
theorem dX8_interestOf_2 : decode cX8_interestOf 2 = .ok (.getfield 9, 3) := by decide +kernel
theorem dX8_interestOf_5 : decode cX8_interestOf 5 = .ok (.iconst 1, 1) := by decide +kernel
theorem dX8_interestOf_6 : decode cX8_interestOf 6 = .ok (.iaload, 1) := by decide +kernel
theorem dX8_interestOf_7 : decode cX8_interestOf 7 = .ok (.iadd, 1) := by decide +kernel
theorem dX8_interestOf_8 : decode cX8_interestOf 8 = .ok (.iconst 1, 1) := by decide +kernel
theorem dX8_interestOf_9 : decode cX8_interestOf 9 = .ok (.isub, 1) := by decide +kernel
theorem dX8_interestOf_10 : decode cX8_interestOf 10 = .ok (.aload_n 0, 1) := by decide +kernel
theorem dX8_interestOf_11 : decode cX8_interestOf 11 = .ok (.getfield 9, 3) := by decide +kernel
theorem dX8_interestOf_14 : decode cX8_interestOf 14 = .ok (.iconst 1, 1) := by decide +kernel
theorem dX8_interestOf_15 : decode cX8_interestOf 15 = .ok (.iaload, 1) := by decide +kernel
theorem dX8_interestOf_16 : decode cX8_interestOf 16 = .ok (.idiv, 1) := by decide +kernel
theorem dX8_interestOf_17 : decode cX8_interestOf 17 = .ok (.ireturn, 1) := by decide +kernel
theorem dX8_owed_0 : decode cX8_owed 0 = .ok (.aload_n 0, 1) := by decide +kernel
theorem dX8_owed_1 : decode cX8_owed 1 = .ok (.iload_n 1, 1) := by decide +kernel
theorem dX8_owed_2 : decode cX8_owed 2 = .ok (.invokevirtual 221, 3) := by decide +kernel
theorem dX8_owed_5 : decode cX8_owed 5 = .ok (.ifCond .ne 5, 3) := by decide +kernel
theorem dX8_owed_8 : decode cX8_owed 8 = .ok (.iconst 0, 1) := by decide +kernel
theorem dX8_owed_9 : decode cX8_owed 9 = .ok (.ireturn, 1) := by decide +kernel
theorem dX8_owed_10 : decode cX8_owed 10 = .ok (.iconst 0, 1) := by decide +kernel
theorem dX8_owed_11 : decode cX8_owed 11 = .ok (.aload_n 0, 1) := by decide +kernel
theorem dX8_owed_12 : decode cX8_owed 12 = .ok (.iload_n 1, 1) := by decide +kernel
theorem dX8_owed_13 : decode cX8_owed 13 = .ok (.iconst 2, 1) := by decide +kernel
theorem dX8_owed_14 : decode cX8_owed 14 = .ok (.invokevirtual 50, 3) := by decide +kernel
theorem dX8_owed_17 : decode cX8_owed 17 = .ok (.aload_n 0, 1) := by decide +kernel
theorem dX8_owed_18 : decode cX8_owed 18 = .ok (.aload_n 0, 1) := by decide +kernel
theorem dX8_owed_19 : decode cX8_owed 19 = .ok (.iload_n 1, 1) := by decide +kernel
theorem dX8_owed_20 : decode cX8_owed 20 = .ok (.iconst 3, 1) := by decide +kernel
theorem dX8_owed_21 : decode cX8_owed 21 = .ok (.invokevirtual 50, 3) := by decide +kernel
theorem dX8_owed_24 : decode cX8_owed 24 = .ok (.invokevirtual 251, 3) := by decide +kernel
theorem dX8_owed_27 : decode cX8_owed 27 = .ok (.iadd, 1) := by decide +kernel
theorem dX8_owed_28 : decode cX8_owed 28 = .ok (.aload_n 0, 1) := by decide +kernel
theorem dX8_owed_29 : decode cX8_owed 29 = .ok (.iload_n 1, 1) := by decide +kernel
theorem dX8_owed_30 : decode cX8_owed 30 = .ok (.iconst 4, 1) := by decide +kernel
theorem dX8_owed_31 : decode cX8_owed 31 = .ok (.invokevirtual 50, 3) := by decide +kernel
theorem dX8_owed_34 : decode cX8_owed 34 = .ok (.isub, 1) := by decide +kernel
theorem dX8_owed_35 : decode cX8_owed 35 = .ok (.invokestatic 192, 3) := by decide +kernel
theorem dX8_owed_38 : decode cX8_owed 38 = .ok (.ireturn, 1) := by decide +kernel
theorem dX8_outstanding_0 : decode cX8_outstanding 0 = .ok (.lconst 0, 1) := by decide +kernel
theorem dX8_outstanding_1 : decode cX8_outstanding 1 = .ok (.lstore_n 2, 1) := by decide +kernel
theorem dX8_outstanding_2 : decode cX8_outstanding 2 = .ok (.iconst 0, 1) := by decide +kernel
theorem dX8_outstanding_3 : decode cX8_outstanding 3 = .ok (.istore 4, 2) := by decide +kernel
theorem dX8_outstanding_5 : decode cX8_outstanding 5 = .ok (.iload 4, 2) := by decide +kernel
theorem dX8_outstanding_7 : decode cX8_outstanding 7 = .ok (.aload_n 0, 1) := by decide +kernel
theorem dX8_outstanding_8 : decode cX8_outstanding 8 = .ok (.getfield 9, 3) := by decide +kernel
theorem dX8_outstanding_11 : decode cX8_outstanding 11 = .ok (.bipush 9, 2) := by decide +kernel
theorem dX8_outstanding_13 : decode cX8_outstanding 13 = .ok (.iaload, 1) := by decide +kernel
theorem dX8_outstanding_14 : decode cX8_outstanding 14 = .ok (.if_icmp .ge 60, 3) := by decide +kernel
theorem dX8_outstanding_17 : decode cX8_outstanding 17 = .ok (.aload_n 0, 1) := by decide +kernel
theorem dX8_outstanding_18 : decode cX8_outstanding 18 = .ok (.iload 4, 2) := by decide +kernel
theorem dX8_outstanding_20 : decode cX8_outstanding 20 = .ok (.iconst 0, 1) := by decide +kernel
theorem dX8_outstanding_21 : decode cX8_outstanding 21 = .ok (.invokevirtual 50, 3) := by decide +kernel
theorem dX8_outstanding_24 : decode cX8_outstanding 24 = .ok (.iload_n 1, 1) := by decide +kernel
theorem dX8_outstanding_25 : decode cX8_outstanding 25 = .ok (.if_icmp .ne 43, 3) := by decide +kernel
theorem dX8_outstanding_28 : decode cX8_outstanding 28 = .ok (.lload_n 2, 1) := by decide +kernel
theorem dX8_outstanding_29 : decode cX8_outstanding 29 = .ok (.aload_n 0, 1) := by decide +kernel
theorem dX8_outstanding_30 : decode cX8_outstanding 30 = .ok (.iload 4, 2) := by decide +kernel
theorem dX8_outstanding_32 : decode cX8_outstanding 32 = .ok (.invokevirtual 254, 3) := by decide +kernel
theorem dX8_outstanding_35 : decode cX8_outstanding 35 = .ok (.aload_n 0, 1) := by decide +kernel
theorem dX8_outstanding_36 : decode cX8_outstanding 36 = .ok (.iload 4, 2) := by decide +kernel
theorem dX8_outstanding_38 : decode cX8_outstanding 38 = .ok (.iconst 5, 1) := by decide +kernel
theorem dX8_outstanding_39 : decode cX8_outstanding 39 = .ok (.invokevirtual 50, 3) := by decide +kernel
theorem dX8_outstanding_42 : decode cX8_outstanding 42 = .ok (.ifCond .ne 21, 3) := by decide +kernel
theorem dX8_outstanding_45 : decode cX8_outstanding 45 = .ok (.aload_n 0, 1) := by decide +kernel
theorem dX8_outstanding_46 : decode cX8_outstanding 46 = .ok (.iload 4, 2) := by decide +kernel
theorem dX8_outstanding_48 : decode cX8_outstanding 48 = .ok (.iconst 1, 1) := by decide +kernel
theorem dX8_outstanding_49 : decode cX8_outstanding 49 = .ok (.invokevirtual 50, 3) := by decide +kernel
theorem dX8_outstanding_52 : decode cX8_outstanding 52 = .ok (.aload_n 0, 1) := by decide +kernel
theorem dX8_outstanding_53 : decode cX8_outstanding 53 = .ok (.iload 4, 2) := by decide +kernel
theorem dX8_outstanding_55 : decode cX8_outstanding 55 = .ok (.iconst 2, 1) := by decide +kernel
theorem dX8_outstanding_56 : decode cX8_outstanding 56 = .ok (.invokevirtual 50, 3) := by decide +kernel
theorem dX8_outstanding_59 : decode cX8_outstanding 59 = .ok (.isub, 1) := by decide +kernel
theorem dX8_outstanding_60 : decode cX8_outstanding 60 = .ok (.goto 4, 3) := by decide +kernel
theorem dX8_outstanding_63 : decode cX8_outstanding 63 = .ok (.iconst 0, 1) := by decide +kernel
theorem dX8_outstanding_64 : decode cX8_outstanding 64 = .ok (.iadd, 1) := by decide +kernel
theorem dX8_outstanding_65 : decode cX8_outstanding 65 = .ok (.i2l, 1) := by decide +kernel
theorem dX8_outstanding_66 : decode cX8_outstanding 66 = .ok (.ladd, 1) := by decide +kernel
theorem dX8_outstanding_67 : decode cX8_outstanding 67 = .ok (.lstore_n 2, 1) := by decide +kernel
theorem dX8_outstanding_68 : decode cX8_outstanding 68 = .ok (.iinc 4 1, 3) := by decide +kernel
theorem dX8_outstanding_71 : decode cX8_outstanding 71 = .ok (.goto (-66), 3) := by decide +kernel
theorem dX8_outstanding_74 : decode cX8_outstanding 74 = .ok (.lload_n 2, 1) := by decide +kernel
theorem dX8_outstanding_75 : decode cX8_outstanding 75 = .ok (.lreturn, 1) := by decide +kernel
theorem dX8_sumOf_0 : decode cX8_sumOf 0 = .ok (.iconst 0, 1) := by decide +kernel
theorem dX8_sumOf_1 : decode cX8_sumOf 1 = .ok (.istore_n 3, 1) := by decide +kernel
theorem dX8_sumOf_2 : decode cX8_sumOf 2 = .ok (.iconst 0, 1) := by decide +kernel
theorem dX8_sumOf_3 : decode cX8_sumOf 3 = .ok (.istore 4, 2) := by decide +kernel
theorem dX8_sumOf_5 : decode cX8_sumOf 5 = .ok (.iload 4, 2) := by decide +kernel
theorem dX8_sumOf_7 : decode cX8_sumOf 7 = .ok (.aload_n 0, 1) := by decide +kernel
theorem dX8_sumOf_8 : decode cX8_sumOf 8 = .ok (.getfield 9, 3) := by decide +kernel
theorem dX8_sumOf_11 : decode cX8_sumOf 11 = .ok (.bipush 9, 2) := by decide +kernel
theorem dX8_sumOf_13 : decode cX8_sumOf 13 = .ok (.iaload, 1) := by decide +kernel
theorem dX8_sumOf_14 : decode cX8_sumOf 14 = .ok (.if_icmp .ge 34, 3) := by decide +kernel
theorem dX8_sumOf_17 : decode cX8_sumOf 17 = .ok (.iload_n 3, 1) := by decide +kernel
theorem dX8_sumOf_18 : decode cX8_sumOf 18 = .ok (.aload_n 0, 1) := by decide +kernel
theorem dX8_sumOf_19 : decode cX8_sumOf 19 = .ok (.iload 4, 2) := by decide +kernel
theorem dX8_sumOf_21 : decode cX8_sumOf 21 = .ok (.iconst 0, 1) := by decide +kernel
theorem dX8_sumOf_22 : decode cX8_sumOf 22 = .ok (.invokevirtual 50, 3) := by decide +kernel
theorem dX8_sumOf_25 : decode cX8_sumOf 25 = .ok (.iload_n 1, 1) := by decide +kernel
theorem dX8_sumOf_26 : decode cX8_sumOf 26 = .ok (.if_icmp .ne 13, 3) := by decide +kernel
theorem dX8_sumOf_29 : decode cX8_sumOf 29 = .ok (.aload_n 0, 1) := by decide +kernel
theorem dX8_sumOf_30 : decode cX8_sumOf 30 = .ok (.iload 4, 2) := by decide +kernel
theorem dX8_sumOf_32 : decode cX8_sumOf 32 = .ok (.iload_n 2, 1) := by decide +kernel
theorem dX8_sumOf_33 : decode cX8_sumOf 33 = .ok (.invokevirtual 50, 3) := by decide +kernel
theorem dX8_sumOf_36 : decode cX8_sumOf 36 = .ok (.goto 4, 3) := by decide +kernel
theorem dX8_sumOf_39 : decode cX8_sumOf 39 = .ok (.iconst 0, 1) := by decide +kernel
theorem dX8_sumOf_40 : decode cX8_sumOf 40 = .ok (.iadd, 1) := by decide +kernel
theorem dX8_sumOf_41 : decode cX8_sumOf 41 = .ok (.istore_n 3, 1) := by decide +kernel
theorem dX8_sumOf_42 : decode cX8_sumOf 42 = .ok (.iinc 4 1, 3) := by decide +kernel
theorem dX8_sumOf_45 : decode cX8_sumOf 45 = .ok (.goto (-40), 3) := by decide +kernel
theorem dX8_sumOf_48 : decode cX8_sumOf 48 = .ok (.iload_n 3, 1) := by decide +kernel
theorem dX8_sumOf_49 : decode cX8_sumOf 49 = .ok (.ireturn, 1) := by decide +kernel
theorem dX8_contract_0 : decode cX8_contract 0 = .ok (.aload_n 0, 1) := by decide +kernel
theorem dX8_contract_1 : decode cX8_contract 1 = .ok (.aload_n 0, 1) := by decide +kernel
theorem dX8_contract_2 : decode cX8_contract 2 = .ok (.iload_n 1, 1) := by decide +kernel
theorem dX8_contract_3 : decode cX8_contract 3 = .ok (.invokevirtual 257, 3) := by decide +kernel
theorem dX8_contract_6 : decode cX8_contract 6 = .ok (.iconst 1, 1) := by decide +kernel
theorem dX8_contract_7 : decode cX8_contract 7 = .ok (.invokevirtual 227, 3) := by decide +kernel
theorem dX8_contract_10 : decode cX8_contract 10 = .ok (.ifCond .ne 20, 3) := by decide +kernel
theorem dX8_contract_13 : decode cX8_contract 13 = .ok (.aload_n 0, 1) := by decide +kernel
theorem dX8_contract_14 : decode cX8_contract 14 = .ok (.iload_n 2, 1) := by decide +kernel
theorem dX8_contract_15 : decode cX8_contract 15 = .ok (.i2l, 1) := by decide +kernel
theorem dX8_contract_16 : decode cX8_contract 16 = .ok (.lconst 0, 1) := by decide +kernel
theorem dX8_contract_17 : decode cX8_contract 17 = .ok (.ldc2_w 260, 3) := by decide +kernel
theorem dX8_contract_20 : decode cX8_contract 20 = .ok (.invokestatic 44, 3) := by decide +kernel
theorem dX8_contract_23 : decode cX8_contract 23 = .ok (.iconst 2, 1) := by decide +kernel
theorem dX8_contract_24 : decode cX8_contract 24 = .ok (.invokevirtual 227, 3) := by decide +kernel
theorem dX8_contract_27 : decode cX8_contract 27 = .ok (.ifCond .eq 5, 3) := by decide +kernel
theorem dX8_contract_30 : decode cX8_contract 30 = .ok (.iconst 0, 1) := by decide +kernel
theorem dX8_contract_31 : decode cX8_contract 31 = .ok (.ireturn, 1) := by decide +kernel
theorem dX8_contract_32 : decode cX8_contract 32 = .ok (.iload_n 2, 1) := by decide +kernel
theorem dX8_contract_33 : decode cX8_contract 33 = .ok (.tableswitch 69 5 9 #[35, 42, 48, 55, 62], 35) := by decide +kernel
theorem dX8_contract_68 : decode cX8_contract 68 = .ok (.aload_n 0, 1) := by decide +kernel
theorem dX8_contract_69 : decode cX8_contract 69 = .ok (.iload_n 1, 1) := by decide +kernel
theorem dX8_contract_70 : decode cX8_contract 70 = .ok (.invokevirtual 262, 3) := by decide +kernel
theorem dX8_contract_73 : decode cX8_contract 73 = .ok (.l2i, 1) := by decide +kernel
theorem dX8_contract_74 : decode cX8_contract 74 = .ok (.ireturn, 1) := by decide +kernel
theorem dX8_contract_75 : decode cX8_contract 75 = .ok (.aload_n 0, 1) := by decide +kernel
theorem dX8_contract_76 : decode cX8_contract 76 = .ok (.iload_n 1, 1) := by decide +kernel
theorem dX8_contract_77 : decode cX8_contract 77 = .ok (.invokevirtual 231, 3) := by decide +kernel
theorem dX8_contract_80 : decode cX8_contract 80 = .ok (.ireturn, 1) := by decide +kernel
theorem dX8_contract_81 : decode cX8_contract 81 = .ok (.aload_n 0, 1) := by decide +kernel
theorem dX8_contract_82 : decode cX8_contract 82 = .ok (.iload_n 1, 1) := by decide +kernel
theorem dX8_contract_83 : decode cX8_contract 83 = .ok (.iconst 5, 1) := by decide +kernel
theorem dX8_contract_84 : decode cX8_contract 84 = .ok (.invokevirtual 54, 3) := by decide +kernel
theorem dX8_contract_87 : decode cX8_contract 87 = .ok (.ireturn, 1) := by decide +kernel
theorem dX8_contract_88 : decode cX8_contract 88 = .ok (.aload_n 0, 1) := by decide +kernel
theorem dX8_contract_89 : decode cX8_contract 89 = .ok (.iload_n 1, 1) := by decide +kernel
theorem dX8_contract_90 : decode cX8_contract 90 = .ok (.iconst 2, 1) := by decide +kernel
theorem dX8_contract_91 : decode cX8_contract 91 = .ok (.invokevirtual 266, 3) := by decide +kernel
theorem dX8_contract_94 : decode cX8_contract 94 = .ok (.ireturn, 1) := by decide +kernel
theorem dX8_contract_95 : decode cX8_contract 95 = .ok (.aload_n 0, 1) := by decide +kernel
theorem dX8_contract_96 : decode cX8_contract 96 = .ok (.iload_n 1, 1) := by decide +kernel
theorem dX8_contract_97 : decode cX8_contract 97 = .ok (.iconst 4, 1) := by decide +kernel
theorem dX8_contract_98 : decode cX8_contract 98 = .ok (.invokevirtual 266, 3) := by decide +kernel
theorem dX8_contract_101 : decode cX8_contract 101 = .ok (.ireturn, 1) := by decide +kernel
theorem dX8_contract_102 : decode cX8_contract 102 = .ok (.aload_n 0, 1) := by decide +kernel
theorem dX8_contract_103 : decode cX8_contract 103 = .ok (.iload_n 1, 1) := by decide +kernel
theorem dX8_contract_104 : decode cX8_contract 104 = .ok (.iload_n 2, 1) := by decide +kernel
theorem dX8_contract_105 : decode cX8_contract 105 = .ok (.invokevirtual 54, 3) := by decide +kernel
theorem dX8_contract_108 : decode cX8_contract 108 = .ok (.ireturn, 1) := by decide +kernel
theorem dX8_loan_0 : decode cX8_loan 0 = .ok (.aload_n 0, 1) := by decide +kernel
theorem dX8_loan_1 : decode cX8_loan 1 = .ok (.aload_n 0, 1) := by decide +kernel
theorem dX8_loan_2 : decode cX8_loan 2 = .ok (.iload_n 1, 1) := by decide +kernel
theorem dX8_loan_3 : decode cX8_loan 3 = .ok (.invokevirtual 269, 3) := by decide +kernel
theorem dX8_loan_6 : decode cX8_loan 6 = .ok (.iconst 1, 1) := by decide +kernel
theorem dX8_loan_7 : decode cX8_loan 7 = .ok (.invokevirtual 227, 3) := by decide +kernel
theorem dX8_loan_10 : decode cX8_loan 10 = .ok (.ifCond .ne 20, 3) := by decide +kernel
theorem dX8_loan_13 : decode cX8_loan 13 = .ok (.aload_n 0, 1) := by decide +kernel
theorem dX8_loan_14 : decode cX8_loan 14 = .ok (.iload_n 2, 1) := by decide +kernel
theorem dX8_loan_15 : decode cX8_loan 15 = .ok (.i2l, 1) := by decide +kernel
theorem dX8_loan_16 : decode cX8_loan 16 = .ok (.lconst 0, 1) := by decide +kernel
theorem dX8_loan_17 : decode cX8_loan 17 = .ok (.ldc2_w 272, 3) := by decide +kernel
theorem dX8_loan_20 : decode cX8_loan 20 = .ok (.invokestatic 44, 3) := by decide +kernel
theorem dX8_loan_23 : decode cX8_loan 23 = .ok (.iconst 2, 1) := by decide +kernel
theorem dX8_loan_24 : decode cX8_loan 24 = .ok (.invokevirtual 227, 3) := by decide +kernel
theorem dX8_loan_27 : decode cX8_loan 27 = .ok (.ifCond .eq 5, 3) := by decide +kernel
theorem dX8_loan_30 : decode cX8_loan 30 = .ok (.iconst 0, 1) := by decide +kernel
theorem dX8_loan_31 : decode cX8_loan 31 = .ok (.ireturn, 1) := by decide +kernel
theorem dX8_loan_32 : decode cX8_loan 32 = .ok (.iload_n 2, 1) := by decide +kernel
theorem dX8_loan_33 : decode cX8_loan 33 = .ok (.iconst 5, 1) := by decide +kernel
theorem dX8_loan_34 : decode cX8_loan 34 = .ok (.if_icmp .ge 12, 3) := by decide +kernel
theorem dX8_loan_37 : decode cX8_loan 37 = .ok (.aload_n 0, 1) := by decide +kernel
theorem dX8_loan_38 : decode cX8_loan 38 = .ok (.iload_n 1, 1) := by decide +kernel
theorem dX8_loan_39 : decode cX8_loan 39 = .ok (.iload_n 2, 1) := by decide +kernel
theorem dX8_loan_40 : decode cX8_loan 40 = .ok (.invokevirtual 50, 3) := by decide +kernel
theorem dX8_loan_43 : decode cX8_loan 43 = .ok (.goto 24, 3) := by decide +kernel
theorem dX8_loan_46 : decode cX8_loan 46 = .ok (.iload_n 2, 1) := by decide +kernel
theorem dX8_loan_47 : decode cX8_loan 47 = .ok (.iconst 5, 1) := by decide +kernel
theorem dX8_loan_48 : decode cX8_loan 48 = .ok (.if_icmp .ne 11, 3) := by decide +kernel
theorem dX8_loan_51 : decode cX8_loan 51 = .ok (.aload_n 0, 1) := by decide +kernel
theorem dX8_loan_52 : decode cX8_loan 52 = .ok (.iload_n 1, 1) := by decide +kernel
theorem dX8_loan_53 : decode cX8_loan 53 = .ok (.invokevirtual 254, 3) := by decide +kernel
theorem dX8_loan_56 : decode cX8_loan 56 = .ok (.goto 11, 3) := by decide +kernel
theorem dX8_loan_59 : decode cX8_loan 59 = .ok (.aload_n 0, 1) := by decide +kernel
theorem dX8_loan_60 : decode cX8_loan 60 = .ok (.iload_n 1, 1) := by decide +kernel
theorem dX8_loan_61 : decode cX8_loan 61 = .ok (.iload_n 2, 1) := by decide +kernel
theorem dX8_loan_62 : decode cX8_loan 62 = .ok (.iconst 1, 1) := by decide +kernel
theorem dX8_loan_63 : decode cX8_loan 63 = .ok (.isub, 1) := by decide +kernel
theorem dX8_loan_64 : decode cX8_loan 64 = .ok (.invokevirtual 50, 3) := by decide +kernel
theorem dX8_loan_67 : decode cX8_loan 67 = .ok (.ireturn, 1) := by decide +kernel
theorem dX8_now_0 : decode cX8_now 0 = .ok (.aload_n 0, 1) := by decide +kernel
theorem dX8_now_1 : decode cX8_now 1 = .ok (.iconst 0, 1) := by decide +kernel
theorem dX8_now_2 : decode cX8_now 2 = .ok (.putfield 41, 3) := by decide +kernel
theorem dX8_now_5 : decode cX8_now 5 = .ok (.aload_n 0, 1) := by decide +kernel
theorem dX8_now_6 : decode cX8_now 6 = .ok (.getfield 9, 3) := by decide +kernel
theorem dX8_now_9 : decode cX8_now 9 = .ok (.iconst 2, 1) := by decide +kernel
theorem dX8_now_10 : decode cX8_now 10 = .ok (.iaload, 1) := by decide +kernel
theorem dX8_now_11 : decode cX8_now 11 = .ok (.ireturn, 1) := by decide +kernel
theorem dX8_total_0 : decode cX8_total 0 = .ok (.aload_n 0, 1) := by decide +kernel
theorem dX8_total_1 : decode cX8_total 1 = .ok (.iload_n 1, 1) := by decide +kernel
theorem dX8_total_2 : decode cX8_total 2 = .ok (.i2l, 1) := by decide +kernel
theorem dX8_total_3 : decode cX8_total 3 = .ok (.lconst 0, 1) := by decide +kernel
theorem dX8_total_4 : decode cX8_total 4 = .ok (.ldc2_w 274, 3) := by decide +kernel
theorem dX8_total_7 : decode cX8_total 7 = .ok (.invokestatic 44, 3) := by decide +kernel
theorem dX8_total_10 : decode cX8_total 10 = .ok (.iconst 1, 1) := by decide +kernel
theorem dX8_total_11 : decode cX8_total 11 = .ok (.invokevirtual 227, 3) := by decide +kernel
theorem dX8_total_14 : decode cX8_total 14 = .ok (.ifCond .eq 5, 3) := by decide +kernel
theorem dX8_total_17 : decode cX8_total 17 = .ok (.lconst 0, 1) := by decide +kernel
theorem dX8_total_18 : decode cX8_total 18 = .ok (.lreturn, 1) := by decide +kernel
theorem dX8_total_19 : decode cX8_total 19 = .ok (.iload_n 1, 1) := by decide +kernel
theorem dX8_total_20 : decode cX8_total 20 = .ok (.iconst 4, 1) := by decide +kernel
theorem dX8_total_21 : decode cX8_total 21 = .ok (.if_icmp .ge 14, 3) := by decide +kernel
theorem dX8_total_24 : decode cX8_total 24 = .ok (.aload_n 0, 1) := by decide +kernel
theorem dX8_total_25 : decode cX8_total 25 = .ok (.getfield 9, 3) := by decide +kernel
theorem dX8_total_28 : decode cX8_total 28 = .ok (.bipush 10, 2) := by decide +kernel
theorem dX8_total_30 : decode cX8_total 30 = .ok (.iload_n 1, 1) := by decide +kernel
theorem dX8_total_31 : decode cX8_total 31 = .ok (.iadd, 1) := by decide +kernel
theorem dX8_total_32 : decode cX8_total 32 = .ok (.iaload, 1) := by decide +kernel
theorem dX8_total_33 : decode cX8_total 33 = .ok (.i2l, 1) := by decide +kernel
theorem dX8_total_34 : decode cX8_total 34 = .ok (.lreturn, 1) := by decide +kernel
theorem dX8_total_35 : decode cX8_total 35 = .ok (.lconst 0, 1) := by decide +kernel
theorem dX8_total_36 : decode cX8_total 36 = .ok (.lstore_n 2, 1) := by decide +kernel
theorem dX8_total_37 : decode cX8_total 37 = .ok (.iconst 0, 1) := by decide +kernel
theorem dX8_total_38 : decode cX8_total 38 = .ok (.istore 4, 2) := by decide +kernel
theorem dX8_total_40 : decode cX8_total 40 = .ok (.iload 4, 2) := by decide +kernel
theorem dX8_total_42 : decode cX8_total 42 = .ok (.aload_n 0, 1) := by decide +kernel
theorem dX8_total_43 : decode cX8_total 43 = .ok (.getfield 9, 3) := by decide +kernel
theorem dX8_total_46 : decode cX8_total 46 = .ok (.iconst 3, 1) := by decide +kernel
theorem dX8_total_47 : decode cX8_total 47 = .ok (.iaload, 1) := by decide +kernel
theorem dX8_total_48 : decode cX8_total 48 = .ok (.if_icmp .ge 29, 3) := by decide +kernel
theorem dX8_total_51 : decode cX8_total 51 = .ok (.lload_n 2, 1) := by decide +kernel
theorem dX8_total_52 : decode cX8_total 52 = .ok (.aload_n 0, 1) := by decide +kernel
theorem dX8_total_53 : decode cX8_total 53 = .ok (.iload 4, 2) := by decide +kernel
theorem dX8_total_55 : decode cX8_total 55 = .ok (.iload_n 1, 1) := by decide +kernel
theorem dX8_total_56 : decode cX8_total 56 = .ok (.iconst 4, 1) := by decide +kernel
theorem dX8_total_57 : decode cX8_total 57 = .ok (.if_icmp .ne 7, 3) := by decide +kernel
theorem dX8_total_60 : decode cX8_total 60 = .ok (.iconst 1, 1) := by decide +kernel
theorem dX8_total_61 : decode cX8_total 61 = .ok (.goto 4, 3) := by decide +kernel
theorem dX8_total_64 : decode cX8_total 64 = .ok (.iconst 2, 1) := by decide +kernel
theorem dX8_total_65 : decode cX8_total 65 = .ok (.invokevirtual 189, 3) := by decide +kernel
theorem dX8_total_68 : decode cX8_total 68 = .ok (.i2l, 1) := by decide +kernel
theorem dX8_total_69 : decode cX8_total 69 = .ok (.ladd, 1) := by decide +kernel
theorem dX8_total_70 : decode cX8_total 70 = .ok (.lstore_n 2, 1) := by decide +kernel
theorem dX8_total_71 : decode cX8_total 71 = .ok (.iinc 4 1, 3) := by decide +kernel
theorem dX8_total_74 : decode cX8_total 74 = .ok (.goto (-34), 3) := by decide +kernel
theorem dX8_total_77 : decode cX8_total 77 = .ok (.lload_n 2, 1) := by decide +kernel
theorem dX8_total_78 : decode cX8_total 78 = .ok (.lreturn, 1) := by decide +kernel
theorem dX8_usedPart_0 : decode cX8_usedPart 0 = .ok (.aload_n 0, 1) := by decide +kernel
theorem dX8_usedPart_1 : decode cX8_usedPart 1 = .ok (.iconst 0, 1) := by decide +kernel
theorem dX8_usedPart_2 : decode cX8_usedPart 2 = .ok (.putfield 41, 3) := by decide +kernel
theorem dX8_usedPart_5 : decode cX8_usedPart 5 = .ok (.aload_n 0, 1) := by decide +kernel
theorem dX8_usedPart_6 : decode cX8_usedPart 6 = .ok (.getfield 9, 3) := by decide +kernel
theorem dX8_usedPart_9 : decode cX8_usedPart 9 = .ok (.bipush 10, 2) := by decide +kernel
theorem dX8_usedPart_11 : decode cX8_usedPart 11 = .ok (.iaload, 1) := by decide +kernel
theorem dX8_usedPart_12 : decode cX8_usedPart 12 = .ok (.istore_n 1, 1) := by decide +kernel
theorem dX8_usedPart_13 : decode cX8_usedPart 13 = .ok (.iload_n 1, 1) := by decide +kernel
theorem dX8_usedPart_14 : decode cX8_usedPart 14 = .ok (.ifCond .ne 7, 3) := by decide +kernel
theorem dX8_usedPart_17 : decode cX8_usedPart 17 = .ok (.dconst 0, 1) := by decide +kernel
theorem dX8_usedPart_18 : decode cX8_usedPart 18 = .ok (.goto 14, 3) := by decide +kernel
theorem dX8_usedPart_21 : decode cX8_usedPart 21 = .ok (.aload_n 0, 1) := by decide +kernel
theorem dX8_usedPart_22 : decode cX8_usedPart 22 = .ok (.getfield 9, 3) := by decide +kernel
theorem dX8_usedPart_25 : decode cX8_usedPart 25 = .ok (.bipush 11, 2) := by decide +kernel
theorem dX8_usedPart_27 : decode cX8_usedPart 27 = .ok (.iaload, 1) := by decide +kernel
theorem dX8_usedPart_28 : decode cX8_usedPart 28 = .ok (.i2d, 1) := by decide +kernel
theorem dX8_usedPart_29 : decode cX8_usedPart 29 = .ok (.iload_n 1, 1) := by decide +kernel
theorem dX8_usedPart_30 : decode cX8_usedPart 30 = .ok (.i2d, 1) := by decide +kernel
theorem dX8_usedPart_31 : decode cX8_usedPart 31 = .ok (.ddiv, 1) := by decide +kernel
theorem dX8_usedPart_32 : decode cX8_usedPart 32 = .ok (.dreturn, 1) := by decide +kernel
theorem dX8_fullness_0 : decode cX8_fullness 0 = .ok (.aload_n 0, 1) := by decide +kernel
theorem dX8_fullness_1 : decode cX8_fullness 1 = .ok (.aload_n 0, 1) := by decide +kernel
theorem dX8_fullness_2 : decode cX8_fullness 2 = .ok (.iload_n 1, 1) := by decide +kernel
theorem dX8_fullness_3 : decode cX8_fullness 3 = .ok (.invokevirtual 234, 3) := by decide +kernel
theorem dX8_fullness_6 : decode cX8_fullness 6 = .ok (.iconst 1, 1) := by decide +kernel
theorem dX8_fullness_7 : decode cX8_fullness 7 = .ok (.invokevirtual 227, 3) := by decide +kernel
theorem dX8_fullness_10 : decode cX8_fullness 10 = .ok (.ifCond .eq 7, 3) := by decide +kernel
theorem dX8_fullness_13 : decode cX8_fullness 13 = .ok (.fconst 0, 1) := by decide +kernel
theorem dX8_fullness_14 : decode cX8_fullness 14 = .ok (.goto 17, 3) := by decide +kernel
theorem dX8_fullness_17 : decode cX8_fullness 17 = .ok (.aload_n 0, 1) := by decide +kernel
theorem dX8_fullness_18 : decode cX8_fullness 18 = .ok (.iload_n 1, 1) := by decide +kernel
theorem dX8_fullness_19 : decode cX8_fullness 19 = .ok (.iconst 1, 1) := by decide +kernel
theorem dX8_fullness_20 : decode cX8_fullness 20 = .ok (.invokevirtual 189, 3) := by decide +kernel
theorem dX8_fullness_23 : decode cX8_fullness 23 = .ok (.i2f, 1) := by decide +kernel
theorem dX8_fullness_24 : decode cX8_fullness 24 = .ok (.aload_n 0, 1) := by decide +kernel
theorem dX8_fullness_25 : decode cX8_fullness 25 = .ok (.iload_n 1, 1) := by decide +kernel
theorem dX8_fullness_26 : decode cX8_fullness 26 = .ok (.invokevirtual 199, 3) := by decide +kernel
theorem dX8_fullness_29 : decode cX8_fullness 29 = .ok (.i2f, 1) := by decide +kernel
theorem dX8_fullness_30 : decode cX8_fullness 30 = .ok (.fdiv, 1) := by decide +kernel
theorem dX8_fullness_31 : decode cX8_fullness 31 = .ok (.freturn, 1) := by decide +kernel
theorem dX8_pointsFor_0 : decode cX8_pointsFor 0 = .ok (.ldc2_w 276, 3) := by decide +kernel
theorem dX8_pointsFor_3 : decode cX8_pointsFor 3 = .ok (.iload_n 2, 1) := by decide +kernel
theorem dX8_pointsFor_4 : decode cX8_pointsFor 4 = .ok (.i2l, 1) := by decide +kernel
theorem dX8_pointsFor_5 : decode cX8_pointsFor 5 = .ok (.aload_n 0, 1) := by decide +kernel
theorem dX8_pointsFor_6 : decode cX8_pointsFor 6 = .ok (.iload_n 1, 1) := by decide +kernel
theorem dX8_pointsFor_7 : decode cX8_pointsFor 7 = .ok (.invokevirtual 216, 3) := by decide +kernel
theorem dX8_pointsFor_10 : decode cX8_pointsFor 10 = .ok (.i2l, 1) := by decide +kernel
theorem dX8_pointsFor_11 : decode cX8_pointsFor 11 = .ok (.lmul, 1) := by decide +kernel
theorem dX8_pointsFor_12 : decode cX8_pointsFor 12 = .ok (.invokestatic 203, 3) := by decide +kernel
theorem dX8_pointsFor_15 : decode cX8_pointsFor 15 = .ok (.l2i, 1) := by decide +kernel
theorem dX8_pointsFor_16 : decode cX8_pointsFor 16 = .ok (.ireturn, 1) := by decide +kernel
theorem dX8_interestFor_0 : decode cX8_interestFor 0 = .ok (.aload_n 0, 1) := by decide +kernel
theorem dX8_interestFor_1 : decode cX8_interestFor 1 = .ok (.aload_n 0, 1) := by decide +kernel
theorem dX8_interestFor_2 : decode cX8_interestFor 2 = .ok (.aload_n 0, 1) := by decide +kernel
theorem dX8_interestFor_3 : decode cX8_interestFor 3 = .ok (.iload_n 1, 1) := by decide +kernel
theorem dX8_interestFor_4 : decode cX8_interestFor 4 = .ok (.iconst 0, 1) := by decide +kernel
theorem dX8_interestFor_5 : decode cX8_interestFor 5 = .ok (.invokevirtual 54, 3) := by decide +kernel
theorem dX8_interestFor_8 : decode cX8_interestFor 8 = .ok (.iload_n 2, 1) := by decide +kernel
theorem dX8_interestFor_9 : decode cX8_interestFor 9 = .ok (.invokevirtual 278, 3) := by decide +kernel
theorem dX8_interestFor_12 : decode cX8_interestFor 12 = .ok (.invokevirtual 251, 3) := by decide +kernel
theorem dX8_interestFor_15 : decode cX8_interestFor 15 = .ok (.ireturn, 1) := by decide +kernel
theorem dX8_interest_0 : decode cX8_interest 0 = .ok (.aload_n 0, 1) := by decide +kernel
theorem dX8_interest_1 : decode cX8_interest 1 = .ok (.aload_n 0, 1) := by decide +kernel
theorem dX8_interest_2 : decode cX8_interest 2 = .ok (.iload_n 1, 1) := by decide +kernel
theorem dX8_interest_3 : decode cX8_interest 3 = .ok (.invokevirtual 257, 3) := by decide +kernel
theorem dX8_interest_6 : decode cX8_interest 6 = .ok (.iconst 1, 1) := by decide +kernel
theorem dX8_interest_7 : decode cX8_interest 7 = .ok (.invokevirtual 227, 3) := by decide +kernel
theorem dX8_interest_10 : decode cX8_interest 10 = .ok (.ifCond .ne 15, 3) := by decide +kernel
theorem dX8_interest_13 : decode cX8_interest 13 = .ok (.aload_n 0, 1) := by decide +kernel
theorem dX8_interest_14 : decode cX8_interest 14 = .ok (.iload_n 2, 1) := by decide +kernel
theorem dX8_interest_15 : decode cX8_interest 15 = .ok (.invokestatic 281, 3) := by decide +kernel
theorem dX8_interest_18 : decode cX8_interest 18 = .ok (.iconst 2, 1) := by decide +kernel
theorem dX8_interest_19 : decode cX8_interest 19 = .ok (.invokevirtual 227, 3) := by decide +kernel
theorem dX8_interest_22 : decode cX8_interest 22 = .ok (.ifCond .eq 5, 3) := by decide +kernel
theorem dX8_interest_25 : decode cX8_interest 25 = .ok (.iconst 0, 1) := by decide +kernel
theorem dX8_interest_26 : decode cX8_interest 26 = .ok (.ireturn, 1) := by decide +kernel
theorem dX8_interest_27 : decode cX8_interest 27 = .ok (.aload_n 0, 1) := by decide +kernel
theorem dX8_interest_28 : decode cX8_interest 28 = .ok (.iload_n 1, 1) := by decide +kernel
theorem dX8_interest_29 : decode cX8_interest 29 = .ok (.iload_n 2, 1) := by decide +kernel
theorem dX8_interest_30 : decode cX8_interest 30 = .ok (.invokevirtual 284, 3) := by decide +kernel
theorem dX8_interest_33 : decode cX8_interest 33 = .ok (.ireturn, 1) := by decide +kernel
theorem dX8_above_0 : decode cX8_above 0 = .ok (.aload_n 0, 1) := by decide +kernel
theorem dX8_above_1 : decode cX8_above 1 = .ok (.iload_n 1, 1) := by decide +kernel
theorem dX8_above_2 : decode cX8_above 2 = .ok (.iconst 1, 1) := by decide +kernel
theorem dX8_above_3 : decode cX8_above 3 = .ok (.invokevirtual 189, 3) := by decide +kernel
theorem dX8_above_6 : decode cX8_above 6 = .ok (.aload_n 0, 1) := by decide +kernel
theorem dX8_above_7 : decode cX8_above 7 = .ok (.iload_n 1, 1) := by decide +kernel
theorem dX8_above_8 : decode cX8_above 8 = .ok (.iconst 4, 1) := by decide +kernel
theorem dX8_above_9 : decode cX8_above 9 = .ok (.invokevirtual 189, 3) := by decide +kernel
theorem dX8_above_12 : decode cX8_above 12 = .ok (.isub, 1) := by decide +kernel
theorem dX8_above_13 : decode cX8_above 13 = .ok (.ireturn, 1) := by decide +kernel
theorem dX8_hindered_0 : decode cX8_hindered 0 = .ok (.aload_n 0, 1) := by decide +kernel
theorem dX8_hindered_1 : decode cX8_hindered 1 = .ok (.iload_n 1, 1) := by decide +kernel
theorem dX8_hindered_2 : decode cX8_hindered 2 = .ok (.iconst 5, 1) := by decide +kernel
theorem dX8_hindered_3 : decode cX8_hindered 3 = .ok (.invokevirtual 54, 3) := by decide +kernel
theorem dX8_hindered_6 : decode cX8_hindered 6 = .ok (.iconst 1, 1) := by decide +kernel
theorem dX8_hindered_7 : decode cX8_hindered 7 = .ok (.if_icmp .ne 5, 3) := by decide +kernel
theorem dX8_hindered_10 : decode cX8_hindered 10 = .ok (.iconst 1, 1) := by decide +kernel
theorem dX8_hindered_11 : decode cX8_hindered 11 = .ok (.ireturn, 1) := by decide +kernel
theorem dX8_hindered_12 : decode cX8_hindered 12 = .ok (.aload_n 0, 1) := by decide +kernel
theorem dX8_hindered_13 : decode cX8_hindered 13 = .ok (.iload_n 1, 1) := by decide +kernel
theorem dX8_hindered_14 : decode cX8_hindered 14 = .ok (.invokevirtual 262, 3) := by decide +kernel
theorem dX8_hindered_17 : decode cX8_hindered 17 = .ok (.iload_n 2, 1) := by decide +kernel
theorem dX8_hindered_18 : decode cX8_hindered 18 = .ok (.i2l, 1) := by decide +kernel
theorem dX8_hindered_19 : decode cX8_hindered 19 = .ok (.ladd, 1) := by decide +kernel
theorem dX8_hindered_20 : decode cX8_hindered 20 = .ok (.aload_n 0, 1) := by decide +kernel
theorem dX8_hindered_21 : decode cX8_hindered 21 = .ok (.iload_n 1, 1) := by decide +kernel
theorem dX8_hindered_22 : decode cX8_hindered 22 = .ok (.iconst 2, 1) := by decide +kernel
theorem dX8_hindered_23 : decode cX8_hindered 23 = .ok (.invokevirtual 54, 3) := by decide +kernel
theorem dX8_hindered_26 : decode cX8_hindered 26 = .ok (.i2l, 1) := by decide +kernel
theorem dX8_hindered_27 : decode cX8_hindered 27 = .ok (.lcmp, 1) := by decide +kernel
theorem dX8_hindered_28 : decode cX8_hindered 28 = .ok (.ifCond .le 5, 3) := by decide +kernel
theorem dX8_hindered_31 : decode cX8_hindered 31 = .ok (.iconst 2, 1) := by decide +kernel
theorem dX8_hindered_32 : decode cX8_hindered 32 = .ok (.ireturn, 1) := by decide +kernel
theorem dX8_hindered_33 : decode cX8_hindered 33 = .ok (.aload_n 0, 1) := by decide +kernel
theorem dX8_hindered_34 : decode cX8_hindered 34 = .ok (.aload_n 0, 1) := by decide +kernel
theorem dX8_hindered_35 : decode cX8_hindered 35 = .ok (.iload_n 1, 1) := by decide +kernel
theorem dX8_hindered_36 : decode cX8_hindered 36 = .ok (.iconst 0, 1) := by decide +kernel
theorem dX8_hindered_37 : decode cX8_hindered 37 = .ok (.invokevirtual 54, 3) := by decide +kernel
theorem dX8_hindered_40 : decode cX8_hindered 40 = .ok (.invokevirtual 287, 3) := by decide +kernel
theorem dX8_hindered_43 : decode cX8_hindered 43 = .ok (.iload_n 2, 1) := by decide +kernel
theorem dX8_hindered_44 : decode cX8_hindered 44 = .ok (.if_icmp .ge 5, 3) := by decide +kernel
theorem dX8_hindered_47 : decode cX8_hindered 47 = .ok (.iconst 3, 1) := by decide +kernel
theorem dX8_hindered_48 : decode cX8_hindered 48 = .ok (.ireturn, 1) := by decide +kernel
theorem dX8_hindered_49 : decode cX8_hindered 49 = .ok (.aload_n 0, 1) := by decide +kernel
theorem dX8_hindered_50 : decode cX8_hindered 50 = .ok (.getfield 9, 3) := by decide +kernel
theorem dX8_hindered_53 : decode cX8_hindered 53 = .ok (.bipush 9, 2) := by decide +kernel
theorem dX8_hindered_55 : decode cX8_hindered 55 = .ok (.iaload, 1) := by decide +kernel
theorem dX8_hindered_56 : decode cX8_hindered 56 = .ok (.bipush 16, 2) := by decide +kernel
theorem dX8_hindered_58 : decode cX8_hindered 58 = .ok (.if_icmp .ne 7, 3) := by decide +kernel
theorem dX8_hindered_61 : decode cX8_hindered 61 = .ok (.iconst 4, 1) := by decide +kernel
theorem dX8_hindered_62 : decode cX8_hindered 62 = .ok (.goto 4, 3) := by decide +kernel
theorem dX8_hindered_65 : decode cX8_hindered 65 = .ok (.iconst 0, 1) := by decide +kernel
theorem dX8_hindered_66 : decode cX8_hindered 66 = .ok (.ireturn, 1) := by decide +kernel
theorem dX8_hindrance_0 : decode cX8_hindrance 0 = .ok (.aload_n 0, 1) := by decide +kernel
theorem dX8_hindrance_1 : decode cX8_hindrance 1 = .ok (.aload_n 0, 1) := by decide +kernel
theorem dX8_hindrance_2 : decode cX8_hindrance 2 = .ok (.iload_n 1, 1) := by decide +kernel
theorem dX8_hindrance_3 : decode cX8_hindrance 3 = .ok (.invokevirtual 257, 3) := by decide +kernel
theorem dX8_hindrance_6 : decode cX8_hindrance 6 = .ok (.iconst 1, 1) := by decide +kernel
theorem dX8_hindrance_7 : decode cX8_hindrance 7 = .ok (.invokevirtual 227, 3) := by decide +kernel
theorem dX8_hindrance_10 : decode cX8_hindrance 10 = .ok (.ifCond .ne 15, 3) := by decide +kernel
theorem dX8_hindrance_13 : decode cX8_hindrance 13 = .ok (.aload_n 0, 1) := by decide +kernel
theorem dX8_hindrance_14 : decode cX8_hindrance 14 = .ok (.iload_n 2, 1) := by decide +kernel
theorem dX8_hindrance_15 : decode cX8_hindrance 15 = .ok (.invokestatic 281, 3) := by decide +kernel
theorem dX8_hindrance_18 : decode cX8_hindrance 18 = .ok (.iconst 2, 1) := by decide +kernel
theorem dX8_hindrance_19 : decode cX8_hindrance 19 = .ok (.invokevirtual 227, 3) := by decide +kernel
theorem dX8_hindrance_22 : decode cX8_hindrance 22 = .ok (.ifCond .eq 5, 3) := by decide +kernel
theorem dX8_hindrance_25 : decode cX8_hindrance 25 = .ok (.iconst 0, 1) := by decide +kernel
theorem dX8_hindrance_26 : decode cX8_hindrance 26 = .ok (.ireturn, 1) := by decide +kernel
theorem dX8_hindrance_27 : decode cX8_hindrance 27 = .ok (.aload_n 0, 1) := by decide +kernel
theorem dX8_hindrance_28 : decode cX8_hindrance 28 = .ok (.iload_n 1, 1) := by decide +kernel
theorem dX8_hindrance_29 : decode cX8_hindrance 29 = .ok (.iload_n 2, 1) := by decide +kernel
theorem dX8_hindrance_30 : decode cX8_hindrance 30 = .ok (.invokevirtual 290, 3) := by decide +kernel
theorem dX8_hindrance_33 : decode cX8_hindrance 33 = .ok (.ireturn, 1) := by decide +kernel
theorem dX8_cableOf_0 : decode cX8_cableOf 0 = .ok (.aload_n 0, 1) := by decide +kernel
theorem dX8_cableOf_1 : decode cX8_cableOf 1 = .ok (.getfield 9, 3) := by decide +kernel
theorem dX8_cableOf_4 : decode cX8_cableOf 4 = .ok (.aload_n 0, 1) := by decide +kernel
theorem dX8_cableOf_5 : decode cX8_cableOf 5 = .ok (.iload_n 1, 1) := by decide +kernel
theorem dX8_cableOf_6 : decode cX8_cableOf 6 = .ok (.iconst 0, 1) := by decide +kernel
theorem dX8_cableOf_7 : decode cX8_cableOf 7 = .ok (.invokevirtual 54, 3) := by decide +kernel
theorem dX8_cableOf_10 : decode cX8_cableOf 10 = .ok (.aload_n 0, 1) := by decide +kernel
theorem dX8_cableOf_11 : decode cX8_cableOf 11 = .ok (.iload_n 1, 1) := by decide +kernel
theorem dX8_cableOf_12 : decode cX8_cableOf 12 = .ok (.iconst 1, 1) := by decide +kernel
theorem dX8_cableOf_13 : decode cX8_cableOf 13 = .ok (.invokevirtual 54, 3) := by decide +kernel
theorem dX8_cableOf_16 : decode cX8_cableOf 16 = .ok (.invokestatic 134, 3) := by decide +kernel
theorem dX8_cableOf_19 : decode cX8_cableOf 19 = .ok (.ireturn, 1) := by decide +kernel
theorem dX8_lossOf_0 : decode cX8_lossOf 0 = .ok (.iload_n 0, 1) := by decide +kernel
theorem dX8_lossOf_1 : decode cX8_lossOf 1 = .ok (.i2l, 1) := by decide +kernel
theorem dX8_lossOf_2 : decode cX8_lossOf 2 = .ok (.iload_n 1, 1) := by decide +kernel
theorem dX8_lossOf_3 : decode cX8_lossOf 3 = .ok (.i2l, 1) := by decide +kernel
theorem dX8_lossOf_4 : decode cX8_lossOf 4 = .ok (.lmul, 1) := by decide +kernel
theorem dX8_lossOf_5 : decode cX8_lossOf 5 = .ok (.ldc2_w 293, 3) := by decide +kernel
theorem dX8_lossOf_8 : decode cX8_lossOf 8 = .ok (.ldiv, 1) := by decide +kernel
theorem dX8_lossOf_9 : decode cX8_lossOf 9 = .ok (.l2i, 1) := by decide +kernel
theorem dX8_lossOf_10 : decode cX8_lossOf 10 = .ok (.ireturn, 1) := by decide +kernel
theorem dX8_cheapest_0 : decode cX8_cheapest 0 = .ok (.aload_n 0, 1) := by decide +kernel
theorem dX8_cheapest_1 : decode cX8_cheapest 1 = .ok (.aload_n 0, 1) := by decide +kernel
theorem dX8_cheapest_2 : decode cX8_cheapest 2 = .ok (.iload_n 1, 1) := by decide +kernel
theorem dX8_cheapest_3 : decode cX8_cheapest 3 = .ok (.invokevirtual 234, 3) := by decide +kernel
theorem dX8_cheapest_6 : decode cX8_cheapest 6 = .ok (.iconst 1, 1) := by decide +kernel
theorem dX8_cheapest_7 : decode cX8_cheapest 7 = .ok (.invokevirtual 227, 3) := by decide +kernel
theorem dX8_cheapest_10 : decode cX8_cheapest 10 = .ok (.ifCond .ne 15, 3) := by decide +kernel
theorem dX8_cheapest_13 : decode cX8_cheapest 13 = .ok (.aload_n 0, 1) := by decide +kernel
theorem dX8_cheapest_14 : decode cX8_cheapest 14 = .ok (.iload_n 2, 1) := by decide +kernel
theorem dX8_cheapest_15 : decode cX8_cheapest 15 = .ok (.invokestatic 281, 3) := by decide +kernel
theorem dX8_cheapest_18 : decode cX8_cheapest 18 = .ok (.iconst 2, 1) := by decide +kernel
theorem dX8_cheapest_19 : decode cX8_cheapest 19 = .ok (.invokevirtual 227, 3) := by decide +kernel
theorem dX8_cheapest_22 : decode cX8_cheapest 22 = .ok (.ifCond .eq 5, 3) := by decide +kernel
theorem dX8_cheapest_25 : decode cX8_cheapest 25 = .ok (.iconst 0, 1) := by decide +kernel
theorem dX8_cheapest_26 : decode cX8_cheapest 26 = .ok (.ireturn, 1) := by decide +kernel
theorem dX8_cheapest_27 : decode cX8_cheapest 27 = .ok (.iconst (-1), 1) := by decide +kernel
theorem dX8_cheapest_28 : decode cX8_cheapest 28 = .ok (.istore_n 3, 1) := by decide +kernel
theorem dX8_cheapest_29 : decode cX8_cheapest 29 = .ok (.iconst 0, 1) := by decide +kernel
theorem dX8_cheapest_30 : decode cX8_cheapest 30 = .ok (.istore 4, 2) := by decide +kernel
theorem dX8_cheapest_32 : decode cX8_cheapest 32 = .ok (.iconst 0, 1) := by decide +kernel
theorem dX8_cheapest_33 : decode cX8_cheapest 33 = .ok (.istore 5, 2) := by decide +kernel
theorem dX8_cheapest_35 : decode cX8_cheapest 35 = .ok (.iload 5, 2) := by decide +kernel
theorem dX8_cheapest_37 : decode cX8_cheapest 37 = .ok (.aload_n 0, 1) := by decide +kernel
theorem dX8_cheapest_38 : decode cX8_cheapest 38 = .ok (.getfield 9, 3) := by decide +kernel
theorem dX8_cheapest_41 : decode cX8_cheapest 41 = .ok (.bipush 8, 2) := by decide +kernel
theorem dX8_cheapest_43 : decode cX8_cheapest 43 = .ok (.iaload, 1) := by decide +kernel
theorem dX8_cheapest_44 : decode cX8_cheapest 44 = .ok (.if_icmp .ge 77, 3) := by decide +kernel
theorem dX8_cheapest_47 : decode cX8_cheapest 47 = .ok (.aload_n 0, 1) := by decide +kernel
theorem dX8_cheapest_48 : decode cX8_cheapest 48 = .ok (.iload 5, 2) := by decide +kernel
theorem dX8_cheapest_50 : decode cX8_cheapest 50 = .ok (.iconst 1, 1) := by decide +kernel
theorem dX8_cheapest_51 : decode cX8_cheapest 51 = .ok (.invokevirtual 54, 3) := by decide +kernel
theorem dX8_cheapest_54 : decode cX8_cheapest 54 = .ok (.iload_n 1, 1) := by decide +kernel
theorem dX8_cheapest_55 : decode cX8_cheapest 55 = .ok (.if_icmp .ne 60, 3) := by decide +kernel
theorem dX8_cheapest_58 : decode cX8_cheapest 58 = .ok (.aload_n 0, 1) := by decide +kernel
theorem dX8_cheapest_59 : decode cX8_cheapest 59 = .ok (.iload 5, 2) := by decide +kernel
theorem dX8_cheapest_61 : decode cX8_cheapest 61 = .ok (.iload_n 2, 1) := by decide +kernel
theorem dX8_cheapest_62 : decode cX8_cheapest 62 = .ok (.invokevirtual 290, 3) := by decide +kernel
theorem dX8_cheapest_65 : decode cX8_cheapest 65 = .ok (.ifCond .eq 6, 3) := by decide +kernel
theorem dX8_cheapest_68 : decode cX8_cheapest 68 = .ok (.goto 47, 3) := by decide +kernel
theorem dX8_cheapest_71 : decode cX8_cheapest 71 = .ok (.aload_n 0, 1) := by decide +kernel
theorem dX8_cheapest_72 : decode cX8_cheapest 72 = .ok (.iload 5, 2) := by decide +kernel
theorem dX8_cheapest_74 : decode cX8_cheapest 74 = .ok (.iload_n 2, 1) := by decide +kernel
theorem dX8_cheapest_75 : decode cX8_cheapest 75 = .ok (.invokevirtual 284, 3) := by decide +kernel
theorem dX8_cheapest_78 : decode cX8_cheapest 78 = .ok (.iload_n 2, 1) := by decide +kernel
theorem dX8_cheapest_79 : decode cX8_cheapest 79 = .ok (.aload_n 0, 1) := by decide +kernel
theorem dX8_cheapest_80 : decode cX8_cheapest 80 = .ok (.aload_n 0, 1) := by decide +kernel
theorem dX8_cheapest_81 : decode cX8_cheapest 81 = .ok (.iload 5, 2) := by decide +kernel
theorem dX8_cheapest_83 : decode cX8_cheapest 83 = .ok (.invokevirtual 295, 3) := by decide +kernel
theorem dX8_cheapest_86 : decode cX8_cheapest 86 = .ok (.iconst 2, 1) := by decide +kernel
theorem dX8_cheapest_87 : decode cX8_cheapest 87 = .ok (.invokevirtual 237, 3) := by decide +kernel
theorem dX8_cheapest_90 : decode cX8_cheapest 90 = .ok (.invokestatic 298, 3) := by decide +kernel
theorem dX8_cheapest_93 : decode cX8_cheapest 93 = .ok (.iadd, 1) := by decide +kernel
theorem dX8_cheapest_94 : decode cX8_cheapest 94 = .ok (.istore 6, 2) := by decide +kernel
theorem dX8_cheapest_96 : decode cX8_cheapest 96 = .ok (.iload_n 3, 1) := by decide +kernel
theorem dX8_cheapest_97 : decode cX8_cheapest 97 = .ok (.iconst (-1), 1) := by decide +kernel
theorem dX8_cheapest_98 : decode cX8_cheapest 98 = .ok (.if_icmp .eq 10, 3) := by decide +kernel
theorem dX8_cheapest_101 : decode cX8_cheapest 101 = .ok (.iload 6, 2) := by decide +kernel
theorem dX8_cheapest_103 : decode cX8_cheapest 103 = .ok (.iload 4, 2) := by decide +kernel
theorem dX8_cheapest_105 : decode cX8_cheapest 105 = .ok (.if_icmp .ge 10, 3) := by decide +kernel
theorem dX8_cheapest_108 : decode cX8_cheapest 108 = .ok (.iload 5, 2) := by decide +kernel
theorem dX8_cheapest_110 : decode cX8_cheapest 110 = .ok (.istore_n 3, 1) := by decide +kernel
theorem dX8_cheapest_111 : decode cX8_cheapest 111 = .ok (.iload 6, 2) := by decide +kernel
theorem dX8_cheapest_113 : decode cX8_cheapest 113 = .ok (.istore 4, 2) := by decide +kernel
theorem dX8_cheapest_115 : decode cX8_cheapest 115 = .ok (.iinc 5 1, 3) := by decide +kernel
theorem dX8_cheapest_118 : decode cX8_cheapest 118 = .ok (.goto (-83), 3) := by decide +kernel
theorem dX8_cheapest_121 : decode cX8_cheapest 121 = .ok (.iload_n 3, 1) := by decide +kernel
theorem dX8_cheapest_122 : decode cX8_cheapest 122 = .ok (.ireturn, 1) := by decide +kernel
theorem dX8_shine_0 : decode cX8_shine 0 = .ok (.iconst 0, 1) := by decide +kernel
theorem dX8_shine_1 : decode cX8_shine 1 = .ok (.istore_n 1, 1) := by decide +kernel
theorem dX8_shine_2 : decode cX8_shine 2 = .ok (.iload_n 1, 1) := by decide +kernel
theorem dX8_shine_3 : decode cX8_shine 3 = .ok (.aload_n 0, 1) := by decide +kernel
theorem dX8_shine_4 : decode cX8_shine 4 = .ok (.getfield 9, 3) := by decide +kernel
theorem dX8_shine_7 : decode cX8_shine 7 = .ok (.iconst 3, 1) := by decide +kernel
theorem dX8_shine_8 : decode cX8_shine 8 = .ok (.iaload, 1) := by decide +kernel
theorem dX8_shine_9 : decode cX8_shine 9 = .ok (.if_icmp .ge 41, 3) := by decide +kernel
theorem dX8_shine_12 : decode cX8_shine 12 = .ok (.aload_n 0, 1) := by decide +kernel
theorem dX8_shine_13 : decode cX8_shine 13 = .ok (.iload_n 1, 1) := by decide +kernel
theorem dX8_shine_14 : decode cX8_shine 14 = .ok (.aload_n 0, 1) := by decide +kernel
theorem dX8_shine_15 : decode cX8_shine 15 = .ok (.getfield 9, 3) := by decide +kernel
theorem dX8_shine_18 : decode cX8_shine 18 = .ok (.iconst 2, 1) := by decide +kernel
theorem dX8_shine_19 : decode cX8_shine 19 = .ok (.iaload, 1) := by decide +kernel
theorem dX8_shine_20 : decode cX8_shine 20 = .ok (.bipush 24, 2) := by decide +kernel
theorem dX8_shine_22 : decode cX8_shine 22 = .ok (.irem, 1) := by decide +kernel
theorem dX8_shine_23 : decode cX8_shine 23 = .ok (.invokevirtual 242, 3) := by decide +kernel
theorem dX8_shine_26 : decode cX8_shine 26 = .ok (.istore_n 2, 1) := by decide +kernel
theorem dX8_shine_27 : decode cX8_shine 27 = .ok (.aload_n 0, 1) := by decide +kernel
theorem dX8_shine_28 : decode cX8_shine 28 = .ok (.getfield 9, 3) := by decide +kernel
theorem dX8_shine_31 : decode cX8_shine 31 = .ok (.bipush 10, 2) := by decide +kernel
theorem dX8_shine_33 : decode cX8_shine 33 = .ok (.dup2, 1) := by decide +kernel
theorem dX8_shine_34 : decode cX8_shine 34 = .ok (.iaload, 1) := by decide +kernel
theorem dX8_shine_35 : decode cX8_shine 35 = .ok (.iload_n 2, 1) := by decide +kernel
theorem dX8_shine_36 : decode cX8_shine 36 = .ok (.iadd, 1) := by decide +kernel
theorem dX8_shine_37 : decode cX8_shine 37 = .ok (.iastore, 1) := by decide +kernel
theorem dX8_shine_38 : decode cX8_shine 38 = .ok (.aload_n 0, 1) := by decide +kernel
theorem dX8_shine_39 : decode cX8_shine 39 = .ok (.iload_n 1, 1) := by decide +kernel
theorem dX8_shine_40 : decode cX8_shine 40 = .ok (.iload_n 2, 1) := by decide +kernel
theorem dX8_shine_41 : decode cX8_shine 41 = .ok (.invokevirtual 301, 3) := by decide +kernel
theorem dX8_shine_44 : decode cX8_shine 44 = .ok (.iinc 1 1, 3) := by decide +kernel
theorem dX8_shine_47 : decode cX8_shine 47 = .ok (.goto (-45), 3) := by decide +kernel
theorem dX8_shine_50 : decode cX8_shine 50 = .ok (.return_, 1) := by decide +kernel
theorem dX8_travels_0 : decode cX8_travels 0 = .ok (.aload_n 0, 1) := by decide +kernel
theorem dX8_travels_1 : decode cX8_travels 1 = .ok (.iload_n 1, 1) := by decide +kernel
theorem dX8_travels_2 : decode cX8_travels 2 = .ok (.iconst 0, 1) := by decide +kernel
theorem dX8_travels_3 : decode cX8_travels 3 = .ok (.invokevirtual 248, 3) := by decide +kernel
theorem dX8_travels_6 : decode cX8_travels 6 = .ok (.istore_n 2, 1) := by decide +kernel
theorem dX8_travels_7 : decode cX8_travels 7 = .ok (.aload_n 0, 1) := by decide +kernel
theorem dX8_travels_8 : decode cX8_travels 8 = .ok (.iload_n 1, 1) := by decide +kernel
theorem dX8_travels_9 : decode cX8_travels 9 = .ok (.iconst 2, 1) := by decide +kernel
theorem dX8_travels_10 : decode cX8_travels 10 = .ok (.invokevirtual 248, 3) := by decide +kernel
theorem dX8_travels_13 : decode cX8_travels 13 = .ok (.istore_n 3, 1) := by decide +kernel
theorem dX8_travels_14 : decode cX8_travels 14 = .ok (.aload_n 0, 1) := by decide +kernel
theorem dX8_travels_15 : decode cX8_travels 15 = .ok (.iload_n 2, 1) := by decide +kernel
theorem dX8_travels_16 : decode cX8_travels 16 = .ok (.iconst 1, 1) := by decide +kernel
theorem dX8_travels_17 : decode cX8_travels 17 = .ok (.invokevirtual 189, 3) := by decide +kernel
theorem dX8_travels_20 : decode cX8_travels 20 = .ok (.iload_n 3, 1) := by decide +kernel
theorem dX8_travels_21 : decode cX8_travels 21 = .ok (.if_icmp .lt 7, 3) := by decide +kernel
theorem dX8_travels_24 : decode cX8_travels 24 = .ok (.iconst 1, 1) := by decide +kernel
theorem dX8_travels_25 : decode cX8_travels 25 = .ok (.goto 4, 3) := by decide +kernel
theorem dX8_travels_28 : decode cX8_travels 28 = .ok (.iconst 0, 1) := by decide +kernel
theorem dX8_travels_29 : decode cX8_travels 29 = .ok (.istore 4, 2) := by decide +kernel
theorem dX8_travels_31 : decode cX8_travels 31 = .ok (.aload_n 0, 1) := by decide +kernel
theorem dX8_travels_32 : decode cX8_travels 32 = .ok (.getfield 9, 3) := by decide +kernel
theorem dX8_travels_35 : decode cX8_travels 35 = .ok (.sipush 206, 3) := by decide +kernel
theorem dX8_travels_38 : decode cX8_travels 38 = .ok (.iconst 4, 1) := by decide +kernel
theorem dX8_travels_39 : decode cX8_travels 39 = .ok (.iload_n 1, 1) := by decide +kernel
theorem dX8_travels_40 : decode cX8_travels 40 = .ok (.imul, 1) := by decide +kernel
theorem dX8_travels_41 : decode cX8_travels 41 = .ok (.iadd, 1) := by decide +kernel
theorem dX8_travels_42 : decode cX8_travels 42 = .ok (.iconst 3, 1) := by decide +kernel
theorem dX8_travels_43 : decode cX8_travels 43 = .ok (.iadd, 1) := by decide +kernel
theorem dX8_travels_44 : decode cX8_travels 44 = .ok (.iload 4, 2) := by decide +kernel
theorem dX8_travels_46 : decode cX8_travels 46 = .ok (.ifCond .eq 7, 3) := by decide +kernel
theorem dX8_travels_49 : decode cX8_travels 49 = .ok (.iconst 1, 1) := by decide +kernel
theorem dX8_travels_50 : decode cX8_travels 50 = .ok (.goto 4, 3) := by decide +kernel
theorem dX8_travels_53 : decode cX8_travels 53 = .ok (.iconst 2, 1) := by decide +kernel
theorem dX8_travels_54 : decode cX8_travels 54 = .ok (.iastore, 1) := by decide +kernel
theorem dX8_travels_55 : decode cX8_travels 55 = .ok (.aload_n 0, 1) := by decide +kernel
theorem dX8_travels_56 : decode cX8_travels 56 = .ok (.iload_n 2, 1) := by decide +kernel
theorem dX8_travels_57 : decode cX8_travels 57 = .ok (.iload 4, 2) := by decide +kernel
theorem dX8_travels_59 : decode cX8_travels 59 = .ok (.ifCond .eq 7, 3) := by decide +kernel
theorem dX8_travels_62 : decode cX8_travels 62 = .ok (.iconst 5, 1) := by decide +kernel
theorem dX8_travels_63 : decode cX8_travels 63 = .ok (.goto 5, 3) := by decide +kernel
theorem dX8_travels_66 : decode cX8_travels 66 = .ok (.bipush 6, 2) := by decide +kernel
theorem dX8_travels_68 : decode cX8_travels 68 = .ok (.iconst 1, 1) := by decide +kernel
theorem dX8_travels_69 : decode cX8_travels 69 = .ok (.invokevirtual 209, 3) := by decide +kernel
theorem dX8_travels_72 : decode cX8_travels 72 = .ok (.iload 4, 2) := by decide +kernel
theorem dX8_travels_74 : decode cX8_travels 74 = .ok (.ifCond .eq 20, 3) := by decide +kernel
theorem dX8_travels_77 : decode cX8_travels 77 = .ok (.aload_n 0, 1) := by decide +kernel
theorem dX8_travels_78 : decode cX8_travels 78 = .ok (.getfield 9, 3) := by decide +kernel
theorem dX8_travels_81 : decode cX8_travels 81 = .ok (.bipush 11, 2) := by decide +kernel
theorem dX8_travels_83 : decode cX8_travels 83 = .ok (.dup2, 1) := by decide +kernel
theorem dX8_travels_84 : decode cX8_travels 84 = .ok (.iaload, 1) := by decide +kernel
theorem dX8_travels_85 : decode cX8_travels 85 = .ok (.iload_n 3, 1) := by decide +kernel
theorem dX8_travels_86 : decode cX8_travels 86 = .ok (.iadd, 1) := by decide +kernel
theorem dX8_travels_87 : decode cX8_travels 87 = .ok (.iastore, 1) := by decide +kernel
theorem dX8_travels_88 : decode cX8_travels 88 = .ok (.aload_n 0, 1) := by decide +kernel
theorem dX8_travels_89 : decode cX8_travels 89 = .ok (.iload_n 2, 1) := by decide +kernel
theorem dX8_travels_90 : decode cX8_travels 90 = .ok (.iload_n 3, 1) := by decide +kernel
theorem dX8_travels_91 : decode cX8_travels 91 = .ok (.invokevirtual 305, 3) := by decide +kernel
theorem dX8_travels_94 : decode cX8_travels 94 = .ok (.return_, 1) := by decide +kernel
theorem dX8_isDueNow_0 : decode cX8_isDueNow 0 = .ok (.aload_n 0, 1) := by decide +kernel
theorem dX8_isDueNow_1 : decode cX8_isDueNow 1 = .ok (.iload_n 1, 1) := by decide +kernel
theorem dX8_isDueNow_2 : decode cX8_isDueNow 2 = .ok (.iconst 1, 1) := by decide +kernel
theorem dX8_isDueNow_3 : decode cX8_isDueNow 3 = .ok (.invokevirtual 248, 3) := by decide +kernel
theorem dX8_isDueNow_6 : decode cX8_isDueNow 6 = .ok (.aload_n 0, 1) := by decide +kernel
theorem dX8_isDueNow_7 : decode cX8_isDueNow 7 = .ok (.getfield 9, 3) := by decide +kernel
theorem dX8_isDueNow_10 : decode cX8_isDueNow 10 = .ok (.iconst 2, 1) := by decide +kernel
theorem dX8_isDueNow_11 : decode cX8_isDueNow 11 = .ok (.iaload, 1) := by decide +kernel
theorem dX8_isDueNow_12 : decode cX8_isDueNow 12 = .ok (.if_icmp .ne 16, 3) := by decide +kernel
theorem dX8_isDueNow_15 : decode cX8_isDueNow 15 = .ok (.aload_n 0, 1) := by decide +kernel
theorem dX8_isDueNow_16 : decode cX8_isDueNow 16 = .ok (.iload_n 1, 1) := by decide +kernel
theorem dX8_isDueNow_17 : decode cX8_isDueNow 17 = .ok (.iconst 3, 1) := by decide +kernel
theorem dX8_isDueNow_18 : decode cX8_isDueNow 18 = .ok (.invokevirtual 248, 3) := by decide +kernel
theorem dX8_isDueNow_21 : decode cX8_isDueNow 21 = .ok (.ifCond .ne 7, 3) := by decide +kernel
theorem dX8_isDueNow_24 : decode cX8_isDueNow 24 = .ok (.iconst 1, 1) := by decide +kernel
theorem dX8_isDueNow_25 : decode cX8_isDueNow 25 = .ok (.goto 4, 3) := by decide +kernel
theorem dX8_isDueNow_28 : decode cX8_isDueNow 28 = .ok (.iconst 0, 1) := by decide +kernel
theorem dX8_isDueNow_29 : decode cX8_isDueNow 29 = .ok (.ireturn, 1) := by decide +kernel
theorem dX8_sends_0 : decode cX8_sends 0 = .ok (.iload 4, 2) := by decide +kernel
theorem dX8_sends_2 : decode cX8_sends 2 = .ok (.aload_n 0, 1) := by decide +kernel
theorem dX8_sends_3 : decode cX8_sends 3 = .ok (.iload_n 1, 1) := by decide +kernel
theorem dX8_sends_4 : decode cX8_sends 4 = .ok (.iconst 2, 1) := by decide +kernel
theorem dX8_sends_5 : decode cX8_sends 5 = .ok (.invokevirtual 237, 3) := by decide +kernel
theorem dX8_sends_8 : decode cX8_sends 8 = .ok (.invokestatic 298, 3) := by decide +kernel
theorem dX8_sends_11 : decode cX8_sends 11 = .ok (.istore 5, 2) := by decide +kernel
theorem dX8_sends_13 : decode cX8_sends 13 = .ok (.aload_n 0, 1) := by decide +kernel
theorem dX8_sends_14 : decode cX8_sends 14 = .ok (.iload_n 2, 1) := by decide +kernel
theorem dX8_sends_15 : decode cX8_sends 15 = .ok (.iload 4, 2) := by decide +kernel
theorem dX8_sends_17 : decode cX8_sends 17 = .ok (.invokevirtual 305, 3) := by decide +kernel
theorem dX8_sends_20 : decode cX8_sends 20 = .ok (.aload_n 0, 1) := by decide +kernel
theorem dX8_sends_21 : decode cX8_sends 21 = .ok (.getfield 9, 3) := by decide +kernel
theorem dX8_sends_24 : decode cX8_sends 24 = .ok (.bipush 86, 2) := by decide +kernel
theorem dX8_sends_26 : decode cX8_sends 26 = .ok (.bipush 6, 2) := by decide +kernel
theorem dX8_sends_28 : decode cX8_sends 28 = .ok (.iload_n 1, 1) := by decide +kernel
theorem dX8_sends_29 : decode cX8_sends 29 = .ok (.imul, 1) := by decide +kernel
theorem dX8_sends_30 : decode cX8_sends 30 = .ok (.iadd, 1) := by decide +kernel
theorem dX8_sends_31 : decode cX8_sends 31 = .ok (.iconst 4, 1) := by decide +kernel
theorem dX8_sends_32 : decode cX8_sends 32 = .ok (.iadd, 1) := by decide +kernel
theorem dX8_sends_33 : decode cX8_sends 33 = .ok (.dup2, 1) := by decide +kernel
theorem dX8_sends_34 : decode cX8_sends 34 = .ok (.iaload, 1) := by decide +kernel
theorem dX8_sends_35 : decode cX8_sends 35 = .ok (.iload 4, 2) := by decide +kernel
theorem dX8_sends_37 : decode cX8_sends 37 = .ok (.iadd, 1) := by decide +kernel
theorem dX8_sends_38 : decode cX8_sends 38 = .ok (.iastore, 1) := by decide +kernel
theorem dX8_sends_39 : decode cX8_sends 39 = .ok (.aload_n 0, 1) := by decide +kernel
theorem dX8_sends_40 : decode cX8_sends 40 = .ok (.getfield 9, 3) := by decide +kernel
theorem dX8_sends_43 : decode cX8_sends 43 = .ok (.bipush 86, 2) := by decide +kernel
theorem dX8_sends_45 : decode cX8_sends 45 = .ok (.bipush 6, 2) := by decide +kernel
theorem dX8_sends_47 : decode cX8_sends 47 = .ok (.iload_n 1, 1) := by decide +kernel
theorem dX8_sends_48 : decode cX8_sends 48 = .ok (.imul, 1) := by decide +kernel
theorem dX8_sends_49 : decode cX8_sends 49 = .ok (.iadd, 1) := by decide +kernel
theorem dX8_sends_50 : decode cX8_sends 50 = .ok (.iconst 5, 1) := by decide +kernel
theorem dX8_sends_51 : decode cX8_sends 51 = .ok (.iadd, 1) := by decide +kernel
theorem dX8_sends_52 : decode cX8_sends 52 = .ok (.dup2, 1) := by decide +kernel
theorem dX8_sends_53 : decode cX8_sends 53 = .ok (.iaload, 1) := by decide +kernel
theorem dX8_sends_54 : decode cX8_sends 54 = .ok (.iload 5, 2) := by decide +kernel
theorem dX8_sends_56 : decode cX8_sends 56 = .ok (.iadd, 1) := by decide +kernel
theorem dX8_sends_57 : decode cX8_sends 57 = .ok (.iastore, 1) := by decide +kernel
theorem dX8_sends_58 : decode cX8_sends 58 = .ok (.aload_n 0, 1) := by decide +kernel
theorem dX8_sends_59 : decode cX8_sends 59 = .ok (.getfield 9, 3) := by decide +kernel
theorem dX8_sends_62 : decode cX8_sends 62 = .ok (.bipush 12, 2) := by decide +kernel
theorem dX8_sends_64 : decode cX8_sends 64 = .ok (.dup2, 1) := by decide +kernel
theorem dX8_sends_65 : decode cX8_sends 65 = .ok (.iaload, 1) := by decide +kernel
theorem dX8_sends_66 : decode cX8_sends 66 = .ok (.iload 5, 2) := by decide +kernel
theorem dX8_sends_68 : decode cX8_sends 68 = .ok (.iadd, 1) := by decide +kernel
theorem dX8_sends_69 : decode cX8_sends 69 = .ok (.iastore, 1) := by decide +kernel
theorem dX8_sends_70 : decode cX8_sends 70 = .ok (.aload_n 0, 1) := by decide +kernel
theorem dX8_sends_71 : decode cX8_sends 71 = .ok (.iload_n 3, 1) := by decide +kernel
theorem dX8_sends_72 : decode cX8_sends 72 = .ok (.iload 4, 2) := by decide +kernel
theorem dX8_sends_74 : decode cX8_sends 74 = .ok (.iload 5, 2) := by decide +kernel
theorem dX8_sends_76 : decode cX8_sends 76 = .ok (.isub, 1) := by decide +kernel
theorem dX8_sends_77 : decode cX8_sends 77 = .ok (.invokevirtual 301, 3) := by decide +kernel
theorem dX8_sends_80 : decode cX8_sends 80 = .ok (.iload 4, 2) := by decide +kernel
theorem dX8_sends_82 : decode cX8_sends 82 = .ok (.iload 5, 2) := by decide +kernel
theorem dX8_sends_84 : decode cX8_sends 84 = .ok (.isub, 1) := by decide +kernel
theorem dX8_sends_85 : decode cX8_sends 85 = .ok (.ireturn, 1) := by decide +kernel
theorem dX8_free_0 : decode cX8_free 0 = .ok (.iconst 0, 1) := by decide +kernel
theorem dX8_free_1 : decode cX8_free 1 = .ok (.aload_n 0, 1) := by decide +kernel
theorem dX8_free_2 : decode cX8_free 2 = .ok (.iload_n 1, 1) := by decide +kernel
theorem dX8_free_3 : decode cX8_free 3 = .ok (.iconst 3, 1) := by decide +kernel
theorem dX8_free_4 : decode cX8_free 4 = .ok (.invokevirtual 237, 3) := by decide +kernel
theorem dX8_free_7 : decode cX8_free 7 = .ok (.aload_n 0, 1) := by decide +kernel
theorem dX8_free_8 : decode cX8_free 8 = .ok (.iload_n 1, 1) := by decide +kernel
theorem dX8_free_9 : decode cX8_free 9 = .ok (.iconst 4, 1) := by decide +kernel
theorem dX8_free_10 : decode cX8_free 10 = .ok (.invokevirtual 237, 3) := by decide +kernel
theorem dX8_free_13 : decode cX8_free 13 = .ok (.isub, 1) := by decide +kernel
theorem dX8_free_14 : decode cX8_free 14 = .ok (.invokestatic 192, 3) := by decide +kernel
theorem dX8_free_17 : decode cX8_free 17 = .ok (.ireturn, 1) := by decide +kernel
theorem dX8_isSent_0 : decode cX8_isSent 0 = .ok (.aload_n 0, 1) := by decide +kernel
theorem dX8_isSent_1 : decode cX8_isSent 1 = .ok (.aload_n 0, 1) := by decide +kernel
theorem dX8_isSent_2 : decode cX8_isSent 2 = .ok (.iload_n 1, 1) := by decide +kernel
theorem dX8_isSent_3 : decode cX8_isSent 3 = .ok (.iconst 0, 1) := by decide +kernel
theorem dX8_isSent_4 : decode cX8_isSent 4 = .ok (.invokevirtual 50, 3) := by decide +kernel
theorem dX8_isSent_7 : decode cX8_isSent 7 = .ok (.invokevirtual 295, 3) := by decide +kernel
theorem dX8_isSent_10 : decode cX8_isSent 10 = .ok (.istore_n 2, 1) := by decide +kernel
theorem dX8_isSent_11 : decode cX8_isSent 11 = .ok (.aload_n 0, 1) := by decide +kernel
theorem dX8_isSent_12 : decode cX8_isSent 12 = .ok (.iload_n 1, 1) := by decide +kernel
theorem dX8_isSent_13 : decode cX8_isSent 13 = .ok (.iconst 0, 1) := by decide +kernel
theorem dX8_isSent_14 : decode cX8_isSent 14 = .ok (.invokevirtual 308, 3) := by decide +kernel
theorem dX8_isSent_17 : decode cX8_isSent 17 = .ok (.istore_n 3, 1) := by decide +kernel
theorem dX8_isSent_18 : decode cX8_isSent 18 = .ok (.aload_n 0, 1) := by decide +kernel
theorem dX8_isSent_19 : decode cX8_isSent 19 = .ok (.iload_n 1, 1) := by decide +kernel
theorem dX8_isSent_20 : decode cX8_isSent 20 = .ok (.iconst 1, 1) := by decide +kernel
theorem dX8_isSent_21 : decode cX8_isSent 21 = .ok (.invokevirtual 50, 3) := by decide +kernel
theorem dX8_isSent_24 : decode cX8_isSent 24 = .ok (.aload_n 0, 1) := by decide +kernel
theorem dX8_isSent_25 : decode cX8_isSent 25 = .ok (.iload_n 1, 1) := by decide +kernel
theorem dX8_isSent_26 : decode cX8_isSent 26 = .ok (.iconst 2, 1) := by decide +kernel
theorem dX8_isSent_27 : decode cX8_isSent 27 = .ok (.invokevirtual 50, 3) := by decide +kernel
theorem dX8_isSent_30 : decode cX8_isSent 30 = .ok (.isub, 1) := by decide +kernel
theorem dX8_isSent_31 : decode cX8_isSent 31 = .ok (.istore 4, 2) := by decide +kernel
theorem dX8_isSent_33 : decode cX8_isSent 33 = .ok (.iload 4, 2) := by decide +kernel
theorem dX8_isSent_35 : decode cX8_isSent 35 = .ok (.iconst 0, 1) := by decide +kernel
theorem dX8_isSent_36 : decode cX8_isSent 36 = .ok (.aload_n 0, 1) := by decide +kernel
theorem dX8_isSent_37 : decode cX8_isSent 37 = .ok (.iload_n 3, 1) := by decide +kernel
theorem dX8_isSent_38 : decode cX8_isSent 38 = .ok (.invokevirtual 287, 3) := by decide +kernel
theorem dX8_isSent_41 : decode cX8_isSent 41 = .ok (.invokestatic 192, 3) := by decide +kernel
theorem dX8_isSent_44 : decode cX8_isSent 44 = .ok (.aload_n 0, 1) := by decide +kernel
theorem dX8_isSent_45 : decode cX8_isSent 45 = .ok (.iload_n 2, 1) := by decide +kernel
theorem dX8_isSent_46 : decode cX8_isSent 46 = .ok (.invokevirtual 311, 3) := by decide +kernel
theorem dX8_isSent_49 : decode cX8_isSent 49 = .ok (.invokestatic 106, 3) := by decide +kernel
theorem dX8_isSent_52 : decode cX8_isSent 52 = .ok (.invokestatic 106, 3) := by decide +kernel
theorem dX8_isSent_55 : decode cX8_isSent 55 = .ok (.istore 5, 2) := by decide +kernel
theorem dX8_isSent_57 : decode cX8_isSent 57 = .ok (.aload_n 0, 1) := by decide +kernel
theorem dX8_isSent_58 : decode cX8_isSent 58 = .ok (.iload_n 1, 1) := by decide +kernel
theorem dX8_isSent_59 : decode cX8_isSent 59 = .ok (.iconst 3, 1) := by decide +kernel
theorem dX8_isSent_60 : decode cX8_isSent 60 = .ok (.invokevirtual 50, 3) := by decide +kernel
theorem dX8_isSent_63 : decode cX8_isSent 63 = .ok (.i2l, 1) := by decide +kernel
theorem dX8_isSent_64 : decode cX8_isSent 64 = .ok (.aload_n 0, 1) := by decide +kernel
theorem dX8_isSent_65 : decode cX8_isSent 65 = .ok (.iload_n 3, 1) := by decide +kernel
theorem dX8_isSent_66 : decode cX8_isSent 66 = .ok (.iload 5, 2) := by decide +kernel
theorem dX8_isSent_68 : decode cX8_isSent 68 = .ok (.invokevirtual 278, 3) := by decide +kernel
theorem dX8_isSent_71 : decode cX8_isSent 71 = .ok (.i2l, 1) := by decide +kernel
theorem dX8_isSent_72 : decode cX8_isSent 72 = .ok (.ladd, 1) := by decide +kernel
theorem dX8_isSent_73 : decode cX8_isSent 73 = .ok (.lstore 6, 2) := by decide +kernel
theorem dX8_isSent_75 : decode cX8_isSent 75 = .ok (.aload_n 0, 1) := by decide +kernel
theorem dX8_isSent_76 : decode cX8_isSent 76 = .ok (.iload_n 2, 1) := by decide +kernel
theorem dX8_isSent_77 : decode cX8_isSent 77 = .ok (.iload_n 3, 1) := by decide +kernel
theorem dX8_isSent_78 : decode cX8_isSent 78 = .ok (.aload_n 0, 1) := by decide +kernel
theorem dX8_isSent_79 : decode cX8_isSent 79 = .ok (.iload_n 1, 1) := by decide +kernel
theorem dX8_isSent_80 : decode cX8_isSent 80 = .ok (.iconst 1, 1) := by decide +kernel
theorem dX8_isSent_81 : decode cX8_isSent 81 = .ok (.invokevirtual 308, 3) := by decide +kernel
theorem dX8_isSent_84 : decode cX8_isSent 84 = .ok (.iload 5, 2) := by decide +kernel
theorem dX8_isSent_86 : decode cX8_isSent 86 = .ok (.invokevirtual 314, 3) := by decide +kernel
theorem dX8_isSent_89 : decode cX8_isSent 89 = .ok (.istore 8, 2) := by decide +kernel
theorem dX8_isSent_91 : decode cX8_isSent 91 = .ok (.aload_n 0, 1) := by decide +kernel
theorem dX8_isSent_92 : decode cX8_isSent 92 = .ok (.iload_n 1, 1) := by decide +kernel
theorem dX8_isSent_93 : decode cX8_isSent 93 = .ok (.iconst 3, 1) := by decide +kernel
theorem dX8_isSent_94 : decode cX8_isSent 94 = .ok (.ldc2_w 276, 3) := by decide +kernel
theorem dX8_isSent_97 : decode cX8_isSent 97 = .ok (.lload 6, 2) := by decide +kernel
theorem dX8_isSent_99 : decode cX8_isSent 99 = .ok (.invokestatic 203, 3) := by decide +kernel
theorem dX8_isSent_102 : decode cX8_isSent 102 = .ok (.l2i, 1) := by decide +kernel
theorem dX8_isSent_103 : decode cX8_isSent 103 = .ok (.invokevirtual 318, 3) := by decide +kernel
theorem dX8_isSent_106 : decode cX8_isSent 106 = .ok (.aload_n 0, 1) := by decide +kernel
theorem dX8_isSent_107 : decode cX8_isSent 107 = .ok (.iload_n 1, 1) := by decide +kernel
theorem dX8_isSent_108 : decode cX8_isSent 108 = .ok (.iconst 2, 1) := by decide +kernel
theorem dX8_isSent_109 : decode cX8_isSent 109 = .ok (.aload_n 0, 1) := by decide +kernel
theorem dX8_isSent_110 : decode cX8_isSent 110 = .ok (.iload_n 1, 1) := by decide +kernel
theorem dX8_isSent_111 : decode cX8_isSent 111 = .ok (.iconst 2, 1) := by decide +kernel
theorem dX8_isSent_112 : decode cX8_isSent 112 = .ok (.invokevirtual 50, 3) := by decide +kernel
theorem dX8_isSent_115 : decode cX8_isSent 115 = .ok (.iload 5, 2) := by decide +kernel
theorem dX8_isSent_117 : decode cX8_isSent 117 = .ok (.iadd, 1) := by decide +kernel
theorem dX8_isSent_118 : decode cX8_isSent 118 = .ok (.invokevirtual 318, 3) := by decide +kernel
theorem dX8_isSent_121 : decode cX8_isSent 121 = .ok (.iload 5, 2) := by decide +kernel
theorem dX8_isSent_123 : decode cX8_isSent 123 = .ok (.iload 4, 2) := by decide +kernel
theorem dX8_isSent_125 : decode cX8_isSent 125 = .ok (.if_icmp .ne 10, 3) := by decide +kernel
theorem dX8_isSent_128 : decode cX8_isSent 128 = .ok (.aload_n 0, 1) := by decide +kernel
theorem dX8_isSent_129 : decode cX8_isSent 129 = .ok (.iload_n 1, 1) := by decide +kernel
theorem dX8_isSent_130 : decode cX8_isSent 130 = .ok (.iconst 5, 1) := by decide +kernel
theorem dX8_isSent_131 : decode cX8_isSent 131 = .ok (.iconst 1, 1) := by decide +kernel
theorem dX8_isSent_132 : decode cX8_isSent 132 = .ok (.invokevirtual 318, 3) := by decide +kernel
theorem dX8_isSent_135 : decode cX8_isSent 135 = .ok (.return_, 1) := by decide +kernel
theorem dX8_isGivenBack_0 : decode cX8_isGivenBack 0 = .ok (.aload_n 0, 1) := by decide +kernel
theorem dX8_isGivenBack_1 : decode cX8_isGivenBack 1 = .ok (.iload_n 1, 1) := by decide +kernel
theorem dX8_isGivenBack_2 : decode cX8_isGivenBack 2 = .ok (.invokevirtual 254, 3) := by decide +kernel
theorem dX8_isGivenBack_5 : decode cX8_isGivenBack 5 = .ok (.ifCond .le 108, 3) := by decide +kernel
theorem dX8_isGivenBack_8 : decode cX8_isGivenBack 8 = .ok (.aload_n 0, 1) := by decide +kernel
theorem dX8_isGivenBack_9 : decode cX8_isGivenBack 9 = .ok (.aload_n 0, 1) := by decide +kernel
theorem dX8_isGivenBack_10 : decode cX8_isGivenBack 10 = .ok (.iload_n 1, 1) := by decide +kernel
theorem dX8_isGivenBack_11 : decode cX8_isGivenBack 11 = .ok (.iconst 0, 1) := by decide +kernel
theorem dX8_isGivenBack_12 : decode cX8_isGivenBack 12 = .ok (.invokevirtual 50, 3) := by decide +kernel
theorem dX8_isGivenBack_15 : decode cX8_isGivenBack 15 = .ok (.invokevirtual 295, 3) := by decide +kernel
theorem dX8_isGivenBack_18 : decode cX8_isGivenBack 18 = .ok (.istore_n 2, 1) := by decide +kernel
theorem dX8_isGivenBack_19 : decode cX8_isGivenBack 19 = .ok (.aload_n 0, 1) := by decide +kernel
theorem dX8_isGivenBack_20 : decode cX8_isGivenBack 20 = .ok (.iload_n 1, 1) := by decide +kernel
theorem dX8_isGivenBack_21 : decode cX8_isGivenBack 21 = .ok (.iconst 1, 1) := by decide +kernel
theorem dX8_isGivenBack_22 : decode cX8_isGivenBack 22 = .ok (.invokevirtual 308, 3) := by decide +kernel
theorem dX8_isGivenBack_25 : decode cX8_isGivenBack 25 = .ok (.istore_n 3, 1) := by decide +kernel
theorem dX8_isGivenBack_26 : decode cX8_isGivenBack 26 = .ok (.sipush 1000, 3) := by decide +kernel
theorem dX8_isGivenBack_29 : decode cX8_isGivenBack 29 = .ok (.aload_n 0, 1) := by decide +kernel
theorem dX8_isGivenBack_30 : decode cX8_isGivenBack 30 = .ok (.iload_n 2, 1) := by decide +kernel
theorem dX8_isGivenBack_31 : decode cX8_isGivenBack 31 = .ok (.iconst 2, 1) := by decide +kernel
theorem dX8_isGivenBack_32 : decode cX8_isGivenBack 32 = .ok (.invokevirtual 237, 3) := by decide +kernel
theorem dX8_isGivenBack_35 : decode cX8_isGivenBack 35 = .ok (.isub, 1) := by decide +kernel
theorem dX8_isGivenBack_36 : decode cX8_isGivenBack 36 = .ok (.istore 4, 2) := by decide +kernel
theorem dX8_isGivenBack_38 : decode cX8_isGivenBack 38 = .ok (.aload_n 0, 1) := by decide +kernel
theorem dX8_isGivenBack_39 : decode cX8_isGivenBack 39 = .ok (.iload_n 1, 1) := by decide +kernel
theorem dX8_isGivenBack_40 : decode cX8_isGivenBack 40 = .ok (.invokevirtual 254, 3) := by decide +kernel
theorem dX8_isGivenBack_43 : decode cX8_isGivenBack 43 = .ok (.i2l, 1) := by decide +kernel
theorem dX8_isGivenBack_44 : decode cX8_isGivenBack 44 = .ok (.ldc2_w 293, 3) := by decide +kernel
theorem dX8_isGivenBack_47 : decode cX8_isGivenBack 47 = .ok (.lmul, 1) := by decide +kernel
theorem dX8_isGivenBack_48 : decode cX8_isGivenBack 48 = .ok (.iload 4, 2) := by decide +kernel
theorem dX8_isGivenBack_50 : decode cX8_isGivenBack 50 = .ok (.i2l, 1) := by decide +kernel
theorem dX8_isGivenBack_51 : decode cX8_isGivenBack 51 = .ok (.ladd, 1) := by decide +kernel
theorem dX8_isGivenBack_52 : decode cX8_isGivenBack 52 = .ok (.lconst 1, 1) := by decide +kernel
theorem dX8_isGivenBack_53 : decode cX8_isGivenBack 53 = .ok (.lsub, 1) := by decide +kernel
theorem dX8_isGivenBack_54 : decode cX8_isGivenBack 54 = .ok (.iload 4, 2) := by decide +kernel
theorem dX8_isGivenBack_56 : decode cX8_isGivenBack 56 = .ok (.i2l, 1) := by decide +kernel
theorem dX8_isGivenBack_57 : decode cX8_isGivenBack 57 = .ok (.ldiv, 1) := by decide +kernel
theorem dX8_isGivenBack_58 : decode cX8_isGivenBack 58 = .ok (.l2i, 1) := by decide +kernel
theorem dX8_isGivenBack_59 : decode cX8_isGivenBack 59 = .ok (.istore 5, 2) := by decide +kernel
theorem dX8_isGivenBack_61 : decode cX8_isGivenBack 61 = .ok (.iload 5, 2) := by decide +kernel
theorem dX8_isGivenBack_63 : decode cX8_isGivenBack 63 = .ok (.aload_n 0, 1) := by decide +kernel
theorem dX8_isGivenBack_64 : decode cX8_isGivenBack 64 = .ok (.iload_n 3, 1) := by decide +kernel
theorem dX8_isGivenBack_65 : decode cX8_isGivenBack 65 = .ok (.iconst 1, 1) := by decide +kernel
theorem dX8_isGivenBack_66 : decode cX8_isGivenBack 66 = .ok (.invokevirtual 189, 3) := by decide +kernel
theorem dX8_isGivenBack_69 : decode cX8_isGivenBack 69 = .ok (.aload_n 0, 1) := by decide +kernel
theorem dX8_isGivenBack_70 : decode cX8_isGivenBack 70 = .ok (.iload_n 2, 1) := by decide +kernel
theorem dX8_isGivenBack_71 : decode cX8_isGivenBack 71 = .ok (.invokevirtual 311, 3) := by decide +kernel
theorem dX8_isGivenBack_74 : decode cX8_isGivenBack 74 = .ok (.invokestatic 106, 3) := by decide +kernel
theorem dX8_isGivenBack_77 : decode cX8_isGivenBack 77 = .ok (.invokestatic 106, 3) := by decide +kernel
theorem dX8_isGivenBack_80 : decode cX8_isGivenBack 80 = .ok (.istore 6, 2) := by decide +kernel
theorem dX8_isGivenBack_82 : decode cX8_isGivenBack 82 = .ok (.aload_n 0, 1) := by decide +kernel
theorem dX8_isGivenBack_83 : decode cX8_isGivenBack 83 = .ok (.iload_n 2, 1) := by decide +kernel
theorem dX8_isGivenBack_84 : decode cX8_isGivenBack 84 = .ok (.iload_n 3, 1) := by decide +kernel
theorem dX8_isGivenBack_85 : decode cX8_isGivenBack 85 = .ok (.aload_n 0, 1) := by decide +kernel
theorem dX8_isGivenBack_86 : decode cX8_isGivenBack 86 = .ok (.iload_n 1, 1) := by decide +kernel
theorem dX8_isGivenBack_87 : decode cX8_isGivenBack 87 = .ok (.iconst 0, 1) := by decide +kernel
theorem dX8_isGivenBack_88 : decode cX8_isGivenBack 88 = .ok (.invokevirtual 308, 3) := by decide +kernel
theorem dX8_isGivenBack_91 : decode cX8_isGivenBack 91 = .ok (.iload 6, 2) := by decide +kernel
theorem dX8_isGivenBack_93 : decode cX8_isGivenBack 93 = .ok (.invokevirtual 314, 3) := by decide +kernel
theorem dX8_isGivenBack_96 : decode cX8_isGivenBack 96 = .ok (.istore 7, 2) := by decide +kernel
theorem dX8_isGivenBack_98 : decode cX8_isGivenBack 98 = .ok (.aload_n 0, 1) := by decide +kernel
theorem dX8_isGivenBack_99 : decode cX8_isGivenBack 99 = .ok (.iload_n 1, 1) := by decide +kernel
theorem dX8_isGivenBack_100 : decode cX8_isGivenBack 100 = .ok (.iconst 4, 1) := by decide +kernel
theorem dX8_isGivenBack_101 : decode cX8_isGivenBack 101 = .ok (.aload_n 0, 1) := by decide +kernel
theorem dX8_isGivenBack_102 : decode cX8_isGivenBack 102 = .ok (.iload_n 1, 1) := by decide +kernel
theorem dX8_isGivenBack_103 : decode cX8_isGivenBack 103 = .ok (.iconst 4, 1) := by decide +kernel
theorem dX8_isGivenBack_104 : decode cX8_isGivenBack 104 = .ok (.invokevirtual 50, 3) := by decide +kernel
theorem dX8_isGivenBack_107 : decode cX8_isGivenBack 107 = .ok (.iload 7, 2) := by decide +kernel
theorem dX8_isGivenBack_109 : decode cX8_isGivenBack 109 = .ok (.iadd, 1) := by decide +kernel
theorem dX8_isGivenBack_110 : decode cX8_isGivenBack 110 = .ok (.invokevirtual 318, 3) := by decide +kernel
theorem dX8_isGivenBack_113 : decode cX8_isGivenBack 113 = .ok (.aload_n 0, 1) := by decide +kernel
theorem dX8_isGivenBack_114 : decode cX8_isGivenBack 114 = .ok (.iload_n 1, 1) := by decide +kernel
theorem dX8_isGivenBack_115 : decode cX8_isGivenBack 115 = .ok (.invokevirtual 254, 3) := by decide +kernel
theorem dX8_isGivenBack_118 : decode cX8_isGivenBack 118 = .ok (.ifCond .ne 13, 3) := by decide +kernel
theorem dX8_isGivenBack_121 : decode cX8_isGivenBack 121 = .ok (.aload_n 0, 1) := by decide +kernel
theorem dX8_isGivenBack_122 : decode cX8_isGivenBack 122 = .ok (.iload_n 1, 1) := by decide +kernel
theorem dX8_isGivenBack_123 : decode cX8_isGivenBack 123 = .ok (.iconst 5, 1) := by decide +kernel
theorem dX8_isGivenBack_124 : decode cX8_isGivenBack 124 = .ok (.iconst 3, 1) := by decide +kernel
theorem dX8_isGivenBack_125 : decode cX8_isGivenBack 125 = .ok (.invokevirtual 318, 3) := by decide +kernel
theorem dX8_isGivenBack_128 : decode cX8_isGivenBack 128 = .ok (.goto 54, 3) := by decide +kernel
theorem dX8_isGivenBack_131 : decode cX8_isGivenBack 131 = .ok (.aload_n 0, 1) := by decide +kernel
theorem dX8_isGivenBack_132 : decode cX8_isGivenBack 132 = .ok (.getfield 9, 3) := by decide +kernel
theorem dX8_isGivenBack_135 : decode cX8_isGivenBack 135 = .ok (.iconst 2, 1) := by decide +kernel
theorem dX8_isGivenBack_136 : decode cX8_isGivenBack 136 = .ok (.iaload, 1) := by decide +kernel
theorem dX8_isGivenBack_137 : decode cX8_isGivenBack 137 = .ok (.aload_n 0, 1) := by decide +kernel
theorem dX8_isGivenBack_138 : decode cX8_isGivenBack 138 = .ok (.iload_n 1, 1) := by decide +kernel
theorem dX8_isGivenBack_139 : decode cX8_isGivenBack 139 = .ok (.bipush 6, 2) := by decide +kernel
theorem dX8_isGivenBack_141 : decode cX8_isGivenBack 141 = .ok (.invokevirtual 50, 3) := by decide +kernel
theorem dX8_isGivenBack_144 : decode cX8_isGivenBack 144 = .ok (.aload_n 0, 1) := by decide +kernel
theorem dX8_isGivenBack_145 : decode cX8_isGivenBack 145 = .ok (.iload_n 1, 1) := by decide +kernel
theorem dX8_isGivenBack_146 : decode cX8_isGivenBack 146 = .ok (.iconst 4, 1) := by decide +kernel
theorem dX8_isGivenBack_147 : decode cX8_isGivenBack 147 = .ok (.invokevirtual 308, 3) := by decide +kernel
theorem dX8_isGivenBack_150 : decode cX8_isGivenBack 150 = .ok (.iadd, 1) := by decide +kernel
theorem dX8_isGivenBack_151 : decode cX8_isGivenBack 151 = .ok (.if_icmp .lt 31, 3) := by decide +kernel
theorem dX8_isGivenBack_154 : decode cX8_isGivenBack 154 = .ok (.aload_n 0, 1) := by decide +kernel
theorem dX8_isGivenBack_155 : decode cX8_isGivenBack 155 = .ok (.iload_n 1, 1) := by decide +kernel
theorem dX8_isGivenBack_156 : decode cX8_isGivenBack 156 = .ok (.iconst 5, 1) := by decide +kernel
theorem dX8_isGivenBack_157 : decode cX8_isGivenBack 157 = .ok (.iconst 4, 1) := by decide +kernel
theorem dX8_isGivenBack_158 : decode cX8_isGivenBack 158 = .ok (.invokevirtual 318, 3) := by decide +kernel
theorem dX8_isGivenBack_161 : decode cX8_isGivenBack 161 = .ok (.aload_n 0, 1) := by decide +kernel
theorem dX8_isGivenBack_162 : decode cX8_isGivenBack 162 = .ok (.getfield 9, 3) := by decide +kernel
theorem dX8_isGivenBack_165 : decode cX8_isGivenBack 165 = .ok (.sipush 270, 3) := by decide +kernel
theorem dX8_isGivenBack_168 : decode cX8_isGivenBack 168 = .ok (.bipush 6, 2) := by decide +kernel
theorem dX8_isGivenBack_170 : decode cX8_isGivenBack 170 = .ok (.aload_n 0, 1) := by decide +kernel
theorem dX8_isGivenBack_171 : decode cX8_isGivenBack 171 = .ok (.iload_n 1, 1) := by decide +kernel
theorem dX8_isGivenBack_172 : decode cX8_isGivenBack 172 = .ok (.iconst 0, 1) := by decide +kernel
theorem dX8_isGivenBack_173 : decode cX8_isGivenBack 173 = .ok (.invokevirtual 50, 3) := by decide +kernel
theorem dX8_isGivenBack_176 : decode cX8_isGivenBack 176 = .ok (.imul, 1) := by decide +kernel
theorem dX8_isGivenBack_177 : decode cX8_isGivenBack 177 = .ok (.iadd, 1) := by decide +kernel
theorem dX8_isGivenBack_178 : decode cX8_isGivenBack 178 = .ok (.iconst 5, 1) := by decide +kernel
theorem dX8_isGivenBack_179 : decode cX8_isGivenBack 179 = .ok (.iadd, 1) := by decide +kernel
theorem dX8_isGivenBack_180 : decode cX8_isGivenBack 180 = .ok (.iconst 1, 1) := by decide +kernel
theorem dX8_isGivenBack_181 : decode cX8_isGivenBack 181 = .ok (.iastore, 1) := by decide +kernel
theorem dX8_isGivenBack_182 : decode cX8_isGivenBack 182 = .ok (.return_, 1) := by decide +kernel
theorem dX8_goesOn_0 : decode cX8_goesOn 0 = .ok (.aload_n 0, 1) := by decide +kernel
theorem dX8_goesOn_1 : decode cX8_goesOn 1 = .ok (.iload_n 1, 1) := by decide +kernel
theorem dX8_goesOn_2 : decode cX8_goesOn 2 = .ok (.iconst 5, 1) := by decide +kernel
theorem dX8_goesOn_3 : decode cX8_goesOn 3 = .ok (.invokevirtual 50, 3) := by decide +kernel
theorem dX8_goesOn_6 : decode cX8_goesOn 6 = .ok (.iconst 2, 1) := by decide +kernel
theorem dX8_goesOn_7 : decode cX8_goesOn 7 = .ok (.if_icmp .ge 26, 3) := by decide +kernel
theorem dX8_goesOn_10 : decode cX8_goesOn 10 = .ok (.aload_n 0, 1) := by decide +kernel
theorem dX8_goesOn_11 : decode cX8_goesOn 11 = .ok (.getfield 9, 3) := by decide +kernel
theorem dX8_goesOn_14 : decode cX8_goesOn 14 = .ok (.iconst 2, 1) := by decide +kernel
theorem dX8_goesOn_15 : decode cX8_goesOn 15 = .ok (.iaload, 1) := by decide +kernel
theorem dX8_goesOn_16 : decode cX8_goesOn 16 = .ok (.aload_n 0, 1) := by decide +kernel
theorem dX8_goesOn_17 : decode cX8_goesOn 17 = .ok (.iload_n 1, 1) := by decide +kernel
theorem dX8_goesOn_18 : decode cX8_goesOn 18 = .ok (.bipush 6, 2) := by decide +kernel
theorem dX8_goesOn_20 : decode cX8_goesOn 20 = .ok (.invokevirtual 50, 3) := by decide +kernel
theorem dX8_goesOn_23 : decode cX8_goesOn 23 = .ok (.if_icmp .lt 10, 3) := by decide +kernel
theorem dX8_goesOn_26 : decode cX8_goesOn 26 = .ok (.aload_n 0, 1) := by decide +kernel
theorem dX8_goesOn_27 : decode cX8_goesOn 27 = .ok (.iload_n 1, 1) := by decide +kernel
theorem dX8_goesOn_28 : decode cX8_goesOn 28 = .ok (.iconst 5, 1) := by decide +kernel
theorem dX8_goesOn_29 : decode cX8_goesOn 29 = .ok (.iconst 2, 1) := by decide +kernel
theorem dX8_goesOn_30 : decode cX8_goesOn 30 = .ok (.invokevirtual 318, 3) := by decide +kernel
theorem dX8_goesOn_33 : decode cX8_goesOn 33 = .ok (.aload_n 0, 1) := by decide +kernel
theorem dX8_goesOn_34 : decode cX8_goesOn 34 = .ok (.iload_n 1, 1) := by decide +kernel
theorem dX8_goesOn_35 : decode cX8_goesOn 35 = .ok (.iconst 5, 1) := by decide +kernel
theorem dX8_goesOn_36 : decode cX8_goesOn 36 = .ok (.invokevirtual 50, 3) := by decide +kernel
theorem dX8_goesOn_39 : decode cX8_goesOn 39 = .ok (.ifCond .ne 11, 3) := by decide +kernel
theorem dX8_goesOn_42 : decode cX8_goesOn 42 = .ok (.aload_n 0, 1) := by decide +kernel
theorem dX8_goesOn_43 : decode cX8_goesOn 43 = .ok (.iload_n 1, 1) := by decide +kernel
theorem dX8_goesOn_44 : decode cX8_goesOn 44 = .ok (.invokevirtual 321, 3) := by decide +kernel
theorem dX8_goesOn_47 : decode cX8_goesOn 47 = .ok (.goto 18, 3) := by decide +kernel
theorem dX8_goesOn_50 : decode cX8_goesOn 50 = .ok (.aload_n 0, 1) := by decide +kernel
theorem dX8_goesOn_51 : decode cX8_goesOn 51 = .ok (.iload_n 1, 1) := by decide +kernel
theorem dX8_goesOn_52 : decode cX8_goesOn 52 = .ok (.iconst 5, 1) := by decide +kernel
theorem dX8_goesOn_53 : decode cX8_goesOn 53 = .ok (.invokevirtual 50, 3) := by decide +kernel
theorem dX8_goesOn_56 : decode cX8_goesOn 56 = .ok (.iconst 2, 1) := by decide +kernel
theorem dX8_goesOn_57 : decode cX8_goesOn 57 = .ok (.if_icmp .ne 8, 3) := by decide +kernel
theorem dX8_goesOn_60 : decode cX8_goesOn 60 = .ok (.aload_n 0, 1) := by decide +kernel
theorem dX8_goesOn_61 : decode cX8_goesOn 61 = .ok (.iload_n 1, 1) := by decide +kernel
theorem dX8_goesOn_62 : decode cX8_goesOn 62 = .ok (.invokevirtual 324, 3) := by decide +kernel
theorem dX8_goesOn_65 : decode cX8_goesOn 65 = .ok (.return_, 1) := by decide +kernel
theorem dX8_passes_0 : decode cX8_passes 0 = .ok (.aload_n 0, 1) := by decide +kernel
theorem dX8_passes_1 : decode cX8_passes 1 = .ok (.invokevirtual 327, 3) := by decide +kernel
theorem dX8_passes_4 : decode cX8_passes 4 = .ok (.iconst 0, 1) := by decide +kernel
theorem dX8_passes_5 : decode cX8_passes 5 = .ok (.istore_n 1, 1) := by decide +kernel
theorem dX8_passes_6 : decode cX8_passes 6 = .ok (.iload_n 1, 1) := by decide +kernel
theorem dX8_passes_7 : decode cX8_passes 7 = .ok (.aload_n 0, 1) := by decide +kernel
theorem dX8_passes_8 : decode cX8_passes 8 = .ok (.getfield 9, 3) := by decide +kernel
theorem dX8_passes_11 : decode cX8_passes 11 = .ok (.bipush 7, 2) := by decide +kernel
theorem dX8_passes_13 : decode cX8_passes 13 = .ok (.iaload, 1) := by decide +kernel
theorem dX8_passes_14 : decode cX8_passes 14 = .ok (.if_icmp .ge 22, 3) := by decide +kernel
theorem dX8_passes_17 : decode cX8_passes 17 = .ok (.aload_n 0, 1) := by decide +kernel
theorem dX8_passes_18 : decode cX8_passes 18 = .ok (.iload_n 1, 1) := by decide +kernel
theorem dX8_passes_19 : decode cX8_passes 19 = .ok (.invokevirtual 330, 3) := by decide +kernel
theorem dX8_passes_22 : decode cX8_passes 22 = .ok (.ifCond .eq 8, 3) := by decide +kernel
theorem dX8_passes_25 : decode cX8_passes 25 = .ok (.aload_n 0, 1) := by decide +kernel
theorem dX8_passes_26 : decode cX8_passes 26 = .ok (.iload_n 1, 1) := by decide +kernel
theorem dX8_passes_27 : decode cX8_passes 27 = .ok (.invokevirtual 333, 3) := by decide +kernel
theorem dX8_passes_30 : decode cX8_passes 30 = .ok (.iinc 1 1, 3) := by decide +kernel
theorem dX8_passes_33 : decode cX8_passes 33 = .ok (.goto (-27), 3) := by decide +kernel
theorem dX8_passes_36 : decode cX8_passes 36 = .ok (.iconst 0, 1) := by decide +kernel
theorem dX8_passes_37 : decode cX8_passes 37 = .ok (.istore_n 1, 1) := by decide +kernel
theorem dX8_passes_38 : decode cX8_passes 38 = .ok (.iload_n 1, 1) := by decide +kernel
theorem dX8_passes_39 : decode cX8_passes 39 = .ok (.aload_n 0, 1) := by decide +kernel
theorem dX8_passes_40 : decode cX8_passes 40 = .ok (.getfield 9, 3) := by decide +kernel
theorem dX8_passes_43 : decode cX8_passes 43 = .ok (.iconst 5, 1) := by decide +kernel
theorem dX8_passes_44 : decode cX8_passes 44 = .ok (.iaload, 1) := by decide +kernel
theorem dX8_passes_45 : decode cX8_passes 45 = .ok (.if_icmp .ge 24, 3) := by decide +kernel
theorem dX8_passes_48 : decode cX8_passes 48 = .ok (.aload_n 0, 1) := by decide +kernel
theorem dX8_passes_49 : decode cX8_passes 49 = .ok (.getfield 9, 3) := by decide +kernel
theorem dX8_passes_52 : decode cX8_passes 52 = .ok (.bipush 86, 2) := by decide +kernel
theorem dX8_passes_54 : decode cX8_passes 54 = .ok (.bipush 6, 2) := by decide +kernel
theorem dX8_passes_56 : decode cX8_passes 56 = .ok (.iload_n 1, 1) := by decide +kernel
theorem dX8_passes_57 : decode cX8_passes 57 = .ok (.imul, 1) := by decide +kernel
theorem dX8_passes_58 : decode cX8_passes 58 = .ok (.iadd, 1) := by decide +kernel
theorem dX8_passes_59 : decode cX8_passes 59 = .ok (.iconst 4, 1) := by decide +kernel
theorem dX8_passes_60 : decode cX8_passes 60 = .ok (.iadd, 1) := by decide +kernel
theorem dX8_passes_61 : decode cX8_passes 61 = .ok (.iconst 0, 1) := by decide +kernel
theorem dX8_passes_62 : decode cX8_passes 62 = .ok (.iastore, 1) := by decide +kernel
theorem dX8_passes_63 : decode cX8_passes 63 = .ok (.iinc 1 1, 3) := by decide +kernel
theorem dX8_passes_66 : decode cX8_passes 66 = .ok (.goto (-28), 3) := by decide +kernel
theorem dX8_passes_69 : decode cX8_passes 69 = .ok (.iconst 0, 1) := by decide +kernel
theorem dX8_passes_70 : decode cX8_passes 70 = .ok (.istore_n 1, 1) := by decide +kernel
theorem dX8_passes_71 : decode cX8_passes 71 = .ok (.iload_n 1, 1) := by decide +kernel
theorem dX8_passes_72 : decode cX8_passes 72 = .ok (.aload_n 0, 1) := by decide +kernel
theorem dX8_passes_73 : decode cX8_passes 73 = .ok (.getfield 9, 3) := by decide +kernel
theorem dX8_passes_76 : decode cX8_passes 76 = .ok (.bipush 9, 2) := by decide +kernel
theorem dX8_passes_78 : decode cX8_passes 78 = .ok (.iaload, 1) := by decide +kernel
theorem dX8_passes_79 : decode cX8_passes 79 = .ok (.if_icmp .ge 14, 3) := by decide +kernel
theorem dX8_passes_82 : decode cX8_passes 82 = .ok (.aload_n 0, 1) := by decide +kernel
theorem dX8_passes_83 : decode cX8_passes 83 = .ok (.iload_n 1, 1) := by decide +kernel
theorem dX8_passes_84 : decode cX8_passes 84 = .ok (.invokevirtual 336, 3) := by decide +kernel
theorem dX8_passes_87 : decode cX8_passes 87 = .ok (.iinc 1 1, 3) := by decide +kernel
theorem dX8_passes_90 : decode cX8_passes 90 = .ok (.goto (-19), 3) := by decide +kernel
theorem dX8_passes_93 : decode cX8_passes 93 = .ok (.aload_n 0, 1) := by decide +kernel
theorem dX8_passes_94 : decode cX8_passes 94 = .ok (.getfield 9, 3) := by decide +kernel
theorem dX8_passes_97 : decode cX8_passes 97 = .ok (.iconst 2, 1) := by decide +kernel
theorem dX8_passes_98 : decode cX8_passes 98 = .ok (.dup2, 1) := by decide +kernel
theorem dX8_passes_99 : decode cX8_passes 99 = .ok (.iaload, 1) := by decide +kernel
theorem dX8_passes_100 : decode cX8_passes 100 = .ok (.iconst 1, 1) := by decide +kernel
theorem dX8_passes_101 : decode cX8_passes 101 = .ok (.iadd, 1) := by decide +kernel
theorem dX8_passes_102 : decode cX8_passes 102 = .ok (.iastore, 1) := by decide +kernel
theorem dX8_passes_103 : decode cX8_passes 103 = .ok (.return_, 1) := by decide +kernel
theorem dX8_keeps_0 : decode cX8_keeps 0 = .ok (.aload_n 0, 1) := by decide +kernel
theorem dX8_keeps_1 : decode cX8_keeps 1 = .ok (.getfield 186, 3) := by decide +kernel
theorem dX8_keeps_4 : decode cX8_keeps 4 = .ok (.bipush 8, 2) := by decide +kernel
theorem dX8_keeps_6 : decode cX8_keeps 6 = .ok (.if_icmp .ne 44, 3) := by decide +kernel
theorem dX8_keeps_9 : decode cX8_keeps 9 = .ok (.iconst 0, 1) := by decide +kernel
theorem dX8_keeps_10 : decode cX8_keeps 10 = .ok (.istore_n 1, 1) := by decide +kernel
theorem dX8_keeps_11 : decode cX8_keeps 11 = .ok (.iload_n 1, 1) := by decide +kernel
theorem dX8_keeps_12 : decode cX8_keeps 12 = .ok (.sipush 3010, 3) := by decide +kernel
theorem dX8_keeps_15 : decode cX8_keeps 15 = .ok (.if_icmp .ge 25, 3) := by decide +kernel
theorem dX8_keeps_18 : decode cX8_keeps 18 = .ok (.aload_n 0, 1) := by decide +kernel
theorem dX8_keeps_19 : decode cX8_keeps 19 = .ok (.getfield 19, 3) := by decide +kernel
theorem dX8_keeps_22 : decode cX8_keeps 22 = .ok (.iload_n 1, 1) := by decide +kernel
theorem dX8_keeps_23 : decode cX8_keeps 23 = .ok (.aload_n 0, 1) := by decide +kernel
theorem dX8_keeps_24 : decode cX8_keeps 24 = .ok (.getfield 19, 3) := by decide +kernel
theorem dX8_keeps_27 : decode cX8_keeps 27 = .ok (.iload_n 1, 1) := by decide +kernel
theorem dX8_keeps_28 : decode cX8_keeps 28 = .ok (.sipush 430, 3) := by decide +kernel
theorem dX8_keeps_31 : decode cX8_keeps 31 = .ok (.iadd, 1) := by decide +kernel
theorem dX8_keeps_32 : decode cX8_keeps 32 = .ok (.iaload, 1) := by decide +kernel
theorem dX8_keeps_33 : decode cX8_keeps 33 = .ok (.iastore, 1) := by decide +kernel
theorem dX8_keeps_34 : decode cX8_keeps 34 = .ok (.iinc 1 1, 3) := by decide +kernel
theorem dX8_keeps_37 : decode cX8_keeps 37 = .ok (.goto (-26), 3) := by decide +kernel
theorem dX8_keeps_40 : decode cX8_keeps 40 = .ok (.aload_n 0, 1) := by decide +kernel
theorem dX8_keeps_41 : decode cX8_keeps 41 = .ok (.dup, 1) := by decide +kernel
theorem dX8_keeps_42 : decode cX8_keeps 42 = .ok (.getfield 186, 3) := by decide +kernel
theorem dX8_keeps_45 : decode cX8_keeps 45 = .ok (.iconst 1, 1) := by decide +kernel
theorem dX8_keeps_46 : decode cX8_keeps 46 = .ok (.isub, 1) := by decide +kernel
theorem dX8_keeps_47 : decode cX8_keeps 47 = .ok (.putfield 186, 3) := by decide +kernel
theorem dX8_keeps_50 : decode cX8_keeps 50 = .ok (.aload_n 0, 1) := by decide +kernel
theorem dX8_keeps_51 : decode cX8_keeps 51 = .ok (.getfield 9, 3) := by decide +kernel
theorem dX8_keeps_54 : decode cX8_keeps 54 = .ok (.iconst 0, 1) := by decide +kernel
theorem dX8_keeps_55 : decode cX8_keeps 55 = .ok (.aload_n 0, 1) := by decide +kernel
theorem dX8_keeps_56 : decode cX8_keeps 56 = .ok (.getfield 19, 3) := by decide +kernel
theorem dX8_keeps_59 : decode cX8_keeps 59 = .ok (.aload_n 0, 1) := by decide +kernel
theorem dX8_keeps_60 : decode cX8_keeps 60 = .ok (.getfield 186, 3) := by decide +kernel
theorem dX8_keeps_63 : decode cX8_keeps 63 = .ok (.invokestatic 183, 3) := by decide +kernel
theorem dX8_keeps_66 : decode cX8_keeps 66 = .ok (.aload_n 0, 1) := by decide +kernel
theorem dX8_keeps_67 : decode cX8_keeps 67 = .ok (.dup, 1) := by decide +kernel
theorem dX8_keeps_68 : decode cX8_keeps 68 = .ok (.getfield 186, 3) := by decide +kernel
theorem dX8_keeps_71 : decode cX8_keeps 71 = .ok (.iconst 1, 1) := by decide +kernel
theorem dX8_keeps_72 : decode cX8_keeps 72 = .ok (.iadd, 1) := by decide +kernel
theorem dX8_keeps_73 : decode cX8_keeps 73 = .ok (.putfield 186, 3) := by decide +kernel
theorem dX8_keeps_76 : decode cX8_keeps 76 = .ok (.return_, 1) := by decide +kernel
theorem dX8_undo_0 : decode cX8_undo 0 = .ok (.aload_n 0, 1) := by decide +kernel
theorem dX8_undo_1 : decode cX8_undo 1 = .ok (.iconst 0, 1) := by decide +kernel
theorem dX8_undo_2 : decode cX8_undo 2 = .ok (.putfield 41, 3) := by decide +kernel
theorem dX8_undo_5 : decode cX8_undo 5 = .ok (.aload_n 0, 1) := by decide +kernel
theorem dX8_undo_6 : decode cX8_undo 6 = .ok (.getfield 186, 3) := by decide +kernel
theorem dX8_undo_9 : decode cX8_undo 9 = .ok (.ifCond .ne 5, 3) := by decide +kernel
theorem dX8_undo_12 : decode cX8_undo 12 = .ok (.iconst (-1), 1) := by decide +kernel
theorem dX8_undo_13 : decode cX8_undo 13 = .ok (.ireturn, 1) := by decide +kernel
theorem dX8_undo_14 : decode cX8_undo 14 = .ok (.aload_n 0, 1) := by decide +kernel
theorem dX8_undo_15 : decode cX8_undo 15 = .ok (.dup, 1) := by decide +kernel
theorem dX8_undo_16 : decode cX8_undo 16 = .ok (.getfield 186, 3) := by decide +kernel
theorem dX8_undo_19 : decode cX8_undo 19 = .ok (.iconst 1, 1) := by decide +kernel
theorem dX8_undo_20 : decode cX8_undo 20 = .ok (.isub, 1) := by decide +kernel
theorem dX8_undo_21 : decode cX8_undo 21 = .ok (.putfield 186, 3) := by decide +kernel
theorem dX8_undo_24 : decode cX8_undo 24 = .ok (.aload_n 0, 1) := by decide +kernel
theorem dX8_undo_25 : decode cX8_undo 25 = .ok (.getfield 19, 3) := by decide +kernel
theorem dX8_undo_28 : decode cX8_undo 28 = .ok (.aload_n 0, 1) := by decide +kernel
theorem dX8_undo_29 : decode cX8_undo 29 = .ok (.getfield 186, 3) := by decide +kernel
theorem dX8_undo_32 : decode cX8_undo 32 = .ok (.aload_n 0, 1) := by decide +kernel
theorem dX8_undo_33 : decode cX8_undo 33 = .ok (.getfield 9, 3) := by decide +kernel
theorem dX8_undo_36 : decode cX8_undo 36 = .ok (.iconst 0, 1) := by decide +kernel
theorem dX8_undo_37 : decode cX8_undo 37 = .ok (.invokestatic 183, 3) := by decide +kernel
theorem dX8_undo_40 : decode cX8_undo 40 = .ok (.aload_n 0, 1) := by decide +kernel
theorem dX8_undo_41 : decode cX8_undo 41 = .ok (.getfield 186, 3) := by decide +kernel
theorem dX8_undo_44 : decode cX8_undo 44 = .ok (.ireturn, 1) := by decide +kernel
theorem dX8_lends_0 : decode cX8_lends 0 = .ok (.aload_n 0, 1) := by decide +kernel
theorem dX8_lends_1 : decode cX8_lends 1 = .ok (.getfield 9, 3) := by decide +kernel
theorem dX8_lends_4 : decode cX8_lends 4 = .ok (.bipush 9, 2) := by decide +kernel
theorem dX8_lends_6 : decode cX8_lends 6 = .ok (.iaload, 1) := by decide +kernel
theorem dX8_lends_7 : decode cX8_lends 7 = .ok (.istore 4, 2) := by decide +kernel
theorem dX8_lends_9 : decode cX8_lends 9 = .ok (.iconst 0, 1) := by decide +kernel
theorem dX8_lends_10 : decode cX8_lends 10 = .ok (.istore 5, 2) := by decide +kernel
theorem dX8_lends_12 : decode cX8_lends 12 = .ok (.iload 5, 2) := by decide +kernel
theorem dX8_lends_14 : decode cX8_lends 14 = .ok (.bipush 7, 2) := by decide +kernel
theorem dX8_lends_16 : decode cX8_lends 16 = .ok (.if_icmp .ge 18, 3) := by decide +kernel
theorem dX8_lends_19 : decode cX8_lends 19 = .ok (.aload_n 0, 1) := by decide +kernel
theorem dX8_lends_20 : decode cX8_lends 20 = .ok (.iload 4, 2) := by decide +kernel
theorem dX8_lends_22 : decode cX8_lends 22 = .ok (.iload 5, 2) := by decide +kernel
theorem dX8_lends_24 : decode cX8_lends 24 = .ok (.iconst 0, 1) := by decide +kernel
theorem dX8_lends_25 : decode cX8_lends 25 = .ok (.invokevirtual 318, 3) := by decide +kernel
theorem dX8_lends_28 : decode cX8_lends 28 = .ok (.iinc 5 1, 3) := by decide +kernel
theorem dX8_lends_31 : decode cX8_lends 31 = .ok (.goto (-19), 3) := by decide +kernel
theorem dX8_lends_34 : decode cX8_lends 34 = .ok (.aload_n 0, 1) := by decide +kernel
theorem dX8_lends_35 : decode cX8_lends 35 = .ok (.iload 4, 2) := by decide +kernel
theorem dX8_lends_37 : decode cX8_lends 37 = .ok (.iconst 0, 1) := by decide +kernel
theorem dX8_lends_38 : decode cX8_lends 38 = .ok (.iload_n 1, 1) := by decide +kernel
theorem dX8_lends_39 : decode cX8_lends 39 = .ok (.invokevirtual 318, 3) := by decide +kernel
theorem dX8_lends_42 : decode cX8_lends 42 = .ok (.aload_n 0, 1) := by decide +kernel
theorem dX8_lends_43 : decode cX8_lends 43 = .ok (.iload 4, 2) := by decide +kernel
theorem dX8_lends_45 : decode cX8_lends 45 = .ok (.iconst 1, 1) := by decide +kernel
theorem dX8_lends_46 : decode cX8_lends 46 = .ok (.iload_n 2, 1) := by decide +kernel
theorem dX8_lends_47 : decode cX8_lends 47 = .ok (.invokevirtual 318, 3) := by decide +kernel
theorem dX8_lends_50 : decode cX8_lends 50 = .ok (.aload_n 0, 1) := by decide +kernel
theorem dX8_lends_51 : decode cX8_lends 51 = .ok (.iload 4, 2) := by decide +kernel
theorem dX8_lends_53 : decode cX8_lends 53 = .ok (.bipush 6, 2) := by decide +kernel
theorem dX8_lends_55 : decode cX8_lends 55 = .ok (.aload_n 0, 1) := by decide +kernel
theorem dX8_lends_56 : decode cX8_lends 56 = .ok (.getfield 9, 3) := by decide +kernel
theorem dX8_lends_59 : decode cX8_lends 59 = .ok (.iconst 2, 1) := by decide +kernel
theorem dX8_lends_60 : decode cX8_lends 60 = .ok (.iaload, 1) := by decide +kernel
theorem dX8_lends_61 : decode cX8_lends 61 = .ok (.iload_n 3, 1) := by decide +kernel
theorem dX8_lends_62 : decode cX8_lends 62 = .ok (.iadd, 1) := by decide +kernel
theorem dX8_lends_63 : decode cX8_lends 63 = .ok (.invokevirtual 318, 3) := by decide +kernel
theorem dX8_lends_66 : decode cX8_lends 66 = .ok (.aload_n 0, 1) := by decide +kernel
theorem dX8_lends_67 : decode cX8_lends 67 = .ok (.getfield 9, 3) := by decide +kernel
theorem dX8_lends_70 : decode cX8_lends 70 = .ok (.bipush 9, 2) := by decide +kernel
theorem dX8_lends_72 : decode cX8_lends 72 = .ok (.dup2, 1) := by decide +kernel
theorem dX8_lends_73 : decode cX8_lends 73 = .ok (.iaload, 1) := by decide +kernel
theorem dX8_lends_74 : decode cX8_lends 74 = .ok (.iconst 1, 1) := by decide +kernel
theorem dX8_lends_75 : decode cX8_lends 75 = .ok (.iadd, 1) := by decide +kernel
theorem dX8_lends_76 : decode cX8_lends 76 = .ok (.iastore, 1) := by decide +kernel
theorem dX8_lends_77 : decode cX8_lends 77 = .ok (.iload 4, 2) := by decide +kernel
theorem dX8_lends_79 : decode cX8_lends 79 = .ok (.ireturn, 1) := by decide +kernel
theorem dX8_lend_0 : decode cX8_lend 0 = .ok (.aload_n 0, 1) := by decide +kernel
theorem dX8_lend_1 : decode cX8_lend 1 = .ok (.aload_n 0, 1) := by decide +kernel
theorem dX8_lend_2 : decode cX8_lend 2 = .ok (.iload_n 1, 1) := by decide +kernel
theorem dX8_lend_3 : decode cX8_lend 3 = .ok (.invokevirtual 257, 3) := by decide +kernel
theorem dX8_lend_6 : decode cX8_lend 6 = .ok (.iconst 1, 1) := by decide +kernel
theorem dX8_lend_7 : decode cX8_lend 7 = .ok (.invokevirtual 227, 3) := by decide +kernel
theorem dX8_lend_10 : decode cX8_lend 10 = .ok (.ifCond .ne 35, 3) := by decide +kernel
theorem dX8_lend_13 : decode cX8_lend 13 = .ok (.aload_n 0, 1) := by decide +kernel
theorem dX8_lend_14 : decode cX8_lend 14 = .ok (.iload_n 2, 1) := by decide +kernel
theorem dX8_lend_15 : decode cX8_lend 15 = .ok (.invokestatic 281, 3) := by decide +kernel
theorem dX8_lend_18 : decode cX8_lend 18 = .ok (.ifCond .eq 19, 3) := by decide +kernel
theorem dX8_lend_21 : decode cX8_lend 21 = .ok (.iload_n 3, 1) := by decide +kernel
theorem dX8_lend_22 : decode cX8_lend 22 = .ok (.i2l, 1) := by decide +kernel
theorem dX8_lend_23 : decode cX8_lend 23 = .ok (.lconst 1, 1) := by decide +kernel
theorem dX8_lend_24 : decode cX8_lend 24 = .ok (.ldc2_w 339, 3) := by decide +kernel
theorem dX8_lend_27 : decode cX8_lend 27 = .ok (.invokestatic 44, 3) := by decide +kernel
theorem dX8_lend_30 : decode cX8_lend 30 = .ok (.ifCond .eq 7, 3) := by decide +kernel
theorem dX8_lend_33 : decode cX8_lend 33 = .ok (.iconst 1, 1) := by decide +kernel
theorem dX8_lend_34 : decode cX8_lend 34 = .ok (.goto 4, 3) := by decide +kernel
theorem dX8_lend_37 : decode cX8_lend 37 = .ok (.iconst 0, 1) := by decide +kernel
theorem dX8_lend_38 : decode cX8_lend 38 = .ok (.iconst 2, 1) := by decide +kernel
theorem dX8_lend_39 : decode cX8_lend 39 = .ok (.invokevirtual 227, 3) := by decide +kernel
theorem dX8_lend_42 : decode cX8_lend 42 = .ok (.ifCond .eq 5, 3) := by decide +kernel
theorem dX8_lend_45 : decode cX8_lend 45 = .ok (.iconst 0, 1) := by decide +kernel
theorem dX8_lend_46 : decode cX8_lend 46 = .ok (.ireturn, 1) := by decide +kernel
theorem dX8_lend_47 : decode cX8_lend 47 = .ok (.aload_n 0, 1) := by decide +kernel
theorem dX8_lend_48 : decode cX8_lend 48 = .ok (.iload_n 1, 1) := by decide +kernel
theorem dX8_lend_49 : decode cX8_lend 49 = .ok (.iload_n 2, 1) := by decide +kernel
theorem dX8_lend_50 : decode cX8_lend 50 = .ok (.invokevirtual 290, 3) := by decide +kernel
theorem dX8_lend_53 : decode cX8_lend 53 = .ok (.istore 4, 2) := by decide +kernel
theorem dX8_lend_55 : decode cX8_lend 55 = .ok (.iload 4, 2) := by decide +kernel
theorem dX8_lend_57 : decode cX8_lend 57 = .ok (.ifCond .eq 9, 3) := by decide +kernel
theorem dX8_lend_60 : decode cX8_lend 60 = .ok (.bipush (-10), 2) := by decide +kernel
theorem dX8_lend_62 : decode cX8_lend 62 = .ok (.iload 4, 2) := by decide +kernel
theorem dX8_lend_64 : decode cX8_lend 64 = .ok (.isub, 1) := by decide +kernel
theorem dX8_lend_65 : decode cX8_lend 65 = .ok (.ireturn, 1) := by decide +kernel
theorem dX8_lend_66 : decode cX8_lend 66 = .ok (.aload_n 0, 1) := by decide +kernel
theorem dX8_lend_67 : decode cX8_lend 67 = .ok (.invokevirtual 341, 3) := by decide +kernel
theorem dX8_lend_70 : decode cX8_lend 70 = .ok (.aload_n 0, 1) := by decide +kernel
theorem dX8_lend_71 : decode cX8_lend 71 = .ok (.iload_n 1, 1) := by decide +kernel
theorem dX8_lend_72 : decode cX8_lend 72 = .ok (.iload_n 2, 1) := by decide +kernel
theorem dX8_lend_73 : decode cX8_lend 73 = .ok (.iload_n 3, 1) := by decide +kernel
theorem dX8_lend_74 : decode cX8_lend 74 = .ok (.invokevirtual 344, 3) := by decide +kernel
theorem dX8_lend_77 : decode cX8_lend 77 = .ok (.ireturn, 1) := by decide +kernel
theorem dX8_comesDue_0 : decode cX8_comesDue 0 = .ok (.aload_n 0, 1) := by decide +kernel
theorem dX8_comesDue_1 : decode cX8_comesDue 1 = .ok (.iload_n 1, 1) := by decide +kernel
theorem dX8_comesDue_2 : decode cX8_comesDue 2 = .ok (.bipush 6, 2) := by decide +kernel
theorem dX8_comesDue_4 : decode cX8_comesDue 4 = .ok (.aload_n 0, 1) := by decide +kernel
theorem dX8_comesDue_5 : decode cX8_comesDue 5 = .ok (.iload_n 1, 1) := by decide +kernel
theorem dX8_comesDue_6 : decode cX8_comesDue 6 = .ok (.bipush 6, 2) := by decide +kernel
theorem dX8_comesDue_8 : decode cX8_comesDue 8 = .ok (.invokevirtual 50, 3) := by decide +kernel
theorem dX8_comesDue_11 : decode cX8_comesDue 11 = .ok (.iload_n 2, 1) := by decide +kernel
theorem dX8_comesDue_12 : decode cX8_comesDue 12 = .ok (.invokestatic 106, 3) := by decide +kernel
theorem dX8_comesDue_15 : decode cX8_comesDue 15 = .ok (.invokevirtual 318, 3) := by decide +kernel
theorem dX8_comesDue_18 : decode cX8_comesDue 18 = .ok (.return_, 1) := by decide +kernel
theorem dX8_recall_0 : decode cX8_recall 0 = .ok (.aload_n 0, 1) := by decide +kernel
theorem dX8_recall_1 : decode cX8_recall 1 = .ok (.aload_n 0, 1) := by decide +kernel
theorem dX8_recall_2 : decode cX8_recall 2 = .ok (.iload_n 1, 1) := by decide +kernel
theorem dX8_recall_3 : decode cX8_recall 3 = .ok (.invokevirtual 269, 3) := by decide +kernel
theorem dX8_recall_6 : decode cX8_recall 6 = .ok (.iconst 1, 1) := by decide +kernel
theorem dX8_recall_7 : decode cX8_recall 7 = .ok (.invokevirtual 227, 3) := by decide +kernel
theorem dX8_recall_10 : decode cX8_recall 10 = .ok (.ifCond .eq 5, 3) := by decide +kernel
theorem dX8_recall_13 : decode cX8_recall 13 = .ok (.iconst 0, 1) := by decide +kernel
theorem dX8_recall_14 : decode cX8_recall 14 = .ok (.ireturn, 1) := by decide +kernel
theorem dX8_recall_15 : decode cX8_recall 15 = .ok (.aload_n 0, 1) := by decide +kernel
theorem dX8_recall_16 : decode cX8_recall 16 = .ok (.iload_n 1, 1) := by decide +kernel
theorem dX8_recall_17 : decode cX8_recall 17 = .ok (.invokevirtual 221, 3) := by decide +kernel
theorem dX8_recall_20 : decode cX8_recall 20 = .ok (.ifCond .ne 6, 3) := by decide +kernel
theorem dX8_recall_23 : decode cX8_recall 23 = .ok (.bipush (-3), 2) := by decide +kernel
theorem dX8_recall_25 : decode cX8_recall 25 = .ok (.ireturn, 1) := by decide +kernel
theorem dX8_recall_26 : decode cX8_recall 26 = .ok (.aload_n 0, 1) := by decide +kernel
theorem dX8_recall_27 : decode cX8_recall 27 = .ok (.invokevirtual 341, 3) := by decide +kernel
theorem dX8_recall_30 : decode cX8_recall 30 = .ok (.aload_n 0, 1) := by decide +kernel
theorem dX8_recall_31 : decode cX8_recall 31 = .ok (.iload_n 1, 1) := by decide +kernel
theorem dX8_recall_32 : decode cX8_recall 32 = .ok (.aload_n 0, 1) := by decide +kernel
theorem dX8_recall_33 : decode cX8_recall 33 = .ok (.getfield 9, 3) := by decide +kernel
theorem dX8_recall_36 : decode cX8_recall 36 = .ok (.iconst 2, 1) := by decide +kernel
theorem dX8_recall_37 : decode cX8_recall 37 = .ok (.iaload, 1) := by decide +kernel
theorem dX8_recall_38 : decode cX8_recall 38 = .ok (.aload_n 0, 1) := by decide +kernel
theorem dX8_recall_39 : decode cX8_recall 39 = .ok (.iload_n 1, 1) := by decide +kernel
theorem dX8_recall_40 : decode cX8_recall 40 = .ok (.iconst 3, 1) := by decide +kernel
theorem dX8_recall_41 : decode cX8_recall 41 = .ok (.invokevirtual 308, 3) := by decide +kernel
theorem dX8_recall_44 : decode cX8_recall 44 = .ok (.iadd, 1) := by decide +kernel
theorem dX8_recall_45 : decode cX8_recall 45 = .ok (.invokevirtual 348, 3) := by decide +kernel
theorem dX8_recall_48 : decode cX8_recall 48 = .ok (.aload_n 0, 1) := by decide +kernel
theorem dX8_recall_49 : decode cX8_recall 49 = .ok (.iload_n 1, 1) := by decide +kernel
theorem dX8_recall_50 : decode cX8_recall 50 = .ok (.bipush 6, 2) := by decide +kernel
theorem dX8_recall_52 : decode cX8_recall 52 = .ok (.invokevirtual 50, 3) := by decide +kernel
theorem dX8_recall_55 : decode cX8_recall 55 = .ok (.ireturn, 1) := by decide +kernel
theorem dX8_giveBack_0 : decode cX8_giveBack 0 = .ok (.aload_n 0, 1) := by decide +kernel
theorem dX8_giveBack_1 : decode cX8_giveBack 1 = .ok (.aload_n 0, 1) := by decide +kernel
theorem dX8_giveBack_2 : decode cX8_giveBack 2 = .ok (.iload_n 1, 1) := by decide +kernel
theorem dX8_giveBack_3 : decode cX8_giveBack 3 = .ok (.invokevirtual 269, 3) := by decide +kernel
theorem dX8_giveBack_6 : decode cX8_giveBack 6 = .ok (.iconst 1, 1) := by decide +kernel
theorem dX8_giveBack_7 : decode cX8_giveBack 7 = .ok (.invokevirtual 227, 3) := by decide +kernel
theorem dX8_giveBack_10 : decode cX8_giveBack 10 = .ok (.ifCond .eq 5, 3) := by decide +kernel
theorem dX8_giveBack_13 : decode cX8_giveBack 13 = .ok (.iconst 0, 1) := by decide +kernel
theorem dX8_giveBack_14 : decode cX8_giveBack 14 = .ok (.ireturn, 1) := by decide +kernel
theorem dX8_giveBack_15 : decode cX8_giveBack 15 = .ok (.aload_n 0, 1) := by decide +kernel
theorem dX8_giveBack_16 : decode cX8_giveBack 16 = .ok (.iload_n 1, 1) := by decide +kernel
theorem dX8_giveBack_17 : decode cX8_giveBack 17 = .ok (.invokevirtual 221, 3) := by decide +kernel
theorem dX8_giveBack_20 : decode cX8_giveBack 20 = .ok (.ifCond .ne 6, 3) := by decide +kernel
theorem dX8_giveBack_23 : decode cX8_giveBack 23 = .ok (.bipush (-3), 2) := by decide +kernel
theorem dX8_giveBack_25 : decode cX8_giveBack 25 = .ok (.ireturn, 1) := by decide +kernel
theorem dX8_giveBack_26 : decode cX8_giveBack 26 = .ok (.aload_n 0, 1) := by decide +kernel
theorem dX8_giveBack_27 : decode cX8_giveBack 27 = .ok (.invokevirtual 341, 3) := by decide +kernel
theorem dX8_giveBack_30 : decode cX8_giveBack 30 = .ok (.aload_n 0, 1) := by decide +kernel
theorem dX8_giveBack_31 : decode cX8_giveBack 31 = .ok (.iload_n 1, 1) := by decide +kernel
theorem dX8_giveBack_32 : decode cX8_giveBack 32 = .ok (.aload_n 0, 1) := by decide +kernel
theorem dX8_giveBack_33 : decode cX8_giveBack 33 = .ok (.getfield 9, 3) := by decide +kernel
theorem dX8_giveBack_36 : decode cX8_giveBack 36 = .ok (.iconst 2, 1) := by decide +kernel
theorem dX8_giveBack_37 : decode cX8_giveBack 37 = .ok (.iaload, 1) := by decide +kernel
theorem dX8_giveBack_38 : decode cX8_giveBack 38 = .ok (.invokevirtual 348, 3) := by decide +kernel
theorem dX8_giveBack_41 : decode cX8_giveBack 41 = .ok (.aload_n 0, 1) := by decide +kernel
theorem dX8_giveBack_42 : decode cX8_giveBack 42 = .ok (.iload_n 1, 1) := by decide +kernel
theorem dX8_giveBack_43 : decode cX8_giveBack 43 = .ok (.invokevirtual 254, 3) := by decide +kernel
theorem dX8_giveBack_46 : decode cX8_giveBack 46 = .ok (.ireturn, 1) := by decide +kernel
theorem dX8_forgive_0 : decode cX8_forgive 0 = .ok (.aload_n 0, 1) := by decide +kernel
theorem dX8_forgive_1 : decode cX8_forgive 1 = .ok (.aload_n 0, 1) := by decide +kernel
theorem dX8_forgive_2 : decode cX8_forgive 2 = .ok (.iload_n 1, 1) := by decide +kernel
theorem dX8_forgive_3 : decode cX8_forgive 3 = .ok (.invokevirtual 269, 3) := by decide +kernel
theorem dX8_forgive_6 : decode cX8_forgive 6 = .ok (.iconst 1, 1) := by decide +kernel
theorem dX8_forgive_7 : decode cX8_forgive 7 = .ok (.invokevirtual 227, 3) := by decide +kernel
theorem dX8_forgive_10 : decode cX8_forgive 10 = .ok (.ifCond .eq 5, 3) := by decide +kernel
theorem dX8_forgive_13 : decode cX8_forgive 13 = .ok (.iconst 0, 1) := by decide +kernel
theorem dX8_forgive_14 : decode cX8_forgive 14 = .ok (.ireturn, 1) := by decide +kernel
theorem dX8_forgive_15 : decode cX8_forgive 15 = .ok (.aload_n 0, 1) := by decide +kernel
theorem dX8_forgive_16 : decode cX8_forgive 16 = .ok (.iload_n 1, 1) := by decide +kernel
theorem dX8_forgive_17 : decode cX8_forgive 17 = .ok (.invokevirtual 221, 3) := by decide +kernel
theorem dX8_forgive_20 : decode cX8_forgive 20 = .ok (.ifCond .ne 6, 3) := by decide +kernel
theorem dX8_forgive_23 : decode cX8_forgive 23 = .ok (.bipush (-3), 2) := by decide +kernel
theorem dX8_forgive_25 : decode cX8_forgive 25 = .ok (.ireturn, 1) := by decide +kernel
theorem dX8_forgive_26 : decode cX8_forgive 26 = .ok (.aload_n 0, 1) := by decide +kernel
theorem dX8_forgive_27 : decode cX8_forgive 27 = .ok (.invokevirtual 341, 3) := by decide +kernel
theorem dX8_forgive_30 : decode cX8_forgive 30 = .ok (.aload_n 0, 1) := by decide +kernel
theorem dX8_forgive_31 : decode cX8_forgive 31 = .ok (.iload_n 1, 1) := by decide +kernel
theorem dX8_forgive_32 : decode cX8_forgive 32 = .ok (.invokevirtual 254, 3) := by decide +kernel
theorem dX8_forgive_35 : decode cX8_forgive 35 = .ok (.istore_n 2, 1) := by decide +kernel
theorem dX8_forgive_36 : decode cX8_forgive 36 = .ok (.aload_n 0, 1) := by decide +kernel
theorem dX8_forgive_37 : decode cX8_forgive 37 = .ok (.iload_n 1, 1) := by decide +kernel
theorem dX8_forgive_38 : decode cX8_forgive 38 = .ok (.iconst 5, 1) := by decide +kernel
theorem dX8_forgive_39 : decode cX8_forgive 39 = .ok (.iconst 5, 1) := by decide +kernel
theorem dX8_forgive_40 : decode cX8_forgive 40 = .ok (.invokevirtual 318, 3) := by decide +kernel
theorem dX8_forgive_43 : decode cX8_forgive 43 = .ok (.iload_n 2, 1) := by decide +kernel
theorem dX8_forgive_44 : decode cX8_forgive 44 = .ok (.ireturn, 1) := by decide +kernel
theorem dX8_puts_0 : decode cX8_puts 0 = .ok (.aload_n 0, 1) := by decide +kernel
theorem dX8_puts_1 : decode cX8_puts 1 = .ok (.invokevirtual 341, 3) := by decide +kernel
theorem dX8_puts_4 : decode cX8_puts 4 = .ok (.aload_n 0, 1) := by decide +kernel
theorem dX8_puts_5 : decode cX8_puts 5 = .ok (.getfield 9, 3) := by decide +kernel
theorem dX8_puts_8 : decode cX8_puts 8 = .ok (.iload_n 1, 1) := by decide +kernel
theorem dX8_puts_9 : decode cX8_puts 9 = .ok (.iaload, 1) := by decide +kernel
theorem dX8_puts_10 : decode cX8_puts 10 = .ok (.istore_n 3, 1) := by decide +kernel
theorem dX8_puts_11 : decode cX8_puts 11 = .ok (.aload_n 0, 1) := by decide +kernel
theorem dX8_puts_12 : decode cX8_puts 12 = .ok (.getfield 9, 3) := by decide +kernel
theorem dX8_puts_15 : decode cX8_puts 15 = .ok (.iload_n 1, 1) := by decide +kernel
theorem dX8_puts_16 : decode cX8_puts 16 = .ok (.iload_n 2, 1) := by decide +kernel
theorem dX8_puts_17 : decode cX8_puts 17 = .ok (.iastore, 1) := by decide +kernel
theorem dX8_puts_18 : decode cX8_puts 18 = .ok (.iload_n 3, 1) := by decide +kernel
theorem dX8_puts_19 : decode cX8_puts 19 = .ok (.ireturn, 1) := by decide +kernel
theorem dX8_mend_0 : decode cX8_mend 0 = .ok (.aload_n 0, 1) := by decide +kernel
theorem dX8_mend_1 : decode cX8_mend 1 = .ok (.aload_n 0, 1) := by decide +kernel
theorem dX8_mend_2 : decode cX8_mend 2 = .ok (.iload_n 1, 1) := by decide +kernel
theorem dX8_mend_3 : decode cX8_mend 3 = .ok (.invokevirtual 257, 3) := by decide +kernel
theorem dX8_mend_6 : decode cX8_mend 6 = .ok (.iconst 1, 1) := by decide +kernel
theorem dX8_mend_7 : decode cX8_mend 7 = .ok (.invokevirtual 227, 3) := by decide +kernel
theorem dX8_mend_10 : decode cX8_mend 10 = .ok (.ifCond .eq 7, 3) := by decide +kernel
theorem dX8_mend_13 : decode cX8_mend 13 = .ok (.iconst 0, 1) := by decide +kernel
theorem dX8_mend_14 : decode cX8_mend 14 = .ok (.goto 18, 3) := by decide +kernel
theorem dX8_mend_17 : decode cX8_mend 17 = .ok (.aload_n 0, 1) := by decide +kernel
theorem dX8_mend_18 : decode cX8_mend 18 = .ok (.sipush 270, 3) := by decide +kernel
theorem dX8_mend_21 : decode cX8_mend 21 = .ok (.bipush 6, 2) := by decide +kernel
theorem dX8_mend_23 : decode cX8_mend 23 = .ok (.iload_n 1, 1) := by decide +kernel
theorem dX8_mend_24 : decode cX8_mend 24 = .ok (.imul, 1) := by decide +kernel
theorem dX8_mend_25 : decode cX8_mend 25 = .ok (.iadd, 1) := by decide +kernel
theorem dX8_mend_26 : decode cX8_mend 26 = .ok (.iconst 5, 1) := by decide +kernel
theorem dX8_mend_27 : decode cX8_mend 27 = .ok (.iadd, 1) := by decide +kernel
theorem dX8_mend_28 : decode cX8_mend 28 = .ok (.iconst 0, 1) := by decide +kernel
theorem dX8_mend_29 : decode cX8_mend 29 = .ok (.invokevirtual 351, 3) := by decide +kernel
theorem dX8_mend_32 : decode cX8_mend 32 = .ok (.ireturn, 1) := by decide +kernel
theorem dX8_charge_0 : decode cX8_charge 0 = .ok (.aload_n 0, 1) := by decide +kernel
theorem dX8_charge_1 : decode cX8_charge 1 = .ok (.aload_n 0, 1) := by decide +kernel
theorem dX8_charge_2 : decode cX8_charge 2 = .ok (.iload_n 1, 1) := by decide +kernel
theorem dX8_charge_3 : decode cX8_charge 3 = .ok (.invokevirtual 234, 3) := by decide +kernel
theorem dX8_charge_6 : decode cX8_charge 6 = .ok (.iconst 1, 1) := by decide +kernel
theorem dX8_charge_7 : decode cX8_charge 7 = .ok (.invokevirtual 227, 3) := by decide +kernel
theorem dX8_charge_10 : decode cX8_charge 10 = .ok (.ifCond .ne 15, 3) := by decide +kernel
theorem dX8_charge_13 : decode cX8_charge 13 = .ok (.aload_n 0, 1) := by decide +kernel
theorem dX8_charge_14 : decode cX8_charge 14 = .ok (.iload_n 2, 1) := by decide +kernel
theorem dX8_charge_15 : decode cX8_charge 15 = .ok (.invokestatic 281, 3) := by decide +kernel
theorem dX8_charge_18 : decode cX8_charge 18 = .ok (.iconst 2, 1) := by decide +kernel
theorem dX8_charge_19 : decode cX8_charge 19 = .ok (.invokevirtual 227, 3) := by decide +kernel
theorem dX8_charge_22 : decode cX8_charge 22 = .ok (.ifCond .eq 5, 3) := by decide +kernel
theorem dX8_charge_25 : decode cX8_charge 25 = .ok (.iconst 0, 1) := by decide +kernel
theorem dX8_charge_26 : decode cX8_charge 26 = .ok (.ireturn, 1) := by decide +kernel
theorem dX8_charge_27 : decode cX8_charge 27 = .ok (.aload_n 0, 1) := by decide +kernel
theorem dX8_charge_28 : decode cX8_charge 28 = .ok (.invokevirtual 341, 3) := by decide +kernel
theorem dX8_charge_31 : decode cX8_charge 31 = .ok (.aload_n 0, 1) := by decide +kernel
theorem dX8_charge_32 : decode cX8_charge 32 = .ok (.getfield 9, 3) := by decide +kernel
theorem dX8_charge_35 : decode cX8_charge 35 = .ok (.bipush 10, 2) := by decide +kernel
theorem dX8_charge_37 : decode cX8_charge 37 = .ok (.dup2, 1) := by decide +kernel
theorem dX8_charge_38 : decode cX8_charge 38 = .ok (.iaload, 1) := by decide +kernel
theorem dX8_charge_39 : decode cX8_charge 39 = .ok (.iload_n 2, 1) := by decide +kernel
theorem dX8_charge_40 : decode cX8_charge 40 = .ok (.iadd, 1) := by decide +kernel
theorem dX8_charge_41 : decode cX8_charge 41 = .ok (.iastore, 1) := by decide +kernel
theorem dX8_charge_42 : decode cX8_charge 42 = .ok (.aload_n 0, 1) := by decide +kernel
theorem dX8_charge_43 : decode cX8_charge 43 = .ok (.iload_n 1, 1) := by decide +kernel
theorem dX8_charge_44 : decode cX8_charge 44 = .ok (.iload_n 2, 1) := by decide +kernel
theorem dX8_charge_45 : decode cX8_charge 45 = .ok (.invokevirtual 301, 3) := by decide +kernel
theorem dX8_charge_48 : decode cX8_charge 48 = .ok (.aload_n 0, 1) := by decide +kernel
theorem dX8_charge_49 : decode cX8_charge 49 = .ok (.iload_n 1, 1) := by decide +kernel
theorem dX8_charge_50 : decode cX8_charge 50 = .ok (.iconst 1, 1) := by decide +kernel
theorem dX8_charge_51 : decode cX8_charge 51 = .ok (.invokevirtual 189, 3) := by decide +kernel
theorem dX8_charge_54 : decode cX8_charge 54 = .ok (.ireturn, 1) := by decide +kernel
theorem dX8_drain_0 : decode cX8_drain 0 = .ok (.aload_n 0, 1) := by decide +kernel
theorem dX8_drain_1 : decode cX8_drain 1 = .ok (.aload_n 0, 1) := by decide +kernel
theorem dX8_drain_2 : decode cX8_drain 2 = .ok (.iload_n 1, 1) := by decide +kernel
theorem dX8_drain_3 : decode cX8_drain 3 = .ok (.invokevirtual 234, 3) := by decide +kernel
theorem dX8_drain_6 : decode cX8_drain 6 = .ok (.iconst 1, 1) := by decide +kernel
theorem dX8_drain_7 : decode cX8_drain 7 = .ok (.invokevirtual 227, 3) := by decide +kernel
theorem dX8_drain_10 : decode cX8_drain 10 = .ok (.ifCond .ne 15, 3) := by decide +kernel
theorem dX8_drain_13 : decode cX8_drain 13 = .ok (.aload_n 0, 1) := by decide +kernel
theorem dX8_drain_14 : decode cX8_drain 14 = .ok (.iload_n 2, 1) := by decide +kernel
theorem dX8_drain_15 : decode cX8_drain 15 = .ok (.invokestatic 281, 3) := by decide +kernel
theorem dX8_drain_18 : decode cX8_drain 18 = .ok (.iconst 2, 1) := by decide +kernel
theorem dX8_drain_19 : decode cX8_drain 19 = .ok (.invokevirtual 227, 3) := by decide +kernel
theorem dX8_drain_22 : decode cX8_drain 22 = .ok (.ifCond .eq 5, 3) := by decide +kernel
theorem dX8_drain_25 : decode cX8_drain 25 = .ok (.iconst 0, 1) := by decide +kernel
theorem dX8_drain_26 : decode cX8_drain 26 = .ok (.ireturn, 1) := by decide +kernel
theorem dX8_drain_27 : decode cX8_drain 27 = .ok (.aload_n 0, 1) := by decide +kernel
theorem dX8_drain_28 : decode cX8_drain 28 = .ok (.invokevirtual 341, 3) := by decide +kernel
theorem dX8_drain_31 : decode cX8_drain 31 = .ok (.iload_n 2, 1) := by decide +kernel
theorem dX8_drain_32 : decode cX8_drain 32 = .ok (.aload_n 0, 1) := by decide +kernel
theorem dX8_drain_33 : decode cX8_drain 33 = .ok (.iload_n 1, 1) := by decide +kernel
theorem dX8_drain_34 : decode cX8_drain 34 = .ok (.iconst 1, 1) := by decide +kernel
theorem dX8_drain_35 : decode cX8_drain 35 = .ok (.invokevirtual 189, 3) := by decide +kernel
theorem dX8_drain_38 : decode cX8_drain 38 = .ok (.invokestatic 106, 3) := by decide +kernel
theorem dX8_drain_41 : decode cX8_drain 41 = .ok (.istore_n 3, 1) := by decide +kernel
theorem dX8_drain_42 : decode cX8_drain 42 = .ok (.aload_n 0, 1) := by decide +kernel
theorem dX8_drain_43 : decode cX8_drain 43 = .ok (.getfield 9, 3) := by decide +kernel
theorem dX8_drain_46 : decode cX8_drain 46 = .ok (.bipush 11, 2) := by decide +kernel
theorem dX8_drain_48 : decode cX8_drain 48 = .ok (.dup2, 1) := by decide +kernel
theorem dX8_drain_49 : decode cX8_drain 49 = .ok (.iaload, 1) := by decide +kernel
theorem dX8_drain_50 : decode cX8_drain 50 = .ok (.iload_n 3, 1) := by decide +kernel
theorem dX8_drain_51 : decode cX8_drain 51 = .ok (.iadd, 1) := by decide +kernel
theorem dX8_drain_52 : decode cX8_drain 52 = .ok (.iastore, 1) := by decide +kernel
theorem dX8_drain_53 : decode cX8_drain 53 = .ok (.aload_n 0, 1) := by decide +kernel
theorem dX8_drain_54 : decode cX8_drain 54 = .ok (.iload_n 1, 1) := by decide +kernel
theorem dX8_drain_55 : decode cX8_drain 55 = .ok (.iload_n 3, 1) := by decide +kernel
theorem dX8_drain_56 : decode cX8_drain 56 = .ok (.invokevirtual 305, 3) := by decide +kernel
theorem dX8_drain_59 : decode cX8_drain 59 = .ok (.iload_n 3, 1) := by decide +kernel
theorem dX8_drain_60 : decode cX8_drain 60 = .ok (.ireturn, 1) := by decide +kernel
theorem dX8_setReserve_0 : decode cX8_setReserve 0 = .ok (.aload_n 0, 1) := by decide +kernel
theorem dX8_setReserve_1 : decode cX8_setReserve 1 = .ok (.aload_n 0, 1) := by decide +kernel
theorem dX8_setReserve_2 : decode cX8_setReserve 2 = .ok (.iload_n 1, 1) := by decide +kernel
theorem dX8_setReserve_3 : decode cX8_setReserve 3 = .ok (.invokevirtual 234, 3) := by decide +kernel
theorem dX8_setReserve_6 : decode cX8_setReserve 6 = .ok (.iconst 1, 1) := by decide +kernel
theorem dX8_setReserve_7 : decode cX8_setReserve 7 = .ok (.invokevirtual 227, 3) := by decide +kernel
theorem dX8_setReserve_10 : decode cX8_setReserve 10 = .ok (.ifCond .ne 20, 3) := by decide +kernel
theorem dX8_setReserve_13 : decode cX8_setReserve 13 = .ok (.aload_n 0, 1) := by decide +kernel
theorem dX8_setReserve_14 : decode cX8_setReserve 14 = .ok (.iload_n 2, 1) := by decide +kernel
theorem dX8_setReserve_15 : decode cX8_setReserve 15 = .ok (.i2l, 1) := by decide +kernel
theorem dX8_setReserve_16 : decode cX8_setReserve 16 = .ok (.lconst 0, 1) := by decide +kernel
theorem dX8_setReserve_17 : decode cX8_setReserve 17 = .ok (.ldc2_w 48, 3) := by decide +kernel
theorem dX8_setReserve_20 : decode cX8_setReserve 20 = .ok (.invokestatic 44, 3) := by decide +kernel
theorem dX8_setReserve_23 : decode cX8_setReserve 23 = .ok (.iconst 2, 1) := by decide +kernel
theorem dX8_setReserve_24 : decode cX8_setReserve 24 = .ok (.invokevirtual 227, 3) := by decide +kernel
theorem dX8_setReserve_27 : decode cX8_setReserve 27 = .ok (.ifCond .eq 5, 3) := by decide +kernel
theorem dX8_setReserve_30 : decode cX8_setReserve 30 = .ok (.iconst 0, 1) := by decide +kernel
theorem dX8_setReserve_31 : decode cX8_setReserve 31 = .ok (.ireturn, 1) := by decide +kernel
theorem dX8_setReserve_32 : decode cX8_setReserve 32 = .ok (.aload_n 0, 1) := by decide +kernel
theorem dX8_setReserve_33 : decode cX8_setReserve 33 = .ok (.bipush 30, 2) := by decide +kernel
theorem dX8_setReserve_35 : decode cX8_setReserve 35 = .ok (.bipush 7, 2) := by decide +kernel
theorem dX8_setReserve_37 : decode cX8_setReserve 37 = .ok (.iload_n 1, 1) := by decide +kernel
theorem dX8_setReserve_38 : decode cX8_setReserve 38 = .ok (.imul, 1) := by decide +kernel
theorem dX8_setReserve_39 : decode cX8_setReserve 39 = .ok (.iadd, 1) := by decide +kernel
theorem dX8_setReserve_40 : decode cX8_setReserve 40 = .ok (.iconst 4, 1) := by decide +kernel
theorem dX8_setReserve_41 : decode cX8_setReserve 41 = .ok (.iadd, 1) := by decide +kernel
theorem dX8_setReserve_42 : decode cX8_setReserve 42 = .ok (.iload_n 2, 1) := by decide +kernel
theorem dX8_setReserve_43 : decode cX8_setReserve 43 = .ok (.invokevirtual 351, 3) := by decide +kernel
theorem dX8_setReserve_46 : decode cX8_setReserve 46 = .ok (.ireturn, 1) := by decide +kernel
theorem dX8_setCable_0 : decode cX8_setCable 0 = .ok (.aload_n 0, 1) := by decide +kernel
theorem dX8_setCable_1 : decode cX8_setCable 1 = .ok (.aload_n 0, 1) := by decide +kernel
theorem dX8_setCable_2 : decode cX8_setCable 2 = .ok (.iload_n 1, 1) := by decide +kernel
theorem dX8_setCable_3 : decode cX8_setCable 3 = .ok (.invokevirtual 234, 3) := by decide +kernel
theorem dX8_setCable_6 : decode cX8_setCable 6 = .ok (.ifCond .eq 15, 3) := by decide +kernel
theorem dX8_setCable_9 : decode cX8_setCable 9 = .ok (.aload_n 0, 1) := by decide +kernel
theorem dX8_setCable_10 : decode cX8_setCable 10 = .ok (.iload_n 2, 1) := by decide +kernel
theorem dX8_setCable_11 : decode cX8_setCable 11 = .ok (.invokevirtual 234, 3) := by decide +kernel
theorem dX8_setCable_14 : decode cX8_setCable 14 = .ok (.ifCond .eq 7, 3) := by decide +kernel
theorem dX8_setCable_17 : decode cX8_setCable 17 = .ok (.iconst 1, 1) := by decide +kernel
theorem dX8_setCable_18 : decode cX8_setCable 18 = .ok (.goto 4, 3) := by decide +kernel
theorem dX8_setCable_21 : decode cX8_setCable 21 = .ok (.iconst 0, 1) := by decide +kernel
theorem dX8_setCable_22 : decode cX8_setCable 22 = .ok (.iconst 1, 1) := by decide +kernel
theorem dX8_setCable_23 : decode cX8_setCable 23 = .ok (.invokevirtual 227, 3) := by decide +kernel
theorem dX8_setCable_26 : decode cX8_setCable 26 = .ok (.ifCond .ne 41, 3) := by decide +kernel
theorem dX8_setCable_29 : decode cX8_setCable 29 = .ok (.aload_n 0, 1) := by decide +kernel
theorem dX8_setCable_30 : decode cX8_setCable 30 = .ok (.iload_n 3, 1) := by decide +kernel
theorem dX8_setCable_31 : decode cX8_setCable 31 = .ok (.i2l, 1) := by decide +kernel
theorem dX8_setCable_32 : decode cX8_setCable 32 = .ok (.lconst 0, 1) := by decide +kernel
theorem dX8_setCable_33 : decode cX8_setCable 33 = .ok (.ldc2_w 354, 3) := by decide +kernel
theorem dX8_setCable_36 : decode cX8_setCable 36 = .ok (.invokestatic 44, 3) := by decide +kernel
theorem dX8_setCable_39 : decode cX8_setCable 39 = .ok (.ifCond .eq 20, 3) := by decide +kernel
theorem dX8_setCable_42 : decode cX8_setCable 42 = .ok (.iload 4, 2) := by decide +kernel
theorem dX8_setCable_44 : decode cX8_setCable 44 = .ok (.i2l, 1) := by decide +kernel
theorem dX8_setCable_45 : decode cX8_setCable 45 = .ok (.lconst 1, 1) := by decide +kernel
theorem dX8_setCable_46 : decode cX8_setCable 46 = .ok (.ldc2_w 356, 3) := by decide +kernel
theorem dX8_setCable_49 : decode cX8_setCable 49 = .ok (.invokestatic 44, 3) := by decide +kernel
theorem dX8_setCable_52 : decode cX8_setCable 52 = .ok (.ifCond .eq 7, 3) := by decide +kernel
theorem dX8_setCable_55 : decode cX8_setCable 55 = .ok (.iconst 1, 1) := by decide +kernel
theorem dX8_setCable_56 : decode cX8_setCable 56 = .ok (.goto 4, 3) := by decide +kernel
theorem dX8_setCable_59 : decode cX8_setCable 59 = .ok (.iconst 0, 1) := by decide +kernel
theorem dX8_setCable_60 : decode cX8_setCable 60 = .ok (.iconst 2, 1) := by decide +kernel
theorem dX8_setCable_61 : decode cX8_setCable 61 = .ok (.invokevirtual 227, 3) := by decide +kernel
theorem dX8_setCable_64 : decode cX8_setCable 64 = .ok (.ifCond .eq 5, 3) := by decide +kernel
theorem dX8_setCable_67 : decode cX8_setCable 67 = .ok (.iconst 0, 1) := by decide +kernel
theorem dX8_setCable_68 : decode cX8_setCable 68 = .ok (.ireturn, 1) := by decide +kernel
theorem dX8_setCable_69 : decode cX8_setCable 69 = .ok (.aload_n 0, 1) := by decide +kernel
theorem dX8_setCable_70 : decode cX8_setCable 70 = .ok (.getfield 9, 3) := by decide +kernel
theorem dX8_setCable_73 : decode cX8_setCable 73 = .ok (.iload_n 1, 1) := by decide +kernel
theorem dX8_setCable_74 : decode cX8_setCable 74 = .ok (.iload_n 2, 1) := by decide +kernel
theorem dX8_setCable_75 : decode cX8_setCable 75 = .ok (.invokestatic 134, 3) := by decide +kernel
theorem dX8_setCable_78 : decode cX8_setCable 78 = .ok (.istore 5, 2) := by decide +kernel
theorem dX8_setCable_80 : decode cX8_setCable 80 = .ok (.iload 5, 2) := by decide +kernel
theorem dX8_setCable_82 : decode cX8_setCable 82 = .ok (.iconst (-1), 1) := by decide +kernel
theorem dX8_setCable_83 : decode cX8_setCable 83 = .ok (.if_icmp .ne 5, 3) := by decide +kernel
theorem dX8_setCable_86 : decode cX8_setCable 86 = .ok (.iconst (-1), 1) := by decide +kernel
theorem dX8_setCable_87 : decode cX8_setCable 87 = .ok (.ireturn, 1) := by decide +kernel
theorem dX8_setCable_88 : decode cX8_setCable 88 = .ok (.aload_n 0, 1) := by decide +kernel
theorem dX8_setCable_89 : decode cX8_setCable 89 = .ok (.bipush 86, 2) := by decide +kernel
theorem dX8_setCable_91 : decode cX8_setCable 91 = .ok (.bipush 6, 2) := by decide +kernel
theorem dX8_setCable_93 : decode cX8_setCable 93 = .ok (.iload 5, 2) := by decide +kernel
theorem dX8_setCable_95 : decode cX8_setCable 95 = .ok (.imul, 1) := by decide +kernel
theorem dX8_setCable_96 : decode cX8_setCable 96 = .ok (.iadd, 1) := by decide +kernel
theorem dX8_setCable_97 : decode cX8_setCable 97 = .ok (.iconst 2, 1) := by decide +kernel
theorem dX8_setCable_98 : decode cX8_setCable 98 = .ok (.iadd, 1) := by decide +kernel
theorem dX8_setCable_99 : decode cX8_setCable 99 = .ok (.iload_n 3, 1) := by decide +kernel
theorem dX8_setCable_100 : decode cX8_setCable 100 = .ok (.invokevirtual 351, 3) := by decide +kernel
theorem dX8_setCable_103 : decode cX8_setCable 103 = .ok (.istore 6, 2) := by decide +kernel
theorem dX8_setCable_105 : decode cX8_setCable 105 = .ok (.aload_n 0, 1) := by decide +kernel
theorem dX8_setCable_106 : decode cX8_setCable 106 = .ok (.getfield 9, 3) := by decide +kernel
theorem dX8_setCable_109 : decode cX8_setCable 109 = .ok (.bipush 86, 2) := by decide +kernel
theorem dX8_setCable_111 : decode cX8_setCable 111 = .ok (.bipush 6, 2) := by decide +kernel
theorem dX8_setCable_113 : decode cX8_setCable 113 = .ok (.iload 5, 2) := by decide +kernel
theorem dX8_setCable_115 : decode cX8_setCable 115 = .ok (.imul, 1) := by decide +kernel
theorem dX8_setCable_116 : decode cX8_setCable 116 = .ok (.iadd, 1) := by decide +kernel
theorem dX8_setCable_117 : decode cX8_setCable 117 = .ok (.iconst 3, 1) := by decide +kernel
theorem dX8_setCable_118 : decode cX8_setCable 118 = .ok (.iadd, 1) := by decide +kernel
theorem dX8_setCable_119 : decode cX8_setCable 119 = .ok (.iload 4, 2) := by decide +kernel
theorem dX8_setCable_121 : decode cX8_setCable 121 = .ok (.iastore, 1) := by decide +kernel
theorem dX8_setCable_122 : decode cX8_setCable 122 = .ok (.iload 6, 2) := by decide +kernel
theorem dX8_setCable_124 : decode cX8_setCable 124 = .ok (.ireturn, 1) := by decide +kernel
theorem dX8_addTrip_0 : decode cX8_addTrip 0 = .ok (.aload_n 0, 1) := by decide +kernel
theorem dX8_addTrip_1 : decode cX8_addTrip 1 = .ok (.aload_n 0, 1) := by decide +kernel
theorem dX8_addTrip_2 : decode cX8_addTrip 2 = .ok (.iload_n 1, 1) := by decide +kernel
theorem dX8_addTrip_3 : decode cX8_addTrip 3 = .ok (.invokevirtual 234, 3) := by decide +kernel
theorem dX8_addTrip_6 : decode cX8_addTrip 6 = .ok (.iconst 1, 1) := by decide +kernel
theorem dX8_addTrip_7 : decode cX8_addTrip 7 = .ok (.invokevirtual 227, 3) := by decide +kernel
theorem dX8_addTrip_10 : decode cX8_addTrip 10 = .ok (.ifCond .ne 35, 3) := by decide +kernel
theorem dX8_addTrip_13 : decode cX8_addTrip 13 = .ok (.aload_n 0, 1) := by decide +kernel
theorem dX8_addTrip_14 : decode cX8_addTrip 14 = .ok (.iload_n 2, 1) := by decide +kernel
theorem dX8_addTrip_15 : decode cX8_addTrip 15 = .ok (.i2l, 1) := by decide +kernel
theorem dX8_addTrip_16 : decode cX8_addTrip 16 = .ok (.lconst 0, 1) := by decide +kernel
theorem dX8_addTrip_17 : decode cX8_addTrip 17 = .ok (.ldc2_w 358, 3) := by decide +kernel
theorem dX8_addTrip_20 : decode cX8_addTrip 20 = .ok (.invokestatic 44, 3) := by decide +kernel
theorem dX8_addTrip_23 : decode cX8_addTrip 23 = .ok (.ifCond .eq 14, 3) := by decide +kernel
theorem dX8_addTrip_26 : decode cX8_addTrip 26 = .ok (.iload_n 3, 1) := by decide +kernel
theorem dX8_addTrip_27 : decode cX8_addTrip 27 = .ok (.invokestatic 281, 3) := by decide +kernel
theorem dX8_addTrip_30 : decode cX8_addTrip 30 = .ok (.ifCond .eq 7, 3) := by decide +kernel
theorem dX8_addTrip_33 : decode cX8_addTrip 33 = .ok (.iconst 1, 1) := by decide +kernel
theorem dX8_addTrip_34 : decode cX8_addTrip 34 = .ok (.goto 4, 3) := by decide +kernel
theorem dX8_addTrip_37 : decode cX8_addTrip 37 = .ok (.iconst 0, 1) := by decide +kernel
theorem dX8_addTrip_38 : decode cX8_addTrip 38 = .ok (.iconst 2, 1) := by decide +kernel
theorem dX8_addTrip_39 : decode cX8_addTrip 39 = .ok (.invokevirtual 227, 3) := by decide +kernel
theorem dX8_addTrip_42 : decode cX8_addTrip 42 = .ok (.ifCond .eq 5, 3) := by decide +kernel
theorem dX8_addTrip_45 : decode cX8_addTrip 45 = .ok (.iconst 0, 1) := by decide +kernel
theorem dX8_addTrip_46 : decode cX8_addTrip 46 = .ok (.ireturn, 1) := by decide +kernel
theorem dX8_addTrip_47 : decode cX8_addTrip 47 = .ok (.aload_n 0, 1) := by decide +kernel
theorem dX8_addTrip_48 : decode cX8_addTrip 48 = .ok (.getfield 9, 3) := by decide +kernel
theorem dX8_addTrip_51 : decode cX8_addTrip 51 = .ok (.bipush 7, 2) := by decide +kernel
theorem dX8_addTrip_53 : decode cX8_addTrip 53 = .ok (.iaload, 1) := by decide +kernel
theorem dX8_addTrip_54 : decode cX8_addTrip 54 = .ok (.bipush 16, 2) := by decide +kernel
theorem dX8_addTrip_56 : decode cX8_addTrip 56 = .ok (.if_icmp .ne 6, 3) := by decide +kernel
theorem dX8_addTrip_59 : decode cX8_addTrip 59 = .ok (.bipush (-2), 2) := by decide +kernel
theorem dX8_addTrip_61 : decode cX8_addTrip 61 = .ok (.ireturn, 1) := by decide +kernel
theorem dX8_addTrip_62 : decode cX8_addTrip 62 = .ok (.iload_n 2, 1) := by decide +kernel
theorem dX8_addTrip_63 : decode cX8_addTrip 63 = .ok (.aload_n 0, 1) := by decide +kernel
theorem dX8_addTrip_64 : decode cX8_addTrip 64 = .ok (.getfield 9, 3) := by decide +kernel
theorem dX8_addTrip_67 : decode cX8_addTrip 67 = .ok (.iconst 2, 1) := by decide +kernel
theorem dX8_addTrip_68 : decode cX8_addTrip 68 = .ok (.iaload, 1) := by decide +kernel
theorem dX8_addTrip_69 : decode cX8_addTrip 69 = .ok (.if_icmp .ge 6, 3) := by decide +kernel
theorem dX8_addTrip_72 : decode cX8_addTrip 72 = .ok (.bipush (-4), 2) := by decide +kernel
theorem dX8_addTrip_74 : decode cX8_addTrip 74 = .ok (.ireturn, 1) := by decide +kernel
theorem dX8_addTrip_75 : decode cX8_addTrip 75 = .ok (.aload_n 0, 1) := by decide +kernel
theorem dX8_addTrip_76 : decode cX8_addTrip 76 = .ok (.invokevirtual 341, 3) := by decide +kernel
theorem dX8_addTrip_79 : decode cX8_addTrip 79 = .ok (.sipush 206, 3) := by decide +kernel
theorem dX8_addTrip_82 : decode cX8_addTrip 82 = .ok (.iconst 4, 1) := by decide +kernel
theorem dX8_addTrip_83 : decode cX8_addTrip 83 = .ok (.aload_n 0, 1) := by decide +kernel
theorem dX8_addTrip_84 : decode cX8_addTrip 84 = .ok (.getfield 9, 3) := by decide +kernel
theorem dX8_addTrip_87 : decode cX8_addTrip 87 = .ok (.bipush 7, 2) := by decide +kernel
theorem dX8_addTrip_89 : decode cX8_addTrip 89 = .ok (.iaload, 1) := by decide +kernel
theorem dX8_addTrip_90 : decode cX8_addTrip 90 = .ok (.imul, 1) := by decide +kernel
theorem dX8_addTrip_91 : decode cX8_addTrip 91 = .ok (.iadd, 1) := by decide +kernel
theorem dX8_addTrip_92 : decode cX8_addTrip 92 = .ok (.istore 4, 2) := by decide +kernel
theorem dX8_addTrip_94 : decode cX8_addTrip 94 = .ok (.aload_n 0, 1) := by decide +kernel
theorem dX8_addTrip_95 : decode cX8_addTrip 95 = .ok (.getfield 9, 3) := by decide +kernel
theorem dX8_addTrip_98 : decode cX8_addTrip 98 = .ok (.iload 4, 2) := by decide +kernel
theorem dX8_addTrip_100 : decode cX8_addTrip 100 = .ok (.iload_n 1, 1) := by decide +kernel
theorem dX8_addTrip_101 : decode cX8_addTrip 101 = .ok (.iastore, 1) := by decide +kernel
theorem dX8_addTrip_102 : decode cX8_addTrip 102 = .ok (.aload_n 0, 1) := by decide +kernel
theorem dX8_addTrip_103 : decode cX8_addTrip 103 = .ok (.getfield 9, 3) := by decide +kernel
theorem dX8_addTrip_106 : decode cX8_addTrip 106 = .ok (.iload 4, 2) := by decide +kernel
theorem dX8_addTrip_108 : decode cX8_addTrip 108 = .ok (.iconst 1, 1) := by decide +kernel
theorem dX8_addTrip_109 : decode cX8_addTrip 109 = .ok (.iadd, 1) := by decide +kernel
theorem dX8_addTrip_110 : decode cX8_addTrip 110 = .ok (.iload_n 2, 1) := by decide +kernel
theorem dX8_addTrip_111 : decode cX8_addTrip 111 = .ok (.iastore, 1) := by decide +kernel
theorem dX8_addTrip_112 : decode cX8_addTrip 112 = .ok (.aload_n 0, 1) := by decide +kernel
theorem dX8_addTrip_113 : decode cX8_addTrip 113 = .ok (.getfield 9, 3) := by decide +kernel
theorem dX8_addTrip_116 : decode cX8_addTrip 116 = .ok (.iload 4, 2) := by decide +kernel
theorem dX8_addTrip_118 : decode cX8_addTrip 118 = .ok (.iconst 2, 1) := by decide +kernel
theorem dX8_addTrip_119 : decode cX8_addTrip 119 = .ok (.iadd, 1) := by decide +kernel
theorem dX8_addTrip_120 : decode cX8_addTrip 120 = .ok (.iload_n 3, 1) := by decide +kernel
theorem dX8_addTrip_121 : decode cX8_addTrip 121 = .ok (.iastore, 1) := by decide +kernel
theorem dX8_addTrip_122 : decode cX8_addTrip 122 = .ok (.aload_n 0, 1) := by decide +kernel
theorem dX8_addTrip_123 : decode cX8_addTrip 123 = .ok (.getfield 9, 3) := by decide +kernel
theorem dX8_addTrip_126 : decode cX8_addTrip 126 = .ok (.iload 4, 2) := by decide +kernel
theorem dX8_addTrip_128 : decode cX8_addTrip 128 = .ok (.iconst 3, 1) := by decide +kernel
theorem dX8_addTrip_129 : decode cX8_addTrip 129 = .ok (.iadd, 1) := by decide +kernel
theorem dX8_addTrip_130 : decode cX8_addTrip 130 = .ok (.iconst 0, 1) := by decide +kernel
theorem dX8_addTrip_131 : decode cX8_addTrip 131 = .ok (.iastore, 1) := by decide +kernel
theorem dX8_addTrip_132 : decode cX8_addTrip 132 = .ok (.aload_n 0, 1) := by decide +kernel
theorem dX8_addTrip_133 : decode cX8_addTrip 133 = .ok (.getfield 9, 3) := by decide +kernel
theorem dX8_addTrip_136 : decode cX8_addTrip 136 = .ok (.bipush 7, 2) := by decide +kernel
theorem dX8_addTrip_138 : decode cX8_addTrip 138 = .ok (.dup2, 1) := by decide +kernel
theorem dX8_addTrip_139 : decode cX8_addTrip 139 = .ok (.iaload, 1) := by decide +kernel
theorem dX8_addTrip_140 : decode cX8_addTrip 140 = .ok (.iconst 1, 1) := by decide +kernel
theorem dX8_addTrip_141 : decode cX8_addTrip 141 = .ok (.iadd, 1) := by decide +kernel
theorem dX8_addTrip_142 : decode cX8_addTrip 142 = .ok (.iastore, 1) := by decide +kernel
theorem dX8_addTrip_143 : decode cX8_addTrip 143 = .ok (.aload_n 0, 1) := by decide +kernel
theorem dX8_addTrip_144 : decode cX8_addTrip 144 = .ok (.getfield 9, 3) := by decide +kernel
theorem dX8_addTrip_147 : decode cX8_addTrip 147 = .ok (.bipush 7, 2) := by decide +kernel
theorem dX8_addTrip_149 : decode cX8_addTrip 149 = .ok (.iaload, 1) := by decide +kernel
theorem dX8_addTrip_150 : decode cX8_addTrip 150 = .ok (.iconst 1, 1) := by decide +kernel
theorem dX8_addTrip_151 : decode cX8_addTrip 151 = .ok (.isub, 1) := by decide +kernel
theorem dX8_addTrip_152 : decode cX8_addTrip 152 = .ok (.ireturn, 1) := by decide +kernel
theorem dX8_dropTrip_0 : decode cX8_dropTrip 0 = .ok (.aload_n 0, 1) := by decide +kernel
theorem dX8_dropTrip_1 : decode cX8_dropTrip 1 = .ok (.aload_n 0, 1) := by decide +kernel
theorem dX8_dropTrip_2 : decode cX8_dropTrip 2 = .ok (.iload_n 1, 1) := by decide +kernel
theorem dX8_dropTrip_3 : decode cX8_dropTrip 3 = .ok (.invokevirtual 245, 3) := by decide +kernel
theorem dX8_dropTrip_6 : decode cX8_dropTrip 6 = .ok (.iconst 1, 1) := by decide +kernel
theorem dX8_dropTrip_7 : decode cX8_dropTrip 7 = .ok (.invokevirtual 227, 3) := by decide +kernel
theorem dX8_dropTrip_10 : decode cX8_dropTrip 10 = .ok (.ifCond .eq 5, 3) := by decide +kernel
theorem dX8_dropTrip_13 : decode cX8_dropTrip 13 = .ok (.iconst 0, 1) := by decide +kernel
theorem dX8_dropTrip_14 : decode cX8_dropTrip 14 = .ok (.ireturn, 1) := by decide +kernel
theorem dX8_dropTrip_15 : decode cX8_dropTrip 15 = .ok (.aload_n 0, 1) := by decide +kernel
theorem dX8_dropTrip_16 : decode cX8_dropTrip 16 = .ok (.iload_n 1, 1) := by decide +kernel
theorem dX8_dropTrip_17 : decode cX8_dropTrip 17 = .ok (.iconst 3, 1) := by decide +kernel
theorem dX8_dropTrip_18 : decode cX8_dropTrip 18 = .ok (.invokevirtual 248, 3) := by decide +kernel
theorem dX8_dropTrip_21 : decode cX8_dropTrip 21 = .ok (.ifCond .eq 6, 3) := by decide +kernel
theorem dX8_dropTrip_24 : decode cX8_dropTrip 24 = .ok (.bipush (-3), 2) := by decide +kernel
theorem dX8_dropTrip_26 : decode cX8_dropTrip 26 = .ok (.ireturn, 1) := by decide +kernel
theorem dX8_dropTrip_27 : decode cX8_dropTrip 27 = .ok (.aload_n 0, 1) := by decide +kernel
theorem dX8_dropTrip_28 : decode cX8_dropTrip 28 = .ok (.invokevirtual 341, 3) := by decide +kernel
theorem dX8_dropTrip_31 : decode cX8_dropTrip 31 = .ok (.aload_n 0, 1) := by decide +kernel
theorem dX8_dropTrip_32 : decode cX8_dropTrip 32 = .ok (.getfield 9, 3) := by decide +kernel
theorem dX8_dropTrip_35 : decode cX8_dropTrip 35 = .ok (.bipush 7, 2) := by decide +kernel
theorem dX8_dropTrip_37 : decode cX8_dropTrip 37 = .ok (.dup2, 1) := by decide +kernel
theorem dX8_dropTrip_38 : decode cX8_dropTrip 38 = .ok (.iaload, 1) := by decide +kernel
theorem dX8_dropTrip_39 : decode cX8_dropTrip 39 = .ok (.iconst 1, 1) := by decide +kernel
theorem dX8_dropTrip_40 : decode cX8_dropTrip 40 = .ok (.isub, 1) := by decide +kernel
theorem dX8_dropTrip_41 : decode cX8_dropTrip 41 = .ok (.iastore, 1) := by decide +kernel
theorem dX8_dropTrip_42 : decode cX8_dropTrip 42 = .ok (.iconst 4, 1) := by decide +kernel
theorem dX8_dropTrip_43 : decode cX8_dropTrip 43 = .ok (.iload_n 1, 1) := by decide +kernel
theorem dX8_dropTrip_44 : decode cX8_dropTrip 44 = .ok (.imul, 1) := by decide +kernel
theorem dX8_dropTrip_45 : decode cX8_dropTrip 45 = .ok (.istore_n 2, 1) := by decide +kernel
theorem dX8_dropTrip_46 : decode cX8_dropTrip 46 = .ok (.iload_n 2, 1) := by decide +kernel
theorem dX8_dropTrip_47 : decode cX8_dropTrip 47 = .ok (.iconst 4, 1) := by decide +kernel
theorem dX8_dropTrip_48 : decode cX8_dropTrip 48 = .ok (.aload_n 0, 1) := by decide +kernel
theorem dX8_dropTrip_49 : decode cX8_dropTrip 49 = .ok (.getfield 9, 3) := by decide +kernel
theorem dX8_dropTrip_52 : decode cX8_dropTrip 52 = .ok (.bipush 7, 2) := by decide +kernel
theorem dX8_dropTrip_54 : decode cX8_dropTrip 54 = .ok (.iaload, 1) := by decide +kernel
theorem dX8_dropTrip_55 : decode cX8_dropTrip 55 = .ok (.imul, 1) := by decide +kernel
theorem dX8_dropTrip_56 : decode cX8_dropTrip 56 = .ok (.if_icmp .ge 31, 3) := by decide +kernel
theorem dX8_dropTrip_59 : decode cX8_dropTrip 59 = .ok (.aload_n 0, 1) := by decide +kernel
theorem dX8_dropTrip_60 : decode cX8_dropTrip 60 = .ok (.getfield 9, 3) := by decide +kernel
theorem dX8_dropTrip_63 : decode cX8_dropTrip 63 = .ok (.sipush 206, 3) := by decide +kernel
theorem dX8_dropTrip_66 : decode cX8_dropTrip 66 = .ok (.iload_n 2, 1) := by decide +kernel
theorem dX8_dropTrip_67 : decode cX8_dropTrip 67 = .ok (.iadd, 1) := by decide +kernel
theorem dX8_dropTrip_68 : decode cX8_dropTrip 68 = .ok (.aload_n 0, 1) := by decide +kernel
theorem dX8_dropTrip_69 : decode cX8_dropTrip 69 = .ok (.getfield 9, 3) := by decide +kernel
theorem dX8_dropTrip_72 : decode cX8_dropTrip 72 = .ok (.sipush 206, 3) := by decide +kernel
theorem dX8_dropTrip_75 : decode cX8_dropTrip 75 = .ok (.iload_n 2, 1) := by decide +kernel
theorem dX8_dropTrip_76 : decode cX8_dropTrip 76 = .ok (.iadd, 1) := by decide +kernel
theorem dX8_dropTrip_77 : decode cX8_dropTrip 77 = .ok (.iconst 4, 1) := by decide +kernel
theorem dX8_dropTrip_78 : decode cX8_dropTrip 78 = .ok (.iadd, 1) := by decide +kernel
theorem dX8_dropTrip_79 : decode cX8_dropTrip 79 = .ok (.iaload, 1) := by decide +kernel
theorem dX8_dropTrip_80 : decode cX8_dropTrip 80 = .ok (.iastore, 1) := by decide +kernel
theorem dX8_dropTrip_81 : decode cX8_dropTrip 81 = .ok (.iinc 2 1, 3) := by decide +kernel
theorem dX8_dropTrip_84 : decode cX8_dropTrip 84 = .ok (.goto (-38), 3) := by decide +kernel
theorem dX8_dropTrip_87 : decode cX8_dropTrip 87 = .ok (.aload_n 0, 1) := by decide +kernel
theorem dX8_dropTrip_88 : decode cX8_dropTrip 88 = .ok (.getfield 9, 3) := by decide +kernel
theorem dX8_dropTrip_91 : decode cX8_dropTrip 91 = .ok (.bipush 7, 2) := by decide +kernel
theorem dX8_dropTrip_93 : decode cX8_dropTrip 93 = .ok (.iaload, 1) := by decide +kernel
theorem dX8_dropTrip_94 : decode cX8_dropTrip 94 = .ok (.ireturn, 1) := by decide +kernel
theorem dX8_run_0 : decode cX8_run 0 = .ok (.aload_n 0, 1) := by decide +kernel
theorem dX8_run_1 : decode cX8_run 1 = .ok (.iload_n 1, 1) := by decide +kernel
theorem dX8_run_2 : decode cX8_run 2 = .ok (.i2l, 1) := by decide +kernel
theorem dX8_run_3 : decode cX8_run 3 = .ok (.lconst 1, 1) := by decide +kernel
theorem dX8_run_4 : decode cX8_run 4 = .ok (.ldc2_w 293, 3) := by decide +kernel
theorem dX8_run_7 : decode cX8_run 7 = .ok (.invokestatic 44, 3) := by decide +kernel
theorem dX8_run_10 : decode cX8_run 10 = .ok (.ifCond .eq 21, 3) := by decide +kernel
theorem dX8_run_13 : decode cX8_run 13 = .ok (.aload_n 0, 1) := by decide +kernel
theorem dX8_run_14 : decode cX8_run 14 = .ok (.getfield 9, 3) := by decide +kernel
theorem dX8_run_17 : decode cX8_run 17 = .ok (.iconst 2, 1) := by decide +kernel
theorem dX8_run_18 : decode cX8_run 18 = .ok (.iaload, 1) := by decide +kernel
theorem dX8_run_19 : decode cX8_run 19 = .ok (.iload_n 1, 1) := by decide +kernel
theorem dX8_run_20 : decode cX8_run 20 = .ok (.iadd, 1) := by decide +kernel
theorem dX8_run_21 : decode cX8_run 21 = .ok (.sipush 9999, 3) := by decide +kernel
theorem dX8_run_24 : decode cX8_run 24 = .ok (.if_icmp .gt 7, 3) := by decide +kernel
theorem dX8_run_27 : decode cX8_run 27 = .ok (.iconst 1, 1) := by decide +kernel
theorem dX8_run_28 : decode cX8_run 28 = .ok (.goto 4, 3) := by decide +kernel
theorem dX8_run_31 : decode cX8_run 31 = .ok (.iconst 0, 1) := by decide +kernel
theorem dX8_run_32 : decode cX8_run 32 = .ok (.iconst 1, 1) := by decide +kernel
theorem dX8_run_33 : decode cX8_run 33 = .ok (.invokevirtual 227, 3) := by decide +kernel
theorem dX8_run_36 : decode cX8_run 36 = .ok (.ifCond .eq 5, 3) := by decide +kernel
theorem dX8_run_39 : decode cX8_run 39 = .ok (.iconst 0, 1) := by decide +kernel
theorem dX8_run_40 : decode cX8_run 40 = .ok (.ireturn, 1) := by decide +kernel
theorem dX8_run_41 : decode cX8_run 41 = .ok (.aload_n 0, 1) := by decide +kernel
theorem dX8_run_42 : decode cX8_run 42 = .ok (.invokevirtual 341, 3) := by decide +kernel
theorem dX8_run_45 : decode cX8_run 45 = .ok (.iconst 0, 1) := by decide +kernel
theorem dX8_run_46 : decode cX8_run 46 = .ok (.istore_n 2, 1) := by decide +kernel
theorem dX8_run_47 : decode cX8_run 47 = .ok (.iload_n 2, 1) := by decide +kernel
theorem dX8_run_48 : decode cX8_run 48 = .ok (.iload_n 1, 1) := by decide +kernel
theorem dX8_run_49 : decode cX8_run 49 = .ok (.if_icmp .ge 13, 3) := by decide +kernel
theorem dX8_run_52 : decode cX8_run 52 = .ok (.aload_n 0, 1) := by decide +kernel
theorem dX8_run_53 : decode cX8_run 53 = .ok (.invokevirtual 360, 3) := by decide +kernel
theorem dX8_run_56 : decode cX8_run 56 = .ok (.iinc 2 1, 3) := by decide +kernel
theorem dX8_run_59 : decode cX8_run 59 = .ok (.goto (-12), 3) := by decide +kernel
theorem dX8_run_62 : decode cX8_run 62 = .ok (.aload_n 0, 1) := by decide +kernel
theorem dX8_run_63 : decode cX8_run 63 = .ok (.getfield 9, 3) := by decide +kernel
theorem dX8_run_66 : decode cX8_run 66 = .ok (.iconst 2, 1) := by decide +kernel
theorem dX8_run_67 : decode cX8_run 67 = .ok (.iaload, 1) := by decide +kernel
theorem dX8_run_68 : decode cX8_run 68 = .ok (.ireturn, 1) := by decide +kernel
theorem dX8_runToClosed_0 : decode cX8_runToClosed 0 = .ok (.aload_n 0, 1) := by decide +kernel
theorem dX8_runToClosed_1 : decode cX8_runToClosed 1 = .ok (.aload_n 0, 1) := by decide +kernel
theorem dX8_runToClosed_2 : decode cX8_runToClosed 2 = .ok (.iload_n 1, 1) := by decide +kernel
theorem dX8_runToClosed_3 : decode cX8_runToClosed 3 = .ok (.invokevirtual 269, 3) := by decide +kernel
theorem dX8_runToClosed_6 : decode cX8_runToClosed 6 = .ok (.iconst 1, 1) := by decide +kernel
theorem dX8_runToClosed_7 : decode cX8_runToClosed 7 = .ok (.invokevirtual 227, 3) := by decide +kernel
theorem dX8_runToClosed_10 : decode cX8_runToClosed 10 = .ok (.ifCond .ne 20, 3) := by decide +kernel
theorem dX8_runToClosed_13 : decode cX8_runToClosed 13 = .ok (.aload_n 0, 1) := by decide +kernel
theorem dX8_runToClosed_14 : decode cX8_runToClosed 14 = .ok (.iload_n 2, 1) := by decide +kernel
theorem dX8_runToClosed_15 : decode cX8_runToClosed 15 = .ok (.i2l, 1) := by decide +kernel
theorem dX8_runToClosed_16 : decode cX8_runToClosed 16 = .ok (.lconst 1, 1) := by decide +kernel
theorem dX8_runToClosed_17 : decode cX8_runToClosed 17 = .ok (.ldc2_w 293, 3) := by decide +kernel
theorem dX8_runToClosed_20 : decode cX8_runToClosed 20 = .ok (.invokestatic 44, 3) := by decide +kernel
theorem dX8_runToClosed_23 : decode cX8_runToClosed 23 = .ok (.iconst 2, 1) := by decide +kernel
theorem dX8_runToClosed_24 : decode cX8_runToClosed 24 = .ok (.invokevirtual 227, 3) := by decide +kernel
theorem dX8_runToClosed_27 : decode cX8_runToClosed 27 = .ok (.ifCond .eq 5, 3) := by decide +kernel
theorem dX8_runToClosed_30 : decode cX8_runToClosed 30 = .ok (.iconst 0, 1) := by decide +kernel
theorem dX8_runToClosed_31 : decode cX8_runToClosed 31 = .ok (.ireturn, 1) := by decide +kernel
theorem dX8_runToClosed_32 : decode cX8_runToClosed 32 = .ok (.aload_n 0, 1) := by decide +kernel
theorem dX8_runToClosed_33 : decode cX8_runToClosed 33 = .ok (.invokevirtual 341, 3) := by decide +kernel
theorem dX8_runToClosed_36 : decode cX8_runToClosed 36 = .ok (.iconst 0, 1) := by decide +kernel
theorem dX8_runToClosed_37 : decode cX8_runToClosed 37 = .ok (.istore_n 3, 1) := by decide +kernel
theorem dX8_runToClosed_38 : decode cX8_runToClosed 38 = .ok (.iload_n 3, 1) := by decide +kernel
theorem dX8_runToClosed_39 : decode cX8_runToClosed 39 = .ok (.iload_n 2, 1) := by decide +kernel
theorem dX8_runToClosed_40 : decode cX8_runToClosed 40 = .ok (.if_icmp .ge 33, 3) := by decide +kernel
theorem dX8_runToClosed_43 : decode cX8_runToClosed 43 = .ok (.aload_n 0, 1) := by decide +kernel
theorem dX8_runToClosed_44 : decode cX8_runToClosed 44 = .ok (.getfield 9, 3) := by decide +kernel
theorem dX8_runToClosed_47 : decode cX8_runToClosed 47 = .ok (.iconst 2, 1) := by decide +kernel
theorem dX8_runToClosed_48 : decode cX8_runToClosed 48 = .ok (.iaload, 1) := by decide +kernel
theorem dX8_runToClosed_49 : decode cX8_runToClosed 49 = .ok (.sipush 9999, 3) := by decide +kernel
theorem dX8_runToClosed_52 : decode cX8_runToClosed 52 = .ok (.if_icmp .ge 21, 3) := by decide +kernel
theorem dX8_runToClosed_55 : decode cX8_runToClosed 55 = .ok (.aload_n 0, 1) := by decide +kernel
theorem dX8_runToClosed_56 : decode cX8_runToClosed 56 = .ok (.iload_n 1, 1) := by decide +kernel
theorem dX8_runToClosed_57 : decode cX8_runToClosed 57 = .ok (.invokevirtual 221, 3) := by decide +kernel
theorem dX8_runToClosed_60 : decode cX8_runToClosed 60 = .ok (.ifCond .eq 13, 3) := by decide +kernel
theorem dX8_runToClosed_63 : decode cX8_runToClosed 63 = .ok (.aload_n 0, 1) := by decide +kernel
theorem dX8_runToClosed_64 : decode cX8_runToClosed 64 = .ok (.invokevirtual 360, 3) := by decide +kernel
theorem dX8_runToClosed_67 : decode cX8_runToClosed 67 = .ok (.iinc 3 1, 3) := by decide +kernel
theorem dX8_runToClosed_70 : decode cX8_runToClosed 70 = .ok (.goto (-32), 3) := by decide +kernel
theorem dX8_runToClosed_73 : decode cX8_runToClosed 73 = .ok (.aload_n 0, 1) := by decide +kernel
theorem dX8_runToClosed_74 : decode cX8_runToClosed 74 = .ok (.iload_n 1, 1) := by decide +kernel
theorem dX8_runToClosed_75 : decode cX8_runToClosed 75 = .ok (.invokevirtual 221, 3) := by decide +kernel
theorem dX8_runToClosed_78 : decode cX8_runToClosed 78 = .ok (.ifCond .eq 7, 3) := by decide +kernel
theorem dX8_runToClosed_81 : decode cX8_runToClosed 81 = .ok (.iconst (-1), 1) := by decide +kernel
theorem dX8_runToClosed_82 : decode cX8_runToClosed 82 = .ok (.goto 4, 3) := by decide +kernel
theorem dX8_runToClosed_85 : decode cX8_runToClosed 85 = .ok (.iload_n 3, 1) := by decide +kernel
theorem dX8_runToClosed_86 : decode cX8_runToClosed 86 = .ok (.ireturn, 1) := by decide +kernel
theorem dX8_putsAside_0 : decode cX8_putsAside 0 = .ok (.aload_n 0, 1) := by decide +kernel
theorem dX8_putsAside_1 : decode cX8_putsAside 1 = .ok (.getfield 9, 3) := by decide +kernel
theorem dX8_putsAside_4 : decode cX8_putsAside 4 = .ok (.iconst 0, 1) := by decide +kernel
theorem dX8_putsAside_5 : decode cX8_putsAside 5 = .ok (.aload_n 0, 1) := by decide +kernel
theorem dX8_putsAside_6 : decode cX8_putsAside 6 = .ok (.getfield 16, 3) := by decide +kernel
theorem dX8_putsAside_9 : decode cX8_putsAside 9 = .ok (.iconst 0, 1) := by decide +kernel
theorem dX8_putsAside_10 : decode cX8_putsAside 10 = .ok (.invokestatic 183, 3) := by decide +kernel
theorem dX8_putsAside_13 : decode cX8_putsAside 13 = .ok (.return_, 1) := by decide +kernel
theorem dX8_putsBack_0 : decode cX8_putsBack 0 = .ok (.aload_n 0, 1) := by decide +kernel
theorem dX8_putsBack_1 : decode cX8_putsBack 1 = .ok (.getfield 16, 3) := by decide +kernel
theorem dX8_putsBack_4 : decode cX8_putsBack 4 = .ok (.iconst 0, 1) := by decide +kernel
theorem dX8_putsBack_5 : decode cX8_putsBack 5 = .ok (.aload_n 0, 1) := by decide +kernel
theorem dX8_putsBack_6 : decode cX8_putsBack 6 = .ok (.getfield 9, 3) := by decide +kernel
theorem dX8_putsBack_9 : decode cX8_putsBack 9 = .ok (.iconst 0, 1) := by decide +kernel
theorem dX8_putsBack_10 : decode cX8_putsBack 10 = .ok (.invokestatic 183, 3) := by decide +kernel
theorem dX8_putsBack_13 : decode cX8_putsBack 13 = .ok (.return_, 1) := by decide +kernel
theorem dX8_grownIn_0 : decode cX8_grownIn 0 = .ok (.aload_n 0, 1) := by decide +kernel
theorem dX8_grownIn_1 : decode cX8_grownIn 1 = .ok (.invokevirtual 363, 3) := by decide +kernel
theorem dX8_grownIn_4 : decode cX8_grownIn 4 = .ok (.iconst 0, 1) := by decide +kernel
theorem dX8_grownIn_5 : decode cX8_grownIn 5 = .ok (.istore 4, 2) := by decide +kernel
theorem dX8_grownIn_7 : decode cX8_grownIn 7 = .ok (.iload 4, 2) := by decide +kernel
theorem dX8_grownIn_9 : decode cX8_grownIn 9 = .ok (.iload_n 3, 1) := by decide +kernel
theorem dX8_grownIn_10 : decode cX8_grownIn 10 = .ok (.if_icmp .ge 13, 3) := by decide +kernel
theorem dX8_grownIn_13 : decode cX8_grownIn 13 = .ok (.aload_n 0, 1) := by decide +kernel
theorem dX8_grownIn_14 : decode cX8_grownIn 14 = .ok (.invokevirtual 360, 3) := by decide +kernel
theorem dX8_grownIn_17 : decode cX8_grownIn 17 = .ok (.iinc 4 1, 3) := by decide +kernel
theorem dX8_grownIn_20 : decode cX8_grownIn 20 = .ok (.goto (-13), 3) := by decide +kernel
theorem dX8_grownIn_23 : decode cX8_grownIn 23 = .ok (.aload_n 0, 1) := by decide +kernel
theorem dX8_grownIn_24 : decode cX8_grownIn 24 = .ok (.iload_n 1, 1) := by decide +kernel
theorem dX8_grownIn_25 : decode cX8_grownIn 25 = .ok (.iload_n 2, 1) := by decide +kernel
theorem dX8_grownIn_26 : decode cX8_grownIn 26 = .ok (.invokevirtual 189, 3) := by decide +kernel
theorem dX8_grownIn_29 : decode cX8_grownIn 29 = .ok (.istore 4, 2) := by decide +kernel
theorem dX8_grownIn_31 : decode cX8_grownIn 31 = .ok (.aload_n 0, 1) := by decide +kernel
theorem dX8_grownIn_32 : decode cX8_grownIn 32 = .ok (.invokevirtual 366, 3) := by decide +kernel
theorem dX8_grownIn_35 : decode cX8_grownIn 35 = .ok (.iload 4, 2) := by decide +kernel
theorem dX8_grownIn_37 : decode cX8_grownIn 37 = .ok (.aload_n 0, 1) := by decide +kernel
theorem dX8_grownIn_38 : decode cX8_grownIn 38 = .ok (.iload_n 1, 1) := by decide +kernel
theorem dX8_grownIn_39 : decode cX8_grownIn 39 = .ok (.iload_n 2, 1) := by decide +kernel
theorem dX8_grownIn_40 : decode cX8_grownIn 40 = .ok (.invokevirtual 189, 3) := by decide +kernel
theorem dX8_grownIn_43 : decode cX8_grownIn 43 = .ok (.isub, 1) := by decide +kernel
theorem dX8_grownIn_44 : decode cX8_grownIn 44 = .ok (.ireturn, 1) := by decide +kernel
theorem dX8_areTicks_0 : decode cX8_areTicks 0 = .ok (.iload_n 0, 1) := by decide +kernel
theorem dX8_areTicks_1 : decode cX8_areTicks 1 = .ok (.i2l, 1) := by decide +kernel
theorem dX8_areTicks_2 : decode cX8_areTicks 2 = .ok (.lconst 1, 1) := by decide +kernel
theorem dX8_areTicks_3 : decode cX8_areTicks 3 = .ok (.ldc2_w 369, 3) := by decide +kernel
theorem dX8_areTicks_6 : decode cX8_areTicks 6 = .ok (.invokestatic 44, 3) := by decide +kernel
theorem dX8_areTicks_9 : decode cX8_areTicks 9 = .ok (.ireturn, 1) := by decide +kernel
theorem dX8_chargeIn_0 : decode cX8_chargeIn 0 = .ok (.aload_n 0, 1) := by decide +kernel
theorem dX8_chargeIn_1 : decode cX8_chargeIn 1 = .ok (.aload_n 0, 1) := by decide +kernel
theorem dX8_chargeIn_2 : decode cX8_chargeIn 2 = .ok (.iload_n 1, 1) := by decide +kernel
theorem dX8_chargeIn_3 : decode cX8_chargeIn 3 = .ok (.invokevirtual 234, 3) := by decide +kernel
theorem dX8_chargeIn_6 : decode cX8_chargeIn 6 = .ok (.iconst 1, 1) := by decide +kernel
theorem dX8_chargeIn_7 : decode cX8_chargeIn 7 = .ok (.invokevirtual 227, 3) := by decide +kernel
theorem dX8_chargeIn_10 : decode cX8_chargeIn 10 = .ok (.ifCond .ne 15, 3) := by decide +kernel
theorem dX8_chargeIn_13 : decode cX8_chargeIn 13 = .ok (.aload_n 0, 1) := by decide +kernel
theorem dX8_chargeIn_14 : decode cX8_chargeIn 14 = .ok (.iload_n 2, 1) := by decide +kernel
theorem dX8_chargeIn_15 : decode cX8_chargeIn 15 = .ok (.invokestatic 371, 3) := by decide +kernel
theorem dX8_chargeIn_18 : decode cX8_chargeIn 18 = .ok (.iconst 2, 1) := by decide +kernel
theorem dX8_chargeIn_19 : decode cX8_chargeIn 19 = .ok (.invokevirtual 227, 3) := by decide +kernel
theorem dX8_chargeIn_22 : decode cX8_chargeIn 22 = .ok (.ifCond .eq 5, 3) := by decide +kernel
theorem dX8_chargeIn_25 : decode cX8_chargeIn 25 = .ok (.iconst 0, 1) := by decide +kernel
theorem dX8_chargeIn_26 : decode cX8_chargeIn 26 = .ok (.ireturn, 1) := by decide +kernel
theorem dX8_chargeIn_27 : decode cX8_chargeIn 27 = .ok (.aload_n 0, 1) := by decide +kernel
theorem dX8_chargeIn_28 : decode cX8_chargeIn 28 = .ok (.iload_n 1, 1) := by decide +kernel
theorem dX8_chargeIn_29 : decode cX8_chargeIn 29 = .ok (.iconst 1, 1) := by decide +kernel
theorem dX8_chargeIn_30 : decode cX8_chargeIn 30 = .ok (.invokevirtual 189, 3) := by decide +kernel
theorem dX8_chargeIn_33 : decode cX8_chargeIn 33 = .ok (.aload_n 0, 1) := by decide +kernel
theorem dX8_chargeIn_34 : decode cX8_chargeIn 34 = .ok (.iload_n 1, 1) := by decide +kernel
theorem dX8_chargeIn_35 : decode cX8_chargeIn 35 = .ok (.iconst 1, 1) := by decide +kernel
theorem dX8_chargeIn_36 : decode cX8_chargeIn 36 = .ok (.iload_n 2, 1) := by decide +kernel
theorem dX8_chargeIn_37 : decode cX8_chargeIn 37 = .ok (.invokevirtual 374, 3) := by decide +kernel
theorem dX8_chargeIn_40 : decode cX8_chargeIn 40 = .ok (.iadd, 1) := by decide +kernel
theorem dX8_chargeIn_41 : decode cX8_chargeIn 41 = .ok (.ireturn, 1) := by decide +kernel
theorem dX8_missIn_0 : decode cX8_missIn 0 = .ok (.aload_n 0, 1) := by decide +kernel
theorem dX8_missIn_1 : decode cX8_missIn 1 = .ok (.aload_n 0, 1) := by decide +kernel
theorem dX8_missIn_2 : decode cX8_missIn 2 = .ok (.iload_n 1, 1) := by decide +kernel
theorem dX8_missIn_3 : decode cX8_missIn 3 = .ok (.invokevirtual 234, 3) := by decide +kernel
theorem dX8_missIn_6 : decode cX8_missIn 6 = .ok (.iconst 1, 1) := by decide +kernel
theorem dX8_missIn_7 : decode cX8_missIn 7 = .ok (.invokevirtual 227, 3) := by decide +kernel
theorem dX8_missIn_10 : decode cX8_missIn 10 = .ok (.ifCond .eq 5, 3) := by decide +kernel
theorem dX8_missIn_13 : decode cX8_missIn 13 = .ok (.iconst 0, 1) := by decide +kernel
theorem dX8_missIn_14 : decode cX8_missIn 14 = .ok (.ireturn, 1) := by decide +kernel
theorem dX8_missIn_15 : decode cX8_missIn 15 = .ok (.aload_n 0, 1) := by decide +kernel
theorem dX8_missIn_16 : decode cX8_missIn 16 = .ok (.invokevirtual 363, 3) := by decide +kernel
theorem dX8_missIn_19 : decode cX8_missIn 19 = .ok (.aload_n 0, 1) := by decide +kernel
theorem dX8_missIn_20 : decode cX8_missIn 20 = .ok (.iload_n 1, 1) := by decide +kernel
theorem dX8_missIn_21 : decode cX8_missIn 21 = .ok (.bipush 6, 2) := by decide +kernel
theorem dX8_missIn_23 : decode cX8_missIn 23 = .ok (.invokevirtual 189, 3) := by decide +kernel
theorem dX8_missIn_26 : decode cX8_missIn 26 = .ok (.istore_n 2, 1) := by decide +kernel
theorem dX8_missIn_27 : decode cX8_missIn 27 = .ok (.iconst (-1), 1) := by decide +kernel
theorem dX8_missIn_28 : decode cX8_missIn 28 = .ok (.istore_n 3, 1) := by decide +kernel
theorem dX8_missIn_29 : decode cX8_missIn 29 = .ok (.iconst 1, 1) := by decide +kernel
theorem dX8_missIn_30 : decode cX8_missIn 30 = .ok (.istore 4, 2) := by decide +kernel
theorem dX8_missIn_32 : decode cX8_missIn 32 = .ok (.iload 4, 2) := by decide +kernel
theorem dX8_missIn_34 : decode cX8_missIn 34 = .ok (.sipush 500, 3) := by decide +kernel
theorem dX8_missIn_37 : decode cX8_missIn 37 = .ok (.if_icmp .gt 36, 3) := by decide +kernel
theorem dX8_missIn_40 : decode cX8_missIn 40 = .ok (.iload_n 3, 1) := by decide +kernel
theorem dX8_missIn_41 : decode cX8_missIn 41 = .ok (.iconst (-1), 1) := by decide +kernel
theorem dX8_missIn_42 : decode cX8_missIn 42 = .ok (.if_icmp .ne 31, 3) := by decide +kernel
theorem dX8_missIn_45 : decode cX8_missIn 45 = .ok (.aload_n 0, 1) := by decide +kernel
theorem dX8_missIn_46 : decode cX8_missIn 46 = .ok (.invokevirtual 360, 3) := by decide +kernel
theorem dX8_missIn_49 : decode cX8_missIn 49 = .ok (.aload_n 0, 1) := by decide +kernel
theorem dX8_missIn_50 : decode cX8_missIn 50 = .ok (.iload_n 1, 1) := by decide +kernel
theorem dX8_missIn_51 : decode cX8_missIn 51 = .ok (.bipush 6, 2) := by decide +kernel
theorem dX8_missIn_53 : decode cX8_missIn 53 = .ok (.invokevirtual 189, 3) := by decide +kernel
theorem dX8_missIn_56 : decode cX8_missIn 56 = .ok (.iload_n 2, 1) := by decide +kernel
theorem dX8_missIn_57 : decode cX8_missIn 57 = .ok (.if_icmp .le 8, 3) := by decide +kernel
theorem dX8_missIn_60 : decode cX8_missIn 60 = .ok (.iload 4, 2) := by decide +kernel
theorem dX8_missIn_62 : decode cX8_missIn 62 = .ok (.goto 4, 3) := by decide +kernel
theorem dX8_missIn_65 : decode cX8_missIn 65 = .ok (.iconst (-1), 1) := by decide +kernel
theorem dX8_missIn_66 : decode cX8_missIn 66 = .ok (.istore_n 3, 1) := by decide +kernel
theorem dX8_missIn_67 : decode cX8_missIn 67 = .ok (.iinc 4 1, 3) := by decide +kernel
theorem dX8_missIn_70 : decode cX8_missIn 70 = .ok (.goto (-38), 3) := by decide +kernel
theorem dX8_missIn_73 : decode cX8_missIn 73 = .ok (.aload_n 0, 1) := by decide +kernel
theorem dX8_missIn_74 : decode cX8_missIn 74 = .ok (.invokevirtual 366, 3) := by decide +kernel
theorem dX8_missIn_77 : decode cX8_missIn 77 = .ok (.iload_n 3, 1) := by decide +kernel
theorem dX8_missIn_78 : decode cX8_missIn 78 = .ok (.ireturn, 1) := by decide +kernel
theorem dX8_ends_0 : decode cX8_ends 0 = .ok (.aload_n 0, 1) := by decide +kernel
theorem dX8_ends_1 : decode cX8_ends 1 = .ok (.invokevirtual 363, 3) := by decide +kernel
theorem dX8_ends_4 : decode cX8_ends 4 = .ok (.iconst 0, 1) := by decide +kernel
theorem dX8_ends_5 : decode cX8_ends 5 = .ok (.istore_n 2, 1) := by decide +kernel
theorem dX8_ends_6 : decode cX8_ends 6 = .ok (.iload_n 2, 1) := by decide +kernel
theorem dX8_ends_7 : decode cX8_ends 7 = .ok (.sipush 500, 3) := by decide +kernel
theorem dX8_ends_10 : decode cX8_ends 10 = .ok (.if_icmp .ge 21, 3) := by decide +kernel
theorem dX8_ends_13 : decode cX8_ends 13 = .ok (.aload_n 0, 1) := by decide +kernel
theorem dX8_ends_14 : decode cX8_ends 14 = .ok (.iload_n 1, 1) := by decide +kernel
theorem dX8_ends_15 : decode cX8_ends 15 = .ok (.invokevirtual 221, 3) := by decide +kernel
theorem dX8_ends_18 : decode cX8_ends 18 = .ok (.ifCond .eq 13, 3) := by decide +kernel
theorem dX8_ends_21 : decode cX8_ends 21 = .ok (.aload_n 0, 1) := by decide +kernel
theorem dX8_ends_22 : decode cX8_ends 22 = .ok (.invokevirtual 360, 3) := by decide +kernel
theorem dX8_ends_25 : decode cX8_ends 25 = .ok (.iinc 2 1, 3) := by decide +kernel
theorem dX8_ends_28 : decode cX8_ends 28 = .ok (.goto (-22), 3) := by decide +kernel
theorem dX8_ends_31 : decode cX8_ends 31 = .ok (.aload_n 0, 1) := by decide +kernel
theorem dX8_ends_32 : decode cX8_ends 32 = .ok (.iload_n 1, 1) := by decide +kernel
theorem dX8_ends_33 : decode cX8_ends 33 = .ok (.invokevirtual 221, 3) := by decide +kernel
theorem dX8_ends_36 : decode cX8_ends 36 = .ok (.ifCond .eq 7, 3) := by decide +kernel
theorem dX8_ends_39 : decode cX8_ends 39 = .ok (.iconst (-1), 1) := by decide +kernel
theorem dX8_ends_40 : decode cX8_ends 40 = .ok (.goto 4, 3) := by decide +kernel
theorem dX8_ends_43 : decode cX8_ends 43 = .ok (.iload_n 2, 1) := by decide +kernel
theorem dX8_ends_44 : decode cX8_ends 44 = .ok (.istore_n 3, 1) := by decide +kernel
theorem dX8_ends_45 : decode cX8_ends 45 = .ok (.aload_n 0, 1) := by decide +kernel
theorem dX8_ends_46 : decode cX8_ends 46 = .ok (.aload_n 0, 1) := by decide +kernel
theorem dX8_ends_47 : decode cX8_ends 47 = .ok (.iload_n 1, 1) := by decide +kernel
theorem dX8_ends_48 : decode cX8_ends 48 = .ok (.iconst 5, 1) := by decide +kernel
theorem dX8_ends_49 : decode cX8_ends 49 = .ok (.invokevirtual 50, 3) := by decide +kernel
theorem dX8_ends_52 : decode cX8_ends 52 = .ok (.putfield 377, 3) := by decide +kernel
theorem dX8_ends_55 : decode cX8_ends 55 = .ok (.aload_n 0, 1) := by decide +kernel
theorem dX8_ends_56 : decode cX8_ends 56 = .ok (.invokevirtual 366, 3) := by decide +kernel
theorem dX8_ends_59 : decode cX8_ends 59 = .ok (.iload_n 3, 1) := by decide +kernel
theorem dX8_ends_60 : decode cX8_ends 60 = .ok (.ireturn, 1) := by decide +kernel
theorem dX8_endIn_0 : decode cX8_endIn 0 = .ok (.aload_n 0, 1) := by decide +kernel
theorem dX8_endIn_1 : decode cX8_endIn 1 = .ok (.aload_n 0, 1) := by decide +kernel
theorem dX8_endIn_2 : decode cX8_endIn 2 = .ok (.iload_n 1, 1) := by decide +kernel
theorem dX8_endIn_3 : decode cX8_endIn 3 = .ok (.invokevirtual 269, 3) := by decide +kernel
theorem dX8_endIn_6 : decode cX8_endIn 6 = .ok (.iconst 1, 1) := by decide +kernel
theorem dX8_endIn_7 : decode cX8_endIn 7 = .ok (.invokevirtual 227, 3) := by decide +kernel
theorem dX8_endIn_10 : decode cX8_endIn 10 = .ok (.ifCond .eq 7, 3) := by decide +kernel
theorem dX8_endIn_13 : decode cX8_endIn 13 = .ok (.iconst 0, 1) := by decide +kernel
theorem dX8_endIn_14 : decode cX8_endIn 14 = .ok (.goto 8, 3) := by decide +kernel
theorem dX8_endIn_17 : decode cX8_endIn 17 = .ok (.aload_n 0, 1) := by decide +kernel
theorem dX8_endIn_18 : decode cX8_endIn 18 = .ok (.iload_n 1, 1) := by decide +kernel
theorem dX8_endIn_19 : decode cX8_endIn 19 = .ok (.invokevirtual 380, 3) := by decide +kernel
theorem dX8_endIn_22 : decode cX8_endIn 22 = .ok (.ireturn, 1) := by decide +kernel
theorem dX8_endAs_0 : decode cX8_endAs 0 = .ok (.aload_n 0, 1) := by decide +kernel
theorem dX8_endAs_1 : decode cX8_endAs 1 = .ok (.aload_n 0, 1) := by decide +kernel
theorem dX8_endAs_2 : decode cX8_endAs 2 = .ok (.iload_n 1, 1) := by decide +kernel
theorem dX8_endAs_3 : decode cX8_endAs 3 = .ok (.invokevirtual 269, 3) := by decide +kernel
theorem dX8_endAs_6 : decode cX8_endAs 6 = .ok (.iconst 1, 1) := by decide +kernel
theorem dX8_endAs_7 : decode cX8_endAs 7 = .ok (.invokevirtual 227, 3) := by decide +kernel
theorem dX8_endAs_10 : decode cX8_endAs 10 = .ok (.ifCond .eq 5, 3) := by decide +kernel
theorem dX8_endAs_13 : decode cX8_endAs 13 = .ok (.iconst 0, 1) := by decide +kernel
theorem dX8_endAs_14 : decode cX8_endAs 14 = .ok (.ireturn, 1) := by decide +kernel
theorem dX8_endAs_15 : decode cX8_endAs 15 = .ok (.aload_n 0, 1) := by decide +kernel
theorem dX8_endAs_16 : decode cX8_endAs 16 = .ok (.iload_n 1, 1) := by decide +kernel
theorem dX8_endAs_17 : decode cX8_endAs 17 = .ok (.invokevirtual 380, 3) := by decide +kernel
theorem dX8_endAs_20 : decode cX8_endAs 20 = .ok (.istore_n 2, 1) := by decide +kernel
theorem dX8_endAs_21 : decode cX8_endAs 21 = .ok (.aload_n 0, 1) := by decide +kernel
theorem dX8_endAs_22 : decode cX8_endAs 22 = .ok (.getfield 377, 3) := by decide +kernel
theorem dX8_endAs_25 : decode cX8_endAs 25 = .ok (.ireturn, 1) := by decide +kernel
theorem dX8_lacks_0 : decode cX8_lacks 0 = .ok (.aload_n 0, 1) := by decide +kernel
theorem dX8_lacks_1 : decode cX8_lacks 1 = .ok (.aload_n 0, 1) := by decide +kernel
theorem dX8_lacks_2 : decode cX8_lacks 2 = .ok (.iload_n 1, 1) := by decide +kernel
theorem dX8_lacks_3 : decode cX8_lacks 3 = .ok (.invokevirtual 245, 3) := by decide +kernel
theorem dX8_lacks_6 : decode cX8_lacks 6 = .ok (.iconst 1, 1) := by decide +kernel
theorem dX8_lacks_7 : decode cX8_lacks 7 = .ok (.invokevirtual 227, 3) := by decide +kernel
theorem dX8_lacks_10 : decode cX8_lacks 10 = .ok (.ifCond .eq 5, 3) := by decide +kernel
theorem dX8_lacks_13 : decode cX8_lacks 13 = .ok (.iconst 0, 1) := by decide +kernel
theorem dX8_lacks_14 : decode cX8_lacks 14 = .ok (.ireturn, 1) := by decide +kernel
theorem dX8_lacks_15 : decode cX8_lacks 15 = .ok (.aload_n 0, 1) := by decide +kernel
theorem dX8_lacks_16 : decode cX8_lacks 16 = .ok (.iload_n 1, 1) := by decide +kernel
theorem dX8_lacks_17 : decode cX8_lacks 17 = .ok (.iconst 3, 1) := by decide +kernel
theorem dX8_lacks_18 : decode cX8_lacks 18 = .ok (.invokevirtual 248, 3) := by decide +kernel
theorem dX8_lacks_21 : decode cX8_lacks 21 = .ok (.ifCond .ne 22, 3) := by decide +kernel
theorem dX8_lacks_24 : decode cX8_lacks 24 = .ok (.aload_n 0, 1) := by decide +kernel
theorem dX8_lacks_25 : decode cX8_lacks 25 = .ok (.iload_n 1, 1) := by decide +kernel
theorem dX8_lacks_26 : decode cX8_lacks 26 = .ok (.iconst 1, 1) := by decide +kernel
theorem dX8_lacks_27 : decode cX8_lacks 27 = .ok (.invokevirtual 248, 3) := by decide +kernel
theorem dX8_lacks_30 : decode cX8_lacks 30 = .ok (.aload_n 0, 1) := by decide +kernel
theorem dX8_lacks_31 : decode cX8_lacks 31 = .ok (.getfield 9, 3) := by decide +kernel
theorem dX8_lacks_34 : decode cX8_lacks 34 = .ok (.iconst 2, 1) := by decide +kernel
theorem dX8_lacks_35 : decode cX8_lacks 35 = .ok (.iaload, 1) := by decide +kernel
theorem dX8_lacks_36 : decode cX8_lacks 36 = .ok (.isub, 1) := by decide +kernel
theorem dX8_lacks_37 : decode cX8_lacks 37 = .ok (.sipush 500, 3) := by decide +kernel
theorem dX8_lacks_40 : decode cX8_lacks 40 = .ok (.if_icmp .lt 5, 3) := by decide +kernel
theorem dX8_lacks_43 : decode cX8_lacks 43 = .ok (.iconst (-1), 1) := by decide +kernel
theorem dX8_lacks_44 : decode cX8_lacks 44 = .ok (.ireturn, 1) := by decide +kernel
theorem dX8_lacks_45 : decode cX8_lacks 45 = .ok (.aload_n 0, 1) := by decide +kernel
theorem dX8_lacks_46 : decode cX8_lacks 46 = .ok (.invokevirtual 363, 3) := by decide +kernel
theorem dX8_lacks_49 : decode cX8_lacks 49 = .ok (.aload_n 0, 1) := by decide +kernel
theorem dX8_lacks_50 : decode cX8_lacks 50 = .ok (.getfield 9, 3) := by decide +kernel
theorem dX8_lacks_53 : decode cX8_lacks 53 = .ok (.iconst 2, 1) := by decide +kernel
theorem dX8_lacks_54 : decode cX8_lacks 54 = .ok (.iaload, 1) := by decide +kernel
theorem dX8_lacks_55 : decode cX8_lacks 55 = .ok (.aload_n 0, 1) := by decide +kernel
theorem dX8_lacks_56 : decode cX8_lacks 56 = .ok (.iload_n 1, 1) := by decide +kernel
theorem dX8_lacks_57 : decode cX8_lacks 57 = .ok (.iconst 1, 1) := by decide +kernel
theorem dX8_lacks_58 : decode cX8_lacks 58 = .ok (.invokevirtual 248, 3) := by decide +kernel
theorem dX8_lacks_61 : decode cX8_lacks 61 = .ok (.if_icmp .ge 10, 3) := by decide +kernel
theorem dX8_lacks_64 : decode cX8_lacks 64 = .ok (.aload_n 0, 1) := by decide +kernel
theorem dX8_lacks_65 : decode cX8_lacks 65 = .ok (.invokevirtual 360, 3) := by decide +kernel
theorem dX8_lacks_68 : decode cX8_lacks 68 = .ok (.goto (-19), 3) := by decide +kernel
theorem dX8_lacks_71 : decode cX8_lacks 71 = .ok (.aload_n 0, 1) := by decide +kernel
theorem dX8_lacks_72 : decode cX8_lacks 72 = .ok (.invokevirtual 327, 3) := by decide +kernel
theorem dX8_lacks_75 : decode cX8_lacks 75 = .ok (.iconst 0, 1) := by decide +kernel
theorem dX8_lacks_76 : decode cX8_lacks 76 = .ok (.istore_n 2, 1) := by decide +kernel
theorem dX8_lacks_77 : decode cX8_lacks 77 = .ok (.iload_n 2, 1) := by decide +kernel
theorem dX8_lacks_78 : decode cX8_lacks 78 = .ok (.iload_n 1, 1) := by decide +kernel
theorem dX8_lacks_79 : decode cX8_lacks 79 = .ok (.if_icmp .ge 22, 3) := by decide +kernel
theorem dX8_lacks_82 : decode cX8_lacks 82 = .ok (.aload_n 0, 1) := by decide +kernel
theorem dX8_lacks_83 : decode cX8_lacks 83 = .ok (.iload_n 2, 1) := by decide +kernel
theorem dX8_lacks_84 : decode cX8_lacks 84 = .ok (.invokevirtual 330, 3) := by decide +kernel
theorem dX8_lacks_87 : decode cX8_lacks 87 = .ok (.ifCond .eq 8, 3) := by decide +kernel
theorem dX8_lacks_90 : decode cX8_lacks 90 = .ok (.aload_n 0, 1) := by decide +kernel
theorem dX8_lacks_91 : decode cX8_lacks 91 = .ok (.iload_n 2, 1) := by decide +kernel
theorem dX8_lacks_92 : decode cX8_lacks 92 = .ok (.invokevirtual 333, 3) := by decide +kernel
theorem dX8_lacks_95 : decode cX8_lacks 95 = .ok (.iinc 2 1, 3) := by decide +kernel
theorem dX8_lacks_98 : decode cX8_lacks 98 = .ok (.goto (-21), 3) := by decide +kernel
theorem dX8_lacks_101 : decode cX8_lacks 101 = .ok (.iconst 0, 1) := by decide +kernel
theorem dX8_lacks_102 : decode cX8_lacks 102 = .ok (.aload_n 0, 1) := by decide +kernel
theorem dX8_lacks_103 : decode cX8_lacks 103 = .ok (.iload_n 1, 1) := by decide +kernel
theorem dX8_lacks_104 : decode cX8_lacks 104 = .ok (.iconst 2, 1) := by decide +kernel
theorem dX8_lacks_105 : decode cX8_lacks 105 = .ok (.invokevirtual 248, 3) := by decide +kernel
theorem dX8_lacks_108 : decode cX8_lacks 108 = .ok (.aload_n 0, 1) := by decide +kernel
theorem dX8_lacks_109 : decode cX8_lacks 109 = .ok (.aload_n 0, 1) := by decide +kernel
theorem dX8_lacks_110 : decode cX8_lacks 110 = .ok (.iload_n 1, 1) := by decide +kernel
theorem dX8_lacks_111 : decode cX8_lacks 111 = .ok (.iconst 0, 1) := by decide +kernel
theorem dX8_lacks_112 : decode cX8_lacks 112 = .ok (.invokevirtual 248, 3) := by decide +kernel
theorem dX8_lacks_115 : decode cX8_lacks 115 = .ok (.iconst 1, 1) := by decide +kernel
theorem dX8_lacks_116 : decode cX8_lacks 116 = .ok (.invokevirtual 189, 3) := by decide +kernel
theorem dX8_lacks_119 : decode cX8_lacks 119 = .ok (.isub, 1) := by decide +kernel
theorem dX8_lacks_120 : decode cX8_lacks 120 = .ok (.invokestatic 192, 3) := by decide +kernel
theorem dX8_lacks_123 : decode cX8_lacks 123 = .ok (.istore_n 2, 1) := by decide +kernel
theorem dX8_lacks_124 : decode cX8_lacks 124 = .ok (.aload_n 0, 1) := by decide +kernel
theorem dX8_lacks_125 : decode cX8_lacks 125 = .ok (.invokevirtual 366, 3) := by decide +kernel
theorem dX8_lacks_128 : decode cX8_lacks 128 = .ok (.iload_n 2, 1) := by decide +kernel
theorem dX8_lacks_129 : decode cX8_lacks 129 = .ok (.ireturn, 1) := by decide +kernel
theorem dX8_isSafe_0 : decode cX8_isSafe 0 = .ok (.aload_n 0, 1) := by decide +kernel
theorem dX8_isSafe_1 : decode cX8_isSafe 1 = .ok (.aload_n 0, 1) := by decide +kernel
theorem dX8_isSafe_2 : decode cX8_isSafe 2 = .ok (.iload_n 1, 1) := by decide +kernel
theorem dX8_isSafe_3 : decode cX8_isSafe 3 = .ok (.invokevirtual 257, 3) := by decide +kernel
theorem dX8_isSafe_6 : decode cX8_isSafe 6 = .ok (.iconst 1, 1) := by decide +kernel
theorem dX8_isSafe_7 : decode cX8_isSafe 7 = .ok (.invokevirtual 227, 3) := by decide +kernel
theorem dX8_isSafe_10 : decode cX8_isSafe 10 = .ok (.ifCond .ne 30, 3) := by decide +kernel
theorem dX8_isSafe_13 : decode cX8_isSafe 13 = .ok (.aload_n 0, 1) := by decide +kernel
theorem dX8_isSafe_14 : decode cX8_isSafe 14 = .ok (.iload_n 2, 1) := by decide +kernel
theorem dX8_isSafe_15 : decode cX8_isSafe 15 = .ok (.invokestatic 281, 3) := by decide +kernel
theorem dX8_isSafe_18 : decode cX8_isSafe 18 = .ok (.ifCond .eq 14, 3) := by decide +kernel
theorem dX8_isSafe_21 : decode cX8_isSafe 21 = .ok (.iload_n 3, 1) := by decide +kernel
theorem dX8_isSafe_22 : decode cX8_isSafe 22 = .ok (.invokestatic 371, 3) := by decide +kernel
theorem dX8_isSafe_25 : decode cX8_isSafe 25 = .ok (.ifCond .eq 7, 3) := by decide +kernel
theorem dX8_isSafe_28 : decode cX8_isSafe 28 = .ok (.iconst 1, 1) := by decide +kernel
theorem dX8_isSafe_29 : decode cX8_isSafe 29 = .ok (.goto 4, 3) := by decide +kernel
theorem dX8_isSafe_32 : decode cX8_isSafe 32 = .ok (.iconst 0, 1) := by decide +kernel
theorem dX8_isSafe_33 : decode cX8_isSafe 33 = .ok (.iconst 2, 1) := by decide +kernel
theorem dX8_isSafe_34 : decode cX8_isSafe 34 = .ok (.invokevirtual 227, 3) := by decide +kernel
theorem dX8_isSafe_37 : decode cX8_isSafe 37 = .ok (.ifCond .eq 5, 3) := by decide +kernel
theorem dX8_isSafe_40 : decode cX8_isSafe 40 = .ok (.iconst 0, 1) := by decide +kernel
theorem dX8_isSafe_41 : decode cX8_isSafe 41 = .ok (.ireturn, 1) := by decide +kernel
theorem dX8_isSafe_42 : decode cX8_isSafe 42 = .ok (.aload_n 0, 1) := by decide +kernel
theorem dX8_isSafe_43 : decode cX8_isSafe 43 = .ok (.iload_n 1, 1) := by decide +kernel
theorem dX8_isSafe_44 : decode cX8_isSafe 44 = .ok (.iload_n 2, 1) := by decide +kernel
theorem dX8_isSafe_45 : decode cX8_isSafe 45 = .ok (.invokevirtual 290, 3) := by decide +kernel
theorem dX8_isSafe_48 : decode cX8_isSafe 48 = .ok (.ifCond .eq 5, 3) := by decide +kernel
theorem dX8_isSafe_51 : decode cX8_isSafe 51 = .ok (.iconst 0, 1) := by decide +kernel
theorem dX8_isSafe_52 : decode cX8_isSafe 52 = .ok (.ireturn, 1) := by decide +kernel
theorem dX8_isSafe_53 : decode cX8_isSafe 53 = .ok (.aload_n 0, 1) := by decide +kernel
theorem dX8_isSafe_54 : decode cX8_isSafe 54 = .ok (.iload_n 1, 1) := by decide +kernel
theorem dX8_isSafe_55 : decode cX8_isSafe 55 = .ok (.iconst 0, 1) := by decide +kernel
