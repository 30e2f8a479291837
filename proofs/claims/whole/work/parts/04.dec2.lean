theorem dX6_sentToReturn_24 : decode cX6_sentToReturn 24 = .ok (.lconst 1, 1) := by decide +kernel
theorem dX6_sentToReturn_25 : decode cX6_sentToReturn 25 = .ok (.lsub, 1) := by decide +kernel
theorem dX6_sentToReturn_26 : decode cX6_sentToReturn 26 = .ok (.iload_n 2, 1) := by decide +kernel
theorem dX6_sentToReturn_27 : decode cX6_sentToReturn 27 = .ok (.i2l, 1) := by decide +kernel
theorem dX6_sentToReturn_28 : decode cX6_sentToReturn 28 = .ok (.ldiv, 1) := by decide +kernel
theorem dX6_sentToReturn_29 : decode cX6_sentToReturn 29 = .ok (.lreturn, 1) := by decide +kernel
theorem dX7_init_0 : decode cX7_init 0 = .ok (.aload_n 0, 1) := by decide +kernel
theorem dX7_init_1 : decode cX7_init 1 = .ok (.invokespecial 1, 3) := by decide +kernel
theorem dX7_init_4 : decode cX7_init 4 = .ok (.aload_n 0, 1) := by decide +kernel
theorem dX7_init_5 : decode cX7_init 5 = .ok (.new 7, 3) := by decide +kernel
theorem dX7_init_8 : decode cX7_init 8 = .ok (.dup, 1) := by decide +kernel
theorem dX7_init_9 : decode cX7_init 9 = .ok (.new 9, 3) := by decide +kernel
theorem dX7_init_12 : decode cX7_init 12 = .ok (.dup, 1) := by decide +kernel
theorem dX7_init_13 : decode cX7_init 13 = .ok (.invokespecial 11, 3) := by decide +kernel
theorem dX7_init_16 : decode cX7_init 16 = .ok (.invokespecial 12, 3) := by decide +kernel
theorem dX7_init_19 : decode cX7_init 19 = .ok (.putfield 15, 3) := by decide +kernel
theorem dX7_init_22 : decode cX7_init 22 = .ok (.aload_n 0, 1) := by decide +kernel
theorem dX7_init_23 : decode cX7_init 23 = .ok (.new 7, 3) := by decide +kernel
theorem dX7_init_26 : decode cX7_init 26 = .ok (.dup, 1) := by decide +kernel
theorem dX7_init_27 : decode cX7_init 27 = .ok (.aload_n 0, 1) := by decide +kernel
theorem dX7_init_28 : decode cX7_init 28 = .ok (.getfield 15, 3) := by decide +kernel
theorem dX7_init_31 : decode cX7_init 31 = .ok (.getfield 21, 3) := by decide +kernel
theorem dX7_init_34 : decode cX7_init 34 = .ok (.invokespecial 12, 3) := by decide +kernel
theorem dX7_init_37 : decode cX7_init 37 = .ok (.putfield 25, 3) := by decide +kernel
theorem dX7_init_40 : decode cX7_init 40 = .ok (.aload_n 0, 1) := by decide +kernel
theorem dX7_init_41 : decode cX7_init 41 = .ok (.new 28, 3) := by decide +kernel
theorem dX7_init_44 : decode cX7_init 44 = .ok (.dup, 1) := by decide +kernel
theorem dX7_init_45 : decode cX7_init 45 = .ok (.invokespecial 30, 3) := by decide +kernel
theorem dX7_init_48 : decode cX7_init 48 = .ok (.putfield 31, 3) := by decide +kernel
theorem dX7_init_51 : decode cX7_init 51 = .ok (.aload_n 0, 1) := by decide +kernel
theorem dX7_init_52 : decode cX7_init 52 = .ok (.new 35, 3) := by decide +kernel
theorem dX7_init_55 : decode cX7_init 55 = .ok (.dup, 1) := by decide +kernel
theorem dX7_init_56 : decode cX7_init 56 = .ok (.invokespecial 37, 3) := by decide +kernel
theorem dX7_init_59 : decode cX7_init 59 = .ok (.putfield 38, 3) := by decide +kernel
theorem dX7_init_62 : decode cX7_init 62 = .ok (.aload_n 0, 1) := by decide +kernel
theorem dX7_init_63 : decode cX7_init 63 = .ok (.iconst 2, 1) := by decide +kernel
theorem dX7_init_64 : decode cX7_init 64 = .ok (.anewarray 7, 3) := by decide +kernel
theorem dX7_init_67 : decode cX7_init 67 = .ok (.dup, 1) := by decide +kernel
theorem dX7_init_68 : decode cX7_init 68 = .ok (.iconst 0, 1) := by decide +kernel
theorem dX7_init_69 : decode cX7_init 69 = .ok (.new 7, 3) := by decide +kernel
theorem dX7_init_72 : decode cX7_init 72 = .ok (.dup, 1) := by decide +kernel
theorem dX7_init_73 : decode cX7_init 73 = .ok (.new 9, 3) := by decide +kernel
theorem dX7_init_76 : decode cX7_init 76 = .ok (.dup, 1) := by decide +kernel
theorem dX7_init_77 : decode cX7_init 77 = .ok (.invokespecial 11, 3) := by decide +kernel
theorem dX7_init_80 : decode cX7_init 80 = .ok (.invokespecial 12, 3) := by decide +kernel
theorem dX7_init_83 : decode cX7_init 83 = .ok (.aastore, 1) := by decide +kernel
theorem dX7_init_84 : decode cX7_init 84 = .ok (.dup, 1) := by decide +kernel
theorem dX7_init_85 : decode cX7_init 85 = .ok (.iconst 1, 1) := by decide +kernel
theorem dX7_init_86 : decode cX7_init 86 = .ok (.new 7, 3) := by decide +kernel
theorem dX7_init_89 : decode cX7_init 89 = .ok (.dup, 1) := by decide +kernel
theorem dX7_init_90 : decode cX7_init 90 = .ok (.new 9, 3) := by decide +kernel
theorem dX7_init_93 : decode cX7_init 93 = .ok (.dup, 1) := by decide +kernel
theorem dX7_init_94 : decode cX7_init 94 = .ok (.invokespecial 11, 3) := by decide +kernel
theorem dX7_init_97 : decode cX7_init 97 = .ok (.invokespecial 12, 3) := by decide +kernel
theorem dX7_init_100 : decode cX7_init 100 = .ok (.aastore, 1) := by decide +kernel
theorem dX7_init_101 : decode cX7_init 101 = .ok (.putfield 42, 3) := by decide +kernel
theorem dX7_init_104 : decode cX7_init 104 = .ok (.aload_n 0, 1) := by decide +kernel
theorem dX7_init_105 : decode cX7_init 105 = .ok (.iconst 2, 1) := by decide +kernel
theorem dX7_init_106 : decode cX7_init 106 = .ok (.newarray .boolean, 2) := by decide +kernel
theorem dX7_init_108 : decode cX7_init 108 = .ok (.putfield 46, 3) := by decide +kernel
theorem dX7_init_111 : decode cX7_init 111 = .ok (.return_, 1) := by decide +kernel
theorem dX7_append_0 : decode cX7_append 0 = .ok (.aload_n 0, 1) := by decide +kernel
theorem dX7_append_1 : decode cX7_append 1 = .ok (.getfield 31, 3) := by decide +kernel
theorem dX7_append_4 : decode cX7_append 4 = .ok (.lload_n 1, 1) := by decide +kernel
theorem dX7_append_5 : decode cX7_append 5 = .ok (.invokevirtual 50, 3) := by decide +kernel
theorem dX7_append_8 : decode cX7_append 8 = .ok (.ireturn, 1) := by decide +kernel
theorem dX7_load_0 : decode cX7_load 0 = .ok (.aload_n 0, 1) := by decide +kernel
theorem dX7_load_1 : decode cX7_load 1 = .ok (.getfield 31, 3) := by decide +kernel
theorem dX7_load_4 : decode cX7_load 4 = .ok (.invokevirtual 54, 3) := by decide +kernel
theorem dX7_load_7 : decode cX7_load 7 = .ok (.aload_n 0, 1) := by decide +kernel
theorem dX7_load_8 : decode cX7_load 8 = .ok (.getfield 31, 3) := by decide +kernel
theorem dX7_load_11 : decode cX7_load 11 = .ok (.getfield 57, 3) := by decide +kernel
theorem dX7_load_14 : decode cX7_load 14 = .ok (.ifCond .eq 14, 3) := by decide +kernel
theorem dX7_load_17 : decode cX7_load 17 = .ok (.bipush (-100), 2) := by decide +kernel
theorem dX7_load_19 : decode cX7_load 19 = .ok (.aload_n 0, 1) := by decide +kernel
theorem dX7_load_20 : decode cX7_load 20 = .ok (.getfield 31, 3) := by decide +kernel
theorem dX7_load_23 : decode cX7_load 23 = .ok (.getfield 61, 3) := by decide +kernel
theorem dX7_load_26 : decode cX7_load 26 = .ok (.isub, 1) := by decide +kernel
theorem dX7_load_27 : decode cX7_load 27 = .ok (.ireturn, 1) := by decide +kernel
theorem dX7_load_28 : decode cX7_load 28 = .ok (.aload_n 0, 1) := by decide +kernel
theorem dX7_load_29 : decode cX7_load 29 = .ok (.getfield 15, 3) := by decide +kernel
theorem dX7_load_32 : decode cX7_load 32 = .ok (.aload_n 0, 1) := by decide +kernel
theorem dX7_load_33 : decode cX7_load 33 = .ok (.getfield 31, 3) := by decide +kernel
theorem dX7_load_36 : decode cX7_load 36 = .ok (.getfield 64, 3) := by decide +kernel
theorem dX7_load_39 : decode cX7_load 39 = .ok (.invokevirtual 67, 3) := by decide +kernel
theorem dX7_load_42 : decode cX7_load 42 = .ok (.aload_n 0, 1) := by decide +kernel
theorem dX7_load_43 : decode cX7_load 43 = .ok (.getfield 38, 3) := by decide +kernel
theorem dX7_load_46 : decode cX7_load 46 = .ok (.invokevirtual 71, 3) := by decide +kernel
theorem dX7_load_49 : decode cX7_load 49 = .ok (.aload_n 0, 1) := by decide +kernel
theorem dX7_load_50 : decode cX7_load 50 = .ok (.getfield 15, 3) := by decide +kernel
theorem dX7_load_53 : decode cX7_load 53 = .ok (.getfield 21, 3) := by decide +kernel
theorem dX7_load_56 : decode cX7_load 56 = .ok (.getfield 74, 3) := by decide +kernel
theorem dX7_load_59 : decode cX7_load 59 = .ok (.ireturn, 1) := by decide +kernel
theorem dX7_loadError_0 : decode cX7_loadError 0 = .ok (.aload_n 0, 1) := by decide +kernel
theorem dX7_loadError_1 : decode cX7_loadError 1 = .ok (.getfield 31, 3) := by decide +kernel
theorem dX7_loadError_4 : decode cX7_loadError 4 = .ok (.getfield 57, 3) := by decide +kernel
theorem dX7_loadError_7 : decode cX7_loadError 7 = .ok (.ireturn, 1) := by decide +kernel
theorem dX7_loadStatement_0 : decode cX7_loadStatement 0 = .ok (.aload_n 0, 1) := by decide +kernel
theorem dX7_loadStatement_1 : decode cX7_loadStatement 1 = .ok (.getfield 31, 3) := by decide +kernel
theorem dX7_loadStatement_4 : decode cX7_loadStatement 4 = .ok (.getfield 57, 3) := by decide +kernel
theorem dX7_loadStatement_7 : decode cX7_loadStatement 7 = .ok (.ifCond .ne 7, 3) := by decide +kernel
theorem dX7_loadStatement_10 : decode cX7_loadStatement 10 = .ok (.iconst (-1), 1) := by decide +kernel
theorem dX7_loadStatement_11 : decode cX7_loadStatement 11 = .ok (.goto 10, 3) := by decide +kernel
theorem dX7_loadStatement_14 : decode cX7_loadStatement 14 = .ok (.aload_n 0, 1) := by decide +kernel
theorem dX7_loadStatement_15 : decode cX7_loadStatement 15 = .ok (.getfield 31, 3) := by decide +kernel
theorem dX7_loadStatement_18 : decode cX7_loadStatement 18 = .ok (.getfield 77, 3) := by decide +kernel
theorem dX7_loadStatement_21 : decode cX7_loadStatement 21 = .ok (.ireturn, 1) := by decide +kernel
theorem dX7_count_0 : decode cX7_count 0 = .ok (.iload_n 1, 1) := by decide +kernel
theorem dX7_count_1 : decode cX7_count 1 = .ok (.iconst 0, 1) := by decide +kernel
theorem dX7_count_2 : decode cX7_count 2 = .ok (.bipush 8, 2) := by decide +kernel
theorem dX7_count_4 : decode cX7_count 4 = .ok (.invokestatic 80, 3) := by decide +kernel
theorem dX7_count_7 : decode cX7_count 7 = .ok (.iload_n 1, 1) := by decide +kernel
theorem dX7_count_8 : decode cX7_count 8 = .ok (.tableswitch 139 0 7 #[48, 59, 70, 81, 92, 106, 117, 131], 48) := by decide +kernel
theorem dX7_count_56 : decode cX7_count 56 = .ok (.aload_n 0, 1) := by decide +kernel
theorem dX7_count_57 : decode cX7_count 57 = .ok (.getfield 15, 3) := by decide +kernel
theorem dX7_count_60 : decode cX7_count 60 = .ok (.getfield 21, 3) := by decide +kernel
theorem dX7_count_63 : decode cX7_count 63 = .ok (.getfield 74, 3) := by decide +kernel
theorem dX7_count_66 : decode cX7_count 66 = .ok (.ireturn, 1) := by decide +kernel
theorem dX7_count_67 : decode cX7_count 67 = .ok (.aload_n 0, 1) := by decide +kernel
theorem dX7_count_68 : decode cX7_count 68 = .ok (.getfield 15, 3) := by decide +kernel
theorem dX7_count_71 : decode cX7_count 71 = .ok (.getfield 21, 3) := by decide +kernel
theorem dX7_count_74 : decode cX7_count 74 = .ok (.getfield 84, 3) := by decide +kernel
theorem dX7_count_77 : decode cX7_count 77 = .ok (.ireturn, 1) := by decide +kernel
theorem dX7_count_78 : decode cX7_count 78 = .ok (.aload_n 0, 1) := by decide +kernel
theorem dX7_count_79 : decode cX7_count 79 = .ok (.getfield 15, 3) := by decide +kernel
theorem dX7_count_82 : decode cX7_count 82 = .ok (.getfield 21, 3) := by decide +kernel
theorem dX7_count_85 : decode cX7_count 85 = .ok (.getfield 87, 3) := by decide +kernel
theorem dX7_count_88 : decode cX7_count 88 = .ok (.ireturn, 1) := by decide +kernel
theorem dX7_count_89 : decode cX7_count 89 = .ok (.aload_n 0, 1) := by decide +kernel
theorem dX7_count_90 : decode cX7_count 90 = .ok (.getfield 15, 3) := by decide +kernel
theorem dX7_count_93 : decode cX7_count 93 = .ok (.getfield 21, 3) := by decide +kernel
theorem dX7_count_96 : decode cX7_count 96 = .ok (.getfield 90, 3) := by decide +kernel
theorem dX7_count_99 : decode cX7_count 99 = .ok (.ireturn, 1) := by decide +kernel
theorem dX7_count_100 : decode cX7_count 100 = .ok (.aload_n 0, 1) := by decide +kernel
theorem dX7_count_101 : decode cX7_count 101 = .ok (.getfield 15, 3) := by decide +kernel
theorem dX7_count_104 : decode cX7_count 104 = .ok (.getfield 93, 3) := by decide +kernel
theorem dX7_count_107 : decode cX7_count 107 = .ok (.getfield 97, 3) := by decide +kernel
theorem dX7_count_110 : decode cX7_count 110 = .ok (.getfield 103, 3) := by decide +kernel
theorem dX7_count_113 : decode cX7_count 113 = .ok (.ireturn, 1) := by decide +kernel
theorem dX7_count_114 : decode cX7_count 114 = .ok (.aload_n 0, 1) := by decide +kernel
theorem dX7_count_115 : decode cX7_count 115 = .ok (.getfield 15, 3) := by decide +kernel
theorem dX7_count_118 : decode cX7_count 118 = .ok (.getfield 21, 3) := by decide +kernel
theorem dX7_count_121 : decode cX7_count 121 = .ok (.getfield 108, 3) := by decide +kernel
theorem dX7_count_124 : decode cX7_count 124 = .ok (.ireturn, 1) := by decide +kernel
theorem dX7_count_125 : decode cX7_count 125 = .ok (.aload_n 0, 1) := by decide +kernel
theorem dX7_count_126 : decode cX7_count 126 = .ok (.getfield 15, 3) := by decide +kernel
theorem dX7_count_129 : decode cX7_count 129 = .ok (.getfield 93, 3) := by decide +kernel
theorem dX7_count_132 : decode cX7_count 132 = .ok (.getfield 111, 3) := by decide +kernel
theorem dX7_count_135 : decode cX7_count 135 = .ok (.getfield 115, 3) := by decide +kernel
theorem dX7_count_138 : decode cX7_count 138 = .ok (.ireturn, 1) := by decide +kernel
theorem dX7_count_139 : decode cX7_count 139 = .ok (.aload_n 0, 1) := by decide +kernel
theorem dX7_count_140 : decode cX7_count 140 = .ok (.getfield 15, 3) := by decide +kernel
theorem dX7_count_143 : decode cX7_count 143 = .ok (.invokevirtual 118, 3) := by decide +kernel
theorem dX7_count_146 : decode cX7_count 146 = .ok (.ireturn, 1) := by decide +kernel
theorem dX7_count_147 : decode cX7_count 147 = .ok (.aload_n 0, 1) := by decide +kernel
theorem dX7_count_148 : decode cX7_count 148 = .ok (.getfield 38, 3) := by decide +kernel
theorem dX7_count_151 : decode cX7_count 151 = .ok (.getfield 122, 3) := by decide +kernel
theorem dX7_count_154 : decode cX7_count 154 = .ok (.ireturn, 1) := by decide +kernel
theorem dX7_pack_0 : decode cX7_pack 0 = .ok (.iload_n 1, 1) := by decide +kernel
theorem dX7_pack_1 : decode cX7_pack 1 = .ok (.aload_n 0, 1) := by decide +kernel
theorem dX7_pack_2 : decode cX7_pack 2 = .ok (.getfield 15, 3) := by decide +kernel
theorem dX7_pack_5 : decode cX7_pack 5 = .ok (.getfield 21, 3) := by decide +kernel
theorem dX7_pack_8 : decode cX7_pack 8 = .ok (.getfield 74, 3) := by decide +kernel
theorem dX7_pack_11 : decode cX7_pack 11 = .ok (.invokestatic 123, 3) := by decide +kernel
theorem dX7_pack_14 : decode cX7_pack 14 = .ok (.iload_n 2, 1) := by decide +kernel
theorem dX7_pack_15 : decode cX7_pack 15 = .ok (.iconst 0, 1) := by decide +kernel
theorem dX7_pack_16 : decode cX7_pack 16 = .ok (.bipush 8, 2) := by decide +kernel
theorem dX7_pack_18 : decode cX7_pack 18 = .ok (.invokestatic 80, 3) := by decide +kernel
theorem dX7_pack_21 : decode cX7_pack 21 = .ok (.iload_n 2, 1) := by decide +kernel
theorem dX7_pack_22 : decode cX7_pack 22 = .ok (.tableswitch 152 0 7 #[46, 59, 68, 81, 94, 107, 120, 136], 46) := by decide +kernel
theorem dX7_pack_68 : decode cX7_pack 68 = .ok (.aload_n 0, 1) := by decide +kernel
theorem dX7_pack_69 : decode cX7_pack 69 = .ok (.getfield 15, 3) := by decide +kernel
theorem dX7_pack_72 : decode cX7_pack 72 = .ok (.getfield 21, 3) := by decide +kernel
theorem dX7_pack_75 : decode cX7_pack 75 = .ok (.getfield 127, 3) := by decide +kernel
theorem dX7_pack_78 : decode cX7_pack 78 = .ok (.iload_n 1, 1) := by decide +kernel
theorem dX7_pack_79 : decode cX7_pack 79 = .ok (.iaload, 1) := by decide +kernel
theorem dX7_pack_80 : decode cX7_pack 80 = .ok (.ireturn, 1) := by decide +kernel
theorem dX7_pack_81 : decode cX7_pack 81 = .ok (.aload_n 0, 1) := by decide +kernel
theorem dX7_pack_82 : decode cX7_pack 82 = .ok (.getfield 15, 3) := by decide +kernel
theorem dX7_pack_85 : decode cX7_pack 85 = .ok (.iload_n 1, 1) := by decide +kernel
theorem dX7_pack_86 : decode cX7_pack 86 = .ok (.invokevirtual 131, 3) := by decide +kernel
theorem dX7_pack_89 : decode cX7_pack 89 = .ok (.ireturn, 1) := by decide +kernel
theorem dX7_pack_90 : decode cX7_pack 90 = .ok (.aload_n 0, 1) := by decide +kernel
theorem dX7_pack_91 : decode cX7_pack 91 = .ok (.getfield 15, 3) := by decide +kernel
theorem dX7_pack_94 : decode cX7_pack 94 = .ok (.getfield 93, 3) := by decide +kernel
theorem dX7_pack_97 : decode cX7_pack 97 = .ok (.getfield 135, 3) := by decide +kernel
theorem dX7_pack_100 : decode cX7_pack 100 = .ok (.iload_n 1, 1) := by decide +kernel
theorem dX7_pack_101 : decode cX7_pack 101 = .ok (.iaload, 1) := by decide +kernel
theorem dX7_pack_102 : decode cX7_pack 102 = .ok (.ireturn, 1) := by decide +kernel
theorem dX7_pack_103 : decode cX7_pack 103 = .ok (.aload_n 0, 1) := by decide +kernel
theorem dX7_pack_104 : decode cX7_pack 104 = .ok (.getfield 15, 3) := by decide +kernel
theorem dX7_pack_107 : decode cX7_pack 107 = .ok (.getfield 93, 3) := by decide +kernel
theorem dX7_pack_110 : decode cX7_pack 110 = .ok (.getfield 138, 3) := by decide +kernel
theorem dX7_pack_113 : decode cX7_pack 113 = .ok (.iload_n 1, 1) := by decide +kernel
theorem dX7_pack_114 : decode cX7_pack 114 = .ok (.iaload, 1) := by decide +kernel
theorem dX7_pack_115 : decode cX7_pack 115 = .ok (.ireturn, 1) := by decide +kernel
theorem dX7_pack_116 : decode cX7_pack 116 = .ok (.aload_n 0, 1) := by decide +kernel
theorem dX7_pack_117 : decode cX7_pack 117 = .ok (.getfield 15, 3) := by decide +kernel
theorem dX7_pack_120 : decode cX7_pack 120 = .ok (.getfield 21, 3) := by decide +kernel
theorem dX7_pack_123 : decode cX7_pack 123 = .ok (.getfield 141, 3) := by decide +kernel
theorem dX7_pack_126 : decode cX7_pack 126 = .ok (.iload_n 1, 1) := by decide +kernel
theorem dX7_pack_127 : decode cX7_pack 127 = .ok (.iaload, 1) := by decide +kernel
theorem dX7_pack_128 : decode cX7_pack 128 = .ok (.ireturn, 1) := by decide +kernel
theorem dX7_pack_129 : decode cX7_pack 129 = .ok (.aload_n 0, 1) := by decide +kernel
theorem dX7_pack_130 : decode cX7_pack 130 = .ok (.getfield 15, 3) := by decide +kernel
theorem dX7_pack_133 : decode cX7_pack 133 = .ok (.getfield 93, 3) := by decide +kernel
theorem dX7_pack_136 : decode cX7_pack 136 = .ok (.getfield 144, 3) := by decide +kernel
theorem dX7_pack_139 : decode cX7_pack 139 = .ok (.iload_n 1, 1) := by decide +kernel
theorem dX7_pack_140 : decode cX7_pack 140 = .ok (.iaload, 1) := by decide +kernel
theorem dX7_pack_141 : decode cX7_pack 141 = .ok (.ireturn, 1) := by decide +kernel
theorem dX7_pack_142 : decode cX7_pack 142 = .ok (.aload_n 0, 1) := by decide +kernel
theorem dX7_pack_143 : decode cX7_pack 143 = .ok (.getfield 15, 3) := by decide +kernel
theorem dX7_pack_146 : decode cX7_pack 146 = .ok (.getfield 93, 3) := by decide +kernel
theorem dX7_pack_149 : decode cX7_pack 149 = .ok (.getfield 97, 3) := by decide +kernel
theorem dX7_pack_152 : decode cX7_pack 152 = .ok (.iload_n 1, 1) := by decide +kernel
theorem dX7_pack_153 : decode cX7_pack 153 = .ok (.iconst 1, 1) := by decide +kernel
theorem dX7_pack_154 : decode cX7_pack 154 = .ok (.invokevirtual 147, 3) := by decide +kernel
theorem dX7_pack_157 : decode cX7_pack 157 = .ok (.ireturn, 1) := by decide +kernel
theorem dX7_pack_158 : decode cX7_pack 158 = .ok (.aload_n 0, 1) := by decide +kernel
theorem dX7_pack_159 : decode cX7_pack 159 = .ok (.getfield 15, 3) := by decide +kernel
theorem dX7_pack_162 : decode cX7_pack 162 = .ok (.getfield 93, 3) := by decide +kernel
theorem dX7_pack_165 : decode cX7_pack 165 = .ok (.getfield 97, 3) := by decide +kernel
theorem dX7_pack_168 : decode cX7_pack 168 = .ok (.iload_n 1, 1) := by decide +kernel
theorem dX7_pack_169 : decode cX7_pack 169 = .ok (.iconst 2, 1) := by decide +kernel
theorem dX7_pack_170 : decode cX7_pack 170 = .ok (.invokevirtual 147, 3) := by decide +kernel
theorem dX7_pack_173 : decode cX7_pack 173 = .ok (.ireturn, 1) := by decide +kernel
theorem dX7_pack_174 : decode cX7_pack 174 = .ok (.aload_n 0, 1) := by decide +kernel
theorem dX7_pack_175 : decode cX7_pack 175 = .ok (.getfield 15, 3) := by decide +kernel
theorem dX7_pack_178 : decode cX7_pack 178 = .ok (.iload_n 1, 1) := by decide +kernel
theorem dX7_pack_179 : decode cX7_pack 179 = .ok (.invokevirtual 151, 3) := by decide +kernel
theorem dX7_pack_182 : decode cX7_pack 182 = .ok (.ireturn, 1) := by decide +kernel
theorem dX7_cable_0 : decode cX7_cable 0 = .ok (.iload_n 1, 1) := by decide +kernel
theorem dX7_cable_1 : decode cX7_cable 1 = .ok (.aload_n 0, 1) := by decide +kernel
theorem dX7_cable_2 : decode cX7_cable 2 = .ok (.getfield 15, 3) := by decide +kernel
theorem dX7_cable_5 : decode cX7_cable 5 = .ok (.getfield 21, 3) := by decide +kernel
theorem dX7_cable_8 : decode cX7_cable 8 = .ok (.getfield 74, 3) := by decide +kernel
theorem dX7_cable_11 : decode cX7_cable 11 = .ok (.invokestatic 123, 3) := by decide +kernel
theorem dX7_cable_14 : decode cX7_cable 14 = .ok (.iload_n 2, 1) := by decide +kernel
theorem dX7_cable_15 : decode cX7_cable 15 = .ok (.aload_n 0, 1) := by decide +kernel
theorem dX7_cable_16 : decode cX7_cable 16 = .ok (.getfield 15, 3) := by decide +kernel
theorem dX7_cable_19 : decode cX7_cable 19 = .ok (.getfield 21, 3) := by decide +kernel
theorem dX7_cable_22 : decode cX7_cable 22 = .ok (.getfield 74, 3) := by decide +kernel
theorem dX7_cable_25 : decode cX7_cable 25 = .ok (.invokestatic 123, 3) := by decide +kernel
theorem dX7_cable_28 : decode cX7_cable 28 = .ok (.iload_n 3, 1) := by decide +kernel
theorem dX7_cable_29 : decode cX7_cable 29 = .ok (.iconst 0, 1) := by decide +kernel
theorem dX7_cable_30 : decode cX7_cable 30 = .ok (.iconst 3, 1) := by decide +kernel
theorem dX7_cable_31 : decode cX7_cable 31 = .ok (.invokestatic 80, 3) := by decide +kernel
theorem dX7_cable_34 : decode cX7_cable 34 = .ok (.aload_n 0, 1) := by decide +kernel
theorem dX7_cable_35 : decode cX7_cable 35 = .ok (.getfield 15, 3) := by decide +kernel
theorem dX7_cable_38 : decode cX7_cable 38 = .ok (.getfield 21, 3) := by decide +kernel
theorem dX7_cable_41 : decode cX7_cable 41 = .ok (.iload_n 1, 1) := by decide +kernel
theorem dX7_cable_42 : decode cX7_cable 42 = .ok (.iload_n 2, 1) := by decide +kernel
theorem dX7_cable_43 : decode cX7_cable 43 = .ok (.invokevirtual 154, 3) := by decide +kernel
theorem dX7_cable_46 : decode cX7_cable 46 = .ok (.istore 4, 2) := by decide +kernel
theorem dX7_cable_48 : decode cX7_cable 48 = .ok (.iload 4, 2) := by decide +kernel
theorem dX7_cable_50 : decode cX7_cable 50 = .ok (.iconst (-1), 1) := by decide +kernel
theorem dX7_cable_51 : decode cX7_cable 51 = .ok (.if_icmp .ne 5, 3) := by decide +kernel
theorem dX7_cable_54 : decode cX7_cable 54 = .ok (.iconst (-1), 1) := by decide +kernel
theorem dX7_cable_55 : decode cX7_cable 55 = .ok (.ireturn, 1) := by decide +kernel
theorem dX7_cable_56 : decode cX7_cable 56 = .ok (.iload_n 3, 1) := by decide +kernel
theorem dX7_cable_57 : decode cX7_cable 57 = .ok (.tableswitch 69 0 2 #[27, 41, 55], 27) := by decide +kernel
theorem dX7_cable_84 : decode cX7_cable 84 = .ok (.aload_n 0, 1) := by decide +kernel
theorem dX7_cable_85 : decode cX7_cable 85 = .ok (.getfield 15, 3) := by decide +kernel
theorem dX7_cable_88 : decode cX7_cable 88 = .ok (.getfield 93, 3) := by decide +kernel
theorem dX7_cable_91 : decode cX7_cable 91 = .ok (.getfield 157, 3) := by decide +kernel
theorem dX7_cable_94 : decode cX7_cable 94 = .ok (.iload 4, 2) := by decide +kernel
theorem dX7_cable_96 : decode cX7_cable 96 = .ok (.iaload, 1) := by decide +kernel
theorem dX7_cable_97 : decode cX7_cable 97 = .ok (.ireturn, 1) := by decide +kernel
theorem dX7_cable_98 : decode cX7_cable 98 = .ok (.aload_n 0, 1) := by decide +kernel
theorem dX7_cable_99 : decode cX7_cable 99 = .ok (.getfield 15, 3) := by decide +kernel
theorem dX7_cable_102 : decode cX7_cable 102 = .ok (.getfield 93, 3) := by decide +kernel
theorem dX7_cable_105 : decode cX7_cable 105 = .ok (.getfield 160, 3) := by decide +kernel
theorem dX7_cable_108 : decode cX7_cable 108 = .ok (.iload 4, 2) := by decide +kernel
theorem dX7_cable_110 : decode cX7_cable 110 = .ok (.iaload, 1) := by decide +kernel
theorem dX7_cable_111 : decode cX7_cable 111 = .ok (.ireturn, 1) := by decide +kernel
theorem dX7_cable_112 : decode cX7_cable 112 = .ok (.aload_n 0, 1) := by decide +kernel
theorem dX7_cable_113 : decode cX7_cable 113 = .ok (.getfield 15, 3) := by decide +kernel
theorem dX7_cable_116 : decode cX7_cable 116 = .ok (.getfield 93, 3) := by decide +kernel
theorem dX7_cable_119 : decode cX7_cable 119 = .ok (.getfield 163, 3) := by decide +kernel
theorem dX7_cable_122 : decode cX7_cable 122 = .ok (.iload 4, 2) := by decide +kernel
theorem dX7_cable_124 : decode cX7_cable 124 = .ok (.iaload, 1) := by decide +kernel
theorem dX7_cable_125 : decode cX7_cable 125 = .ok (.ireturn, 1) := by decide +kernel
theorem dX7_cable_126 : decode cX7_cable 126 = .ok (.aload_n 0, 1) := by decide +kernel
theorem dX7_cable_127 : decode cX7_cable 127 = .ok (.getfield 15, 3) := by decide +kernel
theorem dX7_cable_130 : decode cX7_cable 130 = .ok (.getfield 93, 3) := by decide +kernel
theorem dX7_cable_133 : decode cX7_cable 133 = .ok (.getfield 166, 3) := by decide +kernel
theorem dX7_cable_136 : decode cX7_cable 136 = .ok (.iload 4, 2) := by decide +kernel
theorem dX7_cable_138 : decode cX7_cable 138 = .ok (.iaload, 1) := by decide +kernel
theorem dX7_cable_139 : decode cX7_cable 139 = .ok (.ireturn, 1) := by decide +kernel
theorem dX7_gainAt_0 : decode cX7_gainAt 0 = .ok (.iload_n 1, 1) := by decide +kernel
theorem dX7_gainAt_1 : decode cX7_gainAt 1 = .ok (.aload_n 0, 1) := by decide +kernel
theorem dX7_gainAt_2 : decode cX7_gainAt 2 = .ok (.getfield 15, 3) := by decide +kernel
theorem dX7_gainAt_5 : decode cX7_gainAt 5 = .ok (.getfield 21, 3) := by decide +kernel
theorem dX7_gainAt_8 : decode cX7_gainAt 8 = .ok (.getfield 74, 3) := by decide +kernel
theorem dX7_gainAt_11 : decode cX7_gainAt 11 = .ok (.invokestatic 123, 3) := by decide +kernel
theorem dX7_gainAt_14 : decode cX7_gainAt 14 = .ok (.iload_n 2, 1) := by decide +kernel
theorem dX7_gainAt_15 : decode cX7_gainAt 15 = .ok (.iconst 0, 1) := by decide +kernel
theorem dX7_gainAt_16 : decode cX7_gainAt 16 = .ok (.bipush 23, 2) := by decide +kernel
theorem dX7_gainAt_18 : decode cX7_gainAt 18 = .ok (.invokestatic 80, 3) := by decide +kernel
theorem dX7_gainAt_21 : decode cX7_gainAt 21 = .ok (.aload_n 0, 1) := by decide +kernel
theorem dX7_gainAt_22 : decode cX7_gainAt 22 = .ok (.getfield 15, 3) := by decide +kernel
theorem dX7_gainAt_25 : decode cX7_gainAt 25 = .ok (.getfield 21, 3) := by decide +kernel
theorem dX7_gainAt_28 : decode cX7_gainAt 28 = .ok (.iload_n 1, 1) := by decide +kernel
theorem dX7_gainAt_29 : decode cX7_gainAt 29 = .ok (.iload_n 2, 1) := by decide +kernel
theorem dX7_gainAt_30 : decode cX7_gainAt 30 = .ok (.invokevirtual 169, 3) := by decide +kernel
theorem dX7_gainAt_33 : decode cX7_gainAt 33 = .ok (.ireturn, 1) := by decide +kernel
theorem dX7_trip_0 : decode cX7_trip 0 = .ok (.aload_n 0, 1) := by decide +kernel
theorem dX7_trip_1 : decode cX7_trip 1 = .ok (.getfield 15, 3) := by decide +kernel
theorem dX7_trip_4 : decode cX7_trip 4 = .ok (.getfield 93, 3) := by decide +kernel
theorem dX7_trip_7 : decode cX7_trip 7 = .ok (.getfield 97, 3) := by decide +kernel
theorem dX7_trip_10 : decode cX7_trip 10 = .ok (.astore_n 3, 1) := by decide +kernel
theorem dX7_trip_11 : decode cX7_trip 11 = .ok (.iload_n 1, 1) := by decide +kernel
theorem dX7_trip_12 : decode cX7_trip 12 = .ok (.aload_n 3, 1) := by decide +kernel
theorem dX7_trip_13 : decode cX7_trip 13 = .ok (.getfield 103, 3) := by decide +kernel
theorem dX7_trip_16 : decode cX7_trip 16 = .ok (.invokestatic 123, 3) := by decide +kernel
theorem dX7_trip_19 : decode cX7_trip 19 = .ok (.iload_n 2, 1) := by decide +kernel
theorem dX7_trip_20 : decode cX7_trip 20 = .ok (.iconst 0, 1) := by decide +kernel
theorem dX7_trip_21 : decode cX7_trip 21 = .ok (.iconst 3, 1) := by decide +kernel
theorem dX7_trip_22 : decode cX7_trip 22 = .ok (.invokestatic 80, 3) := by decide +kernel
theorem dX7_trip_25 : decode cX7_trip 25 = .ok (.iload_n 2, 1) := by decide +kernel
theorem dX7_trip_26 : decode cX7_trip 26 = .ok (.tableswitch 47 0 2 #[26, 33, 40], 26) := by decide +kernel
theorem dX7_trip_52 : decode cX7_trip 52 = .ok (.aload_n 3, 1) := by decide +kernel
theorem dX7_trip_53 : decode cX7_trip 53 = .ok (.getfield 172, 3) := by decide +kernel
theorem dX7_trip_56 : decode cX7_trip 56 = .ok (.iload_n 1, 1) := by decide +kernel
theorem dX7_trip_57 : decode cX7_trip 57 = .ok (.iaload, 1) := by decide +kernel
theorem dX7_trip_58 : decode cX7_trip 58 = .ok (.ireturn, 1) := by decide +kernel
theorem dX7_trip_59 : decode cX7_trip 59 = .ok (.aload_n 3, 1) := by decide +kernel
theorem dX7_trip_60 : decode cX7_trip 60 = .ok (.getfield 175, 3) := by decide +kernel
theorem dX7_trip_63 : decode cX7_trip 63 = .ok (.iload_n 1, 1) := by decide +kernel
theorem dX7_trip_64 : decode cX7_trip 64 = .ok (.iaload, 1) := by decide +kernel
theorem dX7_trip_65 : decode cX7_trip 65 = .ok (.ireturn, 1) := by decide +kernel
theorem dX7_trip_66 : decode cX7_trip 66 = .ok (.aload_n 3, 1) := by decide +kernel
theorem dX7_trip_67 : decode cX7_trip 67 = .ok (.getfield 178, 3) := by decide +kernel
theorem dX7_trip_70 : decode cX7_trip 70 = .ok (.iload_n 1, 1) := by decide +kernel
theorem dX7_trip_71 : decode cX7_trip 71 = .ok (.iaload, 1) := by decide +kernel
theorem dX7_trip_72 : decode cX7_trip 72 = .ok (.ireturn, 1) := by decide +kernel
theorem dX7_trip_73 : decode cX7_trip 73 = .ok (.aload_n 3, 1) := by decide +kernel
theorem dX7_trip_74 : decode cX7_trip 74 = .ok (.getfield 181, 3) := by decide +kernel
theorem dX7_trip_77 : decode cX7_trip 77 = .ok (.iload_n 1, 1) := by decide +kernel
theorem dX7_trip_78 : decode cX7_trip 78 = .ok (.iaload, 1) := by decide +kernel
theorem dX7_trip_79 : decode cX7_trip 79 = .ok (.ireturn, 1) := by decide +kernel
theorem dX7_contract_0 : decode cX7_contract 0 = .ok (.iload_n 1, 1) := by decide +kernel
theorem dX7_contract_1 : decode cX7_contract 1 = .ok (.aload_n 0, 1) := by decide +kernel
theorem dX7_contract_2 : decode cX7_contract 2 = .ok (.getfield 15, 3) := by decide +kernel
theorem dX7_contract_5 : decode cX7_contract 5 = .ok (.getfield 21, 3) := by decide +kernel
theorem dX7_contract_8 : decode cX7_contract 8 = .ok (.getfield 108, 3) := by decide +kernel
theorem dX7_contract_11 : decode cX7_contract 11 = .ok (.invokestatic 123, 3) := by decide +kernel
theorem dX7_contract_14 : decode cX7_contract 14 = .ok (.iload_n 2, 1) := by decide +kernel
theorem dX7_contract_15 : decode cX7_contract 15 = .ok (.iconst 0, 1) := by decide +kernel
theorem dX7_contract_16 : decode cX7_contract 16 = .ok (.bipush 9, 2) := by decide +kernel
theorem dX7_contract_18 : decode cX7_contract 18 = .ok (.invokestatic 80, 3) := by decide +kernel
theorem dX7_contract_21 : decode cX7_contract 21 = .ok (.iload_n 2, 1) := by decide +kernel
theorem dX7_contract_22 : decode cX7_contract 22 = .ok (.tableswitch 167 0 8 #[50, 63, 76, 89, 102, 115, 124, 139, 152], 50) := by decide +kernel
theorem dX7_contract_72 : decode cX7_contract 72 = .ok (.aload_n 0, 1) := by decide +kernel
theorem dX7_contract_73 : decode cX7_contract 73 = .ok (.getfield 15, 3) := by decide +kernel
theorem dX7_contract_76 : decode cX7_contract 76 = .ok (.getfield 21, 3) := by decide +kernel
theorem dX7_contract_79 : decode cX7_contract 79 = .ok (.getfield 183, 3) := by decide +kernel
theorem dX7_contract_82 : decode cX7_contract 82 = .ok (.iload_n 1, 1) := by decide +kernel
theorem dX7_contract_83 : decode cX7_contract 83 = .ok (.iaload, 1) := by decide +kernel
theorem dX7_contract_84 : decode cX7_contract 84 = .ok (.ireturn, 1) := by decide +kernel
theorem dX7_contract_85 : decode cX7_contract 85 = .ok (.aload_n 0, 1) := by decide +kernel
theorem dX7_contract_86 : decode cX7_contract 86 = .ok (.getfield 15, 3) := by decide +kernel
theorem dX7_contract_89 : decode cX7_contract 89 = .ok (.getfield 21, 3) := by decide +kernel
theorem dX7_contract_92 : decode cX7_contract 92 = .ok (.getfield 186, 3) := by decide +kernel
theorem dX7_contract_95 : decode cX7_contract 95 = .ok (.iload_n 1, 1) := by decide +kernel
theorem dX7_contract_96 : decode cX7_contract 96 = .ok (.iaload, 1) := by decide +kernel
theorem dX7_contract_97 : decode cX7_contract 97 = .ok (.ireturn, 1) := by decide +kernel
theorem dX7_contract_98 : decode cX7_contract 98 = .ok (.aload_n 0, 1) := by decide +kernel
theorem dX7_contract_99 : decode cX7_contract 99 = .ok (.getfield 15, 3) := by decide +kernel
theorem dX7_contract_102 : decode cX7_contract 102 = .ok (.getfield 21, 3) := by decide +kernel
theorem dX7_contract_105 : decode cX7_contract 105 = .ok (.getfield 189, 3) := by decide +kernel
theorem dX7_contract_108 : decode cX7_contract 108 = .ok (.iload_n 1, 1) := by decide +kernel
theorem dX7_contract_109 : decode cX7_contract 109 = .ok (.iaload, 1) := by decide +kernel
theorem dX7_contract_110 : decode cX7_contract 110 = .ok (.ireturn, 1) := by decide +kernel
theorem dX7_contract_111 : decode cX7_contract 111 = .ok (.aload_n 0, 1) := by decide +kernel
theorem dX7_contract_112 : decode cX7_contract 112 = .ok (.getfield 15, 3) := by decide +kernel
theorem dX7_contract_115 : decode cX7_contract 115 = .ok (.getfield 21, 3) := by decide +kernel
theorem dX7_contract_118 : decode cX7_contract 118 = .ok (.getfield 192, 3) := by decide +kernel
theorem dX7_contract_121 : decode cX7_contract 121 = .ok (.iload_n 1, 1) := by decide +kernel
theorem dX7_contract_122 : decode cX7_contract 122 = .ok (.iaload, 1) := by decide +kernel
theorem dX7_contract_123 : decode cX7_contract 123 = .ok (.ireturn, 1) := by decide +kernel
theorem dX7_contract_124 : decode cX7_contract 124 = .ok (.aload_n 0, 1) := by decide +kernel
theorem dX7_contract_125 : decode cX7_contract 125 = .ok (.getfield 15, 3) := by decide +kernel
theorem dX7_contract_128 : decode cX7_contract 128 = .ok (.getfield 21, 3) := by decide +kernel
theorem dX7_contract_131 : decode cX7_contract 131 = .ok (.getfield 195, 3) := by decide +kernel
theorem dX7_contract_134 : decode cX7_contract 134 = .ok (.iload_n 1, 1) := by decide +kernel
theorem dX7_contract_135 : decode cX7_contract 135 = .ok (.iaload, 1) := by decide +kernel
theorem dX7_contract_136 : decode cX7_contract 136 = .ok (.ireturn, 1) := by decide +kernel
theorem dX7_contract_137 : decode cX7_contract 137 = .ok (.aload_n 0, 1) := by decide +kernel
theorem dX7_contract_138 : decode cX7_contract 138 = .ok (.getfield 15, 3) := by decide +kernel
theorem dX7_contract_141 : decode cX7_contract 141 = .ok (.iload_n 1, 1) := by decide +kernel
theorem dX7_contract_142 : decode cX7_contract 142 = .ok (.invokevirtual 198, 3) := by decide +kernel
theorem dX7_contract_145 : decode cX7_contract 145 = .ok (.ireturn, 1) := by decide +kernel
theorem dX7_contract_146 : decode cX7_contract 146 = .ok (.aload_n 0, 1) := by decide +kernel
theorem dX7_contract_147 : decode cX7_contract 147 = .ok (.getfield 15, 3) := by decide +kernel
theorem dX7_contract_150 : decode cX7_contract 150 = .ok (.getfield 93, 3) := by decide +kernel
theorem dX7_contract_153 : decode cX7_contract 153 = .ok (.getfield 111, 3) := by decide +kernel
theorem dX7_contract_156 : decode cX7_contract 156 = .ok (.iload_n 1, 1) := by decide +kernel
theorem dX7_contract_157 : decode cX7_contract 157 = .ok (.invokevirtual 201, 3) := by decide +kernel
theorem dX7_contract_160 : decode cX7_contract 160 = .ok (.ireturn, 1) := by decide +kernel
theorem dX7_contract_161 : decode cX7_contract 161 = .ok (.aload_n 0, 1) := by decide +kernel
theorem dX7_contract_162 : decode cX7_contract 162 = .ok (.getfield 15, 3) := by decide +kernel
theorem dX7_contract_165 : decode cX7_contract 165 = .ok (.getfield 93, 3) := by decide +kernel
theorem dX7_contract_168 : decode cX7_contract 168 = .ok (.getfield 204, 3) := by decide +kernel
theorem dX7_contract_171 : decode cX7_contract 171 = .ok (.iload_n 1, 1) := by decide +kernel
theorem dX7_contract_172 : decode cX7_contract 172 = .ok (.iaload, 1) := by decide +kernel
theorem dX7_contract_173 : decode cX7_contract 173 = .ok (.ireturn, 1) := by decide +kernel
theorem dX7_contract_174 : decode cX7_contract 174 = .ok (.aload_n 0, 1) := by decide +kernel
theorem dX7_contract_175 : decode cX7_contract 175 = .ok (.getfield 15, 3) := by decide +kernel
theorem dX7_contract_178 : decode cX7_contract 178 = .ok (.getfield 93, 3) := by decide +kernel
theorem dX7_contract_181 : decode cX7_contract 181 = .ok (.getfield 111, 3) := by decide +kernel
theorem dX7_contract_184 : decode cX7_contract 184 = .ok (.iload_n 1, 1) := by decide +kernel
theorem dX7_contract_185 : decode cX7_contract 185 = .ok (.invokevirtual 207, 3) := by decide +kernel
theorem dX7_contract_188 : decode cX7_contract 188 = .ok (.ireturn, 1) := by decide +kernel
theorem dX7_contract_189 : decode cX7_contract 189 = .ok (.aload_n 0, 1) := by decide +kernel
theorem dX7_contract_190 : decode cX7_contract 190 = .ok (.getfield 15, 3) := by decide +kernel
theorem dX7_contract_193 : decode cX7_contract 193 = .ok (.getfield 93, 3) := by decide +kernel
theorem dX7_contract_196 : decode cX7_contract 196 = .ok (.getfield 111, 3) := by decide +kernel
theorem dX7_contract_199 : decode cX7_contract 199 = .ok (.iload_n 1, 1) := by decide +kernel
theorem dX7_contract_200 : decode cX7_contract 200 = .ok (.invokevirtual 210, 3) := by decide +kernel
theorem dX7_contract_203 : decode cX7_contract 203 = .ok (.ireturn, 1) := by decide +kernel
theorem dX7_loan_0 : decode cX7_loan 0 = .ok (.aload_n 0, 1) := by decide +kernel
theorem dX7_loan_1 : decode cX7_loan 1 = .ok (.getfield 15, 3) := by decide +kernel
theorem dX7_loan_4 : decode cX7_loan 4 = .ok (.getfield 93, 3) := by decide +kernel
theorem dX7_loan_7 : decode cX7_loan 7 = .ok (.getfield 111, 3) := by decide +kernel
theorem dX7_loan_10 : decode cX7_loan 10 = .ok (.astore_n 3, 1) := by decide +kernel
theorem dX7_loan_11 : decode cX7_loan 11 = .ok (.iload_n 1, 1) := by decide +kernel
theorem dX7_loan_12 : decode cX7_loan 12 = .ok (.aload_n 3, 1) := by decide +kernel
theorem dX7_loan_13 : decode cX7_loan 13 = .ok (.getfield 115, 3) := by decide +kernel
theorem dX7_loan_16 : decode cX7_loan 16 = .ok (.invokestatic 123, 3) := by decide +kernel
theorem dX7_loan_19 : decode cX7_loan 19 = .ok (.iload_n 2, 1) := by decide +kernel
theorem dX7_loan_20 : decode cX7_loan 20 = .ok (.iconst 0, 1) := by decide +kernel
theorem dX7_loan_21 : decode cX7_loan 21 = .ok (.bipush 7, 2) := by decide +kernel
theorem dX7_loan_23 : decode cX7_loan 23 = .ok (.invokestatic 80, 3) := by decide +kernel
theorem dX7_loan_26 : decode cX7_loan 26 = .ok (.iload_n 2, 1) := by decide +kernel
theorem dX7_loan_27 : decode cX7_loan 27 = .ok (.tableswitch 92 0 6 #[41, 48, 55, 62, 69, 76, 85], 41) := by decide +kernel
theorem dX7_loan_68 : decode cX7_loan 68 = .ok (.aload_n 3, 1) := by decide +kernel
theorem dX7_loan_69 : decode cX7_loan 69 = .ok (.getfield 213, 3) := by decide +kernel
theorem dX7_loan_72 : decode cX7_loan 72 = .ok (.iload_n 1, 1) := by decide +kernel
theorem dX7_loan_73 : decode cX7_loan 73 = .ok (.iaload, 1) := by decide +kernel
theorem dX7_loan_74 : decode cX7_loan 74 = .ok (.ireturn, 1) := by decide +kernel
theorem dX7_loan_75 : decode cX7_loan 75 = .ok (.aload_n 3, 1) := by decide +kernel
theorem dX7_loan_76 : decode cX7_loan 76 = .ok (.getfield 216, 3) := by decide +kernel
theorem dX7_loan_79 : decode cX7_loan 79 = .ok (.iload_n 1, 1) := by decide +kernel
theorem dX7_loan_80 : decode cX7_loan 80 = .ok (.iaload, 1) := by decide +kernel
theorem dX7_loan_81 : decode cX7_loan 81 = .ok (.ireturn, 1) := by decide +kernel
theorem dX7_loan_82 : decode cX7_loan 82 = .ok (.aload_n 3, 1) := by decide +kernel
theorem dX7_loan_83 : decode cX7_loan 83 = .ok (.getfield 219, 3) := by decide +kernel
theorem dX7_loan_86 : decode cX7_loan 86 = .ok (.iload_n 1, 1) := by decide +kernel
theorem dX7_loan_87 : decode cX7_loan 87 = .ok (.iaload, 1) := by decide +kernel
theorem dX7_loan_88 : decode cX7_loan 88 = .ok (.ireturn, 1) := by decide +kernel
theorem dX7_loan_89 : decode cX7_loan 89 = .ok (.aload_n 3, 1) := by decide +kernel
theorem dX7_loan_90 : decode cX7_loan 90 = .ok (.getfield 222, 3) := by decide +kernel
theorem dX7_loan_93 : decode cX7_loan 93 = .ok (.iload_n 1, 1) := by decide +kernel
theorem dX7_loan_94 : decode cX7_loan 94 = .ok (.iaload, 1) := by decide +kernel
theorem dX7_loan_95 : decode cX7_loan 95 = .ok (.ireturn, 1) := by decide +kernel
theorem dX7_loan_96 : decode cX7_loan 96 = .ok (.aload_n 3, 1) := by decide +kernel
theorem dX7_loan_97 : decode cX7_loan 97 = .ok (.getfield 223, 3) := by decide +kernel
theorem dX7_loan_100 : decode cX7_loan 100 = .ok (.iload_n 1, 1) := by decide +kernel
theorem dX7_loan_101 : decode cX7_loan 101 = .ok (.iaload, 1) := by decide +kernel
theorem dX7_loan_102 : decode cX7_loan 102 = .ok (.ireturn, 1) := by decide +kernel
theorem dX7_loan_103 : decode cX7_loan 103 = .ok (.aload_n 0, 1) := by decide +kernel
theorem dX7_loan_104 : decode cX7_loan 104 = .ok (.getfield 15, 3) := by decide +kernel
theorem dX7_loan_107 : decode cX7_loan 107 = .ok (.iload_n 1, 1) := by decide +kernel
theorem dX7_loan_108 : decode cX7_loan 108 = .ok (.invokevirtual 226, 3) := by decide +kernel
theorem dX7_loan_111 : decode cX7_loan 111 = .ok (.ireturn, 1) := by decide +kernel
theorem dX7_loan_112 : decode cX7_loan 112 = .ok (.aload_n 3, 1) := by decide +kernel
theorem dX7_loan_113 : decode cX7_loan 113 = .ok (.getfield 229, 3) := by decide +kernel
theorem dX7_loan_116 : decode cX7_loan 116 = .ok (.iload_n 1, 1) := by decide +kernel
theorem dX7_loan_117 : decode cX7_loan 117 = .ok (.iaload, 1) := by decide +kernel
theorem dX7_loan_118 : decode cX7_loan 118 = .ok (.ireturn, 1) := by decide +kernel
theorem dX7_loan_119 : decode cX7_loan 119 = .ok (.aload_n 3, 1) := by decide +kernel
theorem dX7_loan_120 : decode cX7_loan 120 = .ok (.getfield 230, 3) := by decide +kernel
theorem dX7_loan_123 : decode cX7_loan 123 = .ok (.iload_n 1, 1) := by decide +kernel
theorem dX7_loan_124 : decode cX7_loan 124 = .ok (.iaload, 1) := by decide +kernel
theorem dX7_loan_125 : decode cX7_loan 125 = .ok (.ireturn, 1) := by decide +kernel
theorem dX7_now_0 : decode cX7_now 0 = .ok (.aload_n 0, 1) := by decide +kernel
theorem dX7_now_1 : decode cX7_now 1 = .ok (.getfield 15, 3) := by decide +kernel
theorem dX7_now_4 : decode cX7_now 4 = .ok (.getfield 93, 3) := by decide +kernel
theorem dX7_now_7 : decode cX7_now 7 = .ok (.getfield 233, 3) := by decide +kernel
theorem dX7_now_10 : decode cX7_now 10 = .ok (.ireturn, 1) := by decide +kernel
theorem dX7_total_0 : decode cX7_total 0 = .ok (.iload_n 1, 1) := by decide +kernel
theorem dX7_total_1 : decode cX7_total 1 = .ok (.iconst 0, 1) := by decide +kernel
theorem dX7_total_2 : decode cX7_total 2 = .ok (.iconst 5, 1) := by decide +kernel
theorem dX7_total_3 : decode cX7_total 3 = .ok (.invokestatic 80, 3) := by decide +kernel
theorem dX7_total_6 : decode cX7_total 6 = .ok (.iload_n 1, 1) := by decide +kernel
theorem dX7_total_7 : decode cX7_total 7 = .ok (.tableswitch 114 0 4 #[33, 44, 55, 79, 90], 33) := by decide +kernel
theorem dX7_total_40 : decode cX7_total 40 = .ok (.aload_n 0, 1) := by decide +kernel
theorem dX7_total_41 : decode cX7_total 41 = .ok (.getfield 15, 3) := by decide +kernel
theorem dX7_total_44 : decode cX7_total 44 = .ok (.getfield 93, 3) := by decide +kernel
theorem dX7_total_47 : decode cX7_total 47 = .ok (.getfield 235, 3) := by decide +kernel
theorem dX7_total_50 : decode cX7_total 50 = .ok (.lreturn, 1) := by decide +kernel
theorem dX7_total_51 : decode cX7_total 51 = .ok (.aload_n 0, 1) := by decide +kernel
theorem dX7_total_52 : decode cX7_total 52 = .ok (.getfield 15, 3) := by decide +kernel
theorem dX7_total_55 : decode cX7_total 55 = .ok (.getfield 93, 3) := by decide +kernel
theorem dX7_total_58 : decode cX7_total 58 = .ok (.getfield 239, 3) := by decide +kernel
theorem dX7_total_61 : decode cX7_total 61 = .ok (.lreturn, 1) := by decide +kernel
theorem dX7_total_62 : decode cX7_total 62 = .ok (.aload_n 0, 1) := by decide +kernel
theorem dX7_total_63 : decode cX7_total 63 = .ok (.getfield 15, 3) := by decide +kernel
theorem dX7_total_66 : decode cX7_total 66 = .ok (.getfield 93, 3) := by decide +kernel
theorem dX7_total_69 : decode cX7_total 69 = .ok (.getfield 166, 3) := by decide +kernel
theorem dX7_total_72 : decode cX7_total 72 = .ok (.aload_n 0, 1) := by decide +kernel
theorem dX7_total_73 : decode cX7_total 73 = .ok (.getfield 15, 3) := by decide +kernel
theorem dX7_total_76 : decode cX7_total 76 = .ok (.getfield 21, 3) := by decide +kernel
theorem dX7_total_79 : decode cX7_total 79 = .ok (.getfield 87, 3) := by decide +kernel
theorem dX7_total_82 : decode cX7_total 82 = .ok (.invokestatic 242, 3) := by decide +kernel
theorem dX7_total_85 : decode cX7_total 85 = .ok (.lreturn, 1) := by decide +kernel
theorem dX7_total_86 : decode cX7_total 86 = .ok (.aload_n 0, 1) := by decide +kernel
theorem dX7_total_87 : decode cX7_total 87 = .ok (.getfield 15, 3) := by decide +kernel
theorem dX7_total_90 : decode cX7_total 90 = .ok (.getfield 93, 3) := by decide +kernel
theorem dX7_total_93 : decode cX7_total 93 = .ok (.getfield 246, 3) := by decide +kernel
theorem dX7_total_96 : decode cX7_total 96 = .ok (.lreturn, 1) := by decide +kernel
theorem dX7_total_97 : decode cX7_total 97 = .ok (.aload_n 0, 1) := by decide +kernel
theorem dX7_total_98 : decode cX7_total 98 = .ok (.getfield 15, 3) := by decide +kernel
theorem dX7_total_101 : decode cX7_total 101 = .ok (.getfield 93, 3) := by decide +kernel
theorem dX7_total_104 : decode cX7_total 104 = .ok (.getfield 135, 3) := by decide +kernel
theorem dX7_total_107 : decode cX7_total 107 = .ok (.aload_n 0, 1) := by decide +kernel
theorem dX7_total_108 : decode cX7_total 108 = .ok (.getfield 15, 3) := by decide +kernel
theorem dX7_total_111 : decode cX7_total 111 = .ok (.getfield 21, 3) := by decide +kernel
theorem dX7_total_114 : decode cX7_total 114 = .ok (.getfield 74, 3) := by decide +kernel
theorem dX7_total_117 : decode cX7_total 117 = .ok (.invokestatic 242, 3) := by decide +kernel
theorem dX7_total_120 : decode cX7_total 120 = .ok (.lreturn, 1) := by decide +kernel
theorem dX7_total_121 : decode cX7_total 121 = .ok (.aload_n 0, 1) := by decide +kernel
theorem dX7_total_122 : decode cX7_total 122 = .ok (.getfield 15, 3) := by decide +kernel
theorem dX7_total_125 : decode cX7_total 125 = .ok (.getfield 93, 3) := by decide +kernel
theorem dX7_total_128 : decode cX7_total 128 = .ok (.getfield 138, 3) := by decide +kernel
theorem dX7_total_131 : decode cX7_total 131 = .ok (.aload_n 0, 1) := by decide +kernel
theorem dX7_total_132 : decode cX7_total 132 = .ok (.getfield 15, 3) := by decide +kernel
theorem dX7_total_135 : decode cX7_total 135 = .ok (.getfield 21, 3) := by decide +kernel
theorem dX7_total_138 : decode cX7_total 138 = .ok (.getfield 74, 3) := by decide +kernel
theorem dX7_total_141 : decode cX7_total 141 = .ok (.invokestatic 242, 3) := by decide +kernel
theorem dX7_total_144 : decode cX7_total 144 = .ok (.lreturn, 1) := by decide +kernel
theorem dX7_usedPart_0 : decode cX7_usedPart 0 = .ok (.aload_n 0, 1) := by decide +kernel
theorem dX7_usedPart_1 : decode cX7_usedPart 1 = .ok (.getfield 15, 3) := by decide +kernel
theorem dX7_usedPart_4 : decode cX7_usedPart 4 = .ok (.getfield 93, 3) := by decide +kernel
theorem dX7_usedPart_7 : decode cX7_usedPart 7 = .ok (.getfield 235, 3) := by decide +kernel
theorem dX7_usedPart_10 : decode cX7_usedPart 10 = .ok (.lstore_n 1, 1) := by decide +kernel
theorem dX7_usedPart_11 : decode cX7_usedPart 11 = .ok (.lload_n 1, 1) := by decide +kernel
theorem dX7_usedPart_12 : decode cX7_usedPart 12 = .ok (.lconst 0, 1) := by decide +kernel
theorem dX7_usedPart_13 : decode cX7_usedPart 13 = .ok (.lcmp, 1) := by decide +kernel
theorem dX7_usedPart_14 : decode cX7_usedPart 14 = .ok (.ifCond .ne 7, 3) := by decide +kernel
theorem dX7_usedPart_17 : decode cX7_usedPart 17 = .ok (.dconst 0, 1) := by decide +kernel
theorem dX7_usedPart_18 : decode cX7_usedPart 18 = .ok (.goto 17, 3) := by decide +kernel
theorem dX7_usedPart_21 : decode cX7_usedPart 21 = .ok (.aload_n 0, 1) := by decide +kernel
theorem dX7_usedPart_22 : decode cX7_usedPart 22 = .ok (.getfield 15, 3) := by decide +kernel
theorem dX7_usedPart_25 : decode cX7_usedPart 25 = .ok (.getfield 93, 3) := by decide +kernel
theorem dX7_usedPart_28 : decode cX7_usedPart 28 = .ok (.getfield 239, 3) := by decide +kernel
theorem dX7_usedPart_31 : decode cX7_usedPart 31 = .ok (.l2d, 1) := by decide +kernel
theorem dX7_usedPart_32 : decode cX7_usedPart 32 = .ok (.lload_n 1, 1) := by decide +kernel
theorem dX7_usedPart_33 : decode cX7_usedPart 33 = .ok (.l2d, 1) := by decide +kernel
theorem dX7_usedPart_34 : decode cX7_usedPart 34 = .ok (.ddiv, 1) := by decide +kernel
theorem dX7_usedPart_35 : decode cX7_usedPart 35 = .ok (.dreturn, 1) := by decide +kernel
theorem dX7_fullness_0 : decode cX7_fullness 0 = .ok (.iload_n 1, 1) := by decide +kernel
theorem dX7_fullness_1 : decode cX7_fullness 1 = .ok (.aload_n 0, 1) := by decide +kernel
theorem dX7_fullness_2 : decode cX7_fullness 2 = .ok (.getfield 15, 3) := by decide +kernel
theorem dX7_fullness_5 : decode cX7_fullness 5 = .ok (.getfield 21, 3) := by decide +kernel
theorem dX7_fullness_8 : decode cX7_fullness 8 = .ok (.getfield 74, 3) := by decide +kernel
theorem dX7_fullness_11 : decode cX7_fullness 11 = .ok (.invokestatic 123, 3) := by decide +kernel
theorem dX7_fullness_14 : decode cX7_fullness 14 = .ok (.aload_n 0, 1) := by decide +kernel
theorem dX7_fullness_15 : decode cX7_fullness 15 = .ok (.getfield 15, 3) := by decide +kernel
theorem dX7_fullness_18 : decode cX7_fullness 18 = .ok (.iload_n 1, 1) := by decide +kernel
theorem dX7_fullness_19 : decode cX7_fullness 19 = .ok (.invokevirtual 131, 3) := by decide +kernel
theorem dX7_fullness_22 : decode cX7_fullness 22 = .ok (.istore_n 2, 1) := by decide +kernel
theorem dX7_fullness_23 : decode cX7_fullness 23 = .ok (.iload_n 2, 1) := by decide +kernel
theorem dX7_fullness_24 : decode cX7_fullness 24 = .ok (.iconst 1, 1) := by decide +kernel
theorem dX7_fullness_25 : decode cX7_fullness 25 = .ok (.if_icmp .ge 7, 3) := by decide +kernel
theorem dX7_fullness_28 : decode cX7_fullness 28 = .ok (.fconst 0, 1) := by decide +kernel
theorem dX7_fullness_29 : decode cX7_fullness 29 = .ok (.goto 19, 3) := by decide +kernel
theorem dX7_fullness_32 : decode cX7_fullness 32 = .ok (.aload_n 0, 1) := by decide +kernel
theorem dX7_fullness_33 : decode cX7_fullness 33 = .ok (.getfield 15, 3) := by decide +kernel
theorem dX7_fullness_36 : decode cX7_fullness 36 = .ok (.getfield 93, 3) := by decide +kernel
theorem dX7_fullness_39 : decode cX7_fullness 39 = .ok (.getfield 135, 3) := by decide +kernel
theorem dX7_fullness_42 : decode cX7_fullness 42 = .ok (.iload_n 1, 1) := by decide +kernel
theorem dX7_fullness_43 : decode cX7_fullness 43 = .ok (.iaload, 1) := by decide +kernel
theorem dX7_fullness_44 : decode cX7_fullness 44 = .ok (.i2f, 1) := by decide +kernel
theorem dX7_fullness_45 : decode cX7_fullness 45 = .ok (.iload_n 2, 1) := by decide +kernel
theorem dX7_fullness_46 : decode cX7_fullness 46 = .ok (.i2f, 1) := by decide +kernel
theorem dX7_fullness_47 : decode cX7_fullness 47 = .ok (.fdiv, 1) := by decide +kernel
theorem dX7_fullness_48 : decode cX7_fullness 48 = .ok (.freturn, 1) := by decide +kernel
theorem dX7_interest_0 : decode cX7_interest 0 = .ok (.iload_n 1, 1) := by decide +kernel
theorem dX7_interest_1 : decode cX7_interest 1 = .ok (.aload_n 0, 1) := by decide +kernel
theorem dX7_interest_2 : decode cX7_interest 2 = .ok (.getfield 15, 3) := by decide +kernel
theorem dX7_interest_5 : decode cX7_interest 5 = .ok (.getfield 21, 3) := by decide +kernel
theorem dX7_interest_8 : decode cX7_interest 8 = .ok (.getfield 108, 3) := by decide +kernel
theorem dX7_interest_11 : decode cX7_interest 11 = .ok (.invokestatic 123, 3) := by decide +kernel
theorem dX7_interest_14 : decode cX7_interest 14 = .ok (.iload_n 2, 1) := by decide +kernel
theorem dX7_interest_15 : decode cX7_interest 15 = .ok (.iconst 1, 1) := by decide +kernel
theorem dX7_interest_16 : decode cX7_interest 16 = .ok (.ldc 249, 2) := by decide +kernel
theorem dX7_interest_18 : decode cX7_interest 18 = .ok (.invokestatic 80, 3) := by decide +kernel
theorem dX7_interest_21 : decode cX7_interest 21 = .ok (.aload_n 0, 1) := by decide +kernel
theorem dX7_interest_22 : decode cX7_interest 22 = .ok (.getfield 15, 3) := by decide +kernel
theorem dX7_interest_25 : decode cX7_interest 25 = .ok (.iload_n 1, 1) := by decide +kernel
theorem dX7_interest_26 : decode cX7_interest 26 = .ok (.iload_n 2, 1) := by decide +kernel
theorem dX7_interest_27 : decode cX7_interest 27 = .ok (.invokevirtual 250, 3) := by decide +kernel
theorem dX7_interest_30 : decode cX7_interest 30 = .ok (.ireturn, 1) := by decide +kernel
theorem dX7_hindrance_0 : decode cX7_hindrance 0 = .ok (.iload_n 1, 1) := by decide +kernel
theorem dX7_hindrance_1 : decode cX7_hindrance 1 = .ok (.aload_n 0, 1) := by decide +kernel
theorem dX7_hindrance_2 : decode cX7_hindrance 2 = .ok (.getfield 15, 3) := by decide +kernel
theorem dX7_hindrance_5 : decode cX7_hindrance 5 = .ok (.getfield 21, 3) := by decide +kernel
theorem dX7_hindrance_8 : decode cX7_hindrance 8 = .ok (.getfield 108, 3) := by decide +kernel
theorem dX7_hindrance_11 : decode cX7_hindrance 11 = .ok (.invokestatic 123, 3) := by decide +kernel
theorem dX7_hindrance_14 : decode cX7_hindrance 14 = .ok (.iload_n 2, 1) := by decide +kernel
theorem dX7_hindrance_15 : decode cX7_hindrance 15 = .ok (.iconst 1, 1) := by decide +kernel
theorem dX7_hindrance_16 : decode cX7_hindrance 16 = .ok (.ldc 249, 2) := by decide +kernel
theorem dX7_hindrance_18 : decode cX7_hindrance 18 = .ok (.invokestatic 80, 3) := by decide +kernel
theorem dX7_hindrance_21 : decode cX7_hindrance 21 = .ok (.aload_n 0, 1) := by decide +kernel
theorem dX7_hindrance_22 : decode cX7_hindrance 22 = .ok (.getfield 15, 3) := by decide +kernel
theorem dX7_hindrance_25 : decode cX7_hindrance 25 = .ok (.iload_n 1, 1) := by decide +kernel
theorem dX7_hindrance_26 : decode cX7_hindrance 26 = .ok (.iload_n 2, 1) := by decide +kernel
theorem dX7_hindrance_27 : decode cX7_hindrance 27 = .ok (.invokevirtual 253, 3) := by decide +kernel
theorem dX7_hindrance_30 : decode cX7_hindrance 30 = .ok (.ireturn, 1) := by decide +kernel
theorem dX7_cheapest_0 : decode cX7_cheapest 0 = .ok (.iload_n 1, 1) := by decide +kernel
theorem dX7_cheapest_1 : decode cX7_cheapest 1 = .ok (.aload_n 0, 1) := by decide +kernel
theorem dX7_cheapest_2 : decode cX7_cheapest 2 = .ok (.getfield 15, 3) := by decide +kernel
theorem dX7_cheapest_5 : decode cX7_cheapest 5 = .ok (.getfield 21, 3) := by decide +kernel
theorem dX7_cheapest_8 : decode cX7_cheapest 8 = .ok (.getfield 74, 3) := by decide +kernel
theorem dX7_cheapest_11 : decode cX7_cheapest 11 = .ok (.invokestatic 123, 3) := by decide +kernel
theorem dX7_cheapest_14 : decode cX7_cheapest 14 = .ok (.iload_n 2, 1) := by decide +kernel
theorem dX7_cheapest_15 : decode cX7_cheapest 15 = .ok (.iconst 1, 1) := by decide +kernel
theorem dX7_cheapest_16 : decode cX7_cheapest 16 = .ok (.ldc 249, 2) := by decide +kernel
theorem dX7_cheapest_18 : decode cX7_cheapest 18 = .ok (.invokestatic 80, 3) := by decide +kernel
theorem dX7_cheapest_21 : decode cX7_cheapest 21 = .ok (.iconst (-1), 1) := by decide +kernel
theorem dX7_cheapest_22 : decode cX7_cheapest 22 = .ok (.istore_n 3, 1) := by decide +kernel
theorem dX7_cheapest_23 : decode cX7_cheapest 23 = .ok (.iconst 0, 1) := by decide +kernel
theorem dX7_cheapest_24 : decode cX7_cheapest 24 = .ok (.istore 4, 2) := by decide +kernel
theorem dX7_cheapest_26 : decode cX7_cheapest 26 = .ok (.iconst 0, 1) := by decide +kernel
theorem dX7_cheapest_27 : decode cX7_cheapest 27 = .ok (.istore 5, 2) := by decide +kernel
theorem dX7_cheapest_29 : decode cX7_cheapest 29 = .ok (.iload 5, 2) := by decide +kernel
theorem dX7_cheapest_31 : decode cX7_cheapest 31 = .ok (.aload_n 0, 1) := by decide +kernel
theorem dX7_cheapest_32 : decode cX7_cheapest 32 = .ok (.getfield 15, 3) := by decide +kernel
theorem dX7_cheapest_35 : decode cX7_cheapest 35 = .ok (.getfield 21, 3) := by decide +kernel
theorem dX7_cheapest_38 : decode cX7_cheapest 38 = .ok (.getfield 108, 3) := by decide +kernel
theorem dX7_cheapest_41 : decode cX7_cheapest 41 = .ok (.if_icmp .ge 70, 3) := by decide +kernel
theorem dX7_cheapest_44 : decode cX7_cheapest 44 = .ok (.aload_n 0, 1) := by decide +kernel
theorem dX7_cheapest_45 : decode cX7_cheapest 45 = .ok (.getfield 15, 3) := by decide +kernel
theorem dX7_cheapest_48 : decode cX7_cheapest 48 = .ok (.getfield 21, 3) := by decide +kernel
theorem dX7_cheapest_51 : decode cX7_cheapest 51 = .ok (.getfield 186, 3) := by decide +kernel
theorem dX7_cheapest_54 : decode cX7_cheapest 54 = .ok (.iload 5, 2) := by decide +kernel
theorem dX7_cheapest_56 : decode cX7_cheapest 56 = .ok (.iaload, 1) := by decide +kernel
theorem dX7_cheapest_57 : decode cX7_cheapest 57 = .ok (.iload_n 1, 1) := by decide +kernel
theorem dX7_cheapest_58 : decode cX7_cheapest 58 = .ok (.if_icmp .ne 47, 3) := by decide +kernel
theorem dX7_cheapest_61 : decode cX7_cheapest 61 = .ok (.aload_n 0, 1) := by decide +kernel
theorem dX7_cheapest_62 : decode cX7_cheapest 62 = .ok (.getfield 15, 3) := by decide +kernel
theorem dX7_cheapest_65 : decode cX7_cheapest 65 = .ok (.iload 5, 2) := by decide +kernel
theorem dX7_cheapest_67 : decode cX7_cheapest 67 = .ok (.iload_n 2, 1) := by decide +kernel
theorem dX7_cheapest_68 : decode cX7_cheapest 68 = .ok (.invokevirtual 253, 3) := by decide +kernel
theorem dX7_cheapest_71 : decode cX7_cheapest 71 = .ok (.ifCond .ne 34, 3) := by decide +kernel
theorem dX7_cheapest_74 : decode cX7_cheapest 74 = .ok (.aload_n 0, 1) := by decide +kernel
theorem dX7_cheapest_75 : decode cX7_cheapest 75 = .ok (.getfield 15, 3) := by decide +kernel
theorem dX7_cheapest_78 : decode cX7_cheapest 78 = .ok (.iload 5, 2) := by decide +kernel
theorem dX7_cheapest_80 : decode cX7_cheapest 80 = .ok (.iload_n 2, 1) := by decide +kernel
theorem dX7_cheapest_81 : decode cX7_cheapest 81 = .ok (.invokevirtual 256, 3) := by decide +kernel
theorem dX7_cheapest_84 : decode cX7_cheapest 84 = .ok (.istore 6, 2) := by decide +kernel
theorem dX7_cheapest_86 : decode cX7_cheapest 86 = .ok (.iload_n 3, 1) := by decide +kernel
theorem dX7_cheapest_87 : decode cX7_cheapest 87 = .ok (.iconst (-1), 1) := by decide +kernel
theorem dX7_cheapest_88 : decode cX7_cheapest 88 = .ok (.if_icmp .eq 10, 3) := by decide +kernel
theorem dX7_cheapest_91 : decode cX7_cheapest 91 = .ok (.iload 6, 2) := by decide +kernel
theorem dX7_cheapest_93 : decode cX7_cheapest 93 = .ok (.iload 4, 2) := by decide +kernel
theorem dX7_cheapest_95 : decode cX7_cheapest 95 = .ok (.if_icmp .ge 10, 3) := by decide +kernel
theorem dX7_cheapest_98 : decode cX7_cheapest 98 = .ok (.iload 5, 2) := by decide +kernel
theorem dX7_cheapest_100 : decode cX7_cheapest 100 = .ok (.istore_n 3, 1) := by decide +kernel
theorem dX7_cheapest_101 : decode cX7_cheapest 101 = .ok (.iload 6, 2) := by decide +kernel
theorem dX7_cheapest_103 : decode cX7_cheapest 103 = .ok (.istore 4, 2) := by decide +kernel
theorem dX7_cheapest_105 : decode cX7_cheapest 105 = .ok (.iinc 5 1, 3) := by decide +kernel
theorem dX7_cheapest_108 : decode cX7_cheapest 108 = .ok (.goto (-79), 3) := by decide +kernel
theorem dX7_cheapest_111 : decode cX7_cheapest 111 = .ok (.iload_n 3, 1) := by decide +kernel
theorem dX7_cheapest_112 : decode cX7_cheapest 112 = .ok (.ireturn, 1) := by decide +kernel
theorem dX7_lend_0 : decode cX7_lend 0 = .ok (.iload_n 1, 1) := by decide +kernel
theorem dX7_lend_1 : decode cX7_lend 1 = .ok (.aload_n 0, 1) := by decide +kernel
theorem dX7_lend_2 : decode cX7_lend 2 = .ok (.getfield 15, 3) := by decide +kernel
theorem dX7_lend_5 : decode cX7_lend 5 = .ok (.getfield 21, 3) := by decide +kernel
theorem dX7_lend_8 : decode cX7_lend 8 = .ok (.getfield 108, 3) := by decide +kernel
theorem dX7_lend_11 : decode cX7_lend 11 = .ok (.invokestatic 123, 3) := by decide +kernel
theorem dX7_lend_14 : decode cX7_lend 14 = .ok (.iload_n 2, 1) := by decide +kernel
theorem dX7_lend_15 : decode cX7_lend 15 = .ok (.iconst 1, 1) := by decide +kernel
theorem dX7_lend_16 : decode cX7_lend 16 = .ok (.ldc 249, 2) := by decide +kernel
theorem dX7_lend_18 : decode cX7_lend 18 = .ok (.invokestatic 80, 3) := by decide +kernel
theorem dX7_lend_21 : decode cX7_lend 21 = .ok (.iload_n 3, 1) := by decide +kernel
theorem dX7_lend_22 : decode cX7_lend 22 = .ok (.iconst 1, 1) := by decide +kernel
theorem dX7_lend_23 : decode cX7_lend 23 = .ok (.sipush 999, 3) := by decide +kernel
theorem dX7_lend_26 : decode cX7_lend 26 = .ok (.invokestatic 80, 3) := by decide +kernel
theorem dX7_lend_29 : decode cX7_lend 29 = .ok (.aload_n 0, 1) := by decide +kernel
theorem dX7_lend_30 : decode cX7_lend 30 = .ok (.getfield 15, 3) := by decide +kernel
theorem dX7_lend_33 : decode cX7_lend 33 = .ok (.iload_n 1, 1) := by decide +kernel
theorem dX7_lend_34 : decode cX7_lend 34 = .ok (.iload_n 2, 1) := by decide +kernel
theorem dX7_lend_35 : decode cX7_lend 35 = .ok (.invokevirtual 253, 3) := by decide +kernel
theorem dX7_lend_38 : decode cX7_lend 38 = .ok (.istore 4, 2) := by decide +kernel
theorem dX7_lend_40 : decode cX7_lend 40 = .ok (.iload 4, 2) := by decide +kernel
theorem dX7_lend_42 : decode cX7_lend 42 = .ok (.ifCond .eq 9, 3) := by decide +kernel
theorem dX7_lend_45 : decode cX7_lend 45 = .ok (.bipush (-10), 2) := by decide +kernel
theorem dX7_lend_47 : decode cX7_lend 47 = .ok (.iload 4, 2) := by decide +kernel
theorem dX7_lend_49 : decode cX7_lend 49 = .ok (.isub, 1) := by decide +kernel
theorem dX7_lend_50 : decode cX7_lend 50 = .ok (.ireturn, 1) := by decide +kernel
theorem dX7_lend_51 : decode cX7_lend 51 = .ok (.aload_n 0, 1) := by decide +kernel
theorem dX7_lend_52 : decode cX7_lend 52 = .ok (.getfield 38, 3) := by decide +kernel
theorem dX7_lend_55 : decode cX7_lend 55 = .ok (.aload_n 0, 1) := by decide +kernel
theorem dX7_lend_56 : decode cX7_lend 56 = .ok (.getfield 15, 3) := by decide +kernel
theorem dX7_lend_59 : decode cX7_lend 59 = .ok (.getfield 93, 3) := by decide +kernel
theorem dX7_lend_62 : decode cX7_lend 62 = .ok (.invokevirtual 259, 3) := by decide +kernel
theorem dX7_lend_65 : decode cX7_lend 65 = .ok (.aload_n 0, 1) := by decide +kernel
theorem dX7_lend_66 : decode cX7_lend 66 = .ok (.getfield 15, 3) := by decide +kernel
theorem dX7_lend_69 : decode cX7_lend 69 = .ok (.getfield 93, 3) := by decide +kernel
theorem dX7_lend_72 : decode cX7_lend 72 = .ok (.getfield 111, 3) := by decide +kernel
theorem dX7_lend_75 : decode cX7_lend 75 = .ok (.iload_n 1, 1) := by decide +kernel
theorem dX7_lend_76 : decode cX7_lend 76 = .ok (.iload_n 2, 1) := by decide +kernel
theorem dX7_lend_77 : decode cX7_lend 77 = .ok (.aload_n 0, 1) := by decide +kernel
theorem dX7_lend_78 : decode cX7_lend 78 = .ok (.getfield 15, 3) := by decide +kernel
theorem dX7_lend_81 : decode cX7_lend 81 = .ok (.getfield 93, 3) := by decide +kernel
theorem dX7_lend_84 : decode cX7_lend 84 = .ok (.getfield 233, 3) := by decide +kernel
theorem dX7_lend_87 : decode cX7_lend 87 = .ok (.iload_n 3, 1) := by decide +kernel
theorem dX7_lend_88 : decode cX7_lend 88 = .ok (.iadd, 1) := by decide +kernel
theorem dX7_lend_89 : decode cX7_lend 89 = .ok (.invokevirtual 263, 3) := by decide +kernel
theorem dX7_lend_92 : decode cX7_lend 92 = .ok (.ireturn, 1) := by decide +kernel
theorem dX7_recall_0 : decode cX7_recall 0 = .ok (.iload_n 1, 1) := by decide +kernel
theorem dX7_recall_1 : decode cX7_recall 1 = .ok (.aload_n 0, 1) := by decide +kernel
theorem dX7_recall_2 : decode cX7_recall 2 = .ok (.getfield 15, 3) := by decide +kernel
theorem dX7_recall_5 : decode cX7_recall 5 = .ok (.getfield 93, 3) := by decide +kernel
theorem dX7_recall_8 : decode cX7_recall 8 = .ok (.getfield 111, 3) := by decide +kernel
theorem dX7_recall_11 : decode cX7_recall 11 = .ok (.getfield 115, 3) := by decide +kernel
theorem dX7_recall_14 : decode cX7_recall 14 = .ok (.invokestatic 123, 3) := by decide +kernel
theorem dX7_recall_17 : decode cX7_recall 17 = .ok (.aload_n 0, 1) := by decide +kernel
theorem dX7_recall_18 : decode cX7_recall 18 = .ok (.getfield 15, 3) := by decide +kernel
theorem dX7_recall_21 : decode cX7_recall 21 = .ok (.getfield 93, 3) := by decide +kernel
theorem dX7_recall_24 : decode cX7_recall 24 = .ok (.getfield 111, 3) := by decide +kernel
theorem dX7_recall_27 : decode cX7_recall 27 = .ok (.iload_n 1, 1) := by decide +kernel
theorem dX7_recall_28 : decode cX7_recall 28 = .ok (.invokevirtual 267, 3) := by decide +kernel
theorem dX7_recall_31 : decode cX7_recall 31 = .ok (.ifCond .ne 6, 3) := by decide +kernel
theorem dX7_recall_34 : decode cX7_recall 34 = .ok (.bipush (-3), 2) := by decide +kernel
theorem dX7_recall_36 : decode cX7_recall 36 = .ok (.ireturn, 1) := by decide +kernel
theorem dX7_recall_37 : decode cX7_recall 37 = .ok (.aload_n 0, 1) := by decide +kernel
theorem dX7_recall_38 : decode cX7_recall 38 = .ok (.getfield 38, 3) := by decide +kernel
theorem dX7_recall_41 : decode cX7_recall 41 = .ok (.aload_n 0, 1) := by decide +kernel
theorem dX7_recall_42 : decode cX7_recall 42 = .ok (.getfield 15, 3) := by decide +kernel
theorem dX7_recall_45 : decode cX7_recall 45 = .ok (.getfield 93, 3) := by decide +kernel
theorem dX7_recall_48 : decode cX7_recall 48 = .ok (.invokevirtual 259, 3) := by decide +kernel
theorem dX7_recall_51 : decode cX7_recall 51 = .ok (.aload_n 0, 1) := by decide +kernel
theorem dX7_recall_52 : decode cX7_recall 52 = .ok (.getfield 15, 3) := by decide +kernel
theorem dX7_recall_55 : decode cX7_recall 55 = .ok (.getfield 93, 3) := by decide +kernel
theorem dX7_recall_58 : decode cX7_recall 58 = .ok (.getfield 111, 3) := by decide +kernel
theorem dX7_recall_61 : decode cX7_recall 61 = .ok (.getfield 213, 3) := by decide +kernel
theorem dX7_recall_64 : decode cX7_recall 64 = .ok (.iload_n 1, 1) := by decide +kernel
theorem dX7_recall_65 : decode cX7_recall 65 = .ok (.iaload, 1) := by decide +kernel
theorem dX7_recall_66 : decode cX7_recall 66 = .ok (.istore_n 2, 1) := by decide +kernel
theorem dX7_recall_67 : decode cX7_recall 67 = .ok (.aload_n 0, 1) := by decide +kernel
theorem dX7_recall_68 : decode cX7_recall 68 = .ok (.getfield 15, 3) := by decide +kernel
theorem dX7_recall_71 : decode cX7_recall 71 = .ok (.getfield 93, 3) := by decide +kernel
theorem dX7_recall_74 : decode cX7_recall 74 = .ok (.getfield 111, 3) := by decide +kernel
theorem dX7_recall_77 : decode cX7_recall 77 = .ok (.iload_n 1, 1) := by decide +kernel
theorem dX7_recall_78 : decode cX7_recall 78 = .ok (.aload_n 0, 1) := by decide +kernel
theorem dX7_recall_79 : decode cX7_recall 79 = .ok (.getfield 15, 3) := by decide +kernel
theorem dX7_recall_82 : decode cX7_recall 82 = .ok (.getfield 93, 3) := by decide +kernel
theorem dX7_recall_85 : decode cX7_recall 85 = .ok (.getfield 233, 3) := by decide +kernel
theorem dX7_recall_88 : decode cX7_recall 88 = .ok (.aload_n 0, 1) := by decide +kernel
theorem dX7_recall_89 : decode cX7_recall 89 = .ok (.getfield 15, 3) := by decide +kernel
theorem dX7_recall_92 : decode cX7_recall 92 = .ok (.getfield 21, 3) := by decide +kernel
theorem dX7_recall_95 : decode cX7_recall 95 = .ok (.getfield 192, 3) := by decide +kernel
theorem dX7_recall_98 : decode cX7_recall 98 = .ok (.iload_n 2, 1) := by decide +kernel
theorem dX7_recall_99 : decode cX7_recall 99 = .ok (.iaload, 1) := by decide +kernel
theorem dX7_recall_100 : decode cX7_recall 100 = .ok (.iadd, 1) := by decide +kernel
theorem dX7_recall_101 : decode cX7_recall 101 = .ok (.invokevirtual 271, 3) := by decide +kernel
theorem dX7_recall_104 : decode cX7_recall 104 = .ok (.aload_n 0, 1) := by decide +kernel
theorem dX7_recall_105 : decode cX7_recall 105 = .ok (.getfield 15, 3) := by decide +kernel
theorem dX7_recall_108 : decode cX7_recall 108 = .ok (.getfield 93, 3) := by decide +kernel
theorem dX7_recall_111 : decode cX7_recall 111 = .ok (.getfield 111, 3) := by decide +kernel
theorem dX7_recall_114 : decode cX7_recall 114 = .ok (.getfield 230, 3) := by decide +kernel
theorem dX7_recall_117 : decode cX7_recall 117 = .ok (.iload_n 1, 1) := by decide +kernel
theorem dX7_recall_118 : decode cX7_recall 118 = .ok (.iaload, 1) := by decide +kernel
theorem dX7_recall_119 : decode cX7_recall 119 = .ok (.ireturn, 1) := by decide +kernel
theorem dX7_giveBack_0 : decode cX7_giveBack 0 = .ok (.iload_n 1, 1) := by decide +kernel
theorem dX7_giveBack_1 : decode cX7_giveBack 1 = .ok (.aload_n 0, 1) := by decide +kernel
theorem dX7_giveBack_2 : decode cX7_giveBack 2 = .ok (.getfield 15, 3) := by decide +kernel
theorem dX7_giveBack_5 : decode cX7_giveBack 5 = .ok (.getfield 93, 3) := by decide +kernel
theorem dX7_giveBack_8 : decode cX7_giveBack 8 = .ok (.getfield 111, 3) := by decide +kernel
theorem dX7_giveBack_11 : decode cX7_giveBack 11 = .ok (.getfield 115, 3) := by decide +kernel
theorem dX7_giveBack_14 : decode cX7_giveBack 14 = .ok (.invokestatic 123, 3) := by decide +kernel
theorem dX7_giveBack_17 : decode cX7_giveBack 17 = .ok (.aload_n 0, 1) := by decide +kernel
theorem dX7_giveBack_18 : decode cX7_giveBack 18 = .ok (.getfield 15, 3) := by decide +kernel
theorem dX7_giveBack_21 : decode cX7_giveBack 21 = .ok (.getfield 93, 3) := by decide +kernel
theorem dX7_giveBack_24 : decode cX7_giveBack 24 = .ok (.getfield 111, 3) := by decide +kernel
theorem dX7_giveBack_27 : decode cX7_giveBack 27 = .ok (.iload_n 1, 1) := by decide +kernel
theorem dX7_giveBack_28 : decode cX7_giveBack 28 = .ok (.invokevirtual 267, 3) := by decide +kernel
theorem dX7_giveBack_31 : decode cX7_giveBack 31 = .ok (.ifCond .ne 6, 3) := by decide +kernel
theorem dX7_giveBack_34 : decode cX7_giveBack 34 = .ok (.bipush (-3), 2) := by decide +kernel
theorem dX7_giveBack_36 : decode cX7_giveBack 36 = .ok (.ireturn, 1) := by decide +kernel
theorem dX7_giveBack_37 : decode cX7_giveBack 37 = .ok (.aload_n 0, 1) := by decide +kernel
theorem dX7_giveBack_38 : decode cX7_giveBack 38 = .ok (.getfield 38, 3) := by decide +kernel
theorem dX7_giveBack_41 : decode cX7_giveBack 41 = .ok (.aload_n 0, 1) := by decide +kernel
theorem dX7_giveBack_42 : decode cX7_giveBack 42 = .ok (.getfield 15, 3) := by decide +kernel
theorem dX7_giveBack_45 : decode cX7_giveBack 45 = .ok (.getfield 93, 3) := by decide +kernel
theorem dX7_giveBack_48 : decode cX7_giveBack 48 = .ok (.invokevirtual 259, 3) := by decide +kernel
theorem dX7_giveBack_51 : decode cX7_giveBack 51 = .ok (.aload_n 0, 1) := by decide +kernel
theorem dX7_giveBack_52 : decode cX7_giveBack 52 = .ok (.getfield 15, 3) := by decide +kernel
theorem dX7_giveBack_55 : decode cX7_giveBack 55 = .ok (.getfield 93, 3) := by decide +kernel
theorem dX7_giveBack_58 : decode cX7_giveBack 58 = .ok (.getfield 111, 3) := by decide +kernel
theorem dX7_giveBack_61 : decode cX7_giveBack 61 = .ok (.iload_n 1, 1) := by decide +kernel
theorem dX7_giveBack_62 : decode cX7_giveBack 62 = .ok (.aload_n 0, 1) := by decide +kernel
theorem dX7_giveBack_63 : decode cX7_giveBack 63 = .ok (.getfield 15, 3) := by decide +kernel
theorem dX7_giveBack_66 : decode cX7_giveBack 66 = .ok (.getfield 93, 3) := by decide +kernel
theorem dX7_giveBack_69 : decode cX7_giveBack 69 = .ok (.getfield 233, 3) := by decide +kernel
theorem dX7_giveBack_72 : decode cX7_giveBack 72 = .ok (.invokevirtual 271, 3) := by decide +kernel
theorem dX7_giveBack_75 : decode cX7_giveBack 75 = .ok (.aload_n 0, 1) := by decide +kernel
theorem dX7_giveBack_76 : decode cX7_giveBack 76 = .ok (.getfield 15, 3) := by decide +kernel
theorem dX7_giveBack_79 : decode cX7_giveBack 79 = .ok (.iload_n 1, 1) := by decide +kernel
theorem dX7_giveBack_80 : decode cX7_giveBack 80 = .ok (.invokevirtual 226, 3) := by decide +kernel
theorem dX7_giveBack_83 : decode cX7_giveBack 83 = .ok (.ireturn, 1) := by decide +kernel
theorem dX7_forgive_0 : decode cX7_forgive 0 = .ok (.iload_n 1, 1) := by decide +kernel
theorem dX7_forgive_1 : decode cX7_forgive 1 = .ok (.aload_n 0, 1) := by decide +kernel
theorem dX7_forgive_2 : decode cX7_forgive 2 = .ok (.getfield 15, 3) := by decide +kernel
theorem dX7_forgive_5 : decode cX7_forgive 5 = .ok (.getfield 93, 3) := by decide +kernel
theorem dX7_forgive_8 : decode cX7_forgive 8 = .ok (.getfield 111, 3) := by decide +kernel
theorem dX7_forgive_11 : decode cX7_forgive 11 = .ok (.getfield 115, 3) := by decide +kernel
theorem dX7_forgive_14 : decode cX7_forgive 14 = .ok (.invokestatic 123, 3) := by decide +kernel
theorem dX7_forgive_17 : decode cX7_forgive 17 = .ok (.aload_n 0, 1) := by decide +kernel
theorem dX7_forgive_18 : decode cX7_forgive 18 = .ok (.getfield 15, 3) := by decide +kernel
theorem dX7_forgive_21 : decode cX7_forgive 21 = .ok (.getfield 93, 3) := by decide +kernel
theorem dX7_forgive_24 : decode cX7_forgive 24 = .ok (.getfield 111, 3) := by decide +kernel
theorem dX7_forgive_27 : decode cX7_forgive 27 = .ok (.iload_n 1, 1) := by decide +kernel
theorem dX7_forgive_28 : decode cX7_forgive 28 = .ok (.invokevirtual 267, 3) := by decide +kernel
theorem dX7_forgive_31 : decode cX7_forgive 31 = .ok (.ifCond .ne 6, 3) := by decide +kernel
theorem dX7_forgive_34 : decode cX7_forgive 34 = .ok (.bipush (-3), 2) := by decide +kernel
theorem dX7_forgive_36 : decode cX7_forgive 36 = .ok (.ireturn, 1) := by decide +kernel
theorem dX7_forgive_37 : decode cX7_forgive 37 = .ok (.aload_n 0, 1) := by decide +kernel
theorem dX7_forgive_38 : decode cX7_forgive 38 = .ok (.getfield 38, 3) := by decide +kernel
theorem dX7_forgive_41 : decode cX7_forgive 41 = .ok (.aload_n 0, 1) := by decide +kernel
theorem dX7_forgive_42 : decode cX7_forgive 42 = .ok (.getfield 15, 3) := by decide +kernel
theorem dX7_forgive_45 : decode cX7_forgive 45 = .ok (.getfield 93, 3) := by decide +kernel
theorem dX7_forgive_48 : decode cX7_forgive 48 = .ok (.invokevirtual 259, 3) := by decide +kernel
theorem dX7_forgive_51 : decode cX7_forgive 51 = .ok (.aload_n 0, 1) := by decide +kernel
theorem dX7_forgive_52 : decode cX7_forgive 52 = .ok (.getfield 15, 3) := by decide +kernel
theorem dX7_forgive_55 : decode cX7_forgive 55 = .ok (.iload_n 1, 1) := by decide +kernel
theorem dX7_forgive_56 : decode cX7_forgive 56 = .ok (.invokevirtual 226, 3) := by decide +kernel
theorem dX7_forgive_59 : decode cX7_forgive 59 = .ok (.istore_n 2, 1) := by decide +kernel
theorem dX7_forgive_60 : decode cX7_forgive 60 = .ok (.aload_n 0, 1) := by decide +kernel
theorem dX7_forgive_61 : decode cX7_forgive 61 = .ok (.getfield 15, 3) := by decide +kernel
theorem dX7_forgive_64 : decode cX7_forgive 64 = .ok (.getfield 93, 3) := by decide +kernel
theorem dX7_forgive_67 : decode cX7_forgive 67 = .ok (.getfield 111, 3) := by decide +kernel
theorem dX7_forgive_70 : decode cX7_forgive 70 = .ok (.getfield 229, 3) := by decide +kernel
theorem dX7_forgive_73 : decode cX7_forgive 73 = .ok (.iload_n 1, 1) := by decide +kernel
theorem dX7_forgive_74 : decode cX7_forgive 74 = .ok (.iconst 5, 1) := by decide +kernel
theorem dX7_forgive_75 : decode cX7_forgive 75 = .ok (.iastore, 1) := by decide +kernel
theorem dX7_forgive_76 : decode cX7_forgive 76 = .ok (.iload_n 2, 1) := by decide +kernel
theorem dX7_forgive_77 : decode cX7_forgive 77 = .ok (.ireturn, 1) := by decide +kernel
theorem dX7_mend_0 : decode cX7_mend 0 = .ok (.iload_n 1, 1) := by decide +kernel
theorem dX7_mend_1 : decode cX7_mend 1 = .ok (.aload_n 0, 1) := by decide +kernel
theorem dX7_mend_2 : decode cX7_mend 2 = .ok (.getfield 15, 3) := by decide +kernel
theorem dX7_mend_5 : decode cX7_mend 5 = .ok (.getfield 21, 3) := by decide +kernel
theorem dX7_mend_8 : decode cX7_mend 8 = .ok (.getfield 108, 3) := by decide +kernel
theorem dX7_mend_11 : decode cX7_mend 11 = .ok (.invokestatic 123, 3) := by decide +kernel
theorem dX7_mend_14 : decode cX7_mend 14 = .ok (.aload_n 0, 1) := by decide +kernel
theorem dX7_mend_15 : decode cX7_mend 15 = .ok (.getfield 38, 3) := by decide +kernel
theorem dX7_mend_18 : decode cX7_mend 18 = .ok (.aload_n 0, 1) := by decide +kernel
theorem dX7_mend_19 : decode cX7_mend 19 = .ok (.getfield 15, 3) := by decide +kernel
theorem dX7_mend_22 : decode cX7_mend 22 = .ok (.getfield 93, 3) := by decide +kernel
theorem dX7_mend_25 : decode cX7_mend 25 = .ok (.invokevirtual 259, 3) := by decide +kernel
theorem dX7_mend_28 : decode cX7_mend 28 = .ok (.aload_n 0, 1) := by decide +kernel
theorem dX7_mend_29 : decode cX7_mend 29 = .ok (.getfield 15, 3) := by decide +kernel
theorem dX7_mend_32 : decode cX7_mend 32 = .ok (.getfield 93, 3) := by decide +kernel
theorem dX7_mend_35 : decode cX7_mend 35 = .ok (.getfield 204, 3) := by decide +kernel
theorem dX7_mend_38 : decode cX7_mend 38 = .ok (.iload_n 1, 1) := by decide +kernel
theorem dX7_mend_39 : decode cX7_mend 39 = .ok (.iaload, 1) := by decide +kernel
theorem dX7_mend_40 : decode cX7_mend 40 = .ok (.istore_n 2, 1) := by decide +kernel
theorem dX7_mend_41 : decode cX7_mend 41 = .ok (.aload_n 0, 1) := by decide +kernel
theorem dX7_mend_42 : decode cX7_mend 42 = .ok (.getfield 15, 3) := by decide +kernel
theorem dX7_mend_45 : decode cX7_mend 45 = .ok (.getfield 93, 3) := by decide +kernel
theorem dX7_mend_48 : decode cX7_mend 48 = .ok (.getfield 204, 3) := by decide +kernel
theorem dX7_mend_51 : decode cX7_mend 51 = .ok (.iload_n 1, 1) := by decide +kernel
theorem dX7_mend_52 : decode cX7_mend 52 = .ok (.iconst 0, 1) := by decide +kernel
theorem dX7_mend_53 : decode cX7_mend 53 = .ok (.iastore, 1) := by decide +kernel
theorem dX7_mend_54 : decode cX7_mend 54 = .ok (.iload_n 2, 1) := by decide +kernel
theorem dX7_mend_55 : decode cX7_mend 55 = .ok (.ireturn, 1) := by decide +kernel
theorem dX7_charge_0 : decode cX7_charge 0 = .ok (.iload_n 1, 1) := by decide +kernel
theorem dX7_charge_1 : decode cX7_charge 1 = .ok (.aload_n 0, 1) := by decide +kernel
theorem dX7_charge_2 : decode cX7_charge 2 = .ok (.getfield 15, 3) := by decide +kernel
theorem dX7_charge_5 : decode cX7_charge 5 = .ok (.getfield 21, 3) := by decide +kernel
theorem dX7_charge_8 : decode cX7_charge 8 = .ok (.getfield 74, 3) := by decide +kernel
theorem dX7_charge_11 : decode cX7_charge 11 = .ok (.invokestatic 123, 3) := by decide +kernel
theorem dX7_charge_14 : decode cX7_charge 14 = .ok (.iload_n 2, 1) := by decide +kernel
theorem dX7_charge_15 : decode cX7_charge 15 = .ok (.iconst 1, 1) := by decide +kernel
theorem dX7_charge_16 : decode cX7_charge 16 = .ok (.ldc 249, 2) := by decide +kernel
theorem dX7_charge_18 : decode cX7_charge 18 = .ok (.invokestatic 80, 3) := by decide +kernel
theorem dX7_charge_21 : decode cX7_charge 21 = .ok (.aload_n 0, 1) := by decide +kernel
theorem dX7_charge_22 : decode cX7_charge 22 = .ok (.getfield 38, 3) := by decide +kernel
theorem dX7_charge_25 : decode cX7_charge 25 = .ok (.aload_n 0, 1) := by decide +kernel
theorem dX7_charge_26 : decode cX7_charge 26 = .ok (.getfield 15, 3) := by decide +kernel
theorem dX7_charge_29 : decode cX7_charge 29 = .ok (.getfield 93, 3) := by decide +kernel
theorem dX7_charge_32 : decode cX7_charge 32 = .ok (.invokevirtual 259, 3) := by decide +kernel
theorem dX7_charge_35 : decode cX7_charge 35 = .ok (.aload_n 0, 1) := by decide +kernel
theorem dX7_charge_36 : decode cX7_charge 36 = .ok (.getfield 15, 3) := by decide +kernel
theorem dX7_charge_39 : decode cX7_charge 39 = .ok (.getfield 93, 3) := by decide +kernel
theorem dX7_charge_42 : decode cX7_charge 42 = .ok (.dup, 1) := by decide +kernel
theorem dX7_charge_43 : decode cX7_charge 43 = .ok (.getfield 235, 3) := by decide +kernel
theorem dX7_charge_46 : decode cX7_charge 46 = .ok (.iload_n 2, 1) := by decide +kernel
theorem dX7_charge_47 : decode cX7_charge 47 = .ok (.i2l, 1) := by decide +kernel
theorem dX7_charge_48 : decode cX7_charge 48 = .ok (.ladd, 1) := by decide +kernel
theorem dX7_charge_49 : decode cX7_charge 49 = .ok (.putfield 235, 3) := by decide +kernel
theorem dX7_charge_52 : decode cX7_charge 52 = .ok (.aload_n 0, 1) := by decide +kernel
theorem dX7_charge_53 : decode cX7_charge 53 = .ok (.getfield 15, 3) := by decide +kernel
theorem dX7_charge_56 : decode cX7_charge 56 = .ok (.iload_n 1, 1) := by decide +kernel
theorem dX7_charge_57 : decode cX7_charge 57 = .ok (.iload_n 2, 1) := by decide +kernel
theorem dX7_charge_58 : decode cX7_charge 58 = .ok (.invokevirtual 274, 3) := by decide +kernel
theorem dX7_charge_61 : decode cX7_charge 61 = .ok (.aload_n 0, 1) := by decide +kernel
theorem dX7_charge_62 : decode cX7_charge 62 = .ok (.getfield 15, 3) := by decide +kernel
theorem dX7_charge_65 : decode cX7_charge 65 = .ok (.getfield 93, 3) := by decide +kernel
theorem dX7_charge_68 : decode cX7_charge 68 = .ok (.getfield 135, 3) := by decide +kernel
theorem dX7_charge_71 : decode cX7_charge 71 = .ok (.iload_n 1, 1) := by decide +kernel
theorem dX7_charge_72 : decode cX7_charge 72 = .ok (.iaload, 1) := by decide +kernel
theorem dX7_charge_73 : decode cX7_charge 73 = .ok (.ireturn, 1) := by decide +kernel
theorem dX7_drain_0 : decode cX7_drain 0 = .ok (.iload_n 1, 1) := by decide +kernel
theorem dX7_drain_1 : decode cX7_drain 1 = .ok (.aload_n 0, 1) := by decide +kernel
theorem dX7_drain_2 : decode cX7_drain 2 = .ok (.getfield 15, 3) := by decide +kernel
theorem dX7_drain_5 : decode cX7_drain 5 = .ok (.getfield 21, 3) := by decide +kernel
theorem dX7_drain_8 : decode cX7_drain 8 = .ok (.getfield 74, 3) := by decide +kernel
theorem dX7_drain_11 : decode cX7_drain 11 = .ok (.invokestatic 123, 3) := by decide +kernel
theorem dX7_drain_14 : decode cX7_drain 14 = .ok (.iload_n 2, 1) := by decide +kernel
theorem dX7_drain_15 : decode cX7_drain 15 = .ok (.iconst 1, 1) := by decide +kernel
theorem dX7_drain_16 : decode cX7_drain 16 = .ok (.ldc 249, 2) := by decide +kernel
theorem dX7_drain_18 : decode cX7_drain 18 = .ok (.invokestatic 80, 3) := by decide +kernel
theorem dX7_drain_21 : decode cX7_drain 21 = .ok (.aload_n 0, 1) := by decide +kernel
theorem dX7_drain_22 : decode cX7_drain 22 = .ok (.getfield 38, 3) := by decide +kernel
theorem dX7_drain_25 : decode cX7_drain 25 = .ok (.aload_n 0, 1) := by decide +kernel
theorem dX7_drain_26 : decode cX7_drain 26 = .ok (.getfield 15, 3) := by decide +kernel
theorem dX7_drain_29 : decode cX7_drain 29 = .ok (.getfield 93, 3) := by decide +kernel
theorem dX7_drain_32 : decode cX7_drain 32 = .ok (.invokevirtual 259, 3) := by decide +kernel
theorem dX7_drain_35 : decode cX7_drain 35 = .ok (.iload_n 2, 1) := by decide +kernel
theorem dX7_drain_36 : decode cX7_drain 36 = .ok (.aload_n 0, 1) := by decide +kernel
theorem dX7_drain_37 : decode cX7_drain 37 = .ok (.getfield 15, 3) := by decide +kernel
theorem dX7_drain_40 : decode cX7_drain 40 = .ok (.getfield 93, 3) := by decide +kernel
theorem dX7_drain_43 : decode cX7_drain 43 = .ok (.getfield 135, 3) := by decide +kernel
theorem dX7_drain_46 : decode cX7_drain 46 = .ok (.iload_n 1, 1) := by decide +kernel
theorem dX7_drain_47 : decode cX7_drain 47 = .ok (.iaload, 1) := by decide +kernel
theorem dX7_drain_48 : decode cX7_drain 48 = .ok (.invokestatic 277, 3) := by decide +kernel
theorem dX7_drain_51 : decode cX7_drain 51 = .ok (.istore_n 3, 1) := by decide +kernel
theorem dX7_drain_52 : decode cX7_drain 52 = .ok (.aload_n 0, 1) := by decide +kernel
theorem dX7_drain_53 : decode cX7_drain 53 = .ok (.getfield 15, 3) := by decide +kernel
theorem dX7_drain_56 : decode cX7_drain 56 = .ok (.getfield 93, 3) := by decide +kernel
theorem dX7_drain_59 : decode cX7_drain 59 = .ok (.dup, 1) := by decide +kernel
theorem dX7_drain_60 : decode cX7_drain 60 = .ok (.getfield 239, 3) := by decide +kernel
theorem dX7_drain_63 : decode cX7_drain 63 = .ok (.iload_n 3, 1) := by decide +kernel
theorem dX7_drain_64 : decode cX7_drain 64 = .ok (.i2l, 1) := by decide +kernel
theorem dX7_drain_65 : decode cX7_drain 65 = .ok (.ladd, 1) := by decide +kernel
theorem dX7_drain_66 : decode cX7_drain 66 = .ok (.putfield 239, 3) := by decide +kernel
theorem dX7_drain_69 : decode cX7_drain 69 = .ok (.aload_n 0, 1) := by decide +kernel
theorem dX7_drain_70 : decode cX7_drain 70 = .ok (.getfield 15, 3) := by decide +kernel
theorem dX7_drain_73 : decode cX7_drain 73 = .ok (.iload_n 1, 1) := by decide +kernel
theorem dX7_drain_74 : decode cX7_drain 74 = .ok (.iload_n 3, 1) := by decide +kernel
theorem dX7_drain_75 : decode cX7_drain 75 = .ok (.invokevirtual 282, 3) := by decide +kernel
theorem dX7_drain_78 : decode cX7_drain 78 = .ok (.pop, 1) := by decide +kernel
theorem dX7_drain_79 : decode cX7_drain 79 = .ok (.iload_n 3, 1) := by decide +kernel
theorem dX7_drain_80 : decode cX7_drain 80 = .ok (.ireturn, 1) := by decide +kernel
theorem dX7_setReserve_0 : decode cX7_setReserve 0 = .ok (.iload_n 1, 1) := by decide +kernel
theorem dX7_setReserve_1 : decode cX7_setReserve 1 = .ok (.aload_n 0, 1) := by decide +kernel
theorem dX7_setReserve_2 : decode cX7_setReserve 2 = .ok (.getfield 15, 3) := by decide +kernel
theorem dX7_setReserve_5 : decode cX7_setReserve 5 = .ok (.getfield 21, 3) := by decide +kernel
theorem dX7_setReserve_8 : decode cX7_setReserve 8 = .ok (.getfield 74, 3) := by decide +kernel
theorem dX7_setReserve_11 : decode cX7_setReserve 11 = .ok (.invokestatic 123, 3) := by decide +kernel
theorem dX7_setReserve_14 : decode cX7_setReserve 14 = .ok (.iload_n 2, 1) := by decide +kernel
theorem dX7_setReserve_15 : decode cX7_setReserve 15 = .ok (.iconst 0, 1) := by decide +kernel
theorem dX7_setReserve_16 : decode cX7_setReserve 16 = .ok (.ldc 249, 2) := by decide +kernel
theorem dX7_setReserve_18 : decode cX7_setReserve 18 = .ok (.invokestatic 80, 3) := by decide +kernel
theorem dX7_setReserve_21 : decode cX7_setReserve 21 = .ok (.aload_n 0, 1) := by decide +kernel
theorem dX7_setReserve_22 : decode cX7_setReserve 22 = .ok (.getfield 38, 3) := by decide +kernel
theorem dX7_setReserve_25 : decode cX7_setReserve 25 = .ok (.aload_n 0, 1) := by decide +kernel
theorem dX7_setReserve_26 : decode cX7_setReserve 26 = .ok (.getfield 15, 3) := by decide +kernel
theorem dX7_setReserve_29 : decode cX7_setReserve 29 = .ok (.getfield 93, 3) := by decide +kernel
theorem dX7_setReserve_32 : decode cX7_setReserve 32 = .ok (.invokevirtual 259, 3) := by decide +kernel
theorem dX7_setReserve_35 : decode cX7_setReserve 35 = .ok (.aload_n 0, 1) := by decide +kernel
theorem dX7_setReserve_36 : decode cX7_setReserve 36 = .ok (.getfield 15, 3) := by decide +kernel
theorem dX7_setReserve_39 : decode cX7_setReserve 39 = .ok (.getfield 93, 3) := by decide +kernel
theorem dX7_setReserve_42 : decode cX7_setReserve 42 = .ok (.getfield 144, 3) := by decide +kernel
theorem dX7_setReserve_45 : decode cX7_setReserve 45 = .ok (.iload_n 1, 1) := by decide +kernel
theorem dX7_setReserve_46 : decode cX7_setReserve 46 = .ok (.iaload, 1) := by decide +kernel
theorem dX7_setReserve_47 : decode cX7_setReserve 47 = .ok (.istore_n 3, 1) := by decide +kernel
theorem dX7_setReserve_48 : decode cX7_setReserve 48 = .ok (.aload_n 0, 1) := by decide +kernel
theorem dX7_setReserve_49 : decode cX7_setReserve 49 = .ok (.getfield 15, 3) := by decide +kernel
theorem dX7_setReserve_52 : decode cX7_setReserve 52 = .ok (.getfield 93, 3) := by decide +kernel
theorem dX7_setReserve_55 : decode cX7_setReserve 55 = .ok (.getfield 144, 3) := by decide +kernel
theorem dX7_setReserve_58 : decode cX7_setReserve 58 = .ok (.iload_n 1, 1) := by decide +kernel
theorem dX7_setReserve_59 : decode cX7_setReserve 59 = .ok (.iload_n 2, 1) := by decide +kernel
theorem dX7_setReserve_60 : decode cX7_setReserve 60 = .ok (.iastore, 1) := by decide +kernel
theorem dX7_setReserve_61 : decode cX7_setReserve 61 = .ok (.iload_n 3, 1) := by decide +kernel
theorem dX7_setReserve_62 : decode cX7_setReserve 62 = .ok (.ireturn, 1) := by decide +kernel
theorem dX7_setCable_0 : decode cX7_setCable 0 = .ok (.iload_n 1, 1) := by decide +kernel
theorem dX7_setCable_1 : decode cX7_setCable 1 = .ok (.aload_n 0, 1) := by decide +kernel
theorem dX7_setCable_2 : decode cX7_setCable 2 = .ok (.getfield 15, 3) := by decide +kernel
theorem dX7_setCable_5 : decode cX7_setCable 5 = .ok (.getfield 21, 3) := by decide +kernel
theorem dX7_setCable_8 : decode cX7_setCable 8 = .ok (.getfield 74, 3) := by decide +kernel
theorem dX7_setCable_11 : decode cX7_setCable 11 = .ok (.invokestatic 123, 3) := by decide +kernel
theorem dX7_setCable_14 : decode cX7_setCable 14 = .ok (.iload_n 2, 1) := by decide +kernel
theorem dX7_setCable_15 : decode cX7_setCable 15 = .ok (.aload_n 0, 1) := by decide +kernel
theorem dX7_setCable_16 : decode cX7_setCable 16 = .ok (.getfield 15, 3) := by decide +kernel
theorem dX7_setCable_19 : decode cX7_setCable 19 = .ok (.getfield 21, 3) := by decide +kernel
theorem dX7_setCable_22 : decode cX7_setCable 22 = .ok (.getfield 74, 3) := by decide +kernel
theorem dX7_setCable_25 : decode cX7_setCable 25 = .ok (.invokestatic 123, 3) := by decide +kernel
theorem dX7_setCable_28 : decode cX7_setCable 28 = .ok (.iload_n 3, 1) := by decide +kernel
theorem dX7_setCable_29 : decode cX7_setCable 29 = .ok (.iconst 0, 1) := by decide +kernel
theorem dX7_setCable_30 : decode cX7_setCable 30 = .ok (.sipush 900, 3) := by decide +kernel
theorem dX7_setCable_33 : decode cX7_setCable 33 = .ok (.invokestatic 80, 3) := by decide +kernel
theorem dX7_setCable_36 : decode cX7_setCable 36 = .ok (.iload 4, 2) := by decide +kernel
theorem dX7_setCable_38 : decode cX7_setCable 38 = .ok (.iconst 1, 1) := by decide +kernel
theorem dX7_setCable_39 : decode cX7_setCable 39 = .ok (.sipush 10000, 3) := by decide +kernel
theorem dX7_setCable_42 : decode cX7_setCable 42 = .ok (.invokestatic 80, 3) := by decide +kernel
theorem dX7_setCable_45 : decode cX7_setCable 45 = .ok (.aload_n 0, 1) := by decide +kernel
theorem dX7_setCable_46 : decode cX7_setCable 46 = .ok (.getfield 15, 3) := by decide +kernel
theorem dX7_setCable_49 : decode cX7_setCable 49 = .ok (.getfield 21, 3) := by decide +kernel
theorem dX7_setCable_52 : decode cX7_setCable 52 = .ok (.iload_n 1, 1) := by decide +kernel
theorem dX7_setCable_53 : decode cX7_setCable 53 = .ok (.iload_n 2, 1) := by decide +kernel
theorem dX7_setCable_54 : decode cX7_setCable 54 = .ok (.invokevirtual 154, 3) := by decide +kernel
theorem dX7_setCable_57 : decode cX7_setCable 57 = .ok (.istore 5, 2) := by decide +kernel
theorem dX7_setCable_59 : decode cX7_setCable 59 = .ok (.iload 5, 2) := by decide +kernel
theorem dX7_setCable_61 : decode cX7_setCable 61 = .ok (.iconst (-1), 1) := by decide +kernel
theorem dX7_setCable_62 : decode cX7_setCable 62 = .ok (.if_icmp .ne 5, 3) := by decide +kernel
theorem dX7_setCable_65 : decode cX7_setCable 65 = .ok (.iconst (-1), 1) := by decide +kernel
theorem dX7_setCable_66 : decode cX7_setCable 66 = .ok (.ireturn, 1) := by decide +kernel
theorem dX7_setCable_67 : decode cX7_setCable 67 = .ok (.aload_n 0, 1) := by decide +kernel
theorem dX7_setCable_68 : decode cX7_setCable 68 = .ok (.getfield 38, 3) := by decide +kernel
theorem dX7_setCable_71 : decode cX7_setCable 71 = .ok (.aload_n 0, 1) := by decide +kernel
theorem dX7_setCable_72 : decode cX7_setCable 72 = .ok (.getfield 15, 3) := by decide +kernel
theorem dX7_setCable_75 : decode cX7_setCable 75 = .ok (.getfield 93, 3) := by decide +kernel
theorem dX7_setCable_78 : decode cX7_setCable 78 = .ok (.invokevirtual 259, 3) := by decide +kernel
theorem dX7_setCable_81 : decode cX7_setCable 81 = .ok (.aload_n 0, 1) := by decide +kernel
theorem dX7_setCable_82 : decode cX7_setCable 82 = .ok (.getfield 15, 3) := by decide +kernel
theorem dX7_setCable_85 : decode cX7_setCable 85 = .ok (.getfield 93, 3) := by decide +kernel
theorem dX7_setCable_88 : decode cX7_setCable 88 = .ok (.getfield 157, 3) := by decide +kernel
theorem dX7_setCable_91 : decode cX7_setCable 91 = .ok (.iload 5, 2) := by decide +kernel
theorem dX7_setCable_93 : decode cX7_setCable 93 = .ok (.iaload, 1) := by decide +kernel
theorem dX7_setCable_94 : decode cX7_setCable 94 = .ok (.istore 6, 2) := by decide +kernel
theorem dX7_setCable_96 : decode cX7_setCable 96 = .ok (.aload_n 0, 1) := by decide +kernel
theorem dX7_setCable_97 : decode cX7_setCable 97 = .ok (.getfield 15, 3) := by decide +kernel
theorem dX7_setCable_100 : decode cX7_setCable 100 = .ok (.getfield 93, 3) := by decide +kernel
theorem dX7_setCable_103 : decode cX7_setCable 103 = .ok (.getfield 157, 3) := by decide +kernel
theorem dX7_setCable_106 : decode cX7_setCable 106 = .ok (.iload 5, 2) := by decide +kernel
theorem dX7_setCable_108 : decode cX7_setCable 108 = .ok (.iload_n 3, 1) := by decide +kernel
theorem dX7_setCable_109 : decode cX7_setCable 109 = .ok (.iastore, 1) := by decide +kernel
theorem dX7_setCable_110 : decode cX7_setCable 110 = .ok (.aload_n 0, 1) := by decide +kernel
theorem dX7_setCable_111 : decode cX7_setCable 111 = .ok (.getfield 15, 3) := by decide +kernel
theorem dX7_setCable_114 : decode cX7_setCable 114 = .ok (.getfield 93, 3) := by decide +kernel
theorem dX7_setCable_117 : decode cX7_setCable 117 = .ok (.getfield 160, 3) := by decide +kernel
theorem dX7_setCable_120 : decode cX7_setCable 120 = .ok (.iload 5, 2) := by decide +kernel
theorem dX7_setCable_122 : decode cX7_setCable 122 = .ok (.iload 4, 2) := by decide +kernel
theorem dX7_setCable_124 : decode cX7_setCable 124 = .ok (.iastore, 1) := by decide +kernel
theorem dX7_setCable_125 : decode cX7_setCable 125 = .ok (.iload 6, 2) := by decide +kernel
theorem dX7_setCable_127 : decode cX7_setCable 127 = .ok (.ireturn, 1) := by decide +kernel
theorem dX7_addTrip_0 : decode cX7_addTrip 0 = .ok (.iload_n 1, 1) := by decide +kernel
theorem dX7_addTrip_1 : decode cX7_addTrip 1 = .ok (.aload_n 0, 1) := by decide +kernel
theorem dX7_addTrip_2 : decode cX7_addTrip 2 = .ok (.getfield 15, 3) := by decide +kernel
theorem dX7_addTrip_5 : decode cX7_addTrip 5 = .ok (.getfield 21, 3) := by decide +kernel
theorem dX7_addTrip_8 : decode cX7_addTrip 8 = .ok (.getfield 74, 3) := by decide +kernel
theorem dX7_addTrip_11 : decode cX7_addTrip 11 = .ok (.invokestatic 123, 3) := by decide +kernel
theorem dX7_addTrip_14 : decode cX7_addTrip 14 = .ok (.iload_n 2, 1) := by decide +kernel
theorem dX7_addTrip_15 : decode cX7_addTrip 15 = .ok (.iconst 0, 1) := by decide +kernel
theorem dX7_addTrip_16 : decode cX7_addTrip 16 = .ok (.sipush 9999, 3) := by decide +kernel
theorem dX7_addTrip_19 : decode cX7_addTrip 19 = .ok (.invokestatic 80, 3) := by decide +kernel
theorem dX7_addTrip_22 : decode cX7_addTrip 22 = .ok (.iload_n 3, 1) := by decide +kernel
theorem dX7_addTrip_23 : decode cX7_addTrip 23 = .ok (.iconst 1, 1) := by decide +kernel
theorem dX7_addTrip_24 : decode cX7_addTrip 24 = .ok (.ldc 249, 2) := by decide +kernel
theorem dX7_addTrip_26 : decode cX7_addTrip 26 = .ok (.invokestatic 80, 3) := by decide +kernel
theorem dX7_addTrip_29 : decode cX7_addTrip 29 = .ok (.aload_n 0, 1) := by decide +kernel
theorem dX7_addTrip_30 : decode cX7_addTrip 30 = .ok (.getfield 15, 3) := by decide +kernel
theorem dX7_addTrip_33 : decode cX7_addTrip 33 = .ok (.getfield 93, 3) := by decide +kernel
theorem dX7_addTrip_36 : decode cX7_addTrip 36 = .ok (.getfield 97, 3) := by decide +kernel
theorem dX7_addTrip_39 : decode cX7_addTrip 39 = .ok (.getfield 103, 3) := by decide +kernel
theorem dX7_addTrip_42 : decode cX7_addTrip 42 = .ok (.bipush 16, 2) := by decide +kernel
theorem dX7_addTrip_44 : decode cX7_addTrip 44 = .ok (.if_icmp .lt 6, 3) := by decide +kernel
theorem dX7_addTrip_47 : decode cX7_addTrip 47 = .ok (.bipush (-2), 2) := by decide +kernel
theorem dX7_addTrip_49 : decode cX7_addTrip 49 = .ok (.ireturn, 1) := by decide +kernel
theorem dX7_addTrip_50 : decode cX7_addTrip 50 = .ok (.iload_n 2, 1) := by decide +kernel
theorem dX7_addTrip_51 : decode cX7_addTrip 51 = .ok (.aload_n 0, 1) := by decide +kernel
theorem dX7_addTrip_52 : decode cX7_addTrip 52 = .ok (.getfield 15, 3) := by decide +kernel
theorem dX7_addTrip_55 : decode cX7_addTrip 55 = .ok (.getfield 93, 3) := by decide +kernel
theorem dX7_addTrip_58 : decode cX7_addTrip 58 = .ok (.getfield 233, 3) := by decide +kernel
theorem dX7_addTrip_61 : decode cX7_addTrip 61 = .ok (.if_icmp .ge 6, 3) := by decide +kernel
theorem dX7_addTrip_64 : decode cX7_addTrip 64 = .ok (.bipush (-4), 2) := by decide +kernel
theorem dX7_addTrip_66 : decode cX7_addTrip 66 = .ok (.ireturn, 1) := by decide +kernel
theorem dX7_addTrip_67 : decode cX7_addTrip 67 = .ok (.aload_n 0, 1) := by decide +kernel
theorem dX7_addTrip_68 : decode cX7_addTrip 68 = .ok (.getfield 38, 3) := by decide +kernel
theorem dX7_addTrip_71 : decode cX7_addTrip 71 = .ok (.aload_n 0, 1) := by decide +kernel
theorem dX7_addTrip_72 : decode cX7_addTrip 72 = .ok (.getfield 15, 3) := by decide +kernel
theorem dX7_addTrip_75 : decode cX7_addTrip 75 = .ok (.getfield 93, 3) := by decide +kernel
theorem dX7_addTrip_78 : decode cX7_addTrip 78 = .ok (.invokevirtual 259, 3) := by decide +kernel
theorem dX7_addTrip_81 : decode cX7_addTrip 81 = .ok (.aload_n 0, 1) := by decide +kernel
theorem dX7_addTrip_82 : decode cX7_addTrip 82 = .ok (.getfield 15, 3) := by decide +kernel
theorem dX7_addTrip_85 : decode cX7_addTrip 85 = .ok (.getfield 93, 3) := by decide +kernel
theorem dX7_addTrip_88 : decode cX7_addTrip 88 = .ok (.getfield 97, 3) := by decide +kernel
theorem dX7_addTrip_91 : decode cX7_addTrip 91 = .ok (.iload_n 1, 1) := by decide +kernel
theorem dX7_addTrip_92 : decode cX7_addTrip 92 = .ok (.iload_n 2, 1) := by decide +kernel
theorem dX7_addTrip_93 : decode cX7_addTrip 93 = .ok (.iload_n 3, 1) := by decide +kernel
theorem dX7_addTrip_94 : decode cX7_addTrip 94 = .ok (.invokevirtual 285, 3) := by decide +kernel
theorem dX7_addTrip_97 : decode cX7_addTrip 97 = .ok (.ireturn, 1) := by decide +kernel
theorem dX7_dropTrip_0 : decode cX7_dropTrip 0 = .ok (.iload_n 1, 1) := by decide +kernel
theorem dX7_dropTrip_1 : decode cX7_dropTrip 1 = .ok (.aload_n 0, 1) := by decide +kernel
theorem dX7_dropTrip_2 : decode cX7_dropTrip 2 = .ok (.getfield 15, 3) := by decide +kernel
theorem dX7_dropTrip_5 : decode cX7_dropTrip 5 = .ok (.getfield 93, 3) := by decide +kernel
theorem dX7_dropTrip_8 : decode cX7_dropTrip 8 = .ok (.getfield 97, 3) := by decide +kernel
theorem dX7_dropTrip_11 : decode cX7_dropTrip 11 = .ok (.getfield 103, 3) := by decide +kernel
theorem dX7_dropTrip_14 : decode cX7_dropTrip 14 = .ok (.invokestatic 123, 3) := by decide +kernel
theorem dX7_dropTrip_17 : decode cX7_dropTrip 17 = .ok (.aload_n 0, 1) := by decide +kernel
theorem dX7_dropTrip_18 : decode cX7_dropTrip 18 = .ok (.getfield 15, 3) := by decide +kernel
theorem dX7_dropTrip_21 : decode cX7_dropTrip 21 = .ok (.getfield 93, 3) := by decide +kernel
theorem dX7_dropTrip_24 : decode cX7_dropTrip 24 = .ok (.getfield 97, 3) := by decide +kernel
theorem dX7_dropTrip_27 : decode cX7_dropTrip 27 = .ok (.getfield 181, 3) := by decide +kernel
theorem dX7_dropTrip_30 : decode cX7_dropTrip 30 = .ok (.iload_n 1, 1) := by decide +kernel
theorem dX7_dropTrip_31 : decode cX7_dropTrip 31 = .ok (.iaload, 1) := by decide +kernel
theorem dX7_dropTrip_32 : decode cX7_dropTrip 32 = .ok (.ifCond .eq 6, 3) := by decide +kernel
theorem dX7_dropTrip_35 : decode cX7_dropTrip 35 = .ok (.bipush (-3), 2) := by decide +kernel
theorem dX7_dropTrip_37 : decode cX7_dropTrip 37 = .ok (.ireturn, 1) := by decide +kernel
theorem dX7_dropTrip_38 : decode cX7_dropTrip 38 = .ok (.aload_n 0, 1) := by decide +kernel
theorem dX7_dropTrip_39 : decode cX7_dropTrip 39 = .ok (.getfield 38, 3) := by decide +kernel
theorem dX7_dropTrip_42 : decode cX7_dropTrip 42 = .ok (.aload_n 0, 1) := by decide +kernel
theorem dX7_dropTrip_43 : decode cX7_dropTrip 43 = .ok (.getfield 15, 3) := by decide +kernel
theorem dX7_dropTrip_46 : decode cX7_dropTrip 46 = .ok (.getfield 93, 3) := by decide +kernel
theorem dX7_dropTrip_49 : decode cX7_dropTrip 49 = .ok (.invokevirtual 259, 3) := by decide +kernel
theorem dX7_dropTrip_52 : decode cX7_dropTrip 52 = .ok (.aload_n 0, 1) := by decide +kernel
theorem dX7_dropTrip_53 : decode cX7_dropTrip 53 = .ok (.getfield 15, 3) := by decide +kernel
theorem dX7_dropTrip_56 : decode cX7_dropTrip 56 = .ok (.getfield 93, 3) := by decide +kernel
theorem dX7_dropTrip_59 : decode cX7_dropTrip 59 = .ok (.getfield 97, 3) := by decide +kernel
theorem dX7_dropTrip_62 : decode cX7_dropTrip 62 = .ok (.iload_n 1, 1) := by decide +kernel
theorem dX7_dropTrip_63 : decode cX7_dropTrip 63 = .ok (.invokevirtual 286, 3) := by decide +kernel
theorem dX7_dropTrip_66 : decode cX7_dropTrip 66 = .ok (.aload_n 0, 1) := by decide +kernel
theorem dX7_dropTrip_67 : decode cX7_dropTrip 67 = .ok (.getfield 15, 3) := by decide +kernel
theorem dX7_dropTrip_70 : decode cX7_dropTrip 70 = .ok (.getfield 93, 3) := by decide +kernel
theorem dX7_dropTrip_73 : decode cX7_dropTrip 73 = .ok (.getfield 97, 3) := by decide +kernel
theorem dX7_dropTrip_76 : decode cX7_dropTrip 76 = .ok (.getfield 103, 3) := by decide +kernel
theorem dX7_dropTrip_79 : decode cX7_dropTrip 79 = .ok (.ireturn, 1) := by decide +kernel
theorem dX7_run_0 : decode cX7_run 0 = .ok (.iload_n 1, 1) := by decide +kernel
theorem dX7_run_1 : decode cX7_run 1 = .ok (.iconst 1, 1) := by decide +kernel
theorem dX7_run_2 : decode cX7_run 2 = .ok (.sipush 1000, 3) := by decide +kernel
theorem dX7_run_5 : decode cX7_run 5 = .ok (.sipush 9999, 3) := by decide +kernel
theorem dX7_run_8 : decode cX7_run 8 = .ok (.aload_n 0, 1) := by decide +kernel
theorem dX7_run_9 : decode cX7_run 9 = .ok (.getfield 15, 3) := by decide +kernel
theorem dX7_run_12 : decode cX7_run 12 = .ok (.getfield 93, 3) := by decide +kernel
theorem dX7_run_15 : decode cX7_run 15 = .ok (.getfield 233, 3) := by decide +kernel
theorem dX7_run_18 : decode cX7_run 18 = .ok (.isub, 1) := by decide +kernel
theorem dX7_run_19 : decode cX7_run 19 = .ok (.invokestatic 277, 3) := by decide +kernel
theorem dX7_run_22 : decode cX7_run 22 = .ok (.invokestatic 80, 3) := by decide +kernel
theorem dX7_run_25 : decode cX7_run 25 = .ok (.aload_n 0, 1) := by decide +kernel
theorem dX7_run_26 : decode cX7_run 26 = .ok (.getfield 38, 3) := by decide +kernel
theorem dX7_run_29 : decode cX7_run 29 = .ok (.aload_n 0, 1) := by decide +kernel
theorem dX7_run_30 : decode cX7_run 30 = .ok (.getfield 15, 3) := by decide +kernel
theorem dX7_run_33 : decode cX7_run 33 = .ok (.getfield 93, 3) := by decide +kernel
theorem dX7_run_36 : decode cX7_run 36 = .ok (.invokevirtual 259, 3) := by decide +kernel
theorem dX7_run_39 : decode cX7_run 39 = .ok (.aload_n 0, 1) := by decide +kernel
theorem dX7_run_40 : decode cX7_run 40 = .ok (.getfield 15, 3) := by decide +kernel
theorem dX7_run_43 : decode cX7_run 43 = .ok (.iload_n 1, 1) := by decide +kernel
theorem dX7_run_44 : decode cX7_run 44 = .ok (.invokevirtual 290, 3) := by decide +kernel
theorem dX7_run_47 : decode cX7_run 47 = .ok (.aload_n 0, 1) := by decide +kernel
theorem dX7_run_48 : decode cX7_run 48 = .ok (.getfield 15, 3) := by decide +kernel
theorem dX7_run_51 : decode cX7_run 51 = .ok (.getfield 93, 3) := by decide +kernel
theorem dX7_run_54 : decode cX7_run 54 = .ok (.getfield 233, 3) := by decide +kernel
theorem dX7_run_57 : decode cX7_run 57 = .ok (.ireturn, 1) := by decide +kernel
theorem dX7_runToClosed_0 : decode cX7_runToClosed 0 = .ok (.iload_n 1, 1) := by decide +kernel
theorem dX7_runToClosed_1 : decode cX7_runToClosed 1 = .ok (.aload_n 0, 1) := by decide +kernel
theorem dX7_runToClosed_2 : decode cX7_runToClosed 2 = .ok (.getfield 15, 3) := by decide +kernel
theorem dX7_runToClosed_5 : decode cX7_runToClosed 5 = .ok (.getfield 93, 3) := by decide +kernel
theorem dX7_runToClosed_8 : decode cX7_runToClosed 8 = .ok (.getfield 111, 3) := by decide +kernel
theorem dX7_runToClosed_11 : decode cX7_runToClosed 11 = .ok (.getfield 115, 3) := by decide +kernel
theorem dX7_runToClosed_14 : decode cX7_runToClosed 14 = .ok (.invokestatic 123, 3) := by decide +kernel
theorem dX7_runToClosed_17 : decode cX7_runToClosed 17 = .ok (.iload_n 2, 1) := by decide +kernel
theorem dX7_runToClosed_18 : decode cX7_runToClosed 18 = .ok (.iconst 1, 1) := by decide +kernel
theorem dX7_runToClosed_19 : decode cX7_runToClosed 19 = .ok (.sipush 1000, 3) := by decide +kernel
theorem dX7_runToClosed_22 : decode cX7_runToClosed 22 = .ok (.invokestatic 80, 3) := by decide +kernel
theorem dX7_runToClosed_25 : decode cX7_runToClosed 25 = .ok (.aload_n 0, 1) := by decide +kernel
theorem dX7_runToClosed_26 : decode cX7_runToClosed 26 = .ok (.getfield 38, 3) := by decide +kernel
theorem dX7_runToClosed_29 : decode cX7_runToClosed 29 = .ok (.aload_n 0, 1) := by decide +kernel
theorem dX7_runToClosed_30 : decode cX7_runToClosed 30 = .ok (.getfield 15, 3) := by decide +kernel
theorem dX7_runToClosed_33 : decode cX7_runToClosed 33 = .ok (.getfield 93, 3) := by decide +kernel
theorem dX7_runToClosed_36 : decode cX7_runToClosed 36 = .ok (.invokevirtual 259, 3) := by decide +kernel
theorem dX7_runToClosed_39 : decode cX7_runToClosed 39 = .ok (.aload_n 0, 1) := by decide +kernel
theorem dX7_runToClosed_40 : decode cX7_runToClosed 40 = .ok (.getfield 15, 3) := by decide +kernel
theorem dX7_runToClosed_43 : decode cX7_runToClosed 43 = .ok (.iload_n 1, 1) := by decide +kernel
theorem dX7_runToClosed_44 : decode cX7_runToClosed 44 = .ok (.iload_n 2, 1) := by decide +kernel
theorem dX7_runToClosed_45 : decode cX7_runToClosed 45 = .ok (.sipush 9999, 3) := by decide +kernel
theorem dX7_runToClosed_48 : decode cX7_runToClosed 48 = .ok (.aload_n 0, 1) := by decide +kernel
theorem dX7_runToClosed_49 : decode cX7_runToClosed 49 = .ok (.getfield 15, 3) := by decide +kernel
theorem dX7_runToClosed_52 : decode cX7_runToClosed 52 = .ok (.getfield 93, 3) := by decide +kernel
theorem dX7_runToClosed_55 : decode cX7_runToClosed 55 = .ok (.getfield 233, 3) := by decide +kernel
theorem dX7_runToClosed_58 : decode cX7_runToClosed 58 = .ok (.isub, 1) := by decide +kernel
theorem dX7_runToClosed_59 : decode cX7_runToClosed 59 = .ok (.invokestatic 277, 3) := by decide +kernel
theorem dX7_runToClosed_62 : decode cX7_runToClosed 62 = .ok (.invokevirtual 293, 3) := by decide +kernel
theorem dX7_runToClosed_65 : decode cX7_runToClosed 65 = .ok (.istore_n 3, 1) := by decide +kernel
theorem dX7_runToClosed_66 : decode cX7_runToClosed 66 = .ok (.aload_n 0, 1) := by decide +kernel
theorem dX7_runToClosed_67 : decode cX7_runToClosed 67 = .ok (.getfield 15, 3) := by decide +kernel
theorem dX7_runToClosed_70 : decode cX7_runToClosed 70 = .ok (.getfield 93, 3) := by decide +kernel
theorem dX7_runToClosed_73 : decode cX7_runToClosed 73 = .ok (.getfield 111, 3) := by decide +kernel
theorem dX7_runToClosed_76 : decode cX7_runToClosed 76 = .ok (.iload_n 1, 1) := by decide +kernel
theorem dX7_runToClosed_77 : decode cX7_runToClosed 77 = .ok (.invokevirtual 267, 3) := by decide +kernel
theorem dX7_runToClosed_80 : decode cX7_runToClosed 80 = .ok (.ifCond .eq 7, 3) := by decide +kernel
theorem dX7_runToClosed_83 : decode cX7_runToClosed 83 = .ok (.iconst (-1), 1) := by decide +kernel
theorem dX7_runToClosed_84 : decode cX7_runToClosed 84 = .ok (.goto 4, 3) := by decide +kernel
theorem dX7_runToClosed_87 : decode cX7_runToClosed 87 = .ok (.iload_n 3, 1) := by decide +kernel
theorem dX7_runToClosed_88 : decode cX7_runToClosed 88 = .ok (.ireturn, 1) := by decide +kernel
theorem dX7_chargeIn_0 : decode cX7_chargeIn 0 = .ok (.iload_n 1, 1) := by decide +kernel
theorem dX7_chargeIn_1 : decode cX7_chargeIn 1 = .ok (.aload_n 0, 1) := by decide +kernel
theorem dX7_chargeIn_2 : decode cX7_chargeIn 2 = .ok (.getfield 15, 3) := by decide +kernel
theorem dX7_chargeIn_5 : decode cX7_chargeIn 5 = .ok (.getfield 21, 3) := by decide +kernel
theorem dX7_chargeIn_8 : decode cX7_chargeIn 8 = .ok (.getfield 74, 3) := by decide +kernel
theorem dX7_chargeIn_11 : decode cX7_chargeIn 11 = .ok (.invokestatic 123, 3) := by decide +kernel
theorem dX7_chargeIn_14 : decode cX7_chargeIn 14 = .ok (.iload_n 2, 1) := by decide +kernel
theorem dX7_chargeIn_15 : decode cX7_chargeIn 15 = .ok (.iconst 1, 1) := by decide +kernel
theorem dX7_chargeIn_16 : decode cX7_chargeIn 16 = .ok (.sipush 500, 3) := by decide +kernel
theorem dX7_chargeIn_19 : decode cX7_chargeIn 19 = .ok (.invokestatic 80, 3) := by decide +kernel
theorem dX7_chargeIn_22 : decode cX7_chargeIn 22 = .ok (.aload_n 0, 1) := by decide +kernel
theorem dX7_chargeIn_23 : decode cX7_chargeIn 23 = .ok (.getfield 25, 3) := by decide +kernel
theorem dX7_chargeIn_26 : decode cX7_chargeIn 26 = .ok (.getfield 93, 3) := by decide +kernel
theorem dX7_chargeIn_29 : decode cX7_chargeIn 29 = .ok (.aload_n 0, 1) := by decide +kernel
theorem dX7_chargeIn_30 : decode cX7_chargeIn 30 = .ok (.getfield 15, 3) := by decide +kernel
theorem dX7_chargeIn_33 : decode cX7_chargeIn 33 = .ok (.getfield 93, 3) := by decide +kernel
theorem dX7_chargeIn_36 : decode cX7_chargeIn 36 = .ok (.invokevirtual 296, 3) := by decide +kernel
theorem dX7_chargeIn_39 : decode cX7_chargeIn 39 = .ok (.aload_n 0, 1) := by decide +kernel
theorem dX7_chargeIn_40 : decode cX7_chargeIn 40 = .ok (.getfield 25, 3) := by decide +kernel
theorem dX7_chargeIn_43 : decode cX7_chargeIn 43 = .ok (.iload_n 2, 1) := by decide +kernel
theorem dX7_chargeIn_44 : decode cX7_chargeIn 44 = .ok (.invokevirtual 290, 3) := by decide +kernel
theorem dX7_chargeIn_47 : decode cX7_chargeIn 47 = .ok (.aload_n 0, 1) := by decide +kernel
theorem dX7_chargeIn_48 : decode cX7_chargeIn 48 = .ok (.getfield 25, 3) := by decide +kernel
theorem dX7_chargeIn_51 : decode cX7_chargeIn 51 = .ok (.getfield 93, 3) := by decide +kernel
theorem dX7_chargeIn_54 : decode cX7_chargeIn 54 = .ok (.getfield 135, 3) := by decide +kernel
theorem dX7_chargeIn_57 : decode cX7_chargeIn 57 = .ok (.iload_n 1, 1) := by decide +kernel
theorem dX7_chargeIn_58 : decode cX7_chargeIn 58 = .ok (.iaload, 1) := by decide +kernel
theorem dX7_chargeIn_59 : decode cX7_chargeIn 59 = .ok (.ireturn, 1) := by decide +kernel
theorem dX7_missIn_0 : decode cX7_missIn 0 = .ok (.iload_n 1, 1) := by decide +kernel
theorem dX7_missIn_1 : decode cX7_missIn 1 = .ok (.aload_n 0, 1) := by decide +kernel
theorem dX7_missIn_2 : decode cX7_missIn 2 = .ok (.getfield 15, 3) := by decide +kernel
theorem dX7_missIn_5 : decode cX7_missIn 5 = .ok (.getfield 21, 3) := by decide +kernel
theorem dX7_missIn_8 : decode cX7_missIn 8 = .ok (.getfield 74, 3) := by decide +kernel
theorem dX7_missIn_11 : decode cX7_missIn 11 = .ok (.invokestatic 123, 3) := by decide +kernel
theorem dX7_missIn_14 : decode cX7_missIn 14 = .ok (.aload_n 0, 1) := by decide +kernel
theorem dX7_missIn_15 : decode cX7_missIn 15 = .ok (.getfield 15, 3) := by decide +kernel
theorem dX7_missIn_18 : decode cX7_missIn 18 = .ok (.getfield 93, 3) := by decide +kernel
theorem dX7_missIn_21 : decode cX7_missIn 21 = .ok (.getfield 97, 3) := by decide +kernel
theorem dX7_missIn_24 : decode cX7_missIn 24 = .ok (.iload_n 1, 1) := by decide +kernel
theorem dX7_missIn_25 : decode cX7_missIn 25 = .ok (.iconst 2, 1) := by decide +kernel
theorem dX7_missIn_26 : decode cX7_missIn 26 = .ok (.invokevirtual 147, 3) := by decide +kernel
theorem dX7_missIn_29 : decode cX7_missIn 29 = .ok (.istore_n 2, 1) := by decide +kernel
theorem dX7_missIn_30 : decode cX7_missIn 30 = .ok (.aload_n 0, 1) := by decide +kernel
theorem dX7_missIn_31 : decode cX7_missIn 31 = .ok (.getfield 25, 3) := by decide +kernel
theorem dX7_missIn_34 : decode cX7_missIn 34 = .ok (.getfield 93, 3) := by decide +kernel
theorem dX7_missIn_37 : decode cX7_missIn 37 = .ok (.aload_n 0, 1) := by decide +kernel
theorem dX7_missIn_38 : decode cX7_missIn 38 = .ok (.getfield 15, 3) := by decide +kernel
theorem dX7_missIn_41 : decode cX7_missIn 41 = .ok (.getfield 93, 3) := by decide +kernel
theorem dX7_missIn_44 : decode cX7_missIn 44 = .ok (.invokevirtual 296, 3) := by decide +kernel
theorem dX7_missIn_47 : decode cX7_missIn 47 = .ok (.iconst 1, 1) := by decide +kernel
theorem dX7_missIn_48 : decode cX7_missIn 48 = .ok (.istore_n 3, 1) := by decide +kernel
theorem dX7_missIn_49 : decode cX7_missIn 49 = .ok (.iload_n 3, 1) := by decide +kernel
theorem dX7_missIn_50 : decode cX7_missIn 50 = .ok (.sipush 500, 3) := by decide +kernel
theorem dX7_missIn_53 : decode cX7_missIn 53 = .ok (.if_icmp .gt 37, 3) := by decide +kernel
theorem dX7_missIn_56 : decode cX7_missIn 56 = .ok (.aload_n 0, 1) := by decide +kernel
theorem dX7_missIn_57 : decode cX7_missIn 57 = .ok (.getfield 25, 3) := by decide +kernel
theorem dX7_missIn_60 : decode cX7_missIn 60 = .ok (.invokevirtual 298, 3) := by decide +kernel
theorem dX7_missIn_63 : decode cX7_missIn 63 = .ok (.aload_n 0, 1) := by decide +kernel
theorem dX7_missIn_64 : decode cX7_missIn 64 = .ok (.getfield 25, 3) := by decide +kernel
theorem dX7_missIn_67 : decode cX7_missIn 67 = .ok (.getfield 93, 3) := by decide +kernel
theorem dX7_missIn_70 : decode cX7_missIn 70 = .ok (.getfield 97, 3) := by decide +kernel
theorem dX7_missIn_73 : decode cX7_missIn 73 = .ok (.iload_n 1, 1) := by decide +kernel
theorem dX7_missIn_74 : decode cX7_missIn 74 = .ok (.iconst 2, 1) := by decide +kernel
theorem dX7_missIn_75 : decode cX7_missIn 75 = .ok (.invokevirtual 147, 3) := by decide +kernel
theorem dX7_missIn_78 : decode cX7_missIn 78 = .ok (.iload_n 2, 1) := by decide +kernel
theorem dX7_missIn_79 : decode cX7_missIn 79 = .ok (.if_icmp .le 5, 3) := by decide +kernel
theorem dX7_missIn_82 : decode cX7_missIn 82 = .ok (.iload_n 3, 1) := by decide +kernel
theorem dX7_missIn_83 : decode cX7_missIn 83 = .ok (.ireturn, 1) := by decide +kernel
theorem dX7_missIn_84 : decode cX7_missIn 84 = .ok (.iinc 3 1, 3) := by decide +kernel
theorem dX7_missIn_87 : decode cX7_missIn 87 = .ok (.goto (-38), 3) := by decide +kernel
theorem dX7_missIn_90 : decode cX7_missIn 90 = .ok (.iconst (-1), 1) := by decide +kernel
theorem dX7_missIn_91 : decode cX7_missIn 91 = .ok (.ireturn, 1) := by decide +kernel
theorem dX7_endIn_0 : decode cX7_endIn 0 = .ok (.iload_n 1, 1) := by decide +kernel
theorem dX7_endIn_1 : decode cX7_endIn 1 = .ok (.aload_n 0, 1) := by decide +kernel
theorem dX7_endIn_2 : decode cX7_endIn 2 = .ok (.getfield 15, 3) := by decide +kernel
theorem dX7_endIn_5 : decode cX7_endIn 5 = .ok (.getfield 93, 3) := by decide +kernel
theorem dX7_endIn_8 : decode cX7_endIn 8 = .ok (.getfield 111, 3) := by decide +kernel
theorem dX7_endIn_11 : decode cX7_endIn 11 = .ok (.getfield 115, 3) := by decide +kernel
theorem dX7_endIn_14 : decode cX7_endIn 14 = .ok (.invokestatic 123, 3) := by decide +kernel
theorem dX7_endIn_17 : decode cX7_endIn 17 = .ok (.aload_n 0, 1) := by decide +kernel
theorem dX7_endIn_18 : decode cX7_endIn 18 = .ok (.getfield 25, 3) := by decide +kernel
theorem dX7_endIn_21 : decode cX7_endIn 21 = .ok (.getfield 93, 3) := by decide +kernel
theorem dX7_endIn_24 : decode cX7_endIn 24 = .ok (.aload_n 0, 1) := by decide +kernel
theorem dX7_endIn_25 : decode cX7_endIn 25 = .ok (.getfield 15, 3) := by decide +kernel
theorem dX7_endIn_28 : decode cX7_endIn 28 = .ok (.getfield 93, 3) := by decide +kernel
theorem dX7_endIn_31 : decode cX7_endIn 31 = .ok (.invokevirtual 296, 3) := by decide +kernel
theorem dX7_endIn_34 : decode cX7_endIn 34 = .ok (.aload_n 0, 1) := by decide +kernel
theorem dX7_endIn_35 : decode cX7_endIn 35 = .ok (.getfield 25, 3) := by decide +kernel
theorem dX7_endIn_38 : decode cX7_endIn 38 = .ok (.iload_n 1, 1) := by decide +kernel
theorem dX7_endIn_39 : decode cX7_endIn 39 = .ok (.sipush 500, 3) := by decide +kernel
theorem dX7_endIn_42 : decode cX7_endIn 42 = .ok (.invokevirtual 293, 3) := by decide +kernel
theorem dX7_endIn_45 : decode cX7_endIn 45 = .ok (.istore_n 2, 1) := by decide +kernel
theorem dX7_endIn_46 : decode cX7_endIn 46 = .ok (.aload_n 0, 1) := by decide +kernel
theorem dX7_endIn_47 : decode cX7_endIn 47 = .ok (.getfield 25, 3) := by decide +kernel
theorem dX7_endIn_50 : decode cX7_endIn 50 = .ok (.getfield 93, 3) := by decide +kernel
theorem dX7_endIn_53 : decode cX7_endIn 53 = .ok (.getfield 111, 3) := by decide +kernel
theorem dX7_endIn_56 : decode cX7_endIn 56 = .ok (.iload_n 1, 1) := by decide +kernel
theorem dX7_endIn_57 : decode cX7_endIn 57 = .ok (.invokevirtual 267, 3) := by decide +kernel
theorem dX7_endIn_60 : decode cX7_endIn 60 = .ok (.ifCond .eq 7, 3) := by decide +kernel
theorem dX7_endIn_63 : decode cX7_endIn 63 = .ok (.iconst (-1), 1) := by decide +kernel
theorem dX7_endIn_64 : decode cX7_endIn 64 = .ok (.goto 4, 3) := by decide +kernel
theorem dX7_endIn_67 : decode cX7_endIn 67 = .ok (.iload_n 2, 1) := by decide +kernel
theorem dX7_endIn_68 : decode cX7_endIn 68 = .ok (.ireturn, 1) := by decide +kernel
theorem dX7_endAs_0 : decode cX7_endAs 0 = .ok (.iload_n 1, 1) := by decide +kernel
theorem dX7_endAs_1 : decode cX7_endAs 1 = .ok (.aload_n 0, 1) := by decide +kernel
theorem dX7_endAs_2 : decode cX7_endAs 2 = .ok (.getfield 15, 3) := by decide +kernel
theorem dX7_endAs_5 : decode cX7_endAs 5 = .ok (.getfield 93, 3) := by decide +kernel
theorem dX7_endAs_8 : decode cX7_endAs 8 = .ok (.getfield 111, 3) := by decide +kernel
theorem dX7_endAs_11 : decode cX7_endAs 11 = .ok (.getfield 115, 3) := by decide +kernel
theorem dX7_endAs_14 : decode cX7_endAs 14 = .ok (.invokestatic 123, 3) := by decide +kernel
theorem dX7_endAs_17 : decode cX7_endAs 17 = .ok (.aload_n 0, 1) := by decide +kernel
theorem dX7_endAs_18 : decode cX7_endAs 18 = .ok (.getfield 25, 3) := by decide +kernel
theorem dX7_endAs_21 : decode cX7_endAs 21 = .ok (.getfield 93, 3) := by decide +kernel
theorem dX7_endAs_24 : decode cX7_endAs 24 = .ok (.aload_n 0, 1) := by decide +kernel
theorem dX7_endAs_25 : decode cX7_endAs 25 = .ok (.getfield 15, 3) := by decide +kernel
theorem dX7_endAs_28 : decode cX7_endAs 28 = .ok (.getfield 93, 3) := by decide +kernel
theorem dX7_endAs_31 : decode cX7_endAs 31 = .ok (.invokevirtual 296, 3) := by decide +kernel
theorem dX7_endAs_34 : decode cX7_endAs 34 = .ok (.aload_n 0, 1) := by decide +kernel
theorem dX7_endAs_35 : decode cX7_endAs 35 = .ok (.getfield 25, 3) := by decide +kernel
theorem dX7_endAs_38 : decode cX7_endAs 38 = .ok (.iload_n 1, 1) := by decide +kernel
theorem dX7_endAs_39 : decode cX7_endAs 39 = .ok (.sipush 500, 3) := by decide +kernel
theorem dX7_endAs_42 : decode cX7_endAs 42 = .ok (.invokevirtual 293, 3) := by decide +kernel
theorem dX7_endAs_45 : decode cX7_endAs 45 = .ok (.pop, 1) := by decide +kernel
theorem dX7_endAs_46 : decode cX7_endAs 46 = .ok (.aload_n 0, 1) := by decide +kernel
theorem dX7_endAs_47 : decode cX7_endAs 47 = .ok (.getfield 25, 3) := by decide +kernel
theorem dX7_endAs_50 : decode cX7_endAs 50 = .ok (.getfield 93, 3) := by decide +kernel
theorem dX7_endAs_53 : decode cX7_endAs 53 = .ok (.getfield 111, 3) := by decide +kernel
theorem dX7_endAs_56 : decode cX7_endAs 56 = .ok (.getfield 229, 3) := by decide +kernel
theorem dX7_endAs_59 : decode cX7_endAs 59 = .ok (.iload_n 1, 1) := by decide +kernel
theorem dX7_endAs_60 : decode cX7_endAs 60 = .ok (.iaload, 1) := by decide +kernel
theorem dX7_endAs_61 : decode cX7_endAs 61 = .ok (.ireturn, 1) := by decide +kernel
theorem dX7_lacks_0 : decode cX7_lacks 0 = .ok (.aload_n 0, 1) := by decide +kernel
theorem dX7_lacks_1 : decode cX7_lacks 1 = .ok (.getfield 15, 3) := by decide +kernel
theorem dX7_lacks_4 : decode cX7_lacks 4 = .ok (.getfield 93, 3) := by decide +kernel
theorem dX7_lacks_7 : decode cX7_lacks 7 = .ok (.getfield 97, 3) := by decide +kernel
theorem dX7_lacks_10 : decode cX7_lacks 10 = .ok (.astore_n 2, 1) := by decide +kernel
theorem dX7_lacks_11 : decode cX7_lacks 11 = .ok (.iload_n 1, 1) := by decide +kernel
theorem dX7_lacks_12 : decode cX7_lacks 12 = .ok (.aload_n 2, 1) := by decide +kernel
theorem dX7_lacks_13 : decode cX7_lacks 13 = .ok (.getfield 103, 3) := by decide +kernel
theorem dX7_lacks_16 : decode cX7_lacks 16 = .ok (.invokestatic 123, 3) := by decide +kernel
theorem dX7_lacks_19 : decode cX7_lacks 19 = .ok (.aload_n 2, 1) := by decide +kernel
theorem dX7_lacks_20 : decode cX7_lacks 20 = .ok (.getfield 175, 3) := by decide +kernel
theorem dX7_lacks_23 : decode cX7_lacks 23 = .ok (.iload_n 1, 1) := by decide +kernel
theorem dX7_lacks_24 : decode cX7_lacks 24 = .ok (.iaload, 1) := by decide +kernel
theorem dX7_lacks_25 : decode cX7_lacks 25 = .ok (.aload_n 0, 1) := by decide +kernel
theorem dX7_lacks_26 : decode cX7_lacks 26 = .ok (.getfield 15, 3) := by decide +kernel
theorem dX7_lacks_29 : decode cX7_lacks 29 = .ok (.getfield 93, 3) := by decide +kernel
theorem dX7_lacks_32 : decode cX7_lacks 32 = .ok (.getfield 233, 3) := by decide +kernel
theorem dX7_lacks_35 : decode cX7_lacks 35 = .ok (.isub, 1) := by decide +kernel
theorem dX7_lacks_36 : decode cX7_lacks 36 = .ok (.istore_n 3, 1) := by decide +kernel
theorem dX7_lacks_37 : decode cX7_lacks 37 = .ok (.aload_n 2, 1) := by decide +kernel
theorem dX7_lacks_38 : decode cX7_lacks 38 = .ok (.getfield 181, 3) := by decide +kernel
theorem dX7_lacks_41 : decode cX7_lacks 41 = .ok (.iload_n 1, 1) := by decide +kernel
theorem dX7_lacks_42 : decode cX7_lacks 42 = .ok (.iaload, 1) := by decide +kernel
theorem dX7_lacks_43 : decode cX7_lacks 43 = .ok (.ifCond .ne 10, 3) := by decide +kernel
theorem dX7_lacks_46 : decode cX7_lacks 46 = .ok (.iload_n 3, 1) := by decide +kernel
theorem dX7_lacks_47 : decode cX7_lacks 47 = .ok (.sipush 500, 3) := by decide +kernel
theorem dX7_lacks_50 : decode cX7_lacks 50 = .ok (.if_icmp .lt 5, 3) := by decide +kernel
theorem dX7_lacks_53 : decode cX7_lacks 53 = .ok (.iconst (-1), 1) := by decide +kernel
theorem dX7_lacks_54 : decode cX7_lacks 54 = .ok (.ireturn, 1) := by decide +kernel
theorem dX7_lacks_55 : decode cX7_lacks 55 = .ok (.aload_n 0, 1) := by decide +kernel
theorem dX7_lacks_56 : decode cX7_lacks 56 = .ok (.getfield 25, 3) := by decide +kernel
theorem dX7_lacks_59 : decode cX7_lacks 59 = .ok (.getfield 93, 3) := by decide +kernel
theorem dX7_lacks_62 : decode cX7_lacks 62 = .ok (.aload_n 0, 1) := by decide +kernel
theorem dX7_lacks_63 : decode cX7_lacks 63 = .ok (.getfield 15, 3) := by decide +kernel
theorem dX7_lacks_66 : decode cX7_lacks 66 = .ok (.getfield 93, 3) := by decide +kernel
theorem dX7_lacks_69 : decode cX7_lacks 69 = .ok (.invokevirtual 296, 3) := by decide +kernel
theorem dX7_lacks_72 : decode cX7_lacks 72 = .ok (.aload_n 0, 1) := by decide +kernel
theorem dX7_lacks_73 : decode cX7_lacks 73 = .ok (.getfield 25, 3) := by decide +kernel
theorem dX7_lacks_76 : decode cX7_lacks 76 = .ok (.iload_n 3, 1) := by decide +kernel
theorem dX7_lacks_77 : decode cX7_lacks 77 = .ok (.invokevirtual 290, 3) := by decide +kernel
theorem dX7_lacks_80 : decode cX7_lacks 80 = .ok (.aload_n 0, 1) := by decide +kernel
theorem dX7_lacks_81 : decode cX7_lacks 81 = .ok (.getfield 25, 3) := by decide +kernel
theorem dX7_lacks_84 : decode cX7_lacks 84 = .ok (.invokevirtual 301, 3) := by decide +kernel
theorem dX7_lacks_87 : decode cX7_lacks 87 = .ok (.aload_n 0, 1) := by decide +kernel
theorem dX7_lacks_88 : decode cX7_lacks 88 = .ok (.getfield 25, 3) := by decide +kernel
theorem dX7_lacks_91 : decode cX7_lacks 91 = .ok (.iload_n 1, 1) := by decide +kernel
theorem dX7_lacks_92 : decode cX7_lacks 92 = .ok (.invokevirtual 304, 3) := by decide +kernel
theorem dX7_lacks_95 : decode cX7_lacks 95 = .ok (.iconst 0, 1) := by decide +kernel
theorem dX7_lacks_96 : decode cX7_lacks 96 = .ok (.aload_n 2, 1) := by decide +kernel
theorem dX7_lacks_97 : decode cX7_lacks 97 = .ok (.getfield 178, 3) := by decide +kernel
theorem dX7_lacks_100 : decode cX7_lacks 100 = .ok (.iload_n 1, 1) := by decide +kernel
theorem dX7_lacks_101 : decode cX7_lacks 101 = .ok (.iaload, 1) := by decide +kernel
theorem dX7_lacks_102 : decode cX7_lacks 102 = .ok (.aload_n 0, 1) := by decide +kernel
theorem dX7_lacks_103 : decode cX7_lacks 103 = .ok (.getfield 25, 3) := by decide +kernel
theorem dX7_lacks_106 : decode cX7_lacks 106 = .ok (.getfield 93, 3) := by decide +kernel
theorem dX7_lacks_109 : decode cX7_lacks 109 = .ok (.getfield 135, 3) := by decide +kernel
theorem dX7_lacks_112 : decode cX7_lacks 112 = .ok (.aload_n 2, 1) := by decide +kernel
theorem dX7_lacks_113 : decode cX7_lacks 113 = .ok (.getfield 172, 3) := by decide +kernel
theorem dX7_lacks_116 : decode cX7_lacks 116 = .ok (.iload_n 1, 1) := by decide +kernel
theorem dX7_lacks_117 : decode cX7_lacks 117 = .ok (.iaload, 1) := by decide +kernel
theorem dX7_lacks_118 : decode cX7_lacks 118 = .ok (.iaload, 1) := by decide +kernel
theorem dX7_lacks_119 : decode cX7_lacks 119 = .ok (.isub, 1) := by decide +kernel
theorem dX7_lacks_120 : decode cX7_lacks 120 = .ok (.invokestatic 307, 3) := by decide +kernel
theorem dX7_lacks_123 : decode cX7_lacks 123 = .ok (.ireturn, 1) := by decide +kernel
theorem dX7_isSafe_0 : decode cX7_isSafe 0 = .ok (.iload_n 1, 1) := by decide +kernel
theorem dX7_isSafe_1 : decode cX7_isSafe 1 = .ok (.aload_n 0, 1) := by decide +kernel
theorem dX7_isSafe_2 : decode cX7_isSafe 2 = .ok (.getfield 15, 3) := by decide +kernel
theorem dX7_isSafe_5 : decode cX7_isSafe 5 = .ok (.getfield 21, 3) := by decide +kernel
theorem dX7_isSafe_8 : decode cX7_isSafe 8 = .ok (.getfield 108, 3) := by decide +kernel
theorem dX7_isSafe_11 : decode cX7_isSafe 11 = .ok (.invokestatic 123, 3) := by decide +kernel
theorem dX7_isSafe_14 : decode cX7_isSafe 14 = .ok (.iload_n 2, 1) := by decide +kernel
theorem dX7_isSafe_15 : decode cX7_isSafe 15 = .ok (.iconst 1, 1) := by decide +kernel
theorem dX7_isSafe_16 : decode cX7_isSafe 16 = .ok (.ldc 249, 2) := by decide +kernel
theorem dX7_isSafe_18 : decode cX7_isSafe 18 = .ok (.invokestatic 80, 3) := by decide +kernel
theorem dX7_isSafe_21 : decode cX7_isSafe 21 = .ok (.iload_n 3, 1) := by decide +kernel
theorem dX7_isSafe_22 : decode cX7_isSafe 22 = .ok (.iconst 1, 1) := by decide +kernel
theorem dX7_isSafe_23 : decode cX7_isSafe 23 = .ok (.sipush 500, 3) := by decide +kernel
theorem dX7_isSafe_26 : decode cX7_isSafe 26 = .ok (.invokestatic 80, 3) := by decide +kernel
theorem dX7_isSafe_29 : decode cX7_isSafe 29 = .ok (.aload_n 0, 1) := by decide +kernel
theorem dX7_isSafe_30 : decode cX7_isSafe 30 = .ok (.getfield 15, 3) := by decide +kernel
theorem dX7_isSafe_33 : decode cX7_isSafe 33 = .ok (.iload_n 1, 1) := by decide +kernel
theorem dX7_isSafe_34 : decode cX7_isSafe 34 = .ok (.iload_n 2, 1) := by decide +kernel
theorem dX7_isSafe_35 : decode cX7_isSafe 35 = .ok (.invokevirtual 253, 3) := by decide +kernel
theorem dX7_isSafe_38 : decode cX7_isSafe 38 = .ok (.ifCond .eq 5, 3) := by decide +kernel
theorem dX7_isSafe_41 : decode cX7_isSafe 41 = .ok (.iconst 0, 1) := by decide +kernel
theorem dX7_isSafe_42 : decode cX7_isSafe 42 = .ok (.ireturn, 1) := by decide +kernel
theorem dX7_isSafe_43 : decode cX7_isSafe 43 = .ok (.aload_n 0, 1) := by decide +kernel
theorem dX7_isSafe_44 : decode cX7_isSafe 44 = .ok (.getfield 15, 3) := by decide +kernel
theorem dX7_isSafe_47 : decode cX7_isSafe 47 = .ok (.getfield 21, 3) := by decide +kernel
theorem dX7_isSafe_50 : decode cX7_isSafe 50 = .ok (.getfield 183, 3) := by decide +kernel
theorem dX7_isSafe_53 : decode cX7_isSafe 53 = .ok (.iload_n 1, 1) := by decide +kernel
theorem dX7_isSafe_54 : decode cX7_isSafe 54 = .ok (.iaload, 1) := by decide +kernel
theorem dX7_isSafe_55 : decode cX7_isSafe 55 = .ok (.istore 4, 2) := by decide +kernel
theorem dX7_isSafe_57 : decode cX7_isSafe 57 = .ok (.aload_n 0, 1) := by decide +kernel
theorem dX7_isSafe_58 : decode cX7_isSafe 58 = .ok (.getfield 25, 3) := by decide +kernel
theorem dX7_isSafe_61 : decode cX7_isSafe 61 = .ok (.getfield 93, 3) := by decide +kernel
theorem dX7_isSafe_64 : decode cX7_isSafe 64 = .ok (.aload_n 0, 1) := by decide +kernel
theorem dX7_isSafe_65 : decode cX7_isSafe 65 = .ok (.getfield 15, 3) := by decide +kernel
theorem dX7_isSafe_68 : decode cX7_isSafe 68 = .ok (.getfield 93, 3) := by decide +kernel
theorem dX7_isSafe_71 : decode cX7_isSafe 71 = .ok (.invokevirtual 296, 3) := by decide +kernel
theorem dX7_isSafe_74 : decode cX7_isSafe 74 = .ok (.aload_n 0, 1) := by decide +kernel
theorem dX7_isSafe_75 : decode cX7_isSafe 75 = .ok (.getfield 25, 3) := by decide +kernel
theorem dX7_isSafe_78 : decode cX7_isSafe 78 = .ok (.iload_n 3, 1) := by decide +kernel
theorem dX7_isSafe_79 : decode cX7_isSafe 79 = .ok (.invokevirtual 290, 3) := by decide +kernel
theorem dX7_isSafe_82 : decode cX7_isSafe 82 = .ok (.aload_n 0, 1) := by decide +kernel
theorem dX7_isSafe_83 : decode cX7_isSafe 83 = .ok (.getfield 25, 3) := by decide +kernel
theorem dX7_isSafe_86 : decode cX7_isSafe 86 = .ok (.getfield 93, 3) := by decide +kernel
theorem dX7_isSafe_89 : decode cX7_isSafe 89 = .ok (.getfield 97, 3) := by decide +kernel
theorem dX7_isSafe_92 : decode cX7_isSafe 92 = .ok (.iload 4, 2) := by decide +kernel
theorem dX7_isSafe_94 : decode cX7_isSafe 94 = .ok (.iconst 2, 1) := by decide +kernel
theorem dX7_isSafe_95 : decode cX7_isSafe 95 = .ok (.invokevirtual 147, 3) := by decide +kernel
theorem dX7_isSafe_98 : decode cX7_isSafe 98 = .ok (.istore 5, 2) := by decide +kernel
theorem dX7_isSafe_100 : decode cX7_isSafe 100 = .ok (.aload_n 0, 1) := by decide +kernel
theorem dX7_isSafe_101 : decode cX7_isSafe 101 = .ok (.getfield 25, 3) := by decide +kernel
theorem dX7_isSafe_104 : decode cX7_isSafe 104 = .ok (.getfield 93, 3) := by decide +kernel
theorem dX7_isSafe_107 : decode cX7_isSafe 107 = .ok (.aload_n 0, 1) := by decide +kernel
theorem dX7_isSafe_108 : decode cX7_isSafe 108 = .ok (.getfield 15, 3) := by decide +kernel
theorem dX7_isSafe_111 : decode cX7_isSafe 111 = .ok (.getfield 93, 3) := by decide +kernel
theorem dX7_isSafe_114 : decode cX7_isSafe 114 = .ok (.invokevirtual 296, 3) := by decide +kernel
theorem dX7_isSafe_117 : decode cX7_isSafe 117 = .ok (.aload_n 0, 1) := by decide +kernel
theorem dX7_isSafe_118 : decode cX7_isSafe 118 = .ok (.getfield 25, 3) := by decide +kernel
theorem dX7_isSafe_121 : decode cX7_isSafe 121 = .ok (.getfield 93, 3) := by decide +kernel
theorem dX7_isSafe_124 : decode cX7_isSafe 124 = .ok (.getfield 111, 3) := by decide +kernel
theorem dX7_isSafe_127 : decode cX7_isSafe 127 = .ok (.iload_n 1, 1) := by decide +kernel
theorem dX7_isSafe_128 : decode cX7_isSafe 128 = .ok (.iload_n 2, 1) := by decide +kernel
theorem dX7_isSafe_129 : decode cX7_isSafe 129 = .ok (.aload_n 0, 1) := by decide +kernel
theorem dX7_isSafe_130 : decode cX7_isSafe 130 = .ok (.getfield 15, 3) := by decide +kernel
theorem dX7_isSafe_133 : decode cX7_isSafe 133 = .ok (.getfield 93, 3) := by decide +kernel
theorem dX7_isSafe_136 : decode cX7_isSafe 136 = .ok (.getfield 233, 3) := by decide +kernel
theorem dX7_isSafe_139 : decode cX7_isSafe 139 = .ok (.iload_n 3, 1) := by decide +kernel
theorem dX7_isSafe_140 : decode cX7_isSafe 140 = .ok (.iadd, 1) := by decide +kernel
theorem dX7_isSafe_141 : decode cX7_isSafe 141 = .ok (.invokevirtual 263, 3) := by decide +kernel
theorem dX7_isSafe_144 : decode cX7_isSafe 144 = .ok (.pop, 1) := by decide +kernel
theorem dX7_isSafe_145 : decode cX7_isSafe 145 = .ok (.aload_n 0, 1) := by decide +kernel
theorem dX7_isSafe_146 : decode cX7_isSafe 146 = .ok (.getfield 25, 3) := by decide +kernel
theorem dX7_isSafe_149 : decode cX7_isSafe 149 = .ok (.iload_n 3, 1) := by decide +kernel
theorem dX7_isSafe_150 : decode cX7_isSafe 150 = .ok (.invokevirtual 290, 3) := by decide +kernel
theorem dX7_isSafe_153 : decode cX7_isSafe 153 = .ok (.aload_n 0, 1) := by decide +kernel
theorem dX7_isSafe_154 : decode cX7_isSafe 154 = .ok (.getfield 25, 3) := by decide +kernel
theorem dX7_isSafe_157 : decode cX7_isSafe 157 = .ok (.getfield 93, 3) := by decide +kernel
theorem dX7_isSafe_160 : decode cX7_isSafe 160 = .ok (.getfield 97, 3) := by decide +kernel
theorem dX7_isSafe_163 : decode cX7_isSafe 163 = .ok (.iload 4, 2) := by decide +kernel
theorem dX7_isSafe_165 : decode cX7_isSafe 165 = .ok (.iconst 2, 1) := by decide +kernel
theorem dX7_isSafe_166 : decode cX7_isSafe 166 = .ok (.invokevirtual 147, 3) := by decide +kernel
theorem dX7_isSafe_169 : decode cX7_isSafe 169 = .ok (.iload 5, 2) := by decide +kernel
theorem dX7_isSafe_171 : decode cX7_isSafe 171 = .ok (.if_icmp .gt 7, 3) := by decide +kernel
theorem dX7_isSafe_174 : decode cX7_isSafe 174 = .ok (.iconst 1, 1) := by decide +kernel
theorem dX7_isSafe_175 : decode cX7_isSafe 175 = .ok (.goto 4, 3) := by decide +kernel
theorem dX7_isSafe_178 : decode cX7_isSafe 178 = .ok (.iconst 0, 1) := by decide +kernel
theorem dX7_isSafe_179 : decode cX7_isSafe 179 = .ok (.ireturn, 1) := by decide +kernel
theorem dX7_wearIn_0 : decode cX7_wearIn 0 = .ok (.iload_n 1, 1) := by decide +kernel
theorem dX7_wearIn_1 : decode cX7_wearIn 1 = .ok (.aload_n 0, 1) := by decide +kernel
theorem dX7_wearIn_2 : decode cX7_wearIn 2 = .ok (.getfield 15, 3) := by decide +kernel
theorem dX7_wearIn_5 : decode cX7_wearIn 5 = .ok (.getfield 21, 3) := by decide +kernel
theorem dX7_wearIn_8 : decode cX7_wearIn 8 = .ok (.getfield 74, 3) := by decide +kernel
theorem dX7_wearIn_11 : decode cX7_wearIn 11 = .ok (.invokestatic 123, 3) := by decide +kernel
theorem dX7_wearIn_14 : decode cX7_wearIn 14 = .ok (.iload_n 2, 1) := by decide +kernel
theorem dX7_wearIn_15 : decode cX7_wearIn 15 = .ok (.iconst 1, 1) := by decide +kernel
theorem dX7_wearIn_16 : decode cX7_wearIn 16 = .ok (.sipush 500, 3) := by decide +kernel
theorem dX7_wearIn_19 : decode cX7_wearIn 19 = .ok (.invokestatic 80, 3) := by decide +kernel
theorem dX7_wearIn_22 : decode cX7_wearIn 22 = .ok (.aload_n 0, 1) := by decide +kernel
theorem dX7_wearIn_23 : decode cX7_wearIn 23 = .ok (.getfield 25, 3) := by decide +kernel
theorem dX7_wearIn_26 : decode cX7_wearIn 26 = .ok (.getfield 93, 3) := by decide +kernel
theorem dX7_wearIn_29 : decode cX7_wearIn 29 = .ok (.aload_n 0, 1) := by decide +kernel
theorem dX7_wearIn_30 : decode cX7_wearIn 30 = .ok (.getfield 15, 3) := by decide +kernel
theorem dX7_wearIn_33 : decode cX7_wearIn 33 = .ok (.getfield 93, 3) := by decide +kernel
theorem dX7_wearIn_36 : decode cX7_wearIn 36 = .ok (.invokevirtual 296, 3) := by decide +kernel
theorem dX7_wearIn_39 : decode cX7_wearIn 39 = .ok (.aload_n 0, 1) := by decide +kernel
theorem dX7_wearIn_40 : decode cX7_wearIn 40 = .ok (.getfield 25, 3) := by decide +kernel
theorem dX7_wearIn_43 : decode cX7_wearIn 43 = .ok (.iload_n 2, 1) := by decide +kernel
theorem dX7_wearIn_44 : decode cX7_wearIn 44 = .ok (.invokevirtual 290, 3) := by decide +kernel
theorem dX7_wearIn_47 : decode cX7_wearIn 47 = .ok (.aload_n 0, 1) := by decide +kernel
theorem dX7_wearIn_48 : decode cX7_wearIn 48 = .ok (.getfield 25, 3) := by decide +kernel
theorem dX7_wearIn_51 : decode cX7_wearIn 51 = .ok (.getfield 93, 3) := by decide +kernel
theorem dX7_wearIn_54 : decode cX7_wearIn 54 = .ok (.getfield 138, 3) := by decide +kernel
theorem dX7_wearIn_57 : decode cX7_wearIn 57 = .ok (.iload_n 1, 1) := by decide +kernel
theorem dX7_wearIn_58 : decode cX7_wearIn 58 = .ok (.iaload, 1) := by decide +kernel
theorem dX7_wearIn_59 : decode cX7_wearIn 59 = .ok (.aload_n 0, 1) := by decide +kernel
theorem dX7_wearIn_60 : decode cX7_wearIn 60 = .ok (.getfield 15, 3) := by decide +kernel
theorem dX7_wearIn_63 : decode cX7_wearIn 63 = .ok (.getfield 93, 3) := by decide +kernel
theorem dX7_wearIn_66 : decode cX7_wearIn 66 = .ok (.getfield 138, 3) := by decide +kernel
theorem dX7_wearIn_69 : decode cX7_wearIn 69 = .ok (.iload_n 1, 1) := by decide +kernel
theorem dX7_wearIn_70 : decode cX7_wearIn 70 = .ok (.iaload, 1) := by decide +kernel
theorem dX7_wearIn_71 : decode cX7_wearIn 71 = .ok (.isub, 1) := by decide +kernel
theorem dX7_wearIn_72 : decode cX7_wearIn 72 = .ok (.ireturn, 1) := by decide +kernel
theorem dX7_neediest_0 : decode cX7_neediest 0 = .ok (.iconst (-1), 1) := by decide +kernel
theorem dX7_neediest_1 : decode cX7_neediest 1 = .ok (.istore_n 1, 1) := by decide +kernel
theorem dX7_neediest_2 : decode cX7_neediest 2 = .ok (.iconst 0, 1) := by decide +kernel
theorem dX7_neediest_3 : decode cX7_neediest 3 = .ok (.istore_n 2, 1) := by decide +kernel
theorem dX7_neediest_4 : decode cX7_neediest 4 = .ok (.iload_n 2, 1) := by decide +kernel
theorem dX7_neediest_5 : decode cX7_neediest 5 = .ok (.aload_n 0, 1) := by decide +kernel
theorem dX7_neediest_6 : decode cX7_neediest 6 = .ok (.getfield 15, 3) := by decide +kernel
theorem dX7_neediest_9 : decode cX7_neediest 9 = .ok (.getfield 21, 3) := by decide +kernel
theorem dX7_neediest_12 : decode cX7_neediest 12 = .ok (.getfield 74, 3) := by decide +kernel
theorem dX7_neediest_15 : decode cX7_neediest 15 = .ok (.if_icmp .ge 41, 3) := by decide +kernel
theorem dX7_neediest_18 : decode cX7_neediest 18 = .ok (.iload_n 1, 1) := by decide +kernel
theorem dX7_neediest_19 : decode cX7_neediest 19 = .ok (.iconst (-1), 1) := by decide +kernel
theorem dX7_neediest_20 : decode cX7_neediest 20 = .ok (.if_icmp .eq 28, 3) := by decide +kernel
theorem dX7_neediest_23 : decode cX7_neediest 23 = .ok (.aload_n 0, 1) := by decide +kernel
theorem dX7_neediest_24 : decode cX7_neediest 24 = .ok (.getfield 15, 3) := by decide +kernel
theorem dX7_neediest_27 : decode cX7_neediest 27 = .ok (.getfield 93, 3) := by decide +kernel
theorem dX7_neediest_30 : decode cX7_neediest 30 = .ok (.iload_n 2, 1) := by decide +kernel
theorem dX7_neediest_31 : decode cX7_neediest 31 = .ok (.invokevirtual 310, 3) := by decide +kernel
theorem dX7_neediest_34 : decode cX7_neediest 34 = .ok (.aload_n 0, 1) := by decide +kernel
theorem dX7_neediest_35 : decode cX7_neediest 35 = .ok (.getfield 15, 3) := by decide +kernel
theorem dX7_neediest_38 : decode cX7_neediest 38 = .ok (.getfield 93, 3) := by decide +kernel
theorem dX7_neediest_41 : decode cX7_neediest 41 = .ok (.iload_n 1, 1) := by decide +kernel
theorem dX7_neediest_42 : decode cX7_neediest 42 = .ok (.invokevirtual 310, 3) := by decide +kernel
theorem dX7_neediest_45 : decode cX7_neediest 45 = .ok (.if_icmp .ge 5, 3) := by decide +kernel
theorem dX7_neediest_48 : decode cX7_neediest 48 = .ok (.iload_n 2, 1) := by decide +kernel
theorem dX7_neediest_49 : decode cX7_neediest 49 = .ok (.istore_n 1, 1) := by decide +kernel
theorem dX7_neediest_50 : decode cX7_neediest 50 = .ok (.iinc 2 1, 3) := by decide +kernel
theorem dX7_neediest_53 : decode cX7_neediest 53 = .ok (.goto (-49), 3) := by decide +kernel
theorem dX7_neediest_56 : decode cX7_neediest 56 = .ok (.iload_n 1, 1) := by decide +kernel
theorem dX7_neediest_57 : decode cX7_neediest 57 = .ok (.ireturn, 1) := by decide +kernel
theorem dX7_richest_0 : decode cX7_richest 0 = .ok (.iconst (-1), 1) := by decide +kernel
theorem dX7_richest_1 : decode cX7_richest 1 = .ok (.istore_n 1, 1) := by decide +kernel
theorem dX7_richest_2 : decode cX7_richest 2 = .ok (.iconst 0, 1) := by decide +kernel
theorem dX7_richest_3 : decode cX7_richest 3 = .ok (.istore_n 2, 1) := by decide +kernel
theorem dX7_richest_4 : decode cX7_richest 4 = .ok (.iload_n 2, 1) := by decide +kernel
theorem dX7_richest_5 : decode cX7_richest 5 = .ok (.aload_n 0, 1) := by decide +kernel
theorem dX7_richest_6 : decode cX7_richest 6 = .ok (.getfield 15, 3) := by decide +kernel
theorem dX7_richest_9 : decode cX7_richest 9 = .ok (.getfield 21, 3) := by decide +kernel
theorem dX7_richest_12 : decode cX7_richest 12 = .ok (.getfield 74, 3) := by decide +kernel
theorem dX7_richest_15 : decode cX7_richest 15 = .ok (.if_icmp .ge 41, 3) := by decide +kernel
theorem dX7_richest_18 : decode cX7_richest 18 = .ok (.iload_n 1, 1) := by decide +kernel
theorem dX7_richest_19 : decode cX7_richest 19 = .ok (.iconst (-1), 1) := by decide +kernel
theorem dX7_richest_20 : decode cX7_richest 20 = .ok (.if_icmp .eq 28, 3) := by decide +kernel
theorem dX7_richest_23 : decode cX7_richest 23 = .ok (.aload_n 0, 1) := by decide +kernel
theorem dX7_richest_24 : decode cX7_richest 24 = .ok (.getfield 15, 3) := by decide +kernel
theorem dX7_richest_27 : decode cX7_richest 27 = .ok (.getfield 93, 3) := by decide +kernel
theorem dX7_richest_30 : decode cX7_richest 30 = .ok (.iload_n 2, 1) := by decide +kernel
theorem dX7_richest_31 : decode cX7_richest 31 = .ok (.invokevirtual 310, 3) := by decide +kernel
theorem dX7_richest_34 : decode cX7_richest 34 = .ok (.aload_n 0, 1) := by decide +kernel
theorem dX7_richest_35 : decode cX7_richest 35 = .ok (.getfield 15, 3) := by decide +kernel
theorem dX7_richest_38 : decode cX7_richest 38 = .ok (.getfield 93, 3) := by decide +kernel
theorem dX7_richest_41 : decode cX7_richest 41 = .ok (.iload_n 1, 1) := by decide +kernel
theorem dX7_richest_42 : decode cX7_richest 42 = .ok (.invokevirtual 310, 3) := by decide +kernel
theorem dX7_richest_45 : decode cX7_richest 45 = .ok (.if_icmp .le 5, 3) := by decide +kernel
theorem dX7_richest_48 : decode cX7_richest 48 = .ok (.iload_n 2, 1) := by decide +kernel
theorem dX7_richest_49 : decode cX7_richest 49 = .ok (.istore_n 1, 1) := by decide +kernel
theorem dX7_richest_50 : decode cX7_richest 50 = .ok (.iinc 2 1, 3) := by decide +kernel
theorem dX7_richest_53 : decode cX7_richest 53 = .ok (.goto (-49), 3) := by decide +kernel
theorem dX7_richest_56 : decode cX7_richest 56 = .ok (.iload_n 1, 1) := by decide +kernel
theorem dX7_richest_57 : decode cX7_richest 57 = .ok (.ireturn, 1) := by decide +kernel
theorem dX7_owes_0 : decode cX7_owes 0 = .ok (.iload_n 1, 1) := by decide +kernel
theorem dX7_owes_1 : decode cX7_owes 1 = .ok (.aload_n 0, 1) := by decide +kernel
theorem dX7_owes_2 : decode cX7_owes 2 = .ok (.getfield 15, 3) := by decide +kernel
theorem dX7_owes_5 : decode cX7_owes 5 = .ok (.getfield 21, 3) := by decide +kernel
theorem dX7_owes_8 : decode cX7_owes 8 = .ok (.getfield 74, 3) := by decide +kernel
theorem dX7_owes_11 : decode cX7_owes 11 = .ok (.invokestatic 123, 3) := by decide +kernel
theorem dX7_owes_14 : decode cX7_owes 14 = .ok (.aload_n 0, 1) := by decide +kernel
theorem dX7_owes_15 : decode cX7_owes 15 = .ok (.getfield 15, 3) := by decide +kernel
theorem dX7_owes_18 : decode cX7_owes 18 = .ok (.aload_n 0, 1) := by decide +kernel
theorem dX7_owes_19 : decode cX7_owes 19 = .ok (.getfield 15, 3) := by decide +kernel
theorem dX7_owes_22 : decode cX7_owes 22 = .ok (.getfield 21, 3) := by decide +kernel
theorem dX7_owes_25 : decode cX7_owes 25 = .ok (.getfield 186, 3) := by decide +kernel
theorem dX7_owes_28 : decode cX7_owes 28 = .ok (.iload_n 1, 1) := by decide +kernel
theorem dX7_owes_29 : decode cX7_owes 29 = .ok (.invokevirtual 313, 3) := by decide +kernel
theorem dX7_owes_32 : decode cX7_owes 32 = .ok (.ireturn, 1) := by decide +kernel
theorem dX7_isOwed_0 : decode cX7_isOwed 0 = .ok (.iload_n 1, 1) := by decide +kernel
theorem dX7_isOwed_1 : decode cX7_isOwed 1 = .ok (.aload_n 0, 1) := by decide +kernel
theorem dX7_isOwed_2 : decode cX7_isOwed 2 = .ok (.getfield 15, 3) := by decide +kernel
theorem dX7_isOwed_5 : decode cX7_isOwed 5 = .ok (.getfield 21, 3) := by decide +kernel
theorem dX7_isOwed_8 : decode cX7_isOwed 8 = .ok (.getfield 74, 3) := by decide +kernel
theorem dX7_isOwed_11 : decode cX7_isOwed 11 = .ok (.invokestatic 123, 3) := by decide +kernel
theorem dX7_isOwed_14 : decode cX7_isOwed 14 = .ok (.aload_n 0, 1) := by decide +kernel
theorem dX7_isOwed_15 : decode cX7_isOwed 15 = .ok (.getfield 15, 3) := by decide +kernel
theorem dX7_isOwed_18 : decode cX7_isOwed 18 = .ok (.aload_n 0, 1) := by decide +kernel
theorem dX7_isOwed_19 : decode cX7_isOwed 19 = .ok (.getfield 15, 3) := by decide +kernel
theorem dX7_isOwed_22 : decode cX7_isOwed 22 = .ok (.getfield 21, 3) := by decide +kernel
theorem dX7_isOwed_25 : decode cX7_isOwed 25 = .ok (.getfield 183, 3) := by decide +kernel
theorem dX7_isOwed_28 : decode cX7_isOwed 28 = .ok (.iload_n 1, 1) := by decide +kernel
theorem dX7_isOwed_29 : decode cX7_isOwed 29 = .ok (.invokevirtual 313, 3) := by decide +kernel
theorem dX7_isOwed_32 : decode cX7_isOwed 32 = .ok (.ireturn, 1) := by decide +kernel
theorem dX7_undo_0 : decode cX7_undo 0 = .ok (.aload_n 0, 1) := by decide +kernel
theorem dX7_undo_1 : decode cX7_undo 1 = .ok (.getfield 38, 3) := by decide +kernel
theorem dX7_undo_4 : decode cX7_undo 4 = .ok (.getfield 122, 3) := by decide +kernel
theorem dX7_undo_7 : decode cX7_undo 7 = .ok (.ifCond .ne 5, 3) := by decide +kernel
theorem dX7_undo_10 : decode cX7_undo 10 = .ok (.iconst (-1), 1) := by decide +kernel
theorem dX7_undo_11 : decode cX7_undo 11 = .ok (.ireturn, 1) := by decide +kernel
theorem dX7_undo_12 : decode cX7_undo 12 = .ok (.aload_n 0, 1) := by decide +kernel
theorem dX7_undo_13 : decode cX7_undo 13 = .ok (.getfield 38, 3) := by decide +kernel
theorem dX7_undo_16 : decode cX7_undo 16 = .ok (.aload_n 0, 1) := by decide +kernel
theorem dX7_undo_17 : decode cX7_undo 17 = .ok (.getfield 15, 3) := by decide +kernel
theorem dX7_undo_20 : decode cX7_undo 20 = .ok (.getfield 93, 3) := by decide +kernel
theorem dX7_undo_23 : decode cX7_undo 23 = .ok (.invokevirtual 317, 3) := by decide +kernel
theorem dX7_undo_26 : decode cX7_undo 26 = .ok (.aload_n 0, 1) := by decide +kernel
theorem dX7_undo_27 : decode cX7_undo 27 = .ok (.getfield 38, 3) := by decide +kernel
theorem dX7_undo_30 : decode cX7_undo 30 = .ok (.getfield 122, 3) := by decide +kernel
theorem dX7_undo_33 : decode cX7_undo 33 = .ok (.ireturn, 1) := by decide +kernel
theorem dX7_saveSnapshot_0 : decode cX7_saveSnapshot 0 = .ok (.iload_n 1, 1) := by decide +kernel
theorem dX7_saveSnapshot_1 : decode cX7_saveSnapshot 1 = .ok (.iconst 0, 1) := by decide +kernel
theorem dX7_saveSnapshot_2 : decode cX7_saveSnapshot 2 = .ok (.iconst 1, 1) := by decide +kernel
theorem dX7_saveSnapshot_3 : decode cX7_saveSnapshot 3 = .ok (.invokestatic 80, 3) := by decide +kernel
theorem dX7_saveSnapshot_6 : decode cX7_saveSnapshot 6 = .ok (.aload_n 0, 1) := by decide +kernel
theorem dX7_saveSnapshot_7 : decode cX7_saveSnapshot 7 = .ok (.getfield 42, 3) := by decide +kernel
theorem dX7_saveSnapshot_10 : decode cX7_saveSnapshot 10 = .ok (.iload_n 1, 1) := by decide +kernel
theorem dX7_saveSnapshot_11 : decode cX7_saveSnapshot 11 = .ok (.aaload, 1) := by decide +kernel
theorem dX7_saveSnapshot_12 : decode cX7_saveSnapshot 12 = .ok (.aload_n 0, 1) := by decide +kernel
theorem dX7_saveSnapshot_13 : decode cX7_saveSnapshot 13 = .ok (.getfield 15, 3) := by decide +kernel
theorem dX7_saveSnapshot_16 : decode cX7_saveSnapshot 16 = .ok (.invokevirtual 67, 3) := by decide +kernel
theorem dX7_saveSnapshot_19 : decode cX7_saveSnapshot 19 = .ok (.aload_n 0, 1) := by decide +kernel
theorem dX7_saveSnapshot_20 : decode cX7_saveSnapshot 20 = .ok (.getfield 46, 3) := by decide +kernel
theorem dX7_saveSnapshot_23 : decode cX7_saveSnapshot 23 = .ok (.iload_n 1, 1) := by decide +kernel
theorem dX7_saveSnapshot_24 : decode cX7_saveSnapshot 24 = .ok (.iconst 1, 1) := by decide +kernel
theorem dX7_saveSnapshot_25 : decode cX7_saveSnapshot 25 = .ok (.bastore, 1) := by decide +kernel
theorem dX7_saveSnapshot_26 : decode cX7_saveSnapshot 26 = .ok (.aload_n 0, 1) := by decide +kernel
theorem dX7_saveSnapshot_27 : decode cX7_saveSnapshot 27 = .ok (.getfield 15, 3) := by decide +kernel
theorem dX7_saveSnapshot_30 : decode cX7_saveSnapshot 30 = .ok (.getfield 93, 3) := by decide +kernel
theorem dX7_saveSnapshot_33 : decode cX7_saveSnapshot 33 = .ok (.getfield 233, 3) := by decide +kernel
theorem dX7_saveSnapshot_36 : decode cX7_saveSnapshot 36 = .ok (.ireturn, 1) := by decide +kernel
theorem dX7_restoreSnapshot_0 : decode cX7_restoreSnapshot 0 = .ok (.iload_n 1, 1) := by decide +kernel
theorem dX7_restoreSnapshot_1 : decode cX7_restoreSnapshot 1 = .ok (.iconst 0, 1) := by decide +kernel
theorem dX7_restoreSnapshot_2 : decode cX7_restoreSnapshot 2 = .ok (.iconst 1, 1) := by decide +kernel
theorem dX7_restoreSnapshot_3 : decode cX7_restoreSnapshot 3 = .ok (.invokestatic 80, 3) := by decide +kernel
theorem dX7_restoreSnapshot_6 : decode cX7_restoreSnapshot 6 = .ok (.aload_n 0, 1) := by decide +kernel
theorem dX7_restoreSnapshot_7 : decode cX7_restoreSnapshot 7 = .ok (.getfield 46, 3) := by decide +kernel
theorem dX7_restoreSnapshot_10 : decode cX7_restoreSnapshot 10 = .ok (.iload_n 1, 1) := by decide +kernel
theorem dX7_restoreSnapshot_11 : decode cX7_restoreSnapshot 11 = .ok (.baload, 1) := by decide +kernel
theorem dX7_restoreSnapshot_12 : decode cX7_restoreSnapshot 12 = .ok (.ifCond .ne 5, 3) := by decide +kernel
theorem dX7_restoreSnapshot_15 : decode cX7_restoreSnapshot 15 = .ok (.iconst (-1), 1) := by decide +kernel
theorem dX7_restoreSnapshot_16 : decode cX7_restoreSnapshot 16 = .ok (.ireturn, 1) := by decide +kernel
theorem dX7_restoreSnapshot_17 : decode cX7_restoreSnapshot 17 = .ok (.aload_n 0, 1) := by decide +kernel
theorem dX7_restoreSnapshot_18 : decode cX7_restoreSnapshot 18 = .ok (.getfield 15, 3) := by decide +kernel
theorem dX7_restoreSnapshot_21 : decode cX7_restoreSnapshot 21 = .ok (.aload_n 0, 1) := by decide +kernel
theorem dX7_restoreSnapshot_22 : decode cX7_restoreSnapshot 22 = .ok (.getfield 42, 3) := by decide +kernel
theorem dX7_restoreSnapshot_25 : decode cX7_restoreSnapshot 25 = .ok (.iload_n 1, 1) := by decide +kernel
theorem dX7_restoreSnapshot_26 : decode cX7_restoreSnapshot 26 = .ok (.aaload, 1) := by decide +kernel
theorem dX7_restoreSnapshot_27 : decode cX7_restoreSnapshot 27 = .ok (.invokevirtual 67, 3) := by decide +kernel
theorem dX7_restoreSnapshot_30 : decode cX7_restoreSnapshot 30 = .ok (.aload_n 0, 1) := by decide +kernel
theorem dX7_restoreSnapshot_31 : decode cX7_restoreSnapshot 31 = .ok (.getfield 38, 3) := by decide +kernel
theorem dX7_restoreSnapshot_34 : decode cX7_restoreSnapshot 34 = .ok (.invokevirtual 71, 3) := by decide +kernel
theorem dX7_restoreSnapshot_37 : decode cX7_restoreSnapshot 37 = .ok (.aload_n 0, 1) := by decide +kernel
theorem dX7_restoreSnapshot_38 : decode cX7_restoreSnapshot 38 = .ok (.getfield 15, 3) := by decide +kernel
theorem dX7_restoreSnapshot_41 : decode cX7_restoreSnapshot 41 = .ok (.getfield 93, 3) := by decide +kernel
theorem dX7_restoreSnapshot_44 : decode cX7_restoreSnapshot 44 = .ok (.getfield 233, 3) := by decide +kernel
theorem dX7_restoreSnapshot_47 : decode cX7_restoreSnapshot 47 = .ok (.ireturn, 1) := by decide +kernel
theorem dX7_checkIndex_0 : decode cX7_checkIndex 0 = .ok (.iload_n 0, 1) := by decide +kernel
theorem dX7_checkIndex_1 : decode cX7_checkIndex 1 = .ok (.ifCond .lt 8, 3) := by decide +kernel
theorem dX7_checkIndex_4 : decode cX7_checkIndex 4 = .ok (.iload_n 0, 1) := by decide +kernel
theorem dX7_checkIndex_5 : decode cX7_checkIndex 5 = .ok (.iload_n 1, 1) := by decide +kernel
theorem dX7_checkIndex_6 : decode cX7_checkIndex 6 = .ok (.if_icmp .lt 11, 3) := by decide +kernel
theorem dX7_checkIndex_9 : decode cX7_checkIndex 9 = .ok (.new 320, 3) := by decide +kernel
theorem dX7_checkIndex_12 : decode cX7_checkIndex 12 = .ok (.dup, 1) := by decide +kernel
theorem dX7_checkIndex_13 : decode cX7_checkIndex 13 = .ok (.invokespecial 322, 3) := by decide +kernel
theorem dX7_checkIndex_16 : decode cX7_checkIndex 16 = .ok (.athrow, 1) := by decide +kernel
theorem dX7_checkIndex_17 : decode cX7_checkIndex 17 = .ok (.return_, 1) := by decide +kernel
theorem dX7_checkRange_0 : decode cX7_checkRange 0 = .ok (.iload_n 0, 1) := by decide +kernel
theorem dX7_checkRange_1 : decode cX7_checkRange 1 = .ok (.iload_n 1, 1) := by decide +kernel
theorem dX7_checkRange_2 : decode cX7_checkRange 2 = .ok (.if_icmp .lt 8, 3) := by decide +kernel
theorem dX7_checkRange_5 : decode cX7_checkRange 5 = .ok (.iload_n 0, 1) := by decide +kernel
theorem dX7_checkRange_6 : decode cX7_checkRange 6 = .ok (.iload_n 2, 1) := by decide +kernel
theorem dX7_checkRange_7 : decode cX7_checkRange 7 = .ok (.if_icmp .le 11, 3) := by decide +kernel
theorem dX7_checkRange_10 : decode cX7_checkRange 10 = .ok (.new 323, 3) := by decide +kernel
theorem dX7_checkRange_13 : decode cX7_checkRange 13 = .ok (.dup, 1) := by decide +kernel
theorem dX7_checkRange_14 : decode cX7_checkRange 14 = .ok (.invokespecial 325, 3) := by decide +kernel
theorem dX7_checkRange_17 : decode cX7_checkRange 17 = .ok (.athrow, 1) := by decide +kernel
theorem dX7_checkRange_18 : decode cX7_checkRange 18 = .ok (.return_, 1) := by decide +kernel
theorem dX7_sumOf_0 : decode cX7_sumOf 0 = .ok (.lconst 0, 1) := by decide +kernel
theorem dX7_sumOf_1 : decode cX7_sumOf 1 = .ok (.lstore_n 2, 1) := by decide +kernel
theorem dX7_sumOf_2 : decode cX7_sumOf 2 = .ok (.iconst 0, 1) := by decide +kernel
theorem dX7_sumOf_3 : decode cX7_sumOf 3 = .ok (.istore 4, 2) := by decide +kernel
theorem dX7_sumOf_5 : decode cX7_sumOf 5 = .ok (.iload 4, 2) := by decide +kernel
theorem dX7_sumOf_7 : decode cX7_sumOf 7 = .ok (.iload_n 1, 1) := by decide +kernel
theorem dX7_sumOf_8 : decode cX7_sumOf 8 = .ok (.if_icmp .ge 24, 3) := by decide +kernel
theorem dX7_sumOf_11 : decode cX7_sumOf 11 = .ok (.iload 4, 2) := by decide +kernel
theorem dX7_sumOf_13 : decode cX7_sumOf 13 = .ok (.aload_n 0, 1) := by decide +kernel
theorem dX7_sumOf_14 : decode cX7_sumOf 14 = .ok (.arraylength, 1) := by decide +kernel
theorem dX7_sumOf_15 : decode cX7_sumOf 15 = .ok (.if_icmp .ge 17, 3) := by decide +kernel
theorem dX7_sumOf_18 : decode cX7_sumOf 18 = .ok (.lload_n 2, 1) := by decide +kernel
theorem dX7_sumOf_19 : decode cX7_sumOf 19 = .ok (.aload_n 0, 1) := by decide +kernel
theorem dX7_sumOf_20 : decode cX7_sumOf 20 = .ok (.iload 4, 2) := by decide +kernel
theorem dX7_sumOf_22 : decode cX7_sumOf 22 = .ok (.iaload, 1) := by decide +kernel
theorem dX7_sumOf_23 : decode cX7_sumOf 23 = .ok (.i2l, 1) := by decide +kernel
theorem dX7_sumOf_24 : decode cX7_sumOf 24 = .ok (.ladd, 1) := by decide +kernel
theorem dX7_sumOf_25 : decode cX7_sumOf 25 = .ok (.lstore_n 2, 1) := by decide +kernel
theorem dX7_sumOf_26 : decode cX7_sumOf 26 = .ok (.iinc 4 1, 3) := by decide +kernel
theorem dX7_sumOf_29 : decode cX7_sumOf 29 = .ok (.goto (-24), 3) := by decide +kernel
theorem dX7_sumOf_32 : decode cX7_sumOf 32 = .ok (.lload_n 2, 1) := by decide +kernel
theorem dX7_sumOf_33 : decode cX7_sumOf 33 = .ok (.lreturn, 1) := by decide +kernel
theorem dX7_copyRow_0 : decode cX7_copyRow 0 = .ok (.aload_n 0, 1) := by decide +kernel
theorem dX7_copyRow_1 : decode cX7_copyRow 1 = .ok (.iconst 0, 1) := by decide +kernel
theorem dX7_copyRow_2 : decode cX7_copyRow 2 = .ok (.aload_n 1, 1) := by decide +kernel
theorem dX7_copyRow_3 : decode cX7_copyRow 3 = .ok (.iconst 0, 1) := by decide +kernel
theorem dX7_copyRow_4 : decode cX7_copyRow 4 = .ok (.aload_n 0, 1) := by decide +kernel
theorem dX7_copyRow_5 : decode cX7_copyRow 5 = .ok (.arraylength, 1) := by decide +kernel
theorem dX7_copyRow_6 : decode cX7_copyRow 6 = .ok (.aload_n 1, 1) := by decide +kernel
theorem dX7_copyRow_7 : decode cX7_copyRow 7 = .ok (.arraylength, 1) := by decide +kernel
theorem dX7_copyRow_8 : decode cX7_copyRow 8 = .ok (.invokestatic 277, 3) := by decide +kernel
theorem dX7_copyRow_11 : decode cX7_copyRow 11 = .ok (.invokestatic 326, 3) := by decide +kernel
theorem dX7_copyRow_14 : decode cX7_copyRow 14 = .ok (.return_, 1) := by decide +kernel
theorem dX8_init_0 : decode cX8_init 0 = .ok (.aload_n 0, 1) := by decide +kernel
theorem dX8_init_1 : decode cX8_init 1 = .ok (.invokespecial 3, 3) := by decide +kernel
theorem dX8_init_4 : decode cX8_init 4 = .ok (.aload_n 0, 1) := by decide +kernel
theorem dX8_init_5 : decode cX8_init 5 = .ok (.sipush 430, 3) := by decide +kernel
theorem dX8_init_8 : decode cX8_init 8 = .ok (.newarray .int, 2) := by decide +kernel
theorem dX8_init_10 : decode cX8_init 10 = .ok (.putfield 9, 3) := by decide +kernel
theorem dX8_init_13 : decode cX8_init 13 = .ok (.aload_n 0, 1) := by decide +kernel
theorem dX8_init_14 : decode cX8_init 14 = .ok (.sipush 430, 3) := by decide +kernel
theorem dX8_init_17 : decode cX8_init 17 = .ok (.newarray .int, 2) := by decide +kernel
theorem dX8_init_19 : decode cX8_init 19 = .ok (.putfield 13, 3) := by decide +kernel
theorem dX8_init_22 : decode cX8_init 22 = .ok (.aload_n 0, 1) := by decide +kernel
theorem dX8_init_23 : decode cX8_init 23 = .ok (.sipush 430, 3) := by decide +kernel
theorem dX8_init_26 : decode cX8_init 26 = .ok (.newarray .int, 2) := by decide +kernel
theorem dX8_init_28 : decode cX8_init 28 = .ok (.putfield 16, 3) := by decide +kernel
theorem dX8_init_31 : decode cX8_init 31 = .ok (.aload_n 0, 1) := by decide +kernel
theorem dX8_init_32 : decode cX8_init 32 = .ok (.sipush 3440, 3) := by decide +kernel
theorem dX8_init_35 : decode cX8_init 35 = .ok (.newarray .int, 2) := by decide +kernel
theorem dX8_init_37 : decode cX8_init 37 = .ok (.putfield 19, 3) := by decide +kernel
theorem dX8_init_40 : decode cX8_init 40 = .ok (.aload_n 0, 1) := by decide +kernel
theorem dX8_init_41 : decode cX8_init 41 = .ok (.sipush 860, 3) := by decide +kernel
theorem dX8_init_44 : decode cX8_init 44 = .ok (.newarray .int, 2) := by decide +kernel
theorem dX8_init_46 : decode cX8_init 46 = .ok (.putfield 22, 3) := by decide +kernel
theorem dX8_init_49 : decode cX8_init 49 = .ok (.aload_n 0, 1) := by decide +kernel
theorem dX8_init_50 : decode cX8_init 50 = .ok (.iconst 2, 1) := by decide +kernel
theorem dX8_init_51 : decode cX8_init 51 = .ok (.newarray .boolean, 2) := by decide +kernel
theorem dX8_init_53 : decode cX8_init 53 = .ok (.putfield 25, 3) := by decide +kernel
theorem dX8_init_56 : decode cX8_init 56 = .ok (.aload_n 0, 1) := by decide +kernel
theorem dX8_init_57 : decode cX8_init 57 = .ok (.sipush 500, 3) := by decide +kernel
theorem dX8_init_60 : decode cX8_init 60 = .ok (.newarray .byte, 2) := by decide +kernel
theorem dX8_init_62 : decode cX8_init 62 = .ok (.putfield 29, 3) := by decide +kernel
theorem dX8_init_65 : decode cX8_init 65 = .ok (.aload_n 0, 1) := by decide +kernel
theorem dX8_init_66 : decode cX8_init 66 = .ok (.iconst (-1), 1) := by decide +kernel
theorem dX8_init_67 : decode cX8_init 67 = .ok (.putfield 33, 3) := by decide +kernel
theorem dX8_init_70 : decode cX8_init 70 = .ok (.aload_n 0, 1) := by decide +kernel
theorem dX8_init_71 : decode cX8_init 71 = .ok (.getfield 9, 3) := by decide +kernel
theorem dX8_init_74 : decode cX8_init 74 = .ok (.invokestatic 37, 3) := by decide +kernel
theorem dX8_init_77 : decode cX8_init 77 = .ok (.return_, 1) := by decide +kernel
theorem dX8_thrown_0 : decode cX8_thrown 0 = .ok (.aload_n 0, 1) := by decide +kernel
theorem dX8_thrown_1 : decode cX8_thrown 1 = .ok (.getfield 41, 3) := by decide +kernel
theorem dX8_thrown_4 : decode cX8_thrown 4 = .ok (.ireturn, 1) := by decide +kernel
theorem dX8_in_0 : decode cX8_in 0 = .ok (.lload_n 0, 1) := by decide +kernel
theorem dX8_in_1 : decode cX8_in 1 = .ok (.lload_n 2, 1) := by decide +kernel
theorem dX8_in_2 : decode cX8_in 2 = .ok (.lcmp, 1) := by decide +kernel
theorem dX8_in_3 : decode cX8_in 3 = .ok (.ifCond .lt 14, 3) := by decide +kernel
theorem dX8_in_6 : decode cX8_in 6 = .ok (.lload_n 0, 1) := by decide +kernel
theorem dX8_in_7 : decode cX8_in 7 = .ok (.lload 4, 2) := by decide +kernel
theorem dX8_in_9 : decode cX8_in 9 = .ok (.lcmp, 1) := by decide +kernel
theorem dX8_in_10 : decode cX8_in 10 = .ok (.ifCond .gt 7, 3) := by decide +kernel
theorem dX8_in_13 : decode cX8_in 13 = .ok (.iconst 1, 1) := by decide +kernel
theorem dX8_in_14 : decode cX8_in 14 = .ok (.goto 4, 3) := by decide +kernel
theorem dX8_in_17 : decode cX8_in 17 = .ok (.iconst 0, 1) := by decide +kernel
theorem dX8_in_18 : decode cX8_in 18 = .ok (.ireturn, 1) := by decide +kernel
theorem dX8_copies_0 : decode cX8_copies 0 = .ok (.iconst 0, 1) := by decide +kernel
theorem dX8_copies_1 : decode cX8_copies 1 = .ok (.istore 4, 2) := by decide +kernel
theorem dX8_copies_3 : decode cX8_copies 3 = .ok (.iload 4, 2) := by decide +kernel
theorem dX8_copies_5 : decode cX8_copies 5 = .ok (.sipush 430, 3) := by decide +kernel
theorem dX8_copies_8 : decode cX8_copies 8 = .ok (.if_icmp .ge 29, 3) := by decide +kernel
theorem dX8_copies_11 : decode cX8_copies 11 = .ok (.aload_n 2, 1) := by decide +kernel
theorem dX8_copies_12 : decode cX8_copies 12 = .ok (.sipush 430, 3) := by decide +kernel
theorem dX8_copies_15 : decode cX8_copies 15 = .ok (.iload_n 3, 1) := by decide +kernel
theorem dX8_copies_16 : decode cX8_copies 16 = .ok (.imul, 1) := by decide +kernel
theorem dX8_copies_17 : decode cX8_copies 17 = .ok (.iload 4, 2) := by decide +kernel
theorem dX8_copies_19 : decode cX8_copies 19 = .ok (.iadd, 1) := by decide +kernel
theorem dX8_copies_20 : decode cX8_copies 20 = .ok (.aload_n 0, 1) := by decide +kernel
theorem dX8_copies_21 : decode cX8_copies 21 = .ok (.sipush 430, 3) := by decide +kernel
theorem dX8_copies_24 : decode cX8_copies 24 = .ok (.iload_n 1, 1) := by decide +kernel
theorem dX8_copies_25 : decode cX8_copies 25 = .ok (.imul, 1) := by decide +kernel
theorem dX8_copies_26 : decode cX8_copies 26 = .ok (.iload 4, 2) := by decide +kernel
theorem dX8_copies_28 : decode cX8_copies 28 = .ok (.iadd, 1) := by decide +kernel
theorem dX8_copies_29 : decode cX8_copies 29 = .ok (.iaload, 1) := by decide +kernel
theorem dX8_copies_30 : decode cX8_copies 30 = .ok (.iastore, 1) := by decide +kernel
theorem dX8_copies_31 : decode cX8_copies 31 = .ok (.iinc 4 1, 3) := by decide +kernel
theorem dX8_copies_34 : decode cX8_copies 34 = .ok (.goto (-31), 3) := by decide +kernel
theorem dX8_copies_37 : decode cX8_copies 37 = .ok (.return_, 1) := by decide +kernel
theorem dX8_begins_0 : decode cX8_begins 0 = .ok (.iconst 0, 1) := by decide +kernel
theorem dX8_begins_1 : decode cX8_begins 1 = .ok (.istore_n 1, 1) := by decide +kernel
theorem dX8_begins_2 : decode cX8_begins 2 = .ok (.iload_n 1, 1) := by decide +kernel
theorem dX8_begins_3 : decode cX8_begins 3 = .ok (.sipush 430, 3) := by decide +kernel
theorem dX8_begins_6 : decode cX8_begins 6 = .ok (.if_icmp .ge 13, 3) := by decide +kernel
theorem dX8_begins_9 : decode cX8_begins 9 = .ok (.aload_n 0, 1) := by decide +kernel
theorem dX8_begins_10 : decode cX8_begins 10 = .ok (.iload_n 1, 1) := by decide +kernel
theorem dX8_begins_11 : decode cX8_begins 11 = .ok (.iconst 0, 1) := by decide +kernel
theorem dX8_begins_12 : decode cX8_begins 12 = .ok (.iastore, 1) := by decide +kernel
theorem dX8_begins_13 : decode cX8_begins 13 = .ok (.iinc 1 1, 3) := by decide +kernel
theorem dX8_begins_16 : decode cX8_begins 16 = .ok (.goto (-14), 3) := by decide +kernel
theorem dX8_begins_19 : decode cX8_begins 19 = .ok (.aload_n 0, 1) := by decide +kernel
theorem dX8_begins_20 : decode cX8_begins 20 = .ok (.iconst 0, 1) := by decide +kernel
theorem dX8_begins_21 : decode cX8_begins 21 = .ok (.bipush 100, 2) := by decide +kernel
theorem dX8_begins_23 : decode cX8_begins 23 = .ok (.iastore, 1) := by decide +kernel
theorem dX8_begins_24 : decode cX8_begins 24 = .ok (.aload_n 0, 1) := by decide +kernel
theorem dX8_begins_25 : decode cX8_begins 25 = .ok (.iconst 1, 1) := by decide +kernel
theorem dX8_begins_26 : decode cX8_begins 26 = .ok (.bipush 100, 2) := by decide +kernel
theorem dX8_begins_28 : decode cX8_begins 28 = .ok (.iastore, 1) := by decide +kernel
theorem dX8_begins_29 : decode cX8_begins 29 = .ok (.return_, 1) := by decide +kernel
theorem dX8_isThrown_0 : decode cX8_isThrown 0 = .ok (.aload_n 0, 1) := by decide +kernel
theorem dX8_isThrown_1 : decode cX8_isThrown 1 = .ok (.iload_n 1, 1) := by decide +kernel
theorem dX8_isThrown_2 : decode cX8_isThrown 2 = .ok (.ifCond .eq 7, 3) := by decide +kernel
theorem dX8_isThrown_5 : decode cX8_isThrown 5 = .ok (.iconst 0, 1) := by decide +kernel
theorem dX8_isThrown_6 : decode cX8_isThrown 6 = .ok (.goto 4, 3) := by decide +kernel
theorem dX8_isThrown_9 : decode cX8_isThrown 9 = .ok (.iload_n 2, 1) := by decide +kernel
theorem dX8_isThrown_10 : decode cX8_isThrown 10 = .ok (.putfield 41, 3) := by decide +kernel
theorem dX8_isThrown_13 : decode cX8_isThrown 13 = .ok (.iload_n 1, 1) := by decide +kernel
theorem dX8_isThrown_14 : decode cX8_isThrown 14 = .ok (.ifCond .ne 7, 3) := by decide +kernel
theorem dX8_isThrown_17 : decode cX8_isThrown 17 = .ok (.iconst 1, 1) := by decide +kernel
theorem dX8_isThrown_18 : decode cX8_isThrown 18 = .ok (.goto 4, 3) := by decide +kernel
theorem dX8_isThrown_21 : decode cX8_isThrown 21 = .ok (.iconst 0, 1) := by decide +kernel
theorem dX8_isThrown_22 : decode cX8_isThrown 22 = .ok (.ireturn, 1) := by decide +kernel
theorem dX8_isPack_0 : decode cX8_isPack 0 = .ok (.iload_n 1, 1) := by decide +kernel
theorem dX8_isPack_1 : decode cX8_isPack 1 = .ok (.i2l, 1) := by decide +kernel
theorem dX8_isPack_2 : decode cX8_isPack 2 = .ok (.lconst 0, 1) := by decide +kernel
theorem dX8_isPack_3 : decode cX8_isPack 3 = .ok (.aload_n 0, 1) := by decide +kernel
theorem dX8_isPack_4 : decode cX8_isPack 4 = .ok (.getfield 9, 3) := by decide +kernel
theorem dX8_isPack_7 : decode cX8_isPack 7 = .ok (.iconst 3, 1) := by decide +kernel
theorem dX8_isPack_8 : decode cX8_isPack 8 = .ok (.iaload, 1) := by decide +kernel
theorem dX8_isPack_9 : decode cX8_isPack 9 = .ok (.iconst 1, 1) := by decide +kernel
theorem dX8_isPack_10 : decode cX8_isPack 10 = .ok (.isub, 1) := by decide +kernel
theorem dX8_isPack_11 : decode cX8_isPack 11 = .ok (.i2l, 1) := by decide +kernel
theorem dX8_isPack_12 : decode cX8_isPack 12 = .ok (.invokestatic 44, 3) := by decide +kernel
theorem dX8_isPack_15 : decode cX8_isPack 15 = .ok (.ireturn, 1) := by decide +kernel
theorem dX8_isTrip_0 : decode cX8_isTrip 0 = .ok (.iload_n 1, 1) := by decide +kernel
theorem dX8_isTrip_1 : decode cX8_isTrip 1 = .ok (.i2l, 1) := by decide +kernel
theorem dX8_isTrip_2 : decode cX8_isTrip 2 = .ok (.lconst 0, 1) := by decide +kernel
theorem dX8_isTrip_3 : decode cX8_isTrip 3 = .ok (.aload_n 0, 1) := by decide +kernel
theorem dX8_isTrip_4 : decode cX8_isTrip 4 = .ok (.getfield 9, 3) := by decide +kernel
theorem dX8_isTrip_7 : decode cX8_isTrip 7 = .ok (.bipush 7, 2) := by decide +kernel
theorem dX8_isTrip_9 : decode cX8_isTrip 9 = .ok (.iaload, 1) := by decide +kernel
theorem dX8_isTrip_10 : decode cX8_isTrip 10 = .ok (.iconst 1, 1) := by decide +kernel
theorem dX8_isTrip_11 : decode cX8_isTrip 11 = .ok (.isub, 1) := by decide +kernel
theorem dX8_isTrip_12 : decode cX8_isTrip 12 = .ok (.i2l, 1) := by decide +kernel
theorem dX8_isTrip_13 : decode cX8_isTrip 13 = .ok (.invokestatic 44, 3) := by decide +kernel
theorem dX8_isTrip_16 : decode cX8_isTrip 16 = .ok (.ireturn, 1) := by decide +kernel
theorem dX8_isContract_0 : decode cX8_isContract 0 = .ok (.iload_n 1, 1) := by decide +kernel
theorem dX8_isContract_1 : decode cX8_isContract 1 = .ok (.i2l, 1) := by decide +kernel
theorem dX8_isContract_2 : decode cX8_isContract 2 = .ok (.lconst 0, 1) := by decide +kernel
theorem dX8_isContract_3 : decode cX8_isContract 3 = .ok (.aload_n 0, 1) := by decide +kernel
theorem dX8_isContract_4 : decode cX8_isContract 4 = .ok (.getfield 9, 3) := by decide +kernel
theorem dX8_isContract_7 : decode cX8_isContract 7 = .ok (.bipush 8, 2) := by decide +kernel
theorem dX8_isContract_9 : decode cX8_isContract 9 = .ok (.iaload, 1) := by decide +kernel
theorem dX8_isContract_10 : decode cX8_isContract 10 = .ok (.iconst 1, 1) := by decide +kernel
theorem dX8_isContract_11 : decode cX8_isContract 11 = .ok (.isub, 1) := by decide +kernel
theorem dX8_isContract_12 : decode cX8_isContract 12 = .ok (.i2l, 1) := by decide +kernel
theorem dX8_isContract_13 : decode cX8_isContract 13 = .ok (.invokestatic 44, 3) := by decide +kernel
theorem dX8_isContract_16 : decode cX8_isContract 16 = .ok (.ireturn, 1) := by decide +kernel
theorem dX8_isLoan_0 : decode cX8_isLoan 0 = .ok (.iload_n 1, 1) := by decide +kernel
theorem dX8_isLoan_1 : decode cX8_isLoan 1 = .ok (.i2l, 1) := by decide +kernel
theorem dX8_isLoan_2 : decode cX8_isLoan 2 = .ok (.lconst 0, 1) := by decide +kernel
theorem dX8_isLoan_3 : decode cX8_isLoan 3 = .ok (.aload_n 0, 1) := by decide +kernel
theorem dX8_isLoan_4 : decode cX8_isLoan 4 = .ok (.getfield 9, 3) := by decide +kernel
theorem dX8_isLoan_7 : decode cX8_isLoan 7 = .ok (.bipush 9, 2) := by decide +kernel
theorem dX8_isLoan_9 : decode cX8_isLoan 9 = .ok (.iaload, 1) := by decide +kernel
theorem dX8_isLoan_10 : decode cX8_isLoan 10 = .ok (.iconst 1, 1) := by decide +kernel
theorem dX8_isLoan_11 : decode cX8_isLoan 11 = .ok (.isub, 1) := by decide +kernel
theorem dX8_isLoan_12 : decode cX8_isLoan 12 = .ok (.i2l, 1) := by decide +kernel
theorem dX8_isLoan_13 : decode cX8_isLoan 13 = .ok (.invokestatic 44, 3) := by decide +kernel
theorem dX8_isLoan_16 : decode cX8_isLoan 16 = .ok (.ireturn, 1) := by decide +kernel
theorem dX8_isAmount_0 : decode cX8_isAmount 0 = .ok (.iload_n 0, 1) := by decide +kernel
theorem dX8_isAmount_1 : decode cX8_isAmount 1 = .ok (.i2l, 1) := by decide +kernel
theorem dX8_isAmount_2 : decode cX8_isAmount 2 = .ok (.lconst 1, 1) := by decide +kernel
theorem dX8_isAmount_3 : decode cX8_isAmount 3 = .ok (.ldc2_w 48, 3) := by decide +kernel
theorem dX8_isAmount_6 : decode cX8_isAmount 6 = .ok (.invokestatic 44, 3) := by decide +kernel
theorem dX8_isAmount_9 : decode cX8_isAmount 9 = .ok (.ireturn, 1) := by decide +kernel
theorem dX8_ofPack_0 : decode cX8_ofPack 0 = .ok (.aload_n 0, 1) := by decide +kernel
theorem dX8_ofPack_1 : decode cX8_ofPack 1 = .ok (.getfield 9, 3) := by decide +kernel
theorem dX8_ofPack_4 : decode cX8_ofPack 4 = .ok (.bipush 30, 2) := by decide +kernel
theorem dX8_ofPack_6 : decode cX8_ofPack 6 = .ok (.bipush 7, 2) := by decide +kernel
theorem dX8_ofPack_8 : decode cX8_ofPack 8 = .ok (.iload_n 1, 1) := by decide +kernel
theorem dX8_ofPack_9 : decode cX8_ofPack 9 = .ok (.imul, 1) := by decide +kernel
theorem dX8_ofPack_10 : decode cX8_ofPack 10 = .ok (.iadd, 1) := by decide +kernel
theorem dX8_ofPack_11 : decode cX8_ofPack 11 = .ok (.iload_n 2, 1) := by decide +kernel
theorem dX8_ofPack_12 : decode cX8_ofPack 12 = .ok (.iadd, 1) := by decide +kernel
theorem dX8_ofPack_13 : decode cX8_ofPack 13 = .ok (.iaload, 1) := by decide +kernel
theorem dX8_ofPack_14 : decode cX8_ofPack 14 = .ok (.ireturn, 1) := by decide +kernel
theorem dX8_growsPack_0 : decode cX8_growsPack 0 = .ok (.aload_n 0, 1) := by decide +kernel
theorem dX8_growsPack_1 : decode cX8_growsPack 1 = .ok (.getfield 9, 3) := by decide +kernel
theorem dX8_growsPack_4 : decode cX8_growsPack 4 = .ok (.bipush 30, 2) := by decide +kernel
theorem dX8_growsPack_6 : decode cX8_growsPack 6 = .ok (.bipush 7, 2) := by decide +kernel
theorem dX8_growsPack_8 : decode cX8_growsPack 8 = .ok (.iload_n 1, 1) := by decide +kernel
theorem dX8_growsPack_9 : decode cX8_growsPack 9 = .ok (.imul, 1) := by decide +kernel
theorem dX8_growsPack_10 : decode cX8_growsPack 10 = .ok (.iadd, 1) := by decide +kernel
theorem dX8_growsPack_11 : decode cX8_growsPack 11 = .ok (.iload_n 2, 1) := by decide +kernel
theorem dX8_growsPack_12 : decode cX8_growsPack 12 = .ok (.iadd, 1) := by decide +kernel
theorem dX8_growsPack_13 : decode cX8_growsPack 13 = .ok (.dup2, 1) := by decide +kernel
theorem dX8_growsPack_14 : decode cX8_growsPack 14 = .ok (.iaload, 1) := by decide +kernel
theorem dX8_growsPack_15 : decode cX8_growsPack 15 = .ok (.iload_n 3, 1) := by decide +kernel
theorem dX8_growsPack_16 : decode cX8_growsPack 16 = .ok (.iadd, 1) := by decide +kernel
theorem dX8_growsPack_17 : decode cX8_growsPack 17 = .ok (.iastore, 1) := by decide +kernel
theorem dX8_growsPack_18 : decode cX8_growsPack 18 = .ok (.return_, 1) := by decide +kernel
theorem dX8_ofCable_0 : decode cX8_ofCable 0 = .ok (.aload_n 0, 1) := by decide +kernel
theorem dX8_ofCable_1 : decode cX8_ofCable 1 = .ok (.getfield 9, 3) := by decide +kernel
theorem dX8_ofCable_4 : decode cX8_ofCable 4 = .ok (.bipush 86, 2) := by decide +kernel
theorem dX8_ofCable_6 : decode cX8_ofCable 6 = .ok (.bipush 6, 2) := by decide +kernel
theorem dX8_ofCable_8 : decode cX8_ofCable 8 = .ok (.iload_n 1, 1) := by decide +kernel
theorem dX8_ofCable_9 : decode cX8_ofCable 9 = .ok (.imul, 1) := by decide +kernel
theorem dX8_ofCable_10 : decode cX8_ofCable 10 = .ok (.iadd, 1) := by decide +kernel
theorem dX8_ofCable_11 : decode cX8_ofCable 11 = .ok (.iload_n 2, 1) := by decide +kernel
theorem dX8_ofCable_12 : decode cX8_ofCable 12 = .ok (.iadd, 1) := by decide +kernel
theorem dX8_ofCable_13 : decode cX8_ofCable 13 = .ok (.iaload, 1) := by decide +kernel
theorem dX8_ofCable_14 : decode cX8_ofCable 14 = .ok (.ireturn, 1) := by decide +kernel
theorem dX8_ofTrip_0 : decode cX8_ofTrip 0 = .ok (.aload_n 0, 1) := by decide +kernel
theorem dX8_ofTrip_1 : decode cX8_ofTrip 1 = .ok (.getfield 9, 3) := by decide +kernel
theorem dX8_ofTrip_4 : decode cX8_ofTrip 4 = .ok (.sipush 206, 3) := by decide +kernel
theorem dX8_ofTrip_7 : decode cX8_ofTrip 7 = .ok (.iconst 4, 1) := by decide +kernel
theorem dX8_ofTrip_8 : decode cX8_ofTrip 8 = .ok (.iload_n 1, 1) := by decide +kernel
theorem dX8_ofTrip_9 : decode cX8_ofTrip 9 = .ok (.imul, 1) := by decide +kernel
theorem dX8_ofTrip_10 : decode cX8_ofTrip 10 = .ok (.iadd, 1) := by decide +kernel
theorem dX8_ofTrip_11 : decode cX8_ofTrip 11 = .ok (.iload_n 2, 1) := by decide +kernel
theorem dX8_ofTrip_12 : decode cX8_ofTrip 12 = .ok (.iadd, 1) := by decide +kernel
theorem dX8_ofTrip_13 : decode cX8_ofTrip 13 = .ok (.iaload, 1) := by decide +kernel
theorem dX8_ofTrip_14 : decode cX8_ofTrip 14 = .ok (.ireturn, 1) := by decide +kernel
theorem dX8_ofContract_0 : decode cX8_ofContract 0 = .ok (.aload_n 0, 1) := by decide +kernel
theorem dX8_ofContract_1 : decode cX8_ofContract 1 = .ok (.getfield 9, 3) := by decide +kernel
theorem dX8_ofContract_4 : decode cX8_ofContract 4 = .ok (.sipush 270, 3) := by decide +kernel
theorem dX8_ofContract_7 : decode cX8_ofContract 7 = .ok (.bipush 6, 2) := by decide +kernel
theorem dX8_ofContract_9 : decode cX8_ofContract 9 = .ok (.iload_n 1, 1) := by decide +kernel
theorem dX8_ofContract_10 : decode cX8_ofContract 10 = .ok (.imul, 1) := by decide +kernel
theorem dX8_ofContract_11 : decode cX8_ofContract 11 = .ok (.iadd, 1) := by decide +kernel
theorem dX8_ofContract_12 : decode cX8_ofContract 12 = .ok (.iload_n 2, 1) := by decide +kernel
theorem dX8_ofContract_13 : decode cX8_ofContract 13 = .ok (.iadd, 1) := by decide +kernel
theorem dX8_ofContract_14 : decode cX8_ofContract 14 = .ok (.iaload, 1) := by decide +kernel
theorem dX8_ofContract_15 : decode cX8_ofContract 15 = .ok (.ireturn, 1) := by decide +kernel
theorem dX8_ofLoan_0 : decode cX8_ofLoan 0 = .ok (.aload_n 0, 1) := by decide +kernel
theorem dX8_ofLoan_1 : decode cX8_ofLoan 1 = .ok (.getfield 9, 3) := by decide +kernel
theorem dX8_ofLoan_4 : decode cX8_ofLoan 4 = .ok (.sipush 318, 3) := by decide +kernel
theorem dX8_ofLoan_7 : decode cX8_ofLoan 7 = .ok (.bipush 7, 2) := by decide +kernel
theorem dX8_ofLoan_9 : decode cX8_ofLoan 9 = .ok (.iload_n 1, 1) := by decide +kernel
theorem dX8_ofLoan_10 : decode cX8_ofLoan 10 = .ok (.imul, 1) := by decide +kernel
theorem dX8_ofLoan_11 : decode cX8_ofLoan 11 = .ok (.iadd, 1) := by decide +kernel
theorem dX8_ofLoan_12 : decode cX8_ofLoan 12 = .ok (.iload_n 2, 1) := by decide +kernel
theorem dX8_ofLoan_13 : decode cX8_ofLoan 13 = .ok (.iadd, 1) := by decide +kernel
theorem dX8_ofLoan_14 : decode cX8_ofLoan 14 = .ok (.iaload, 1) := by decide +kernel
theorem dX8_ofLoan_15 : decode cX8_ofLoan 15 = .ok (.ireturn, 1) := by decide +kernel
theorem dX8_setsLoan_0 : decode cX8_setsLoan 0 = .ok (.aload_n 0, 1) := by decide +kernel
theorem dX8_setsLoan_1 : decode cX8_setsLoan 1 = .ok (.getfield 9, 3) := by decide +kernel
theorem dX8_setsLoan_4 : decode cX8_setsLoan 4 = .ok (.sipush 318, 3) := by decide +kernel
theorem dX8_setsLoan_7 : decode cX8_setsLoan 7 = .ok (.bipush 7, 2) := by decide +kernel
theorem dX8_setsLoan_9 : decode cX8_setsLoan 9 = .ok (.iload_n 1, 1) := by decide +kernel
theorem dX8_setsLoan_10 : decode cX8_setsLoan 10 = .ok (.imul, 1) := by decide +kernel
theorem dX8_setsLoan_11 : decode cX8_setsLoan 11 = .ok (.iadd, 1) := by decide +kernel
theorem dX8_setsLoan_12 : decode cX8_setsLoan 12 = .ok (.iload_n 2, 1) := by decide +kernel
theorem dX8_setsLoan_13 : decode cX8_setsLoan 13 = .ok (.iadd, 1) := by decide +kernel
theorem dX8_setsLoan_14 : decode cX8_setsLoan 14 = .ok (.iload_n 3, 1) := by decide +kernel
theorem dX8_setsLoan_15 : decode cX8_setsLoan 15 = .ok (.iastore, 1) := by decide +kernel
theorem dX8_setsLoan_16 : decode cX8_setsLoan 16 = .ok (.return_, 1) := by decide +kernel
theorem dX8_ofLoans_0 : decode cX8_ofLoans 0 = .ok (.aload_n 0, 1) := by decide +kernel
theorem dX8_ofLoans_1 : decode cX8_ofLoans 1 = .ok (.aload_n 0, 1) := by decide +kernel
theorem dX8_ofLoans_2 : decode cX8_ofLoans 2 = .ok (.iload_n 1, 1) := by decide +kernel
theorem dX8_ofLoans_3 : decode cX8_ofLoans 3 = .ok (.iconst 0, 1) := by decide +kernel
theorem dX8_ofLoans_4 : decode cX8_ofLoans 4 = .ok (.invokevirtual 50, 3) := by decide +kernel
theorem dX8_ofLoans_7 : decode cX8_ofLoans 7 = .ok (.iload_n 2, 1) := by decide +kernel
theorem dX8_ofLoans_8 : decode cX8_ofLoans 8 = .ok (.invokevirtual 54, 3) := by decide +kernel
theorem dX8_ofLoans_11 : decode cX8_ofLoans 11 = .ok (.ireturn, 1) := by decide +kernel
theorem dX8_byteOf_0 : decode cX8_byteOf 0 = .ok (.lload_n 0, 1) := by decide +kernel
theorem dX8_byteOf_1 : decode cX8_byteOf 1 = .ok (.bipush 8, 2) := by decide +kernel
theorem dX8_byteOf_3 : decode cX8_byteOf 3 = .ok (.bipush 7, 2) := by decide +kernel
theorem dX8_byteOf_5 : decode cX8_byteOf 5 = .ok (.iload_n 2, 1) := by decide +kernel
theorem dX8_byteOf_6 : decode cX8_byteOf 6 = .ok (.isub, 1) := by decide +kernel
theorem dX8_byteOf_7 : decode cX8_byteOf 7 = .ok (.imul, 1) := by decide +kernel
theorem dX8_byteOf_8 : decode cX8_byteOf 8 = .ok (.lshr, 1) := by decide +kernel
theorem dX8_byteOf_9 : decode cX8_byteOf 9 = .ok (.ldc2_w 57, 3) := by decide +kernel
theorem dX8_byteOf_12 : decode cX8_byteOf 12 = .ok (.land, 1) := by decide +kernel
theorem dX8_byteOf_13 : decode cX8_byteOf 13 = .ok (.l2i, 1) := by decide +kernel
theorem dX8_byteOf_14 : decode cX8_byteOf 14 = .ok (.ireturn, 1) := by decide +kernel
theorem dX8_append_0 : decode cX8_append 0 = .ok (.aload_n 0, 1) := by decide +kernel
theorem dX8_append_1 : decode cX8_append 1 = .ok (.iconst 0, 1) := by decide +kernel
theorem dX8_append_2 : decode cX8_append 2 = .ok (.putfield 41, 3) := by decide +kernel
theorem dX8_append_5 : decode cX8_append 5 = .ok (.iconst 0, 1) := by decide +kernel
theorem dX8_append_6 : decode cX8_append 6 = .ok (.istore_n 3, 1) := by decide +kernel
theorem dX8_append_7 : decode cX8_append 7 = .ok (.iconst 0, 1) := by decide +kernel
theorem dX8_append_8 : decode cX8_append 8 = .ok (.istore 4, 2) := by decide +kernel
theorem dX8_append_10 : decode cX8_append 10 = .ok (.iload 4, 2) := by decide +kernel
theorem dX8_append_12 : decode cX8_append 12 = .ok (.bipush 8, 2) := by decide +kernel
theorem dX8_append_14 : decode cX8_append 14 = .ok (.if_icmp .ge 26, 3) := by decide +kernel
theorem dX8_append_17 : decode cX8_append 17 = .ok (.iload_n 3, 1) := by decide +kernel
theorem dX8_append_18 : decode cX8_append 18 = .ok (.lload_n 1, 1) := by decide +kernel
theorem dX8_append_19 : decode cX8_append 19 = .ok (.iload 4, 2) := by decide +kernel
theorem dX8_append_21 : decode cX8_append 21 = .ok (.invokestatic 59, 3) := by decide +kernel
theorem dX8_append_24 : decode cX8_append 24 = .ok (.ifCond .ne 7, 3) := by decide +kernel
theorem dX8_append_27 : decode cX8_append 27 = .ok (.iconst 0, 1) := by decide +kernel
theorem dX8_append_28 : decode cX8_append 28 = .ok (.goto 4, 3) := by decide +kernel
theorem dX8_append_31 : decode cX8_append 31 = .ok (.iconst 1, 1) := by decide +kernel
theorem dX8_append_32 : decode cX8_append 32 = .ok (.iadd, 1) := by decide +kernel
theorem dX8_append_33 : decode cX8_append 33 = .ok (.istore_n 3, 1) := by decide +kernel
theorem dX8_append_34 : decode cX8_append 34 = .ok (.iinc 4 1, 3) := by decide +kernel
theorem dX8_append_37 : decode cX8_append 37 = .ok (.goto (-27), 3) := by decide +kernel
theorem dX8_append_40 : decode cX8_append 40 = .ok (.aload_n 0, 1) := by decide +kernel
theorem dX8_append_41 : decode cX8_append 41 = .ok (.getfield 63, 3) := by decide +kernel
theorem dX8_append_44 : decode cX8_append 44 = .ok (.iload_n 3, 1) := by decide +kernel
theorem dX8_append_45 : decode cX8_append 45 = .ok (.iadd, 1) := by decide +kernel
theorem dX8_append_46 : decode cX8_append 46 = .ok (.sipush 500, 3) := by decide +kernel
theorem dX8_append_49 : decode cX8_append 49 = .ok (.if_icmp .le 6, 3) := by decide +kernel
theorem dX8_append_52 : decode cX8_append 52 = .ok (.bipush (-2), 2) := by decide +kernel
theorem dX8_append_54 : decode cX8_append 54 = .ok (.ireturn, 1) := by decide +kernel
theorem dX8_append_55 : decode cX8_append 55 = .ok (.iconst 0, 1) := by decide +kernel
theorem dX8_append_56 : decode cX8_append 56 = .ok (.istore 4, 2) := by decide +kernel
theorem dX8_append_58 : decode cX8_append 58 = .ok (.iload 4, 2) := by decide +kernel
theorem dX8_append_60 : decode cX8_append 60 = .ok (.bipush 8, 2) := by decide +kernel
theorem dX8_append_62 : decode cX8_append 62 = .ok (.if_icmp .ge 44, 3) := by decide +kernel
theorem dX8_append_65 : decode cX8_append 65 = .ok (.lload_n 1, 1) := by decide +kernel
theorem dX8_append_66 : decode cX8_append 66 = .ok (.iload 4, 2) := by decide +kernel
theorem dX8_append_68 : decode cX8_append 68 = .ok (.invokestatic 59, 3) := by decide +kernel
theorem dX8_append_71 : decode cX8_append 71 = .ok (.ifCond .eq 29, 3) := by decide +kernel
theorem dX8_append_74 : decode cX8_append 74 = .ok (.aload_n 0, 1) := by decide +kernel
theorem dX8_append_75 : decode cX8_append 75 = .ok (.getfield 29, 3) := by decide +kernel
theorem dX8_append_78 : decode cX8_append 78 = .ok (.aload_n 0, 1) := by decide +kernel
theorem dX8_append_79 : decode cX8_append 79 = .ok (.getfield 63, 3) := by decide +kernel
theorem dX8_append_82 : decode cX8_append 82 = .ok (.lload_n 1, 1) := by decide +kernel
theorem dX8_append_83 : decode cX8_append 83 = .ok (.iload 4, 2) := by decide +kernel
theorem dX8_append_85 : decode cX8_append 85 = .ok (.invokestatic 59, 3) := by decide +kernel
theorem dX8_append_88 : decode cX8_append 88 = .ok (.i2b, 1) := by decide +kernel
theorem dX8_append_89 : decode cX8_append 89 = .ok (.bastore, 1) := by decide +kernel
theorem dX8_append_90 : decode cX8_append 90 = .ok (.aload_n 0, 1) := by decide +kernel
theorem dX8_append_91 : decode cX8_append 91 = .ok (.dup, 1) := by decide +kernel
theorem dX8_append_92 : decode cX8_append 92 = .ok (.getfield 63, 3) := by decide +kernel
theorem dX8_append_95 : decode cX8_append 95 = .ok (.iconst 1, 1) := by decide +kernel
theorem dX8_append_96 : decode cX8_append 96 = .ok (.iadd, 1) := by decide +kernel
theorem dX8_append_97 : decode cX8_append 97 = .ok (.putfield 63, 3) := by decide +kernel
theorem dX8_append_100 : decode cX8_append 100 = .ok (.iinc 4 1, 3) := by decide +kernel
theorem dX8_append_103 : decode cX8_append 103 = .ok (.goto (-45), 3) := by decide +kernel
theorem dX8_append_106 : decode cX8_append 106 = .ok (.aload_n 0, 1) := by decide +kernel
theorem dX8_append_107 : decode cX8_append 107 = .ok (.getfield 63, 3) := by decide +kernel
theorem dX8_append_110 : decode cX8_append 110 = .ok (.ireturn, 1) := by decide +kernel
theorem dX8_here_0 : decode cX8_here 0 = .ok (.aload_n 0, 1) := by decide +kernel
theorem dX8_here_1 : decode cX8_here 1 = .ok (.getfield 66, 3) := by decide +kernel
theorem dX8_here_4 : decode cX8_here 4 = .ok (.aload_n 0, 1) := by decide +kernel
theorem dX8_here_5 : decode cX8_here 5 = .ok (.getfield 63, 3) := by decide +kernel
theorem dX8_here_8 : decode cX8_here 8 = .ok (.if_icmp .ge 19, 3) := by decide +kernel
theorem dX8_here_11 : decode cX8_here 11 = .ok (.aload_n 0, 1) := by decide +kernel
theorem dX8_here_12 : decode cX8_here 12 = .ok (.getfield 29, 3) := by decide +kernel
theorem dX8_here_15 : decode cX8_here 15 = .ok (.aload_n 0, 1) := by decide +kernel
theorem dX8_here_16 : decode cX8_here 16 = .ok (.getfield 66, 3) := by decide +kernel
theorem dX8_here_19 : decode cX8_here 19 = .ok (.baload, 1) := by decide +kernel
theorem dX8_here_20 : decode cX8_here 20 = .ok (.sipush 255, 3) := by decide +kernel
theorem dX8_here_23 : decode cX8_here 23 = .ok (.iand, 1) := by decide +kernel
theorem dX8_here_24 : decode cX8_here 24 = .ok (.goto 4, 3) := by decide +kernel
theorem dX8_here_27 : decode cX8_here 27 = .ok (.iconst (-1), 1) := by decide +kernel
theorem dX8_here_28 : decode cX8_here 28 = .ok (.ireturn, 1) := by decide +kernel
theorem dX8_next_0 : decode cX8_next 0 = .ok (.aload_n 0, 1) := by decide +kernel
theorem dX8_next_1 : decode cX8_next 1 = .ok (.invokevirtual 69, 3) := by decide +kernel
theorem dX8_next_4 : decode cX8_next 4 = .ok (.bipush 32, 2) := by decide +kernel
theorem dX8_next_6 : decode cX8_next 6 = .ok (.if_icmp .ne 16, 3) := by decide +kernel
theorem dX8_next_9 : decode cX8_next 9 = .ok (.aload_n 0, 1) := by decide +kernel
theorem dX8_next_10 : decode cX8_next 10 = .ok (.dup, 1) := by decide +kernel
theorem dX8_next_11 : decode cX8_next 11 = .ok (.getfield 66, 3) := by decide +kernel
theorem dX8_next_14 : decode cX8_next 14 = .ok (.iconst 1, 1) := by decide +kernel
theorem dX8_next_15 : decode cX8_next 15 = .ok (.iadd, 1) := by decide +kernel
theorem dX8_next_16 : decode cX8_next 16 = .ok (.putfield 66, 3) := by decide +kernel
theorem dX8_next_19 : decode cX8_next 19 = .ok (.goto (-19), 3) := by decide +kernel
theorem dX8_next_22 : decode cX8_next 22 = .ok (.aload_n 0, 1) := by decide +kernel
theorem dX8_next_23 : decode cX8_next 23 = .ok (.aload_n 0, 1) := by decide +kernel
theorem dX8_next_24 : decode cX8_next 24 = .ok (.getfield 66, 3) := by decide +kernel
theorem dX8_next_27 : decode cX8_next 27 = .ok (.putfield 73, 3) := by decide +kernel
theorem dX8_next_30 : decode cX8_next 30 = .ok (.aload_n 0, 1) := by decide +kernel
theorem dX8_next_31 : decode cX8_next 31 = .ok (.invokevirtual 69, 3) := by decide +kernel
theorem dX8_next_34 : decode cX8_next 34 = .ok (.ireturn, 1) := by decide +kernel
theorem dX8_fails_0 : decode cX8_fails 0 = .ok (.aload_n 0, 1) := by decide +kernel
theorem dX8_fails_1 : decode cX8_fails 1 = .ok (.getfield 76, 3) := by decide +kernel
theorem dX8_fails_4 : decode cX8_fails 4 = .ok (.ifCond .ne 16, 3) := by decide +kernel
theorem dX8_fails_7 : decode cX8_fails 7 = .ok (.aload_n 0, 1) := by decide +kernel
theorem dX8_fails_8 : decode cX8_fails 8 = .ok (.iload_n 1, 1) := by decide +kernel
theorem dX8_fails_9 : decode cX8_fails 9 = .ok (.putfield 76, 3) := by decide +kernel
theorem dX8_fails_12 : decode cX8_fails 12 = .ok (.aload_n 0, 1) := by decide +kernel
theorem dX8_fails_13 : decode cX8_fails 13 = .ok (.aload_n 0, 1) := by decide +kernel
theorem dX8_fails_14 : decode cX8_fails 14 = .ok (.getfield 73, 3) := by decide +kernel
theorem dX8_fails_17 : decode cX8_fails 17 = .ok (.putfield 79, 3) := by decide +kernel
theorem dX8_fails_20 : decode cX8_fails 20 = .ok (.return_, 1) := by decide +kernel
theorem dX8_reads_0 : decode cX8_reads 0 = .ok (.aload_n 0, 1) := by decide +kernel
theorem dX8_reads_1 : decode cX8_reads 1 = .ok (.invokevirtual 82, 3) := by decide +kernel
theorem dX8_reads_4 : decode cX8_reads 4 = .ok (.pop, 1) := by decide +kernel
theorem dX8_reads_5 : decode cX8_reads 5 = .ok (.aload_n 0, 1) := by decide +kernel
theorem dX8_reads_6 : decode cX8_reads 6 = .ok (.invokevirtual 69, 3) := by decide +kernel
theorem dX8_reads_9 : decode cX8_reads 9 = .ok (.i2l, 1) := by decide +kernel
theorem dX8_reads_10 : decode cX8_reads 10 = .ok (.ldc2_w 85, 3) := by decide +kernel
theorem dX8_reads_13 : decode cX8_reads 13 = .ok (.ldc2_w 87, 3) := by decide +kernel
theorem dX8_reads_16 : decode cX8_reads 16 = .ok (.invokestatic 44, 3) := by decide +kernel
theorem dX8_reads_19 : decode cX8_reads 19 = .ok (.ifCond .eq 16, 3) := by decide +kernel
theorem dX8_reads_22 : decode cX8_reads 22 = .ok (.aload_n 0, 1) := by decide +kernel
theorem dX8_reads_23 : decode cX8_reads 23 = .ok (.dup, 1) := by decide +kernel
theorem dX8_reads_24 : decode cX8_reads 24 = .ok (.getfield 66, 3) := by decide +kernel
theorem dX8_reads_27 : decode cX8_reads 27 = .ok (.iconst 1, 1) := by decide +kernel
theorem dX8_reads_28 : decode cX8_reads 28 = .ok (.iadd, 1) := by decide +kernel
theorem dX8_reads_29 : decode cX8_reads 29 = .ok (.putfield 66, 3) := by decide +kernel
theorem dX8_reads_32 : decode cX8_reads 32 = .ok (.goto (-27), 3) := by decide +kernel
theorem dX8_reads_35 : decode cX8_reads 35 = .ok (.return_, 1) := by decide +kernel
theorem dX8_isWord_0 : decode cX8_isWord 0 = .ok (.aload_n 0, 1) := by decide +kernel
theorem dX8_isWord_1 : decode cX8_isWord 1 = .ok (.getfield 66, 3) := by decide +kernel
theorem dX8_isWord_4 : decode cX8_isWord 4 = .ok (.aload_n 0, 1) := by decide +kernel
theorem dX8_isWord_5 : decode cX8_isWord 5 = .ok (.getfield 73, 3) := by decide +kernel
theorem dX8_isWord_8 : decode cX8_isWord 8 = .ok (.isub, 1) := by decide +kernel
theorem dX8_isWord_9 : decode cX8_isWord 9 = .ok (.aload_n 1, 1) := by decide +kernel
theorem dX8_isWord_10 : decode cX8_isWord 10 = .ok (.invokevirtual 89, 3) := by decide +kernel
theorem dX8_isWord_13 : decode cX8_isWord 13 = .ok (.if_icmp .ne 7, 3) := by decide +kernel
theorem dX8_isWord_16 : decode cX8_isWord 16 = .ok (.iconst 1, 1) := by decide +kernel
theorem dX8_isWord_17 : decode cX8_isWord 17 = .ok (.goto 4, 3) := by decide +kernel
theorem dX8_isWord_20 : decode cX8_isWord 20 = .ok (.iconst 0, 1) := by decide +kernel
theorem dX8_isWord_21 : decode cX8_isWord 21 = .ok (.istore_n 2, 1) := by decide +kernel
theorem dX8_isWord_22 : decode cX8_isWord 22 = .ok (.iconst 0, 1) := by decide +kernel
theorem dX8_isWord_23 : decode cX8_isWord 23 = .ok (.istore_n 3, 1) := by decide +kernel
theorem dX8_isWord_24 : decode cX8_isWord 24 = .ok (.iload_n 2, 1) := by decide +kernel
theorem dX8_isWord_25 : decode cX8_isWord 25 = .ok (.ifCond .eq 42, 3) := by decide +kernel
theorem dX8_isWord_28 : decode cX8_isWord 28 = .ok (.iload_n 3, 1) := by decide +kernel
theorem dX8_isWord_29 : decode cX8_isWord 29 = .ok (.aload_n 1, 1) := by decide +kernel
theorem dX8_isWord_30 : decode cX8_isWord 30 = .ok (.invokevirtual 89, 3) := by decide +kernel
theorem dX8_isWord_33 : decode cX8_isWord 33 = .ok (.if_icmp .ge 34, 3) := by decide +kernel
theorem dX8_isWord_36 : decode cX8_isWord 36 = .ok (.aload_n 0, 1) := by decide +kernel
theorem dX8_isWord_37 : decode cX8_isWord 37 = .ok (.getfield 29, 3) := by decide +kernel
theorem dX8_isWord_40 : decode cX8_isWord 40 = .ok (.aload_n 0, 1) := by decide +kernel
theorem dX8_isWord_41 : decode cX8_isWord 41 = .ok (.getfield 73, 3) := by decide +kernel
theorem dX8_isWord_44 : decode cX8_isWord 44 = .ok (.iload_n 3, 1) := by decide +kernel
theorem dX8_isWord_45 : decode cX8_isWord 45 = .ok (.iadd, 1) := by decide +kernel
theorem dX8_isWord_46 : decode cX8_isWord 46 = .ok (.baload, 1) := by decide +kernel
theorem dX8_isWord_47 : decode cX8_isWord 47 = .ok (.aload_n 1, 1) := by decide +kernel
theorem dX8_isWord_48 : decode cX8_isWord 48 = .ok (.iload_n 3, 1) := by decide +kernel
theorem dX8_isWord_49 : decode cX8_isWord 49 = .ok (.invokevirtual 93, 3) := by decide +kernel
theorem dX8_isWord_52 : decode cX8_isWord 52 = .ok (.if_icmp .ne 7, 3) := by decide +kernel
theorem dX8_isWord_55 : decode cX8_isWord 55 = .ok (.iconst 1, 1) := by decide +kernel
theorem dX8_isWord_56 : decode cX8_isWord 56 = .ok (.goto 4, 3) := by decide +kernel
theorem dX8_isWord_59 : decode cX8_isWord 59 = .ok (.iconst 0, 1) := by decide +kernel
theorem dX8_isWord_60 : decode cX8_isWord 60 = .ok (.istore_n 2, 1) := by decide +kernel
theorem dX8_isWord_61 : decode cX8_isWord 61 = .ok (.iinc 3 1, 3) := by decide +kernel
theorem dX8_isWord_64 : decode cX8_isWord 64 = .ok (.goto (-40), 3) := by decide +kernel
theorem dX8_isWord_67 : decode cX8_isWord 67 = .ok (.iload_n 2, 1) := by decide +kernel
theorem dX8_isWord_68 : decode cX8_isWord 68 = .ok (.ireturn, 1) := by decide +kernel
theorem dX8_number_0 : decode cX8_number 0 = .ok (.aload_n 0, 1) := by decide +kernel
theorem dX8_number_1 : decode cX8_number 1 = .ok (.getfield 76, 3) := by decide +kernel
theorem dX8_number_4 : decode cX8_number 4 = .ok (.ifCond .eq 5, 3) := by decide +kernel
theorem dX8_number_7 : decode cX8_number 7 = .ok (.iload_n 1, 1) := by decide +kernel
theorem dX8_number_8 : decode cX8_number 8 = .ok (.ireturn, 1) := by decide +kernel
theorem dX8_number_9 : decode cX8_number 9 = .ok (.aload_n 0, 1) := by decide +kernel
theorem dX8_number_10 : decode cX8_number 10 = .ok (.invokevirtual 82, 3) := by decide +kernel
theorem dX8_number_13 : decode cX8_number 13 = .ok (.i2l, 1) := by decide +kernel
theorem dX8_number_14 : decode cX8_number 14 = .ok (.ldc2_w 97, 3) := by decide +kernel
theorem dX8_number_17 : decode cX8_number 17 = .ok (.ldc2_w 99, 3) := by decide +kernel
theorem dX8_number_20 : decode cX8_number 20 = .ok (.invokestatic 44, 3) := by decide +kernel
theorem dX8_number_23 : decode cX8_number 23 = .ok (.ifCond .ne 10, 3) := by decide +kernel
theorem dX8_number_26 : decode cX8_number 26 = .ok (.aload_n 0, 1) := by decide +kernel
theorem dX8_number_27 : decode cX8_number 27 = .ok (.iconst 1, 1) := by decide +kernel
theorem dX8_number_28 : decode cX8_number 28 = .ok (.invokevirtual 101, 3) := by decide +kernel
theorem dX8_number_31 : decode cX8_number 31 = .ok (.iload_n 1, 1) := by decide +kernel
theorem dX8_number_32 : decode cX8_number 32 = .ok (.ireturn, 1) := by decide +kernel
theorem dX8_number_33 : decode cX8_number 33 = .ok (.iconst 0, 1) := by decide +kernel
theorem dX8_number_34 : decode cX8_number 34 = .ok (.istore_n 3, 1) := by decide +kernel
theorem dX8_number_35 : decode cX8_number 35 = .ok (.aload_n 0, 1) := by decide +kernel
theorem dX8_number_36 : decode cX8_number 36 = .ok (.invokevirtual 69, 3) := by decide +kernel
theorem dX8_number_39 : decode cX8_number 39 = .ok (.i2l, 1) := by decide +kernel
theorem dX8_number_40 : decode cX8_number 40 = .ok (.ldc2_w 97, 3) := by decide +kernel
theorem dX8_number_43 : decode cX8_number 43 = .ok (.ldc2_w 99, 3) := by decide +kernel
theorem dX8_number_46 : decode cX8_number 46 = .ok (.invokestatic 44, 3) := by decide +kernel
theorem dX8_number_49 : decode cX8_number 49 = .ok (.ifCond .eq 34, 3) := by decide +kernel
theorem dX8_number_52 : decode cX8_number 52 = .ok (.ldc 105, 2) := by decide +kernel
theorem dX8_number_54 : decode cX8_number 54 = .ok (.bipush 10, 2) := by decide +kernel
theorem dX8_number_56 : decode cX8_number 56 = .ok (.iload_n 3, 1) := by decide +kernel
theorem dX8_number_57 : decode cX8_number 57 = .ok (.imul, 1) := by decide +kernel
theorem dX8_number_58 : decode cX8_number 58 = .ok (.aload_n 0, 1) := by decide +kernel
theorem dX8_number_59 : decode cX8_number 59 = .ok (.invokevirtual 69, 3) := by decide +kernel
theorem dX8_number_62 : decode cX8_number 62 = .ok (.iadd, 1) := by decide +kernel
theorem dX8_number_63 : decode cX8_number 63 = .ok (.bipush 48, 2) := by decide +kernel
theorem dX8_number_65 : decode cX8_number 65 = .ok (.isub, 1) := by decide +kernel
theorem dX8_number_66 : decode cX8_number 66 = .ok (.invokestatic 106, 3) := by decide +kernel
theorem dX8_number_69 : decode cX8_number 69 = .ok (.istore_n 3, 1) := by decide +kernel
theorem dX8_number_70 : decode cX8_number 70 = .ok (.aload_n 0, 1) := by decide +kernel
theorem dX8_number_71 : decode cX8_number 71 = .ok (.dup, 1) := by decide +kernel
theorem dX8_number_72 : decode cX8_number 72 = .ok (.getfield 66, 3) := by decide +kernel
theorem dX8_number_75 : decode cX8_number 75 = .ok (.iconst 1, 1) := by decide +kernel
theorem dX8_number_76 : decode cX8_number 76 = .ok (.iadd, 1) := by decide +kernel
theorem dX8_number_77 : decode cX8_number 77 = .ok (.putfield 66, 3) := by decide +kernel
theorem dX8_number_80 : decode cX8_number 80 = .ok (.goto (-45), 3) := by decide +kernel
theorem dX8_number_83 : decode cX8_number 83 = .ok (.iload_n 3, 1) := by decide +kernel
theorem dX8_number_84 : decode cX8_number 84 = .ok (.i2l, 1) := by decide +kernel
theorem dX8_number_85 : decode cX8_number 85 = .ok (.iload_n 1, 1) := by decide +kernel
theorem dX8_number_86 : decode cX8_number 86 = .ok (.i2l, 1) := by decide +kernel
theorem dX8_number_87 : decode cX8_number 87 = .ok (.iload_n 2, 1) := by decide +kernel
theorem dX8_number_88 : decode cX8_number 88 = .ok (.i2l, 1) := by decide +kernel
theorem dX8_number_89 : decode cX8_number 89 = .ok (.invokestatic 44, 3) := by decide +kernel
theorem dX8_number_92 : decode cX8_number 92 = .ok (.ifCond .ne 10, 3) := by decide +kernel
theorem dX8_number_95 : decode cX8_number 95 = .ok (.aload_n 0, 1) := by decide +kernel
theorem dX8_number_96 : decode cX8_number 96 = .ok (.iconst 2, 1) := by decide +kernel
theorem dX8_number_97 : decode cX8_number 97 = .ok (.invokevirtual 101, 3) := by decide +kernel
theorem dX8_number_100 : decode cX8_number 100 = .ok (.iload_n 1, 1) := by decide +kernel
theorem dX8_number_101 : decode cX8_number 101 = .ok (.ireturn, 1) := by decide +kernel
theorem dX8_number_102 : decode cX8_number 102 = .ok (.iload_n 3, 1) := by decide +kernel
theorem dX8_number_103 : decode cX8_number 103 = .ok (.ireturn, 1) := by decide +kernel
theorem dX8_knownPack_0 : decode cX8_knownPack 0 = .ok (.aload_n 0, 1) := by decide +kernel
theorem dX8_knownPack_1 : decode cX8_knownPack 1 = .ok (.iconst 0, 1) := by decide +kernel
theorem dX8_knownPack_2 : decode cX8_knownPack 2 = .ok (.aload_n 0, 1) := by decide +kernel
theorem dX8_knownPack_3 : decode cX8_knownPack 3 = .ok (.getfield 13, 3) := by decide +kernel
theorem dX8_knownPack_6 : decode cX8_knownPack 6 = .ok (.iconst 3, 1) := by decide +kernel
theorem dX8_knownPack_7 : decode cX8_knownPack 7 = .ok (.iaload, 1) := by decide +kernel
theorem dX8_knownPack_8 : decode cX8_knownPack 8 = .ok (.iconst 1, 1) := by decide +kernel
theorem dX8_knownPack_9 : decode cX8_knownPack 9 = .ok (.isub, 1) := by decide +kernel
theorem dX8_knownPack_10 : decode cX8_knownPack 10 = .ok (.invokevirtual 111, 3) := by decide +kernel
theorem dX8_knownPack_13 : decode cX8_knownPack 13 = .ok (.ireturn, 1) := by decide +kernel
theorem dX8_isRoom_0 : decode cX8_isRoom 0 = .ok (.aload_n 0, 1) := by decide +kernel
theorem dX8_isRoom_1 : decode cX8_isRoom 1 = .ok (.getfield 13, 3) := by decide +kernel
theorem dX8_isRoom_4 : decode cX8_isRoom 4 = .ok (.iload_n 1, 1) := by decide +kernel
theorem dX8_isRoom_5 : decode cX8_isRoom 5 = .ok (.iaload, 1) := by decide +kernel
theorem dX8_isRoom_6 : decode cX8_isRoom 6 = .ok (.iload_n 2, 1) := by decide +kernel
theorem dX8_isRoom_7 : decode cX8_isRoom 7 = .ok (.if_icmp .ge 5, 3) := by decide +kernel
theorem dX8_isRoom_10 : decode cX8_isRoom 10 = .ok (.iconst 1, 1) := by decide +kernel
theorem dX8_isRoom_11 : decode cX8_isRoom 11 = .ok (.ireturn, 1) := by decide +kernel
theorem dX8_isRoom_12 : decode cX8_isRoom 12 = .ok (.aload_n 0, 1) := by decide +kernel
theorem dX8_isRoom_13 : decode cX8_isRoom 13 = .ok (.aload_n 0, 1) := by decide +kernel
theorem dX8_isRoom_14 : decode cX8_isRoom 14 = .ok (.getfield 114, 3) := by decide +kernel
theorem dX8_isRoom_17 : decode cX8_isRoom 17 = .ok (.putfield 73, 3) := by decide +kernel
theorem dX8_isRoom_20 : decode cX8_isRoom 20 = .ok (.aload_n 0, 1) := by decide +kernel
theorem dX8_isRoom_21 : decode cX8_isRoom 21 = .ok (.iconst 4, 1) := by decide +kernel
theorem dX8_isRoom_22 : decode cX8_isRoom 22 = .ok (.invokevirtual 101, 3) := by decide +kernel
theorem dX8_isRoom_25 : decode cX8_isRoom 25 = .ok (.iconst 0, 1) := by decide +kernel
theorem dX8_isRoom_26 : decode cX8_isRoom 26 = .ok (.ireturn, 1) := by decide +kernel
theorem dX8_packsPart_0 : decode cX8_packsPart 0 = .ok (.aload_n 0, 1) := by decide +kernel
theorem dX8_packsPart_1 : decode cX8_packsPart 1 = .ok (.invokevirtual 117, 3) := by decide +kernel
theorem dX8_packsPart_4 : decode cX8_packsPart 4 = .ok (.aload_n 0, 1) := by decide +kernel
theorem dX8_packsPart_5 : decode cX8_packsPart 5 = .ok (.ldc 120, 2) := by decide +kernel
theorem dX8_packsPart_7 : decode cX8_packsPart 7 = .ok (.invokevirtual 122, 3) := by decide +kernel
theorem dX8_packsPart_10 : decode cX8_packsPart 10 = .ok (.ifCond .ne 8, 3) := by decide +kernel
theorem dX8_packsPart_13 : decode cX8_packsPart 13 = .ok (.aload_n 0, 1) := by decide +kernel
theorem dX8_packsPart_14 : decode cX8_packsPart 14 = .ok (.iconst 1, 1) := by decide +kernel
theorem dX8_packsPart_15 : decode cX8_packsPart 15 = .ok (.invokevirtual 101, 3) := by decide +kernel
theorem dX8_packsPart_18 : decode cX8_packsPart 18 = .ok (.aload_n 0, 1) := by decide +kernel
theorem dX8_packsPart_19 : decode cX8_packsPart 19 = .ok (.getfield 13, 3) := by decide +kernel
theorem dX8_packsPart_22 : decode cX8_packsPart 22 = .ok (.iconst 0, 1) := by decide +kernel
theorem dX8_packsPart_23 : decode cX8_packsPart 23 = .ok (.aload_n 0, 1) := by decide +kernel
theorem dX8_packsPart_24 : decode cX8_packsPart 24 = .ok (.iconst 1, 1) := by decide +kernel
theorem dX8_packsPart_25 : decode cX8_packsPart 25 = .ok (.sipush 10000, 3) := by decide +kernel
theorem dX8_packsPart_28 : decode cX8_packsPart 28 = .ok (.invokevirtual 111, 3) := by decide +kernel
theorem dX8_packsPart_31 : decode cX8_packsPart 31 = .ok (.iastore, 1) := by decide +kernel
theorem dX8_packsPart_32 : decode cX8_packsPart 32 = .ok (.aload_n 0, 1) := by decide +kernel
theorem dX8_packsPart_33 : decode cX8_packsPart 33 = .ok (.getfield 13, 3) := by decide +kernel
theorem dX8_packsPart_36 : decode cX8_packsPart 36 = .ok (.iconst 1, 1) := by decide +kernel
theorem dX8_packsPart_37 : decode cX8_packsPart 37 = .ok (.aload_n 0, 1) := by decide +kernel
theorem dX8_packsPart_38 : decode cX8_packsPart 38 = .ok (.iconst 1, 1) := by decide +kernel
theorem dX8_packsPart_39 : decode cX8_packsPart 39 = .ok (.sipush 10000, 3) := by decide +kernel
theorem dX8_packsPart_42 : decode cX8_packsPart 42 = .ok (.invokevirtual 111, 3) := by decide +kernel
theorem dX8_packsPart_45 : decode cX8_packsPart 45 = .ok (.iastore, 1) := by decide +kernel
theorem dX8_packsPart_46 : decode cX8_packsPart 46 = .ok (.return_, 1) := by decide +kernel
theorem dX8_curvePart_0 : decode cX8_curvePart 0 = .ok (.aload_n 0, 1) := by decide +kernel
theorem dX8_curvePart_1 : decode cX8_curvePart 1 = .ok (.iconst 4, 1) := by decide +kernel
theorem dX8_curvePart_2 : decode cX8_curvePart 2 = .ok (.iconst 4, 1) := by decide +kernel
theorem dX8_curvePart_3 : decode cX8_curvePart 3 = .ok (.invokevirtual 126, 3) := by decide +kernel
theorem dX8_curvePart_6 : decode cX8_curvePart 6 = .ok (.ifCond .ne 4, 3) := by decide +kernel
theorem dX8_curvePart_9 : decode cX8_curvePart 9 = .ok (.return_, 1) := by decide +kernel
theorem dX8_curvePart_10 : decode cX8_curvePart 10 = .ok (.iconst 0, 1) := by decide +kernel
theorem dX8_curvePart_11 : decode cX8_curvePart 11 = .ok (.istore_n 1, 1) := by decide +kernel
theorem dX8_curvePart_12 : decode cX8_curvePart 12 = .ok (.iload_n 1, 1) := by decide +kernel
theorem dX8_curvePart_13 : decode cX8_curvePart 13 = .ok (.iconst 4, 1) := by decide +kernel
theorem dX8_curvePart_14 : decode cX8_curvePart 14 = .ok (.if_icmp .ge 35, 3) := by decide +kernel
theorem dX8_curvePart_17 : decode cX8_curvePart 17 = .ok (.aload_n 0, 1) := by decide +kernel
theorem dX8_curvePart_18 : decode cX8_curvePart 18 = .ok (.getfield 13, 3) := by decide +kernel
theorem dX8_curvePart_21 : decode cX8_curvePart 21 = .ok (.bipush 14, 2) := by decide +kernel
theorem dX8_curvePart_23 : decode cX8_curvePart 23 = .ok (.iconst 4, 1) := by decide +kernel
theorem dX8_curvePart_24 : decode cX8_curvePart 24 = .ok (.aload_n 0, 1) := by decide +kernel
theorem dX8_curvePart_25 : decode cX8_curvePart 25 = .ok (.getfield 13, 3) := by decide +kernel
theorem dX8_curvePart_28 : decode cX8_curvePart 28 = .ok (.iconst 4, 1) := by decide +kernel
theorem dX8_curvePart_29 : decode cX8_curvePart 29 = .ok (.iaload, 1) := by decide +kernel
theorem dX8_curvePart_30 : decode cX8_curvePart 30 = .ok (.imul, 1) := by decide +kernel
theorem dX8_curvePart_31 : decode cX8_curvePart 31 = .ok (.iadd, 1) := by decide +kernel
theorem dX8_curvePart_32 : decode cX8_curvePart 32 = .ok (.iload_n 1, 1) := by decide +kernel
theorem dX8_curvePart_33 : decode cX8_curvePart 33 = .ok (.iadd, 1) := by decide +kernel
theorem dX8_curvePart_34 : decode cX8_curvePart 34 = .ok (.aload_n 0, 1) := by decide +kernel
theorem dX8_curvePart_35 : decode cX8_curvePart 35 = .ok (.iconst 0, 1) := by decide +kernel
theorem dX8_curvePart_36 : decode cX8_curvePart 36 = .ok (.sipush 1000, 3) := by decide +kernel
theorem dX8_curvePart_39 : decode cX8_curvePart 39 = .ok (.invokevirtual 111, 3) := by decide +kernel
theorem dX8_curvePart_42 : decode cX8_curvePart 42 = .ok (.iastore, 1) := by decide +kernel
theorem dX8_curvePart_43 : decode cX8_curvePart 43 = .ok (.iinc 1 1, 3) := by decide +kernel
theorem dX8_curvePart_46 : decode cX8_curvePart 46 = .ok (.goto (-34), 3) := by decide +kernel
theorem dX8_curvePart_49 : decode cX8_curvePart 49 = .ok (.aload_n 0, 1) := by decide +kernel
theorem dX8_curvePart_50 : decode cX8_curvePart 50 = .ok (.getfield 13, 3) := by decide +kernel
theorem dX8_curvePart_53 : decode cX8_curvePart 53 = .ok (.iconst 4, 1) := by decide +kernel
theorem dX8_curvePart_54 : decode cX8_curvePart 54 = .ok (.dup2, 1) := by decide +kernel
theorem dX8_curvePart_55 : decode cX8_curvePart 55 = .ok (.iaload, 1) := by decide +kernel
theorem dX8_curvePart_56 : decode cX8_curvePart 56 = .ok (.iconst 1, 1) := by decide +kernel
theorem dX8_curvePart_57 : decode cX8_curvePart 57 = .ok (.iadd, 1) := by decide +kernel
theorem dX8_curvePart_58 : decode cX8_curvePart 58 = .ok (.iastore, 1) := by decide +kernel
theorem dX8_curvePart_59 : decode cX8_curvePart 59 = .ok (.return_, 1) := by decide +kernel
theorem dX8_packPart_0 : decode cX8_packPart 0 = .ok (.aload_n 0, 1) := by decide +kernel
theorem dX8_packPart_1 : decode cX8_packPart 1 = .ok (.iconst 3, 1) := by decide +kernel
theorem dX8_packPart_2 : decode cX8_packPart 2 = .ok (.bipush 8, 2) := by decide +kernel
theorem dX8_packPart_4 : decode cX8_packPart 4 = .ok (.invokevirtual 126, 3) := by decide +kernel
theorem dX8_packPart_7 : decode cX8_packPart 7 = .ok (.ifCond .ne 4, 3) := by decide +kernel
theorem dX8_packPart_10 : decode cX8_packPart 10 = .ok (.return_, 1) := by decide +kernel
theorem dX8_packPart_11 : decode cX8_packPart 11 = .ok (.bipush 30, 2) := by decide +kernel
theorem dX8_packPart_13 : decode cX8_packPart 13 = .ok (.bipush 7, 2) := by decide +kernel
theorem dX8_packPart_15 : decode cX8_packPart 15 = .ok (.aload_n 0, 1) := by decide +kernel
theorem dX8_packPart_16 : decode cX8_packPart 16 = .ok (.getfield 13, 3) := by decide +kernel
theorem dX8_packPart_19 : decode cX8_packPart 19 = .ok (.iconst 3, 1) := by decide +kernel
theorem dX8_packPart_20 : decode cX8_packPart 20 = .ok (.iaload, 1) := by decide +kernel
theorem dX8_packPart_21 : decode cX8_packPart 21 = .ok (.imul, 1) := by decide +kernel
theorem dX8_packPart_22 : decode cX8_packPart 22 = .ok (.iadd, 1) := by decide +kernel
theorem dX8_packPart_23 : decode cX8_packPart 23 = .ok (.istore_n 1, 1) := by decide +kernel
theorem dX8_packPart_24 : decode cX8_packPart 24 = .ok (.aload_n 0, 1) := by decide +kernel
theorem dX8_packPart_25 : decode cX8_packPart 25 = .ok (.getfield 13, 3) := by decide +kernel
theorem dX8_packPart_28 : decode cX8_packPart 28 = .ok (.iload_n 1, 1) := by decide +kernel
theorem dX8_packPart_29 : decode cX8_packPart 29 = .ok (.iconst 0, 1) := by decide +kernel
theorem dX8_packPart_30 : decode cX8_packPart 30 = .ok (.iadd, 1) := by decide +kernel
theorem dX8_packPart_31 : decode cX8_packPart 31 = .ok (.aload_n 0, 1) := by decide +kernel
theorem dX8_packPart_32 : decode cX8_packPart 32 = .ok (.iconst 2, 1) := by decide +kernel
theorem dX8_packPart_33 : decode cX8_packPart 33 = .ok (.ldc 130, 2) := by decide +kernel
theorem dX8_packPart_35 : decode cX8_packPart 35 = .ok (.invokevirtual 111, 3) := by decide +kernel
theorem dX8_packPart_38 : decode cX8_packPart 38 = .ok (.iastore, 1) := by decide +kernel
theorem dX8_packPart_39 : decode cX8_packPart 39 = .ok (.aload_n 0, 1) := by decide +kernel
theorem dX8_packPart_40 : decode cX8_packPart 40 = .ok (.getfield 13, 3) := by decide +kernel
theorem dX8_packPart_43 : decode cX8_packPart 43 = .ok (.iload_n 1, 1) := by decide +kernel
theorem dX8_packPart_44 : decode cX8_packPart 44 = .ok (.iconst 1, 1) := by decide +kernel
theorem dX8_packPart_45 : decode cX8_packPart 45 = .ok (.iadd, 1) := by decide +kernel
theorem dX8_packPart_46 : decode cX8_packPart 46 = .ok (.aload_n 0, 1) := by decide +kernel
theorem dX8_packPart_47 : decode cX8_packPart 47 = .ok (.iconst 0, 1) := by decide +kernel
theorem dX8_packPart_48 : decode cX8_packPart 48 = .ok (.aload_n 0, 1) := by decide +kernel
theorem dX8_packPart_49 : decode cX8_packPart 49 = .ok (.getfield 13, 3) := by decide +kernel
theorem dX8_packPart_52 : decode cX8_packPart 52 = .ok (.iload_n 1, 1) := by decide +kernel
theorem dX8_packPart_53 : decode cX8_packPart 53 = .ok (.iconst 0, 1) := by decide +kernel
theorem dX8_packPart_54 : decode cX8_packPart 54 = .ok (.iadd, 1) := by decide +kernel
theorem dX8_packPart_55 : decode cX8_packPart 55 = .ok (.iaload, 1) := by decide +kernel
theorem dX8_packPart_56 : decode cX8_packPart 56 = .ok (.invokevirtual 111, 3) := by decide +kernel
theorem dX8_packPart_59 : decode cX8_packPart 59 = .ok (.iastore, 1) := by decide +kernel
theorem dX8_packPart_60 : decode cX8_packPart 60 = .ok (.aload_n 0, 1) := by decide +kernel
theorem dX8_packPart_61 : decode cX8_packPart 61 = .ok (.getfield 76, 3) := by decide +kernel
theorem dX8_packPart_64 : decode cX8_packPart 64 = .ok (.ifCond .ne 24, 3) := by decide +kernel
theorem dX8_packPart_67 : decode cX8_packPart 67 = .ok (.aload_n 0, 1) := by decide +kernel
theorem dX8_packPart_68 : decode cX8_packPart 68 = .ok (.invokevirtual 82, 3) := by decide +kernel
theorem dX8_packPart_71 : decode cX8_packPart 71 = .ok (.i2l, 1) := by decide +kernel
theorem dX8_packPart_72 : decode cX8_packPart 72 = .ok (.ldc2_w 97, 3) := by decide +kernel
theorem dX8_packPart_75 : decode cX8_packPart 75 = .ok (.ldc2_w 99, 3) := by decide +kernel
theorem dX8_packPart_78 : decode cX8_packPart 78 = .ok (.invokestatic 44, 3) := by decide +kernel
theorem dX8_packPart_81 : decode cX8_packPart 81 = .ok (.ifCond .eq 7, 3) := by decide +kernel
theorem dX8_packPart_84 : decode cX8_packPart 84 = .ok (.iconst 1, 1) := by decide +kernel
theorem dX8_packPart_85 : decode cX8_packPart 85 = .ok (.goto 4, 3) := by decide +kernel
theorem dX8_packPart_88 : decode cX8_packPart 88 = .ok (.iconst 0, 1) := by decide +kernel
theorem dX8_packPart_89 : decode cX8_packPart 89 = .ok (.istore_n 2, 1) := by decide +kernel
theorem dX8_packPart_90 : decode cX8_packPart 90 = .ok (.aload_n 0, 1) := by decide +kernel
theorem dX8_packPart_91 : decode cX8_packPart 91 = .ok (.getfield 13, 3) := by decide +kernel
theorem dX8_packPart_94 : decode cX8_packPart 94 = .ok (.iload_n 1, 1) := by decide +kernel
theorem dX8_packPart_95 : decode cX8_packPart 95 = .ok (.iconst 3, 1) := by decide +kernel
theorem dX8_packPart_96 : decode cX8_packPart 96 = .ok (.iadd, 1) := by decide +kernel
theorem dX8_packPart_97 : decode cX8_packPart 97 = .ok (.iload_n 2, 1) := by decide +kernel
theorem dX8_packPart_98 : decode cX8_packPart 98 = .ok (.ifCond .eq 19, 3) := by decide +kernel
theorem dX8_packPart_101 : decode cX8_packPart 101 = .ok (.aload_n 0, 1) := by decide +kernel
theorem dX8_packPart_102 : decode cX8_packPart 102 = .ok (.iconst 0, 1) := by decide +kernel
theorem dX8_packPart_103 : decode cX8_packPart 103 = .ok (.aload_n 0, 1) := by decide +kernel
theorem dX8_packPart_104 : decode cX8_packPart 104 = .ok (.getfield 13, 3) := by decide +kernel
theorem dX8_packPart_107 : decode cX8_packPart 107 = .ok (.iconst 4, 1) := by decide +kernel
theorem dX8_packPart_108 : decode cX8_packPart 108 = .ok (.iaload, 1) := by decide +kernel
theorem dX8_packPart_109 : decode cX8_packPart 109 = .ok (.iconst 1, 1) := by decide +kernel
theorem dX8_packPart_110 : decode cX8_packPart 110 = .ok (.isub, 1) := by decide +kernel
theorem dX8_packPart_111 : decode cX8_packPart 111 = .ok (.invokevirtual 111, 3) := by decide +kernel
theorem dX8_packPart_114 : decode cX8_packPart 114 = .ok (.goto 4, 3) := by decide +kernel
theorem dX8_packPart_117 : decode cX8_packPart 117 = .ok (.iconst (-1), 1) := by decide +kernel
theorem dX8_packPart_118 : decode cX8_packPart 118 = .ok (.iastore, 1) := by decide +kernel
theorem dX8_packPart_119 : decode cX8_packPart 119 = .ok (.aload_n 0, 1) := by decide +kernel
theorem dX8_packPart_120 : decode cX8_packPart 120 = .ok (.getfield 13, 3) := by decide +kernel
theorem dX8_packPart_123 : decode cX8_packPart 123 = .ok (.bipush 10, 2) := by decide +kernel
theorem dX8_packPart_125 : decode cX8_packPart 125 = .ok (.dup2, 1) := by decide +kernel
theorem dX8_packPart_126 : decode cX8_packPart 126 = .ok (.iaload, 1) := by decide +kernel
theorem dX8_packPart_127 : decode cX8_packPart 127 = .ok (.aload_n 0, 1) := by decide +kernel
theorem dX8_packPart_128 : decode cX8_packPart 128 = .ok (.getfield 13, 3) := by decide +kernel
theorem dX8_packPart_131 : decode cX8_packPart 131 = .ok (.iload_n 1, 1) := by decide +kernel
theorem dX8_packPart_132 : decode cX8_packPart 132 = .ok (.iconst 1, 1) := by decide +kernel
theorem dX8_packPart_133 : decode cX8_packPart 133 = .ok (.iadd, 1) := by decide +kernel
theorem dX8_packPart_134 : decode cX8_packPart 134 = .ok (.iaload, 1) := by decide +kernel
theorem dX8_packPart_135 : decode cX8_packPart 135 = .ok (.iadd, 1) := by decide +kernel
theorem dX8_packPart_136 : decode cX8_packPart 136 = .ok (.iastore, 1) := by decide +kernel
theorem dX8_packPart_137 : decode cX8_packPart 137 = .ok (.aload_n 0, 1) := by decide +kernel
theorem dX8_packPart_138 : decode cX8_packPart 138 = .ok (.getfield 13, 3) := by decide +kernel
theorem dX8_packPart_141 : decode cX8_packPart 141 = .ok (.iconst 3, 1) := by decide +kernel
theorem dX8_packPart_142 : decode cX8_packPart 142 = .ok (.dup2, 1) := by decide +kernel
theorem dX8_packPart_143 : decode cX8_packPart 143 = .ok (.iaload, 1) := by decide +kernel
theorem dX8_packPart_144 : decode cX8_packPart 144 = .ok (.iconst 1, 1) := by decide +kernel
theorem dX8_packPart_145 : decode cX8_packPart 145 = .ok (.iadd, 1) := by decide +kernel
theorem dX8_packPart_146 : decode cX8_packPart 146 = .ok (.iastore, 1) := by decide +kernel
theorem dX8_packPart_147 : decode cX8_packPart 147 = .ok (.return_, 1) := by decide +kernel
theorem dX8_between_0 : decode cX8_between 0 = .ok (.iconst 0, 1) := by decide +kernel
theorem dX8_between_1 : decode cX8_between 1 = .ok (.istore_n 3, 1) := by decide +kernel
theorem dX8_between_2 : decode cX8_between 2 = .ok (.iload_n 3, 1) := by decide +kernel
theorem dX8_between_3 : decode cX8_between 3 = .ok (.aload_n 0, 1) := by decide +kernel
theorem dX8_between_4 : decode cX8_between 4 = .ok (.iconst 5, 1) := by decide +kernel
theorem dX8_between_5 : decode cX8_between 5 = .ok (.iaload, 1) := by decide +kernel
theorem dX8_between_6 : decode cX8_between 6 = .ok (.if_icmp .ge 61, 3) := by decide +kernel
theorem dX8_between_9 : decode cX8_between 9 = .ok (.aload_n 0, 1) := by decide +kernel
theorem dX8_between_10 : decode cX8_between 10 = .ok (.bipush 86, 2) := by decide +kernel
theorem dX8_between_12 : decode cX8_between 12 = .ok (.bipush 6, 2) := by decide +kernel
theorem dX8_between_14 : decode cX8_between 14 = .ok (.iload_n 3, 1) := by decide +kernel
theorem dX8_between_15 : decode cX8_between 15 = .ok (.imul, 1) := by decide +kernel
theorem dX8_between_16 : decode cX8_between 16 = .ok (.iadd, 1) := by decide +kernel
theorem dX8_between_17 : decode cX8_between 17 = .ok (.iconst 0, 1) := by decide +kernel
theorem dX8_between_18 : decode cX8_between 18 = .ok (.iadd, 1) := by decide +kernel
theorem dX8_between_19 : decode cX8_between 19 = .ok (.iaload, 1) := by decide +kernel
theorem dX8_between_20 : decode cX8_between 20 = .ok (.istore 4, 2) := by decide +kernel
theorem dX8_between_22 : decode cX8_between 22 = .ok (.aload_n 0, 1) := by decide +kernel
theorem dX8_between_23 : decode cX8_between 23 = .ok (.bipush 86, 2) := by decide +kernel
theorem dX8_between_25 : decode cX8_between 25 = .ok (.bipush 6, 2) := by decide +kernel
theorem dX8_between_27 : decode cX8_between 27 = .ok (.iload_n 3, 1) := by decide +kernel
theorem dX8_between_28 : decode cX8_between 28 = .ok (.imul, 1) := by decide +kernel
theorem dX8_between_29 : decode cX8_between 29 = .ok (.iadd, 1) := by decide +kernel
theorem dX8_between_30 : decode cX8_between 30 = .ok (.iconst 1, 1) := by decide +kernel
theorem dX8_between_31 : decode cX8_between 31 = .ok (.iadd, 1) := by decide +kernel
theorem dX8_between_32 : decode cX8_between 32 = .ok (.iaload, 1) := by decide +kernel
theorem dX8_between_33 : decode cX8_between 33 = .ok (.istore 5, 2) := by decide +kernel
theorem dX8_between_35 : decode cX8_between 35 = .ok (.iload 4, 2) := by decide +kernel
theorem dX8_between_37 : decode cX8_between 37 = .ok (.iload_n 1, 1) := by decide +kernel
theorem dX8_between_38 : decode cX8_between 38 = .ok (.if_icmp .ne 9, 3) := by decide +kernel
theorem dX8_between_41 : decode cX8_between 41 = .ok (.iload 5, 2) := by decide +kernel
theorem dX8_between_43 : decode cX8_between 43 = .ok (.iload_n 2, 1) := by decide +kernel
theorem dX8_between_44 : decode cX8_between 44 = .ok (.if_icmp .eq 15, 3) := by decide +kernel
theorem dX8_between_47 : decode cX8_between 47 = .ok (.iload 4, 2) := by decide +kernel
theorem dX8_between_49 : decode cX8_between 49 = .ok (.iload_n 2, 1) := by decide +kernel
theorem dX8_between_50 : decode cX8_between 50 = .ok (.if_icmp .ne 11, 3) := by decide +kernel
theorem dX8_between_53 : decode cX8_between 53 = .ok (.iload 5, 2) := by decide +kernel
theorem dX8_between_55 : decode cX8_between 55 = .ok (.iload_n 1, 1) := by decide +kernel
theorem dX8_between_56 : decode cX8_between 56 = .ok (.if_icmp .ne 5, 3) := by decide +kernel
theorem dX8_between_59 : decode cX8_between 59 = .ok (.iload_n 3, 1) := by decide +kernel
theorem dX8_between_60 : decode cX8_between 60 = .ok (.ireturn, 1) := by decide +kernel
theorem dX8_between_61 : decode cX8_between 61 = .ok (.iinc 3 1, 3) := by decide +kernel
theorem dX8_between_64 : decode cX8_between 64 = .ok (.goto (-62), 3) := by decide +kernel
theorem dX8_between_67 : decode cX8_between 67 = .ok (.iconst (-1), 1) := by decide +kernel
theorem dX8_between_68 : decode cX8_between 68 = .ok (.ireturn, 1) := by decide +kernel
theorem dX8_cablePart_0 : decode cX8_cablePart 0 = .ok (.aload_n 0, 1) := by decide +kernel
theorem dX8_cablePart_1 : decode cX8_cablePart 1 = .ok (.iconst 5, 1) := by decide +kernel
theorem dX8_cablePart_2 : decode cX8_cablePart 2 = .ok (.bipush 12, 2) := by decide +kernel
theorem dX8_cablePart_4 : decode cX8_cablePart 4 = .ok (.invokevirtual 126, 3) := by decide +kernel
theorem dX8_cablePart_7 : decode cX8_cablePart 7 = .ok (.ifCond .ne 4, 3) := by decide +kernel
theorem dX8_cablePart_10 : decode cX8_cablePart 10 = .ok (.return_, 1) := by decide +kernel
theorem dX8_cablePart_11 : decode cX8_cablePart 11 = .ok (.bipush 86, 2) := by decide +kernel
theorem dX8_cablePart_13 : decode cX8_cablePart 13 = .ok (.bipush 6, 2) := by decide +kernel
theorem dX8_cablePart_15 : decode cX8_cablePart 15 = .ok (.aload_n 0, 1) := by decide +kernel
theorem dX8_cablePart_16 : decode cX8_cablePart 16 = .ok (.getfield 13, 3) := by decide +kernel
theorem dX8_cablePart_19 : decode cX8_cablePart 19 = .ok (.iconst 5, 1) := by decide +kernel
theorem dX8_cablePart_20 : decode cX8_cablePart 20 = .ok (.iaload, 1) := by decide +kernel
theorem dX8_cablePart_21 : decode cX8_cablePart 21 = .ok (.imul, 1) := by decide +kernel
theorem dX8_cablePart_22 : decode cX8_cablePart 22 = .ok (.iadd, 1) := by decide +kernel
theorem dX8_cablePart_23 : decode cX8_cablePart 23 = .ok (.istore_n 1, 1) := by decide +kernel
theorem dX8_cablePart_24 : decode cX8_cablePart 24 = .ok (.aload_n 0, 1) := by decide +kernel
theorem dX8_cablePart_25 : decode cX8_cablePart 25 = .ok (.invokevirtual 131, 3) := by decide +kernel
theorem dX8_cablePart_28 : decode cX8_cablePart 28 = .ok (.istore_n 2, 1) := by decide +kernel
theorem dX8_cablePart_29 : decode cX8_cablePart 29 = .ok (.aload_n 0, 1) := by decide +kernel
theorem dX8_cablePart_30 : decode cX8_cablePart 30 = .ok (.invokevirtual 131, 3) := by decide +kernel
theorem dX8_cablePart_33 : decode cX8_cablePart 33 = .ok (.istore_n 3, 1) := by decide +kernel
theorem dX8_cablePart_34 : decode cX8_cablePart 34 = .ok (.aload_n 0, 1) := by decide +kernel
theorem dX8_cablePart_35 : decode cX8_cablePart 35 = .ok (.getfield 76, 3) := by decide +kernel
theorem dX8_cablePart_38 : decode cX8_cablePart 38 = .ok (.ifCond .ne 26, 3) := by decide +kernel
theorem dX8_cablePart_41 : decode cX8_cablePart 41 = .ok (.iload_n 2, 1) := by decide +kernel
theorem dX8_cablePart_42 : decode cX8_cablePart 42 = .ok (.iload_n 3, 1) := by decide +kernel
theorem dX8_cablePart_43 : decode cX8_cablePart 43 = .ok (.if_icmp .eq 16, 3) := by decide +kernel
theorem dX8_cablePart_46 : decode cX8_cablePart 46 = .ok (.aload_n 0, 1) := by decide +kernel
theorem dX8_cablePart_47 : decode cX8_cablePart 47 = .ok (.getfield 13, 3) := by decide +kernel
theorem dX8_cablePart_50 : decode cX8_cablePart 50 = .ok (.iload_n 2, 1) := by decide +kernel
theorem dX8_cablePart_51 : decode cX8_cablePart 51 = .ok (.iload_n 3, 1) := by decide +kernel
theorem dX8_cablePart_52 : decode cX8_cablePart 52 = .ok (.invokestatic 134, 3) := by decide +kernel
theorem dX8_cablePart_55 : decode cX8_cablePart 55 = .ok (.iconst (-1), 1) := by decide +kernel
theorem dX8_cablePart_56 : decode cX8_cablePart 56 = .ok (.if_icmp .eq 8, 3) := by decide +kernel
theorem dX8_cablePart_59 : decode cX8_cablePart 59 = .ok (.aload_n 0, 1) := by decide +kernel
theorem dX8_cablePart_60 : decode cX8_cablePart 60 = .ok (.iconst 3, 1) := by decide +kernel
theorem dX8_cablePart_61 : decode cX8_cablePart 61 = .ok (.invokevirtual 101, 3) := by decide +kernel
theorem dX8_cablePart_64 : decode cX8_cablePart 64 = .ok (.aload_n 0, 1) := by decide +kernel
theorem dX8_cablePart_65 : decode cX8_cablePart 65 = .ok (.getfield 13, 3) := by decide +kernel
theorem dX8_cablePart_68 : decode cX8_cablePart 68 = .ok (.iload_n 1, 1) := by decide +kernel
theorem dX8_cablePart_69 : decode cX8_cablePart 69 = .ok (.iconst 0, 1) := by decide +kernel
theorem dX8_cablePart_70 : decode cX8_cablePart 70 = .ok (.iadd, 1) := by decide +kernel
theorem dX8_cablePart_71 : decode cX8_cablePart 71 = .ok (.iload_n 2, 1) := by decide +kernel
theorem dX8_cablePart_72 : decode cX8_cablePart 72 = .ok (.iastore, 1) := by decide +kernel
theorem dX8_cablePart_73 : decode cX8_cablePart 73 = .ok (.aload_n 0, 1) := by decide +kernel
theorem dX8_cablePart_74 : decode cX8_cablePart 74 = .ok (.getfield 13, 3) := by decide +kernel
theorem dX8_cablePart_77 : decode cX8_cablePart 77 = .ok (.iload_n 1, 1) := by decide +kernel
theorem dX8_cablePart_78 : decode cX8_cablePart 78 = .ok (.iconst 1, 1) := by decide +kernel
theorem dX8_cablePart_79 : decode cX8_cablePart 79 = .ok (.iadd, 1) := by decide +kernel
theorem dX8_cablePart_80 : decode cX8_cablePart 80 = .ok (.iload_n 3, 1) := by decide +kernel
theorem dX8_cablePart_81 : decode cX8_cablePart 81 = .ok (.iastore, 1) := by decide +kernel
theorem dX8_cablePart_82 : decode cX8_cablePart 82 = .ok (.aload_n 0, 1) := by decide +kernel
theorem dX8_cablePart_83 : decode cX8_cablePart 83 = .ok (.getfield 13, 3) := by decide +kernel
theorem dX8_cablePart_86 : decode cX8_cablePart 86 = .ok (.iload_n 1, 1) := by decide +kernel
theorem dX8_cablePart_87 : decode cX8_cablePart 87 = .ok (.iconst 2, 1) := by decide +kernel
theorem dX8_cablePart_88 : decode cX8_cablePart 88 = .ok (.iadd, 1) := by decide +kernel
theorem dX8_cablePart_89 : decode cX8_cablePart 89 = .ok (.aload_n 0, 1) := by decide +kernel
theorem dX8_cablePart_90 : decode cX8_cablePart 90 = .ok (.iconst 0, 1) := by decide +kernel
theorem dX8_cablePart_91 : decode cX8_cablePart 91 = .ok (.sipush 900, 3) := by decide +kernel
theorem dX8_cablePart_94 : decode cX8_cablePart 94 = .ok (.invokevirtual 111, 3) := by decide +kernel
theorem dX8_cablePart_97 : decode cX8_cablePart 97 = .ok (.iastore, 1) := by decide +kernel
theorem dX8_cablePart_98 : decode cX8_cablePart 98 = .ok (.aload_n 0, 1) := by decide +kernel
theorem dX8_cablePart_99 : decode cX8_cablePart 99 = .ok (.getfield 13, 3) := by decide +kernel
theorem dX8_cablePart_102 : decode cX8_cablePart 102 = .ok (.iload_n 1, 1) := by decide +kernel
theorem dX8_cablePart_103 : decode cX8_cablePart 103 = .ok (.iconst 3, 1) := by decide +kernel
theorem dX8_cablePart_104 : decode cX8_cablePart 104 = .ok (.iadd, 1) := by decide +kernel
theorem dX8_cablePart_105 : decode cX8_cablePart 105 = .ok (.aload_n 0, 1) := by decide +kernel
theorem dX8_cablePart_106 : decode cX8_cablePart 106 = .ok (.iconst 1, 1) := by decide +kernel
theorem dX8_cablePart_107 : decode cX8_cablePart 107 = .ok (.sipush 10000, 3) := by decide +kernel
theorem dX8_cablePart_110 : decode cX8_cablePart 110 = .ok (.invokevirtual 111, 3) := by decide +kernel
theorem dX8_cablePart_113 : decode cX8_cablePart 113 = .ok (.iastore, 1) := by decide +kernel
theorem dX8_cablePart_114 : decode cX8_cablePart 114 = .ok (.aload_n 0, 1) := by decide +kernel
theorem dX8_cablePart_115 : decode cX8_cablePart 115 = .ok (.getfield 13, 3) := by decide +kernel
theorem dX8_cablePart_118 : decode cX8_cablePart 118 = .ok (.iconst 5, 1) := by decide +kernel
theorem dX8_cablePart_119 : decode cX8_cablePart 119 = .ok (.dup2, 1) := by decide +kernel
theorem dX8_cablePart_120 : decode cX8_cablePart 120 = .ok (.iaload, 1) := by decide +kernel
theorem dX8_cablePart_121 : decode cX8_cablePart 121 = .ok (.iconst 1, 1) := by decide +kernel
theorem dX8_cablePart_122 : decode cX8_cablePart 122 = .ok (.iadd, 1) := by decide +kernel
theorem dX8_cablePart_123 : decode cX8_cablePart 123 = .ok (.iastore, 1) := by decide +kernel
theorem dX8_cablePart_124 : decode cX8_cablePart 124 = .ok (.return_, 1) := by decide +kernel
theorem dX8_sunPart_0 : decode cX8_sunPart 0 = .ok (.aload_n 0, 1) := by decide +kernel
theorem dX8_sunPart_1 : decode cX8_sunPart 1 = .ok (.bipush 6, 2) := by decide +kernel
theorem dX8_sunPart_3 : decode cX8_sunPart 3 = .ok (.bipush 12, 2) := by decide +kernel
theorem dX8_sunPart_5 : decode cX8_sunPart 5 = .ok (.invokevirtual 126, 3) := by decide +kernel
theorem dX8_sunPart_8 : decode cX8_sunPart 8 = .ok (.ifCond .ne 4, 3) := by decide +kernel
theorem dX8_sunPart_11 : decode cX8_sunPart 11 = .ok (.return_, 1) := by decide +kernel
theorem dX8_sunPart_12 : decode cX8_sunPart 12 = .ok (.sipush 158, 3) := by decide +kernel
theorem dX8_sunPart_15 : decode cX8_sunPart 15 = .ok (.iconst 4, 1) := by decide +kernel
theorem dX8_sunPart_16 : decode cX8_sunPart 16 = .ok (.aload_n 0, 1) := by decide +kernel
theorem dX8_sunPart_17 : decode cX8_sunPart 17 = .ok (.getfield 13, 3) := by decide +kernel
theorem dX8_sunPart_20 : decode cX8_sunPart 20 = .ok (.bipush 6, 2) := by decide +kernel
theorem dX8_sunPart_22 : decode cX8_sunPart 22 = .ok (.iaload, 1) := by decide +kernel
theorem dX8_sunPart_23 : decode cX8_sunPart 23 = .ok (.imul, 1) := by decide +kernel
theorem dX8_sunPart_24 : decode cX8_sunPart 24 = .ok (.iadd, 1) := by decide +kernel
theorem dX8_sunPart_25 : decode cX8_sunPart 25 = .ok (.istore_n 1, 1) := by decide +kernel
theorem dX8_sunPart_26 : decode cX8_sunPart 26 = .ok (.aload_n 0, 1) := by decide +kernel
theorem dX8_sunPart_27 : decode cX8_sunPart 27 = .ok (.getfield 13, 3) := by decide +kernel
theorem dX8_sunPart_30 : decode cX8_sunPart 30 = .ok (.iload_n 1, 1) := by decide +kernel
theorem dX8_sunPart_31 : decode cX8_sunPart 31 = .ok (.aload_n 0, 1) := by decide +kernel
theorem dX8_sunPart_32 : decode cX8_sunPart 32 = .ok (.invokevirtual 131, 3) := by decide +kernel
theorem dX8_sunPart_35 : decode cX8_sunPart 35 = .ok (.iastore, 1) := by decide +kernel
theorem dX8_sunPart_36 : decode cX8_sunPart 36 = .ok (.aload_n 0, 1) := by decide +kernel
theorem dX8_sunPart_37 : decode cX8_sunPart 37 = .ok (.getfield 13, 3) := by decide +kernel
theorem dX8_sunPart_40 : decode cX8_sunPart 40 = .ok (.iload_n 1, 1) := by decide +kernel
theorem dX8_sunPart_41 : decode cX8_sunPart 41 = .ok (.iconst 1, 1) := by decide +kernel
theorem dX8_sunPart_42 : decode cX8_sunPart 42 = .ok (.iadd, 1) := by decide +kernel
theorem dX8_sunPart_43 : decode cX8_sunPart 43 = .ok (.aload_n 0, 1) := by decide +kernel
theorem dX8_sunPart_44 : decode cX8_sunPart 44 = .ok (.iconst 0, 1) := by decide +kernel
theorem dX8_sunPart_45 : decode cX8_sunPart 45 = .ok (.bipush 23, 2) := by decide +kernel
theorem dX8_sunPart_47 : decode cX8_sunPart 47 = .ok (.invokevirtual 111, 3) := by decide +kernel
theorem dX8_sunPart_50 : decode cX8_sunPart 50 = .ok (.iastore, 1) := by decide +kernel
theorem dX8_sunPart_51 : decode cX8_sunPart 51 = .ok (.aload_n 0, 1) := by decide +kernel
theorem dX8_sunPart_52 : decode cX8_sunPart 52 = .ok (.getfield 13, 3) := by decide +kernel
theorem dX8_sunPart_55 : decode cX8_sunPart 55 = .ok (.iload_n 1, 1) := by decide +kernel
theorem dX8_sunPart_56 : decode cX8_sunPart 56 = .ok (.iconst 2, 1) := by decide +kernel
theorem dX8_sunPart_57 : decode cX8_sunPart 57 = .ok (.iadd, 1) := by decide +kernel
theorem dX8_sunPart_58 : decode cX8_sunPart 58 = .ok (.aload_n 0, 1) := by decide +kernel
theorem dX8_sunPart_59 : decode cX8_sunPart 59 = .ok (.aload_n 0, 1) := by decide +kernel
theorem dX8_sunPart_60 : decode cX8_sunPart 60 = .ok (.getfield 13, 3) := by decide +kernel
theorem dX8_sunPart_63 : decode cX8_sunPart 63 = .ok (.iload_n 1, 1) := by decide +kernel
theorem dX8_sunPart_64 : decode cX8_sunPart 64 = .ok (.iconst 1, 1) := by decide +kernel
theorem dX8_sunPart_65 : decode cX8_sunPart 65 = .ok (.iadd, 1) := by decide +kernel
theorem dX8_sunPart_66 : decode cX8_sunPart 66 = .ok (.iaload, 1) := by decide +kernel
theorem dX8_sunPart_67 : decode cX8_sunPart 67 = .ok (.bipush 23, 2) := by decide +kernel
theorem dX8_sunPart_69 : decode cX8_sunPart 69 = .ok (.invokevirtual 111, 3) := by decide +kernel
theorem dX8_sunPart_72 : decode cX8_sunPart 72 = .ok (.iastore, 1) := by decide +kernel
theorem dX8_sunPart_73 : decode cX8_sunPart 73 = .ok (.aload_n 0, 1) := by decide +kernel
theorem dX8_sunPart_74 : decode cX8_sunPart 74 = .ok (.getfield 13, 3) := by decide +kernel
theorem dX8_sunPart_77 : decode cX8_sunPart 77 = .ok (.iload_n 1, 1) := by decide +kernel
theorem dX8_sunPart_78 : decode cX8_sunPart 78 = .ok (.iconst 3, 1) := by decide +kernel
theorem dX8_sunPart_79 : decode cX8_sunPart 79 = .ok (.iadd, 1) := by decide +kernel
theorem dX8_sunPart_80 : decode cX8_sunPart 80 = .ok (.aload_n 0, 1) := by decide +kernel
theorem dX8_sunPart_81 : decode cX8_sunPart 81 = .ok (.iconst 1, 1) := by decide +kernel
theorem dX8_sunPart_82 : decode cX8_sunPart 82 = .ok (.sipush 10000, 3) := by decide +kernel
theorem dX8_sunPart_85 : decode cX8_sunPart 85 = .ok (.invokevirtual 111, 3) := by decide +kernel
theorem dX8_sunPart_88 : decode cX8_sunPart 88 = .ok (.iastore, 1) := by decide +kernel
theorem dX8_sunPart_89 : decode cX8_sunPart 89 = .ok (.aload_n 0, 1) := by decide +kernel
theorem dX8_sunPart_90 : decode cX8_sunPart 90 = .ok (.getfield 13, 3) := by decide +kernel
theorem dX8_sunPart_93 : decode cX8_sunPart 93 = .ok (.bipush 6, 2) := by decide +kernel
theorem dX8_sunPart_95 : decode cX8_sunPart 95 = .ok (.dup2, 1) := by decide +kernel
theorem dX8_sunPart_96 : decode cX8_sunPart 96 = .ok (.iaload, 1) := by decide +kernel
theorem dX8_sunPart_97 : decode cX8_sunPart 97 = .ok (.iconst 1, 1) := by decide +kernel
theorem dX8_sunPart_98 : decode cX8_sunPart 98 = .ok (.iadd, 1) := by decide +kernel
theorem dX8_sunPart_99 : decode cX8_sunPart 99 = .ok (.iastore, 1) := by decide +kernel
theorem dX8_sunPart_100 : decode cX8_sunPart 100 = .ok (.return_, 1) := by decide +kernel
theorem dX8_tripPart_0 : decode cX8_tripPart 0 = .ok (.aload_n 0, 1) := by decide +kernel
theorem dX8_tripPart_1 : decode cX8_tripPart 1 = .ok (.bipush 7, 2) := by decide +kernel
theorem dX8_tripPart_3 : decode cX8_tripPart 3 = .ok (.bipush 16, 2) := by decide +kernel
theorem dX8_tripPart_5 : decode cX8_tripPart 5 = .ok (.invokevirtual 126, 3) := by decide +kernel
theorem dX8_tripPart_8 : decode cX8_tripPart 8 = .ok (.ifCond .ne 4, 3) := by decide +kernel
theorem dX8_tripPart_11 : decode cX8_tripPart 11 = .ok (.return_, 1) := by decide +kernel
theorem dX8_tripPart_12 : decode cX8_tripPart 12 = .ok (.sipush 206, 3) := by decide +kernel
theorem dX8_tripPart_15 : decode cX8_tripPart 15 = .ok (.iconst 4, 1) := by decide +kernel
theorem dX8_tripPart_16 : decode cX8_tripPart 16 = .ok (.aload_n 0, 1) := by decide +kernel
theorem dX8_tripPart_17 : decode cX8_tripPart 17 = .ok (.getfield 13, 3) := by decide +kernel
theorem dX8_tripPart_20 : decode cX8_tripPart 20 = .ok (.bipush 7, 2) := by decide +kernel
theorem dX8_tripPart_22 : decode cX8_tripPart 22 = .ok (.iaload, 1) := by decide +kernel
theorem dX8_tripPart_23 : decode cX8_tripPart 23 = .ok (.imul, 1) := by decide +kernel
theorem dX8_tripPart_24 : decode cX8_tripPart 24 = .ok (.iadd, 1) := by decide +kernel
theorem dX8_tripPart_25 : decode cX8_tripPart 25 = .ok (.istore_n 1, 1) := by decide +kernel
theorem dX8_tripPart_26 : decode cX8_tripPart 26 = .ok (.aload_n 0, 1) := by decide +kernel
theorem dX8_tripPart_27 : decode cX8_tripPart 27 = .ok (.getfield 13, 3) := by decide +kernel
theorem dX8_tripPart_30 : decode cX8_tripPart 30 = .ok (.iload_n 1, 1) := by decide +kernel
theorem dX8_tripPart_31 : decode cX8_tripPart 31 = .ok (.aload_n 0, 1) := by decide +kernel
theorem dX8_tripPart_32 : decode cX8_tripPart 32 = .ok (.invokevirtual 131, 3) := by decide +kernel
theorem dX8_tripPart_35 : decode cX8_tripPart 35 = .ok (.iastore, 1) := by decide +kernel
theorem dX8_tripPart_36 : decode cX8_tripPart 36 = .ok (.aload_n 0, 1) := by decide +kernel
theorem dX8_tripPart_37 : decode cX8_tripPart 37 = .ok (.getfield 13, 3) := by decide +kernel
theorem dX8_tripPart_40 : decode cX8_tripPart 40 = .ok (.iload_n 1, 1) := by decide +kernel
theorem dX8_tripPart_41 : decode cX8_tripPart 41 = .ok (.iconst 1, 1) := by decide +kernel
theorem dX8_tripPart_42 : decode cX8_tripPart 42 = .ok (.iadd, 1) := by decide +kernel
theorem dX8_tripPart_43 : decode cX8_tripPart 43 = .ok (.aload_n 0, 1) := by decide +kernel
theorem dX8_tripPart_44 : decode cX8_tripPart 44 = .ok (.iconst 0, 1) := by decide +kernel
theorem dX8_tripPart_45 : decode cX8_tripPart 45 = .ok (.sipush 9999, 3) := by decide +kernel
theorem dX8_tripPart_48 : decode cX8_tripPart 48 = .ok (.invokevirtual 111, 3) := by decide +kernel
theorem dX8_tripPart_51 : decode cX8_tripPart 51 = .ok (.iastore, 1) := by decide +kernel
theorem dX8_tripPart_52 : decode cX8_tripPart 52 = .ok (.aload_n 0, 1) := by decide +kernel
theorem dX8_tripPart_53 : decode cX8_tripPart 53 = .ok (.getfield 13, 3) := by decide +kernel
theorem dX8_tripPart_56 : decode cX8_tripPart 56 = .ok (.iload_n 1, 1) := by decide +kernel
theorem dX8_tripPart_57 : decode cX8_tripPart 57 = .ok (.iconst 2, 1) := by decide +kernel
theorem dX8_tripPart_58 : decode cX8_tripPart 58 = .ok (.iadd, 1) := by decide +kernel
theorem dX8_tripPart_59 : decode cX8_tripPart 59 = .ok (.aload_n 0, 1) := by decide +kernel
theorem dX8_tripPart_60 : decode cX8_tripPart 60 = .ok (.iconst 1, 1) := by decide +kernel
theorem dX8_tripPart_61 : decode cX8_tripPart 61 = .ok (.ldc 130, 2) := by decide +kernel
theorem dX8_tripPart_63 : decode cX8_tripPart 63 = .ok (.invokevirtual 111, 3) := by decide +kernel
theorem dX8_tripPart_66 : decode cX8_tripPart 66 = .ok (.iastore, 1) := by decide +kernel
theorem dX8_tripPart_67 : decode cX8_tripPart 67 = .ok (.aload_n 0, 1) := by decide +kernel
theorem dX8_tripPart_68 : decode cX8_tripPart 68 = .ok (.getfield 13, 3) := by decide +kernel
theorem dX8_tripPart_71 : decode cX8_tripPart 71 = .ok (.bipush 7, 2) := by decide +kernel
theorem dX8_tripPart_73 : decode cX8_tripPart 73 = .ok (.dup2, 1) := by decide +kernel
theorem dX8_tripPart_74 : decode cX8_tripPart 74 = .ok (.iaload, 1) := by decide +kernel
theorem dX8_tripPart_75 : decode cX8_tripPart 75 = .ok (.iconst 1, 1) := by decide +kernel
theorem dX8_tripPart_76 : decode cX8_tripPart 76 = .ok (.iadd, 1) := by decide +kernel
theorem dX8_tripPart_77 : decode cX8_tripPart 77 = .ok (.iastore, 1) := by decide +kernel
