theorem dX7_count_143 : decode cX7_count 143 = .ok (.invokevirtual 118, 3) := by decide +kernel
theorem dX7_count_146 : decode cX7_count 146 = .ok (.ireturn, 1) := by decide +kernel
theorem dX7_count_147 : decode cX7_count 147 = .ok (.aload_n 0, 1) := by decide +kernel
theorem dX7_count_148 : decode cX7_count 148 = .ok (.getfield 38, 3) := by decide +kernel
theorem dX7_count_151 : decode cX7_count 151 = .ok (.getfield 122, 3) := by decide +kernel
theorem dX7_count_154 : decode cX7_count 154 = .ok (.ireturn, 1) := by decide +kernel
theorem dX7_pack_0 : decode cX7_pack 0 = .ok (.iload_n 1, 1) := by decide +kernel
theorem dX7_pack_1 : decode cX7_pack 1 = .ok (.aload_n 0, 1) := by decide +kernel
theorem dX7_pack_2 : decode cX7_pack 2 = .ok (.getfield 15, 3) := by decide +kernel
theorem dX7_pack_5 : decode cX7_pack 5 = .ok (.getfield 21, 3) := by decide +kernel
theorem dX7_pack_8 : decode cX7_pack 8 = .ok (.getfield 74, 3) := by decide +kernel
theorem dX7_pack_11 : decode cX7_pack 11 = .ok (.invokestatic 123, 3) := by decide +kernel
theorem dX7_pack_14 : decode cX7_pack 14 = .ok (.iload_n 2, 1) := by decide +kernel
theorem dX7_pack_15 : decode cX7_pack 15 = .ok (.iconst 0, 1) := by decide +kernel
theorem dX7_pack_16 : decode cX7_pack 16 = .ok (.bipush 8, 2) := by decide +kernel
theorem dX7_pack_18 : decode cX7_pack 18 = .ok (.invokestatic 80, 3) := by decide +kernel
theorem dX7_pack_21 : decode cX7_pack 21 = .ok (.iload_n 2, 1) := by decide +kernel
theorem dX7_pack_22 : decode cX7_pack 22 = .ok (.tableswitch 152 0 7 #[46, 59, 68, 81, 94, 107, 120, 136], 46) := by decide +kernel
theorem dX7_pack_68 : decode cX7_pack 68 = .ok (.aload_n 0, 1) := by decide +kernel
theorem dX7_pack_69 : decode cX7_pack 69 = .ok (.getfield 15, 3) := by decide +kernel
theorem dX7_pack_72 : decode cX7_pack 72 = .ok (.getfield 21, 3) := by decide +kernel
theorem dX7_pack_75 : decode cX7_pack 75 = .ok (.getfield 127, 3) := by decide +kernel
theorem dX7_pack_78 : decode cX7_pack 78 = .ok (.iload_n 1, 1) := by decide +kernel
theorem dX7_pack_79 : decode cX7_pack 79 = .ok (.iaload, 1) := by decide +kernel
theorem dX7_pack_80 : decode cX7_pack 80 = .ok (.ireturn, 1) := by decide +kernel
theorem dX7_pack_81 : decode cX7_pack 81 = .ok (.aload_n 0, 1) := by decide +kernel
theorem dX7_pack_82 : decode cX7_pack 82 = .ok (.getfield 15, 3) := by decide +kernel
theorem dX7_pack_85 : decode cX7_pack 85 = .ok (.iload_n 1, 1) := by decide +kernel
theorem dX7_pack_86 : decode cX7_pack 86 = .ok (.invokevirtual 131, 3) := by decide +kernel
theorem dX7_pack_89 : decode cX7_pack 89 = .ok (.ireturn, 1) := by decide +kernel
theorem dX7_pack_90 : decode cX7_pack 90 = .ok (.aload_n 0, 1) := by decide +kernel
theorem dX7_pack_91 : decode cX7_pack 91 = .ok (.getfield 15, 3) := by decide +kernel
theorem dX7_pack_94 : decode cX7_pack 94 = .ok (.getfield 93, 3) := by decide +kernel
theorem dX7_pack_97 : decode cX7_pack 97 = .ok (.getfield 135, 3) := by decide +kernel
theorem dX7_pack_100 : decode cX7_pack 100 = .ok (.iload_n 1, 1) := by decide +kernel
theorem dX7_pack_101 : decode cX7_pack 101 = .ok (.iaload, 1) := by decide +kernel
theorem dX7_pack_102 : decode cX7_pack 102 = .ok (.ireturn, 1) := by decide +kernel
theorem dX7_pack_103 : decode cX7_pack 103 = .ok (.aload_n 0, 1) := by decide +kernel
theorem dX7_pack_104 : decode cX7_pack 104 = .ok (.getfield 15, 3) := by decide +kernel
theorem dX7_pack_107 : decode cX7_pack 107 = .ok (.getfield 93, 3) := by decide +kernel
theorem dX7_pack_110 : decode cX7_pack 110 = .ok (.getfield 138, 3) := by decide +kernel
theorem dX7_pack_113 : decode cX7_pack 113 = .ok (.iload_n 1, 1) := by decide +kernel
theorem dX7_pack_114 : decode cX7_pack 114 = .ok (.iaload, 1) := by decide +kernel
theorem dX7_pack_115 : decode cX7_pack 115 = .ok (.ireturn, 1) := by decide +kernel
theorem dX7_pack_116 : decode cX7_pack 116 = .ok (.aload_n 0, 1) := by decide +kernel
theorem dX7_pack_117 : decode cX7_pack 117 = .ok (.getfield 15, 3) := by decide +kernel
theorem dX7_pack_120 : decode cX7_pack 120 = .ok (.getfield 21, 3) := by decide +kernel
theorem dX7_pack_123 : decode cX7_pack 123 = .ok (.getfield 141, 3) := by decide +kernel
theorem dX7_pack_126 : decode cX7_pack 126 = .ok (.iload_n 1, 1) := by decide +kernel
theorem dX7_pack_127 : decode cX7_pack 127 = .ok (.iaload, 1) := by decide +kernel
theorem dX7_pack_128 : decode cX7_pack 128 = .ok (.ireturn, 1) := by decide +kernel
theorem dX7_pack_129 : decode cX7_pack 129 = .ok (.aload_n 0, 1) := by decide +kernel
theorem dX7_pack_130 : decode cX7_pack 130 = .ok (.getfield 15, 3) := by decide +kernel
theorem dX7_pack_133 : decode cX7_pack 133 = .ok (.getfield 93, 3) := by decide +kernel
theorem dX7_pack_136 : decode cX7_pack 136 = .ok (.getfield 144, 3) := by decide +kernel
theorem dX7_pack_139 : decode cX7_pack 139 = .ok (.iload_n 1, 1) := by decide +kernel
theorem dX7_pack_140 : decode cX7_pack 140 = .ok (.iaload, 1) := by decide +kernel
theorem dX7_pack_141 : decode cX7_pack 141 = .ok (.ireturn, 1) := by decide +kernel
theorem dX7_pack_142 : decode cX7_pack 142 = .ok (.aload_n 0, 1) := by decide +kernel
theorem dX7_pack_143 : decode cX7_pack 143 = .ok (.getfield 15, 3) := by decide +kernel
theorem dX7_pack_146 : decode cX7_pack 146 = .ok (.getfield 93, 3) := by decide +kernel
theorem dX7_pack_149 : decode cX7_pack 149 = .ok (.getfield 97, 3) := by decide +kernel
theorem dX7_pack_152 : decode cX7_pack 152 = .ok (.iload_n 1, 1) := by decide +kernel
theorem dX7_pack_153 : decode cX7_pack 153 = .ok (.iconst 1, 1) := by decide +kernel
theorem dX7_pack_154 : decode cX7_pack 154 = .ok (.invokevirtual 147, 3) := by decide +kernel
theorem dX7_pack_157 : decode cX7_pack 157 = .ok (.ireturn, 1) := by decide +kernel
theorem dX7_pack_158 : decode cX7_pack 158 = .ok (.aload_n 0, 1) := by decide +kernel
theorem dX7_pack_159 : decode cX7_pack 159 = .ok (.getfield 15, 3) := by decide +kernel
theorem dX7_pack_162 : decode cX7_pack 162 = .ok (.getfield 93, 3) := by decide +kernel
theorem dX7_pack_165 : decode cX7_pack 165 = .ok (.getfield 97, 3) := by decide +kernel
theorem dX7_pack_168 : decode cX7_pack 168 = .ok (.iload_n 1, 1) := by decide +kernel
theorem dX7_pack_169 : decode cX7_pack 169 = .ok (.iconst 2, 1) := by decide +kernel
theorem dX7_pack_170 : decode cX7_pack 170 = .ok (.invokevirtual 147, 3) := by decide +kernel
theorem dX7_pack_173 : decode cX7_pack 173 = .ok (.ireturn, 1) := by decide +kernel
theorem dX7_pack_174 : decode cX7_pack 174 = .ok (.aload_n 0, 1) := by decide +kernel
theorem dX7_pack_175 : decode cX7_pack 175 = .ok (.getfield 15, 3) := by decide +kernel
theorem dX7_pack_178 : decode cX7_pack 178 = .ok (.iload_n 1, 1) := by decide +kernel
theorem dX7_pack_179 : decode cX7_pack 179 = .ok (.invokevirtual 151, 3) := by decide +kernel
theorem dX7_pack_182 : decode cX7_pack 182 = .ok (.ireturn, 1) := by decide +kernel
theorem dX7_cable_0 : decode cX7_cable 0 = .ok (.iload_n 1, 1) := by decide +kernel
theorem dX7_cable_1 : decode cX7_cable 1 = .ok (.aload_n 0, 1) := by decide +kernel
theorem dX7_cable_2 : decode cX7_cable 2 = .ok (.getfield 15, 3) := by decide +kernel
theorem dX7_cable_5 : decode cX7_cable 5 = .ok (.getfield 21, 3) := by decide +kernel
theorem dX7_cable_8 : decode cX7_cable 8 = .ok (.getfield 74, 3) := by decide +kernel
theorem dX7_cable_11 : decode cX7_cable 11 = .ok (.invokestatic 123, 3) := by decide +kernel
theorem dX7_cable_14 : decode cX7_cable 14 = .ok (.iload_n 2, 1) := by decide +kernel
theorem dX7_cable_15 : decode cX7_cable 15 = .ok (.aload_n 0, 1) := by decide +kernel
theorem dX7_cable_16 : decode cX7_cable 16 = .ok (.getfield 15, 3) := by decide +kernel
theorem dX7_cable_19 : decode cX7_cable 19 = .ok (.getfield 21, 3) := by decide +kernel
theorem dX7_cable_22 : decode cX7_cable 22 = .ok (.getfield 74, 3) := by decide +kernel
theorem dX7_cable_25 : decode cX7_cable 25 = .ok (.invokestatic 123, 3) := by decide +kernel
theorem dX7_cable_28 : decode cX7_cable 28 = .ok (.iload_n 3, 1) := by decide +kernel
theorem dX7_cable_29 : decode cX7_cable 29 = .ok (.iconst 0, 1) := by decide +kernel
theorem dX7_cable_30 : decode cX7_cable 30 = .ok (.iconst 3, 1) := by decide +kernel
theorem dX7_cable_31 : decode cX7_cable 31 = .ok (.invokestatic 80, 3) := by decide +kernel
theorem dX7_cable_34 : decode cX7_cable 34 = .ok (.aload_n 0, 1) := by decide +kernel
theorem dX7_cable_35 : decode cX7_cable 35 = .ok (.getfield 15, 3) := by decide +kernel
theorem dX7_cable_38 : decode cX7_cable 38 = .ok (.getfield 21, 3) := by decide +kernel
theorem dX7_cable_41 : decode cX7_cable 41 = .ok (.iload_n 1, 1) := by decide +kernel
theorem dX7_cable_42 : decode cX7_cable 42 = .ok (.iload_n 2, 1) := by decide +kernel
theorem dX7_cable_43 : decode cX7_cable 43 = .ok (.invokevirtual 154, 3) := by decide +kernel
theorem dX7_cable_46 : decode cX7_cable 46 = .ok (.istore 4, 2) := by decide +kernel
theorem dX7_cable_48 : decode cX7_cable 48 = .ok (.iload 4, 2) := by decide +kernel
theorem dX7_cable_50 : decode cX7_cable 50 = .ok (.iconst (-1), 1) := by decide +kernel
theorem dX7_cable_51 : decode cX7_cable 51 = .ok (.if_icmp .ne 5, 3) := by decide +kernel
theorem dX7_cable_54 : decode cX7_cable 54 = .ok (.iconst (-1), 1) := by decide +kernel
theorem dX7_cable_55 : decode cX7_cable 55 = .ok (.ireturn, 1) := by decide +kernel
theorem dX7_cable_56 : decode cX7_cable 56 = .ok (.iload_n 3, 1) := by decide +kernel
theorem dX7_cable_57 : decode cX7_cable 57 = .ok (.tableswitch 69 0 2 #[27, 41, 55], 27) := by decide +kernel
theorem dX7_cable_84 : decode cX7_cable 84 = .ok (.aload_n 0, 1) := by decide +kernel
theorem dX7_cable_85 : decode cX7_cable 85 = .ok (.getfield 15, 3) := by decide +kernel
theorem dX7_cable_88 : decode cX7_cable 88 = .ok (.getfield 93, 3) := by decide +kernel
theorem dX7_cable_91 : decode cX7_cable 91 = .ok (.getfield 157, 3) := by decide +kernel
theorem dX7_cable_94 : decode cX7_cable 94 = .ok (.iload 4, 2) := by decide +kernel
theorem dX7_cable_96 : decode cX7_cable 96 = .ok (.iaload, 1) := by decide +kernel
theorem dX7_cable_97 : decode cX7_cable 97 = .ok (.ireturn, 1) := by decide +kernel
theorem dX7_cable_98 : decode cX7_cable 98 = .ok (.aload_n 0, 1) := by decide +kernel
theorem dX7_cable_99 : decode cX7_cable 99 = .ok (.getfield 15, 3) := by decide +kernel
theorem dX7_cable_102 : decode cX7_cable 102 = .ok (.getfield 93, 3) := by decide +kernel
theorem dX7_cable_105 : decode cX7_cable 105 = .ok (.getfield 160, 3) := by decide +kernel
theorem dX7_cable_108 : decode cX7_cable 108 = .ok (.iload 4, 2) := by decide +kernel
theorem dX7_cable_110 : decode cX7_cable 110 = .ok (.iaload, 1) := by decide +kernel
theorem dX7_cable_111 : decode cX7_cable 111 = .ok (.ireturn, 1) := by decide +kernel
theorem dX7_cable_112 : decode cX7_cable 112 = .ok (.aload_n 0, 1) := by decide +kernel
theorem dX7_cable_113 : decode cX7_cable 113 = .ok (.getfield 15, 3) := by decide +kernel
theorem dX7_cable_116 : decode cX7_cable 116 = .ok (.getfield 93, 3) := by decide +kernel
theorem dX7_cable_119 : decode cX7_cable 119 = .ok (.getfield 163, 3) := by decide +kernel
theorem dX7_cable_122 : decode cX7_cable 122 = .ok (.iload 4, 2) := by decide +kernel
theorem dX7_cable_124 : decode cX7_cable 124 = .ok (.iaload, 1) := by decide +kernel
theorem dX7_cable_125 : decode cX7_cable 125 = .ok (.ireturn, 1) := by decide +kernel
theorem dX7_cable_126 : decode cX7_cable 126 = .ok (.aload_n 0, 1) := by decide +kernel
theorem dX7_cable_127 : decode cX7_cable 127 = .ok (.getfield 15, 3) := by decide +kernel
theorem dX7_cable_130 : decode cX7_cable 130 = .ok (.getfield 93, 3) := by decide +kernel
theorem dX7_cable_133 : decode cX7_cable 133 = .ok (.getfield 166, 3) := by decide +kernel
theorem dX7_cable_136 : decode cX7_cable 136 = .ok (.iload 4, 2) := by decide +kernel
theorem dX7_cable_138 : decode cX7_cable 138 = .ok (.iaload, 1) := by decide +kernel
theorem dX7_cable_139 : decode cX7_cable 139 = .ok (.ireturn, 1) := by decide +kernel
theorem dX7_trip_0 : decode cX7_trip 0 = .ok (.aload_n 0, 1) := by decide +kernel
theorem dX7_trip_1 : decode cX7_trip 1 = .ok (.getfield 15, 3) := by decide +kernel
theorem dX7_trip_4 : decode cX7_trip 4 = .ok (.getfield 93, 3) := by decide +kernel
theorem dX7_trip_7 : decode cX7_trip 7 = .ok (.getfield 97, 3) := by decide +kernel
theorem dX7_trip_10 : decode cX7_trip 10 = .ok (.astore_n 3, 1) := by decide +kernel
theorem dX7_trip_11 : decode cX7_trip 11 = .ok (.iload_n 1, 1) := by decide +kernel
theorem dX7_trip_12 : decode cX7_trip 12 = .ok (.aload_n 3, 1) := by decide +kernel
theorem dX7_trip_13 : decode cX7_trip 13 = .ok (.getfield 103, 3) := by decide +kernel
theorem dX7_trip_16 : decode cX7_trip 16 = .ok (.invokestatic 123, 3) := by decide +kernel
theorem dX7_trip_19 : decode cX7_trip 19 = .ok (.iload_n 2, 1) := by decide +kernel
theorem dX7_trip_20 : decode cX7_trip 20 = .ok (.iconst 0, 1) := by decide +kernel
theorem dX7_trip_21 : decode cX7_trip 21 = .ok (.iconst 3, 1) := by decide +kernel
theorem dX7_trip_22 : decode cX7_trip 22 = .ok (.invokestatic 80, 3) := by decide +kernel
theorem dX7_trip_25 : decode cX7_trip 25 = .ok (.iload_n 2, 1) := by decide +kernel
theorem dX7_trip_26 : decode cX7_trip 26 = .ok (.tableswitch 47 0 2 #[26, 33, 40], 26) := by decide +kernel
theorem dX7_trip_52 : decode cX7_trip 52 = .ok (.aload_n 3, 1) := by decide +kernel
theorem dX7_trip_53 : decode cX7_trip 53 = .ok (.getfield 172, 3) := by decide +kernel
theorem dX7_trip_56 : decode cX7_trip 56 = .ok (.iload_n 1, 1) := by decide +kernel
theorem dX7_trip_57 : decode cX7_trip 57 = .ok (.iaload, 1) := by decide +kernel
theorem dX7_trip_58 : decode cX7_trip 58 = .ok (.ireturn, 1) := by decide +kernel
theorem dX7_trip_59 : decode cX7_trip 59 = .ok (.aload_n 3, 1) := by decide +kernel
theorem dX7_trip_60 : decode cX7_trip 60 = .ok (.getfield 175, 3) := by decide +kernel
theorem dX7_trip_63 : decode cX7_trip 63 = .ok (.iload_n 1, 1) := by decide +kernel
theorem dX7_trip_64 : decode cX7_trip 64 = .ok (.iaload, 1) := by decide +kernel
theorem dX7_trip_65 : decode cX7_trip 65 = .ok (.ireturn, 1) := by decide +kernel
theorem dX7_trip_66 : decode cX7_trip 66 = .ok (.aload_n 3, 1) := by decide +kernel
theorem dX7_trip_67 : decode cX7_trip 67 = .ok (.getfield 178, 3) := by decide +kernel
theorem dX7_trip_70 : decode cX7_trip 70 = .ok (.iload_n 1, 1) := by decide +kernel
theorem dX7_trip_71 : decode cX7_trip 71 = .ok (.iaload, 1) := by decide +kernel
theorem dX7_trip_72 : decode cX7_trip 72 = .ok (.ireturn, 1) := by decide +kernel
theorem dX7_trip_73 : decode cX7_trip 73 = .ok (.aload_n 3, 1) := by decide +kernel
theorem dX7_trip_74 : decode cX7_trip 74 = .ok (.getfield 181, 3) := by decide +kernel
theorem dX7_trip_77 : decode cX7_trip 77 = .ok (.iload_n 1, 1) := by decide +kernel
theorem dX7_trip_78 : decode cX7_trip 78 = .ok (.iaload, 1) := by decide +kernel
theorem dX7_trip_79 : decode cX7_trip 79 = .ok (.ireturn, 1) := by decide +kernel
theorem dX7_loan_0 : decode cX7_loan 0 = .ok (.aload_n 0, 1) := by decide +kernel
theorem dX7_loan_1 : decode cX7_loan 1 = .ok (.getfield 15, 3) := by decide +kernel
theorem dX7_loan_4 : decode cX7_loan 4 = .ok (.getfield 93, 3) := by decide +kernel
theorem dX7_loan_7 : decode cX7_loan 7 = .ok (.getfield 111, 3) := by decide +kernel
theorem dX7_loan_10 : decode cX7_loan 10 = .ok (.astore_n 3, 1) := by decide +kernel
theorem dX7_loan_11 : decode cX7_loan 11 = .ok (.iload_n 1, 1) := by decide +kernel
theorem dX7_loan_12 : decode cX7_loan 12 = .ok (.aload_n 3, 1) := by decide +kernel
theorem dX7_loan_13 : decode cX7_loan 13 = .ok (.getfield 115, 3) := by decide +kernel
theorem dX7_loan_16 : decode cX7_loan 16 = .ok (.invokestatic 123, 3) := by decide +kernel
theorem dX7_loan_19 : decode cX7_loan 19 = .ok (.iload_n 2, 1) := by decide +kernel
theorem dX7_loan_20 : decode cX7_loan 20 = .ok (.iconst 0, 1) := by decide +kernel
theorem dX7_loan_21 : decode cX7_loan 21 = .ok (.bipush 7, 2) := by decide +kernel
theorem dX7_loan_23 : decode cX7_loan 23 = .ok (.invokestatic 80, 3) := by decide +kernel
theorem dX7_loan_26 : decode cX7_loan 26 = .ok (.iload_n 2, 1) := by decide +kernel
theorem dX7_loan_27 : decode cX7_loan 27 = .ok (.tableswitch 92 0 6 #[41, 48, 55, 62, 69, 76, 85], 41) := by decide +kernel
theorem dX7_loan_68 : decode cX7_loan 68 = .ok (.aload_n 3, 1) := by decide +kernel
theorem dX7_loan_69 : decode cX7_loan 69 = .ok (.getfield 213, 3) := by decide +kernel
theorem dX7_loan_72 : decode cX7_loan 72 = .ok (.iload_n 1, 1) := by decide +kernel
theorem dX7_loan_73 : decode cX7_loan 73 = .ok (.iaload, 1) := by decide +kernel
theorem dX7_loan_74 : decode cX7_loan 74 = .ok (.ireturn, 1) := by decide +kernel
theorem dX7_loan_75 : decode cX7_loan 75 = .ok (.aload_n 3, 1) := by decide +kernel
theorem dX7_loan_76 : decode cX7_loan 76 = .ok (.getfield 216, 3) := by decide +kernel
theorem dX7_loan_79 : decode cX7_loan 79 = .ok (.iload_n 1, 1) := by decide +kernel
theorem dX7_loan_80 : decode cX7_loan 80 = .ok (.iaload, 1) := by decide +kernel
theorem dX7_loan_81 : decode cX7_loan 81 = .ok (.ireturn, 1) := by decide +kernel
theorem dX7_loan_82 : decode cX7_loan 82 = .ok (.aload_n 3, 1) := by decide +kernel
theorem dX7_loan_83 : decode cX7_loan 83 = .ok (.getfield 219, 3) := by decide +kernel
theorem dX7_loan_86 : decode cX7_loan 86 = .ok (.iload_n 1, 1) := by decide +kernel
theorem dX7_loan_87 : decode cX7_loan 87 = .ok (.iaload, 1) := by decide +kernel
theorem dX7_loan_88 : decode cX7_loan 88 = .ok (.ireturn, 1) := by decide +kernel
theorem dX7_loan_89 : decode cX7_loan 89 = .ok (.aload_n 3, 1) := by decide +kernel
theorem dX7_loan_90 : decode cX7_loan 90 = .ok (.getfield 222, 3) := by decide +kernel
theorem dX7_loan_93 : decode cX7_loan 93 = .ok (.iload_n 1, 1) := by decide +kernel
theorem dX7_loan_94 : decode cX7_loan 94 = .ok (.iaload, 1) := by decide +kernel
theorem dX7_loan_95 : decode cX7_loan 95 = .ok (.ireturn, 1) := by decide +kernel
theorem dX7_loan_96 : decode cX7_loan 96 = .ok (.aload_n 3, 1) := by decide +kernel
theorem dX7_loan_97 : decode cX7_loan 97 = .ok (.getfield 223, 3) := by decide +kernel
theorem dX7_loan_100 : decode cX7_loan 100 = .ok (.iload_n 1, 1) := by decide +kernel
theorem dX7_loan_101 : decode cX7_loan 101 = .ok (.iaload, 1) := by decide +kernel
theorem dX7_loan_102 : decode cX7_loan 102 = .ok (.ireturn, 1) := by decide +kernel
theorem dX7_loan_103 : decode cX7_loan 103 = .ok (.aload_n 0, 1) := by decide +kernel
theorem dX7_loan_104 : decode cX7_loan 104 = .ok (.getfield 15, 3) := by decide +kernel
theorem dX7_loan_107 : decode cX7_loan 107 = .ok (.iload_n 1, 1) := by decide +kernel
theorem dX7_loan_108 : decode cX7_loan 108 = .ok (.invokevirtual 226, 3) := by decide +kernel
theorem dX7_loan_111 : decode cX7_loan 111 = .ok (.ireturn, 1) := by decide +kernel
theorem dX7_loan_112 : decode cX7_loan 112 = .ok (.aload_n 3, 1) := by decide +kernel
theorem dX7_loan_113 : decode cX7_loan 113 = .ok (.getfield 229, 3) := by decide +kernel
theorem dX7_loan_116 : decode cX7_loan 116 = .ok (.iload_n 1, 1) := by decide +kernel
theorem dX7_loan_117 : decode cX7_loan 117 = .ok (.iaload, 1) := by decide +kernel
theorem dX7_loan_118 : decode cX7_loan 118 = .ok (.ireturn, 1) := by decide +kernel
theorem dX7_loan_119 : decode cX7_loan 119 = .ok (.aload_n 3, 1) := by decide +kernel
theorem dX7_loan_120 : decode cX7_loan 120 = .ok (.getfield 230, 3) := by decide +kernel
theorem dX7_loan_123 : decode cX7_loan 123 = .ok (.iload_n 1, 1) := by decide +kernel
theorem dX7_loan_124 : decode cX7_loan 124 = .ok (.iaload, 1) := by decide +kernel
theorem dX7_loan_125 : decode cX7_loan 125 = .ok (.ireturn, 1) := by decide +kernel
theorem dX7_now_0 : decode cX7_now 0 = .ok (.aload_n 0, 1) := by decide +kernel
theorem dX7_now_1 : decode cX7_now 1 = .ok (.getfield 15, 3) := by decide +kernel
theorem dX7_now_4 : decode cX7_now 4 = .ok (.getfield 93, 3) := by decide +kernel
theorem dX7_now_7 : decode cX7_now 7 = .ok (.getfield 233, 3) := by decide +kernel
theorem dX7_now_10 : decode cX7_now 10 = .ok (.ireturn, 1) := by decide +kernel
theorem dX7_total_0 : decode cX7_total 0 = .ok (.iload_n 1, 1) := by decide +kernel
theorem dX7_total_1 : decode cX7_total 1 = .ok (.iconst 0, 1) := by decide +kernel
theorem dX7_total_2 : decode cX7_total 2 = .ok (.iconst 5, 1) := by decide +kernel
theorem dX7_total_3 : decode cX7_total 3 = .ok (.invokestatic 80, 3) := by decide +kernel
theorem dX7_total_6 : decode cX7_total 6 = .ok (.iload_n 1, 1) := by decide +kernel
theorem dX7_total_7 : decode cX7_total 7 = .ok (.tableswitch 114 0 4 #[33, 44, 55, 79, 90], 33) := by decide +kernel
theorem dX7_total_40 : decode cX7_total 40 = .ok (.aload_n 0, 1) := by decide +kernel
theorem dX7_total_41 : decode cX7_total 41 = .ok (.getfield 15, 3) := by decide +kernel
theorem dX7_total_44 : decode cX7_total 44 = .ok (.getfield 93, 3) := by decide +kernel
theorem dX7_total_47 : decode cX7_total 47 = .ok (.getfield 235, 3) := by decide +kernel
theorem dX7_total_50 : decode cX7_total 50 = .ok (.lreturn, 1) := by decide +kernel
theorem dX7_total_51 : decode cX7_total 51 = .ok (.aload_n 0, 1) := by decide +kernel
theorem dX7_total_52 : decode cX7_total 52 = .ok (.getfield 15, 3) := by decide +kernel
theorem dX7_total_55 : decode cX7_total 55 = .ok (.getfield 93, 3) := by decide +kernel
theorem dX7_total_58 : decode cX7_total 58 = .ok (.getfield 239, 3) := by decide +kernel
theorem dX7_total_61 : decode cX7_total 61 = .ok (.lreturn, 1) := by decide +kernel
theorem dX7_total_62 : decode cX7_total 62 = .ok (.aload_n 0, 1) := by decide +kernel
theorem dX7_total_63 : decode cX7_total 63 = .ok (.getfield 15, 3) := by decide +kernel
theorem dX7_total_66 : decode cX7_total 66 = .ok (.getfield 93, 3) := by decide +kernel
theorem dX7_total_69 : decode cX7_total 69 = .ok (.getfield 166, 3) := by decide +kernel
theorem dX7_total_72 : decode cX7_total 72 = .ok (.aload_n 0, 1) := by decide +kernel
theorem dX7_total_73 : decode cX7_total 73 = .ok (.getfield 15, 3) := by decide +kernel
theorem dX7_total_76 : decode cX7_total 76 = .ok (.getfield 21, 3) := by decide +kernel
theorem dX7_total_79 : decode cX7_total 79 = .ok (.getfield 87, 3) := by decide +kernel
theorem dX7_total_82 : decode cX7_total 82 = .ok (.invokestatic 242, 3) := by decide +kernel
theorem dX7_total_85 : decode cX7_total 85 = .ok (.lreturn, 1) := by decide +kernel
theorem dX7_total_86 : decode cX7_total 86 = .ok (.aload_n 0, 1) := by decide +kernel
theorem dX7_total_87 : decode cX7_total 87 = .ok (.getfield 15, 3) := by decide +kernel
theorem dX7_total_90 : decode cX7_total 90 = .ok (.getfield 93, 3) := by decide +kernel
theorem dX7_total_93 : decode cX7_total 93 = .ok (.getfield 246, 3) := by decide +kernel
theorem dX7_total_96 : decode cX7_total 96 = .ok (.lreturn, 1) := by decide +kernel
theorem dX7_total_97 : decode cX7_total 97 = .ok (.aload_n 0, 1) := by decide +kernel
theorem dX7_total_98 : decode cX7_total 98 = .ok (.getfield 15, 3) := by decide +kernel
theorem dX7_total_101 : decode cX7_total 101 = .ok (.getfield 93, 3) := by decide +kernel
theorem dX7_total_104 : decode cX7_total 104 = .ok (.getfield 135, 3) := by decide +kernel
theorem dX7_total_107 : decode cX7_total 107 = .ok (.aload_n 0, 1) := by decide +kernel
theorem dX7_total_108 : decode cX7_total 108 = .ok (.getfield 15, 3) := by decide +kernel
theorem dX7_total_111 : decode cX7_total 111 = .ok (.getfield 21, 3) := by decide +kernel
theorem dX7_total_114 : decode cX7_total 114 = .ok (.getfield 74, 3) := by decide +kernel
theorem dX7_total_117 : decode cX7_total 117 = .ok (.invokestatic 242, 3) := by decide +kernel
theorem dX7_total_120 : decode cX7_total 120 = .ok (.lreturn, 1) := by decide +kernel
theorem dX7_total_121 : decode cX7_total 121 = .ok (.aload_n 0, 1) := by decide +kernel
theorem dX7_total_122 : decode cX7_total 122 = .ok (.getfield 15, 3) := by decide +kernel
theorem dX7_total_125 : decode cX7_total 125 = .ok (.getfield 93, 3) := by decide +kernel
theorem dX7_total_128 : decode cX7_total 128 = .ok (.getfield 138, 3) := by decide +kernel
theorem dX7_total_131 : decode cX7_total 131 = .ok (.aload_n 0, 1) := by decide +kernel
theorem dX7_total_132 : decode cX7_total 132 = .ok (.getfield 15, 3) := by decide +kernel
theorem dX7_total_135 : decode cX7_total 135 = .ok (.getfield 21, 3) := by decide +kernel
theorem dX7_total_138 : decode cX7_total 138 = .ok (.getfield 74, 3) := by decide +kernel
theorem dX7_total_141 : decode cX7_total 141 = .ok (.invokestatic 242, 3) := by decide +kernel
theorem dX7_total_144 : decode cX7_total 144 = .ok (.lreturn, 1) := by decide +kernel
theorem dX7_usedPart_0 : decode cX7_usedPart 0 = .ok (.aload_n 0, 1) := by decide +kernel
theorem dX7_usedPart_1 : decode cX7_usedPart 1 = .ok (.getfield 15, 3) := by decide +kernel
theorem dX7_usedPart_4 : decode cX7_usedPart 4 = .ok (.getfield 93, 3) := by decide +kernel
theorem dX7_usedPart_7 : decode cX7_usedPart 7 = .ok (.getfield 235, 3) := by decide +kernel
theorem dX7_usedPart_10 : decode cX7_usedPart 10 = .ok (.lstore_n 1, 1) := by decide +kernel
theorem dX7_usedPart_11 : decode cX7_usedPart 11 = .ok (.lload_n 1, 1) := by decide +kernel
theorem dX7_usedPart_12 : decode cX7_usedPart 12 = .ok (.lconst 0, 1) := by decide +kernel
theorem dX7_usedPart_13 : decode cX7_usedPart 13 = .ok (.lcmp, 1) := by decide +kernel
theorem dX7_usedPart_14 : decode cX7_usedPart 14 = .ok (.ifCond .ne 7, 3) := by decide +kernel
theorem dX7_usedPart_17 : decode cX7_usedPart 17 = .ok (.dconst 0, 1) := by decide +kernel
theorem dX7_usedPart_18 : decode cX7_usedPart 18 = .ok (.goto 17, 3) := by decide +kernel
theorem dX7_usedPart_21 : decode cX7_usedPart 21 = .ok (.aload_n 0, 1) := by decide +kernel
theorem dX7_usedPart_22 : decode cX7_usedPart 22 = .ok (.getfield 15, 3) := by decide +kernel
theorem dX7_usedPart_25 : decode cX7_usedPart 25 = .ok (.getfield 93, 3) := by decide +kernel
theorem dX7_usedPart_28 : decode cX7_usedPart 28 = .ok (.getfield 239, 3) := by decide +kernel
theorem dX7_usedPart_31 : decode cX7_usedPart 31 = .ok (.l2d, 1) := by decide +kernel
theorem dX7_usedPart_32 : decode cX7_usedPart 32 = .ok (.lload_n 1, 1) := by decide +kernel
theorem dX7_usedPart_33 : decode cX7_usedPart 33 = .ok (.l2d, 1) := by decide +kernel
theorem dX7_usedPart_34 : decode cX7_usedPart 34 = .ok (.ddiv, 1) := by decide +kernel
theorem dX7_usedPart_35 : decode cX7_usedPart 35 = .ok (.dreturn, 1) := by decide +kernel
theorem dX7_lend_0 : decode cX7_lend 0 = .ok (.iload_n 1, 1) := by decide +kernel
theorem dX7_lend_1 : decode cX7_lend 1 = .ok (.aload_n 0, 1) := by decide +kernel
theorem dX7_lend_2 : decode cX7_lend 2 = .ok (.getfield 15, 3) := by decide +kernel
theorem dX7_lend_5 : decode cX7_lend 5 = .ok (.getfield 21, 3) := by decide +kernel
theorem dX7_lend_8 : decode cX7_lend 8 = .ok (.getfield 108, 3) := by decide +kernel
theorem dX7_lend_11 : decode cX7_lend 11 = .ok (.invokestatic 123, 3) := by decide +kernel
theorem dX7_lend_14 : decode cX7_lend 14 = .ok (.iload_n 2, 1) := by decide +kernel
theorem dX7_lend_15 : decode cX7_lend 15 = .ok (.iconst 1, 1) := by decide +kernel
theorem dX7_lend_16 : decode cX7_lend 16 = .ok (.ldc 249, 2) := by decide +kernel
theorem dX7_lend_18 : decode cX7_lend 18 = .ok (.invokestatic 80, 3) := by decide +kernel
theorem dX7_lend_21 : decode cX7_lend 21 = .ok (.iload_n 3, 1) := by decide +kernel
theorem dX7_lend_22 : decode cX7_lend 22 = .ok (.iconst 1, 1) := by decide +kernel
theorem dX7_lend_23 : decode cX7_lend 23 = .ok (.sipush 999, 3) := by decide +kernel
theorem dX7_lend_26 : decode cX7_lend 26 = .ok (.invokestatic 80, 3) := by decide +kernel
theorem dX7_lend_29 : decode cX7_lend 29 = .ok (.aload_n 0, 1) := by decide +kernel
theorem dX7_lend_30 : decode cX7_lend 30 = .ok (.getfield 15, 3) := by decide +kernel
theorem dX7_lend_33 : decode cX7_lend 33 = .ok (.iload_n 1, 1) := by decide +kernel
theorem dX7_lend_34 : decode cX7_lend 34 = .ok (.iload_n 2, 1) := by decide +kernel
theorem dX7_lend_35 : decode cX7_lend 35 = .ok (.invokevirtual 253, 3) := by decide +kernel
theorem dX7_lend_38 : decode cX7_lend 38 = .ok (.istore 4, 2) := by decide +kernel
theorem dX7_lend_40 : decode cX7_lend 40 = .ok (.iload 4, 2) := by decide +kernel
theorem dX7_lend_42 : decode cX7_lend 42 = .ok (.ifCond .eq 9, 3) := by decide +kernel
theorem dX7_lend_45 : decode cX7_lend 45 = .ok (.bipush (-10), 2) := by decide +kernel
theorem dX7_lend_47 : decode cX7_lend 47 = .ok (.iload 4, 2) := by decide +kernel
theorem dX7_lend_49 : decode cX7_lend 49 = .ok (.isub, 1) := by decide +kernel
theorem dX7_lend_50 : decode cX7_lend 50 = .ok (.ireturn, 1) := by decide +kernel
theorem dX7_lend_51 : decode cX7_lend 51 = .ok (.aload_n 0, 1) := by decide +kernel
theorem dX7_lend_52 : decode cX7_lend 52 = .ok (.getfield 38, 3) := by decide +kernel
theorem dX7_lend_55 : decode cX7_lend 55 = .ok (.aload_n 0, 1) := by decide +kernel
theorem dX7_lend_56 : decode cX7_lend 56 = .ok (.getfield 15, 3) := by decide +kernel
theorem dX7_lend_59 : decode cX7_lend 59 = .ok (.getfield 93, 3) := by decide +kernel
theorem dX7_lend_62 : decode cX7_lend 62 = .ok (.invokevirtual 259, 3) := by decide +kernel
theorem dX7_lend_65 : decode cX7_lend 65 = .ok (.aload_n 0, 1) := by decide +kernel
theorem dX7_lend_66 : decode cX7_lend 66 = .ok (.getfield 15, 3) := by decide +kernel
theorem dX7_lend_69 : decode cX7_lend 69 = .ok (.getfield 93, 3) := by decide +kernel
theorem dX7_lend_72 : decode cX7_lend 72 = .ok (.getfield 111, 3) := by decide +kernel
theorem dX7_lend_75 : decode cX7_lend 75 = .ok (.iload_n 1, 1) := by decide +kernel
theorem dX7_lend_76 : decode cX7_lend 76 = .ok (.iload_n 2, 1) := by decide +kernel
theorem dX7_lend_77 : decode cX7_lend 77 = .ok (.aload_n 0, 1) := by decide +kernel
theorem dX7_lend_78 : decode cX7_lend 78 = .ok (.getfield 15, 3) := by decide +kernel
theorem dX7_lend_81 : decode cX7_lend 81 = .ok (.getfield 93, 3) := by decide +kernel
theorem dX7_lend_84 : decode cX7_lend 84 = .ok (.getfield 233, 3) := by decide +kernel
theorem dX7_lend_87 : decode cX7_lend 87 = .ok (.iload_n 3, 1) := by decide +kernel
theorem dX7_lend_88 : decode cX7_lend 88 = .ok (.iadd, 1) := by decide +kernel
theorem dX7_lend_89 : decode cX7_lend 89 = .ok (.invokevirtual 263, 3) := by decide +kernel
theorem dX7_lend_92 : decode cX7_lend 92 = .ok (.ireturn, 1) := by decide +kernel
theorem dX7_recall_0 : decode cX7_recall 0 = .ok (.iload_n 1, 1) := by decide +kernel
theorem dX7_recall_1 : decode cX7_recall 1 = .ok (.aload_n 0, 1) := by decide +kernel
theorem dX7_recall_2 : decode cX7_recall 2 = .ok (.getfield 15, 3) := by decide +kernel
theorem dX7_recall_5 : decode cX7_recall 5 = .ok (.getfield 93, 3) := by decide +kernel
theorem dX7_recall_8 : decode cX7_recall 8 = .ok (.getfield 111, 3) := by decide +kernel
theorem dX7_recall_11 : decode cX7_recall 11 = .ok (.getfield 115, 3) := by decide +kernel
theorem dX7_recall_14 : decode cX7_recall 14 = .ok (.invokestatic 123, 3) := by decide +kernel
theorem dX7_recall_17 : decode cX7_recall 17 = .ok (.aload_n 0, 1) := by decide +kernel
theorem dX7_recall_18 : decode cX7_recall 18 = .ok (.getfield 15, 3) := by decide +kernel
theorem dX7_recall_21 : decode cX7_recall 21 = .ok (.getfield 93, 3) := by decide +kernel
theorem dX7_recall_24 : decode cX7_recall 24 = .ok (.getfield 111, 3) := by decide +kernel
theorem dX7_recall_27 : decode cX7_recall 27 = .ok (.iload_n 1, 1) := by decide +kernel
theorem dX7_recall_28 : decode cX7_recall 28 = .ok (.invokevirtual 267, 3) := by decide +kernel
theorem dX7_recall_31 : decode cX7_recall 31 = .ok (.ifCond .ne 6, 3) := by decide +kernel
theorem dX7_recall_34 : decode cX7_recall 34 = .ok (.bipush (-3), 2) := by decide +kernel
theorem dX7_recall_36 : decode cX7_recall 36 = .ok (.ireturn, 1) := by decide +kernel
theorem dX7_recall_37 : decode cX7_recall 37 = .ok (.aload_n 0, 1) := by decide +kernel
theorem dX7_recall_38 : decode cX7_recall 38 = .ok (.getfield 38, 3) := by decide +kernel
theorem dX7_recall_41 : decode cX7_recall 41 = .ok (.aload_n 0, 1) := by decide +kernel
theorem dX7_recall_42 : decode cX7_recall 42 = .ok (.getfield 15, 3) := by decide +kernel
theorem dX7_recall_45 : decode cX7_recall 45 = .ok (.getfield 93, 3) := by decide +kernel
theorem dX7_recall_48 : decode cX7_recall 48 = .ok (.invokevirtual 259, 3) := by decide +kernel
theorem dX7_recall_51 : decode cX7_recall 51 = .ok (.aload_n 0, 1) := by decide +kernel
theorem dX7_recall_52 : decode cX7_recall 52 = .ok (.getfield 15, 3) := by decide +kernel
theorem dX7_recall_55 : decode cX7_recall 55 = .ok (.getfield 93, 3) := by decide +kernel
theorem dX7_recall_58 : decode cX7_recall 58 = .ok (.getfield 111, 3) := by decide +kernel
theorem dX7_recall_61 : decode cX7_recall 61 = .ok (.getfield 213, 3) := by decide +kernel
theorem dX7_recall_64 : decode cX7_recall 64 = .ok (.iload_n 1, 1) := by decide +kernel
theorem dX7_recall_65 : decode cX7_recall 65 = .ok (.iaload, 1) := by decide +kernel
theorem dX7_recall_66 : decode cX7_recall 66 = .ok (.istore_n 2, 1) := by decide +kernel
theorem dX7_recall_67 : decode cX7_recall 67 = .ok (.aload_n 0, 1) := by decide +kernel
theorem dX7_recall_68 : decode cX7_recall 68 = .ok (.getfield 15, 3) := by decide +kernel
theorem dX7_recall_71 : decode cX7_recall 71 = .ok (.getfield 93, 3) := by decide +kernel
theorem dX7_recall_74 : decode cX7_recall 74 = .ok (.getfield 111, 3) := by decide +kernel
theorem dX7_recall_77 : decode cX7_recall 77 = .ok (.iload_n 1, 1) := by decide +kernel
theorem dX7_recall_78 : decode cX7_recall 78 = .ok (.aload_n 0, 1) := by decide +kernel
theorem dX7_recall_79 : decode cX7_recall 79 = .ok (.getfield 15, 3) := by decide +kernel
theorem dX7_recall_82 : decode cX7_recall 82 = .ok (.getfield 93, 3) := by decide +kernel
theorem dX7_recall_85 : decode cX7_recall 85 = .ok (.getfield 233, 3) := by decide +kernel
theorem dX7_recall_88 : decode cX7_recall 88 = .ok (.aload_n 0, 1) := by decide +kernel
theorem dX7_recall_89 : decode cX7_recall 89 = .ok (.getfield 15, 3) := by decide +kernel
theorem dX7_recall_92 : decode cX7_recall 92 = .ok (.getfield 21, 3) := by decide +kernel
theorem dX7_recall_95 : decode cX7_recall 95 = .ok (.getfield 192, 3) := by decide +kernel
theorem dX7_recall_98 : decode cX7_recall 98 = .ok (.iload_n 2, 1) := by decide +kernel
theorem dX7_recall_99 : decode cX7_recall 99 = .ok (.iaload, 1) := by decide +kernel
theorem dX7_recall_100 : decode cX7_recall 100 = .ok (.iadd, 1) := by decide +kernel
theorem dX7_recall_101 : decode cX7_recall 101 = .ok (.invokevirtual 271, 3) := by decide +kernel
theorem dX7_recall_104 : decode cX7_recall 104 = .ok (.aload_n 0, 1) := by decide +kernel
theorem dX7_recall_105 : decode cX7_recall 105 = .ok (.getfield 15, 3) := by decide +kernel
theorem dX7_recall_108 : decode cX7_recall 108 = .ok (.getfield 93, 3) := by decide +kernel
theorem dX7_recall_111 : decode cX7_recall 111 = .ok (.getfield 111, 3) := by decide +kernel
theorem dX7_recall_114 : decode cX7_recall 114 = .ok (.getfield 230, 3) := by decide +kernel
theorem dX7_recall_117 : decode cX7_recall 117 = .ok (.iload_n 1, 1) := by decide +kernel
theorem dX7_recall_118 : decode cX7_recall 118 = .ok (.iaload, 1) := by decide +kernel
theorem dX7_recall_119 : decode cX7_recall 119 = .ok (.ireturn, 1) := by decide +kernel
theorem dX7_giveBack_0 : decode cX7_giveBack 0 = .ok (.iload_n 1, 1) := by decide +kernel
theorem dX7_giveBack_1 : decode cX7_giveBack 1 = .ok (.aload_n 0, 1) := by decide +kernel
theorem dX7_giveBack_2 : decode cX7_giveBack 2 = .ok (.getfield 15, 3) := by decide +kernel
theorem dX7_giveBack_5 : decode cX7_giveBack 5 = .ok (.getfield 93, 3) := by decide +kernel
theorem dX7_giveBack_8 : decode cX7_giveBack 8 = .ok (.getfield 111, 3) := by decide +kernel
theorem dX7_giveBack_11 : decode cX7_giveBack 11 = .ok (.getfield 115, 3) := by decide +kernel
theorem dX7_giveBack_14 : decode cX7_giveBack 14 = .ok (.invokestatic 123, 3) := by decide +kernel
theorem dX7_giveBack_17 : decode cX7_giveBack 17 = .ok (.aload_n 0, 1) := by decide +kernel
theorem dX7_giveBack_18 : decode cX7_giveBack 18 = .ok (.getfield 15, 3) := by decide +kernel
theorem dX7_giveBack_21 : decode cX7_giveBack 21 = .ok (.getfield 93, 3) := by decide +kernel
theorem dX7_giveBack_24 : decode cX7_giveBack 24 = .ok (.getfield 111, 3) := by decide +kernel
theorem dX7_giveBack_27 : decode cX7_giveBack 27 = .ok (.iload_n 1, 1) := by decide +kernel
theorem dX7_giveBack_28 : decode cX7_giveBack 28 = .ok (.invokevirtual 267, 3) := by decide +kernel
theorem dX7_giveBack_31 : decode cX7_giveBack 31 = .ok (.ifCond .ne 6, 3) := by decide +kernel
theorem dX7_giveBack_34 : decode cX7_giveBack 34 = .ok (.bipush (-3), 2) := by decide +kernel
theorem dX7_giveBack_36 : decode cX7_giveBack 36 = .ok (.ireturn, 1) := by decide +kernel
theorem dX7_giveBack_37 : decode cX7_giveBack 37 = .ok (.aload_n 0, 1) := by decide +kernel
theorem dX7_giveBack_38 : decode cX7_giveBack 38 = .ok (.getfield 38, 3) := by decide +kernel
theorem dX7_giveBack_41 : decode cX7_giveBack 41 = .ok (.aload_n 0, 1) := by decide +kernel
theorem dX7_giveBack_42 : decode cX7_giveBack 42 = .ok (.getfield 15, 3) := by decide +kernel
theorem dX7_giveBack_45 : decode cX7_giveBack 45 = .ok (.getfield 93, 3) := by decide +kernel
theorem dX7_giveBack_48 : decode cX7_giveBack 48 = .ok (.invokevirtual 259, 3) := by decide +kernel
theorem dX7_giveBack_51 : decode cX7_giveBack 51 = .ok (.aload_n 0, 1) := by decide +kernel
theorem dX7_giveBack_52 : decode cX7_giveBack 52 = .ok (.getfield 15, 3) := by decide +kernel
theorem dX7_giveBack_55 : decode cX7_giveBack 55 = .ok (.getfield 93, 3) := by decide +kernel
theorem dX7_giveBack_58 : decode cX7_giveBack 58 = .ok (.getfield 111, 3) := by decide +kernel
theorem dX7_giveBack_61 : decode cX7_giveBack 61 = .ok (.iload_n 1, 1) := by decide +kernel
theorem dX7_giveBack_62 : decode cX7_giveBack 62 = .ok (.aload_n 0, 1) := by decide +kernel
theorem dX7_giveBack_63 : decode cX7_giveBack 63 = .ok (.getfield 15, 3) := by decide +kernel
theorem dX7_giveBack_66 : decode cX7_giveBack 66 = .ok (.getfield 93, 3) := by decide +kernel
theorem dX7_giveBack_69 : decode cX7_giveBack 69 = .ok (.getfield 233, 3) := by decide +kernel
theorem dX7_giveBack_72 : decode cX7_giveBack 72 = .ok (.invokevirtual 271, 3) := by decide +kernel
theorem dX7_giveBack_75 : decode cX7_giveBack 75 = .ok (.aload_n 0, 1) := by decide +kernel
theorem dX7_giveBack_76 : decode cX7_giveBack 76 = .ok (.getfield 15, 3) := by decide +kernel
theorem dX7_giveBack_79 : decode cX7_giveBack 79 = .ok (.iload_n 1, 1) := by decide +kernel
theorem dX7_giveBack_80 : decode cX7_giveBack 80 = .ok (.invokevirtual 226, 3) := by decide +kernel
theorem dX7_giveBack_83 : decode cX7_giveBack 83 = .ok (.ireturn, 1) := by decide +kernel
theorem dX7_forgive_0 : decode cX7_forgive 0 = .ok (.iload_n 1, 1) := by decide +kernel
theorem dX7_forgive_1 : decode cX7_forgive 1 = .ok (.aload_n 0, 1) := by decide +kernel
theorem dX7_forgive_2 : decode cX7_forgive 2 = .ok (.getfield 15, 3) := by decide +kernel
theorem dX7_forgive_5 : decode cX7_forgive 5 = .ok (.getfield 93, 3) := by decide +kernel
theorem dX7_forgive_8 : decode cX7_forgive 8 = .ok (.getfield 111, 3) := by decide +kernel
theorem dX7_forgive_11 : decode cX7_forgive 11 = .ok (.getfield 115, 3) := by decide +kernel
theorem dX7_forgive_14 : decode cX7_forgive 14 = .ok (.invokestatic 123, 3) := by decide +kernel
theorem dX7_forgive_17 : decode cX7_forgive 17 = .ok (.aload_n 0, 1) := by decide +kernel
theorem dX7_forgive_18 : decode cX7_forgive 18 = .ok (.getfield 15, 3) := by decide +kernel
theorem dX7_forgive_21 : decode cX7_forgive 21 = .ok (.getfield 93, 3) := by decide +kernel
theorem dX7_forgive_24 : decode cX7_forgive 24 = .ok (.getfield 111, 3) := by decide +kernel
theorem dX7_forgive_27 : decode cX7_forgive 27 = .ok (.iload_n 1, 1) := by decide +kernel
theorem dX7_forgive_28 : decode cX7_forgive 28 = .ok (.invokevirtual 267, 3) := by decide +kernel
theorem dX7_forgive_31 : decode cX7_forgive 31 = .ok (.ifCond .ne 6, 3) := by decide +kernel
theorem dX7_forgive_34 : decode cX7_forgive 34 = .ok (.bipush (-3), 2) := by decide +kernel
theorem dX7_forgive_36 : decode cX7_forgive 36 = .ok (.ireturn, 1) := by decide +kernel
theorem dX7_forgive_37 : decode cX7_forgive 37 = .ok (.aload_n 0, 1) := by decide +kernel
theorem dX7_forgive_38 : decode cX7_forgive 38 = .ok (.getfield 38, 3) := by decide +kernel
theorem dX7_forgive_41 : decode cX7_forgive 41 = .ok (.aload_n 0, 1) := by decide +kernel
theorem dX7_forgive_42 : decode cX7_forgive 42 = .ok (.getfield 15, 3) := by decide +kernel
theorem dX7_forgive_45 : decode cX7_forgive 45 = .ok (.getfield 93, 3) := by decide +kernel
theorem dX7_forgive_48 : decode cX7_forgive 48 = .ok (.invokevirtual 259, 3) := by decide +kernel
theorem dX7_forgive_51 : decode cX7_forgive 51 = .ok (.aload_n 0, 1) := by decide +kernel
theorem dX7_forgive_52 : decode cX7_forgive 52 = .ok (.getfield 15, 3) := by decide +kernel
theorem dX7_forgive_55 : decode cX7_forgive 55 = .ok (.iload_n 1, 1) := by decide +kernel
theorem dX7_forgive_56 : decode cX7_forgive 56 = .ok (.invokevirtual 226, 3) := by decide +kernel
theorem dX7_forgive_59 : decode cX7_forgive 59 = .ok (.istore_n 2, 1) := by decide +kernel
theorem dX7_forgive_60 : decode cX7_forgive 60 = .ok (.aload_n 0, 1) := by decide +kernel
theorem dX7_forgive_61 : decode cX7_forgive 61 = .ok (.getfield 15, 3) := by decide +kernel
theorem dX7_forgive_64 : decode cX7_forgive 64 = .ok (.getfield 93, 3) := by decide +kernel
theorem dX7_forgive_67 : decode cX7_forgive 67 = .ok (.getfield 111, 3) := by decide +kernel
theorem dX7_forgive_70 : decode cX7_forgive 70 = .ok (.getfield 229, 3) := by decide +kernel
theorem dX7_forgive_73 : decode cX7_forgive 73 = .ok (.iload_n 1, 1) := by decide +kernel
theorem dX7_forgive_74 : decode cX7_forgive 74 = .ok (.iconst 5, 1) := by decide +kernel
theorem dX7_forgive_75 : decode cX7_forgive 75 = .ok (.iastore, 1) := by decide +kernel
theorem dX7_forgive_76 : decode cX7_forgive 76 = .ok (.iload_n 2, 1) := by decide +kernel
theorem dX7_forgive_77 : decode cX7_forgive 77 = .ok (.ireturn, 1) := by decide +kernel
theorem dX7_mend_0 : decode cX7_mend 0 = .ok (.iload_n 1, 1) := by decide +kernel
theorem dX7_mend_1 : decode cX7_mend 1 = .ok (.aload_n 0, 1) := by decide +kernel
theorem dX7_mend_2 : decode cX7_mend 2 = .ok (.getfield 15, 3) := by decide +kernel
theorem dX7_mend_5 : decode cX7_mend 5 = .ok (.getfield 21, 3) := by decide +kernel
theorem dX7_mend_8 : decode cX7_mend 8 = .ok (.getfield 108, 3) := by decide +kernel
theorem dX7_mend_11 : decode cX7_mend 11 = .ok (.invokestatic 123, 3) := by decide +kernel
theorem dX7_mend_14 : decode cX7_mend 14 = .ok (.aload_n 0, 1) := by decide +kernel
theorem dX7_mend_15 : decode cX7_mend 15 = .ok (.getfield 38, 3) := by decide +kernel
theorem dX7_mend_18 : decode cX7_mend 18 = .ok (.aload_n 0, 1) := by decide +kernel
theorem dX7_mend_19 : decode cX7_mend 19 = .ok (.getfield 15, 3) := by decide +kernel
theorem dX7_mend_22 : decode cX7_mend 22 = .ok (.getfield 93, 3) := by decide +kernel
theorem dX7_mend_25 : decode cX7_mend 25 = .ok (.invokevirtual 259, 3) := by decide +kernel
theorem dX7_mend_28 : decode cX7_mend 28 = .ok (.aload_n 0, 1) := by decide +kernel
theorem dX7_mend_29 : decode cX7_mend 29 = .ok (.getfield 15, 3) := by decide +kernel
theorem dX7_mend_32 : decode cX7_mend 32 = .ok (.getfield 93, 3) := by decide +kernel
theorem dX7_mend_35 : decode cX7_mend 35 = .ok (.getfield 204, 3) := by decide +kernel
theorem dX7_mend_38 : decode cX7_mend 38 = .ok (.iload_n 1, 1) := by decide +kernel
theorem dX7_mend_39 : decode cX7_mend 39 = .ok (.iaload, 1) := by decide +kernel
theorem dX7_mend_40 : decode cX7_mend 40 = .ok (.istore_n 2, 1) := by decide +kernel
theorem dX7_mend_41 : decode cX7_mend 41 = .ok (.aload_n 0, 1) := by decide +kernel
theorem dX7_mend_42 : decode cX7_mend 42 = .ok (.getfield 15, 3) := by decide +kernel
theorem dX7_mend_45 : decode cX7_mend 45 = .ok (.getfield 93, 3) := by decide +kernel
theorem dX7_mend_48 : decode cX7_mend 48 = .ok (.getfield 204, 3) := by decide +kernel
theorem dX7_mend_51 : decode cX7_mend 51 = .ok (.iload_n 1, 1) := by decide +kernel
theorem dX7_mend_52 : decode cX7_mend 52 = .ok (.iconst 0, 1) := by decide +kernel
theorem dX7_mend_53 : decode cX7_mend 53 = .ok (.iastore, 1) := by decide +kernel
theorem dX7_mend_54 : decode cX7_mend 54 = .ok (.iload_n 2, 1) := by decide +kernel
theorem dX7_mend_55 : decode cX7_mend 55 = .ok (.ireturn, 1) := by decide +kernel
theorem dX7_charge_0 : decode cX7_charge 0 = .ok (.iload_n 1, 1) := by decide +kernel
theorem dX7_charge_1 : decode cX7_charge 1 = .ok (.aload_n 0, 1) := by decide +kernel
theorem dX7_charge_2 : decode cX7_charge 2 = .ok (.getfield 15, 3) := by decide +kernel
theorem dX7_charge_5 : decode cX7_charge 5 = .ok (.getfield 21, 3) := by decide +kernel
theorem dX7_charge_8 : decode cX7_charge 8 = .ok (.getfield 74, 3) := by decide +kernel
theorem dX7_charge_11 : decode cX7_charge 11 = .ok (.invokestatic 123, 3) := by decide +kernel
theorem dX7_charge_14 : decode cX7_charge 14 = .ok (.iload_n 2, 1) := by decide +kernel
theorem dX7_charge_15 : decode cX7_charge 15 = .ok (.iconst 1, 1) := by decide +kernel
theorem dX7_charge_16 : decode cX7_charge 16 = .ok (.ldc 249, 2) := by decide +kernel
theorem dX7_charge_18 : decode cX7_charge 18 = .ok (.invokestatic 80, 3) := by decide +kernel
theorem dX7_charge_21 : decode cX7_charge 21 = .ok (.aload_n 0, 1) := by decide +kernel
theorem dX7_charge_22 : decode cX7_charge 22 = .ok (.getfield 38, 3) := by decide +kernel
theorem dX7_charge_25 : decode cX7_charge 25 = .ok (.aload_n 0, 1) := by decide +kernel
theorem dX7_charge_26 : decode cX7_charge 26 = .ok (.getfield 15, 3) := by decide +kernel
theorem dX7_charge_29 : decode cX7_charge 29 = .ok (.getfield 93, 3) := by decide +kernel
theorem dX7_charge_32 : decode cX7_charge 32 = .ok (.invokevirtual 259, 3) := by decide +kernel
theorem dX7_charge_35 : decode cX7_charge 35 = .ok (.aload_n 0, 1) := by decide +kernel
theorem dX7_charge_36 : decode cX7_charge 36 = .ok (.getfield 15, 3) := by decide +kernel
theorem dX7_charge_39 : decode cX7_charge 39 = .ok (.getfield 93, 3) := by decide +kernel
theorem dX7_charge_42 : decode cX7_charge 42 = .ok (.dup, 1) := by decide +kernel
theorem dX7_charge_43 : decode cX7_charge 43 = .ok (.getfield 235, 3) := by decide +kernel
theorem dX7_charge_46 : decode cX7_charge 46 = .ok (.iload_n 2, 1) := by decide +kernel
theorem dX7_charge_47 : decode cX7_charge 47 = .ok (.i2l, 1) := by decide +kernel
theorem dX7_charge_48 : decode cX7_charge 48 = .ok (.ladd, 1) := by decide +kernel
theorem dX7_charge_49 : decode cX7_charge 49 = .ok (.putfield 235, 3) := by decide +kernel
theorem dX7_charge_52 : decode cX7_charge 52 = .ok (.aload_n 0, 1) := by decide +kernel
theorem dX7_charge_53 : decode cX7_charge 53 = .ok (.getfield 15, 3) := by decide +kernel
theorem dX7_charge_56 : decode cX7_charge 56 = .ok (.iload_n 1, 1) := by decide +kernel
theorem dX7_charge_57 : decode cX7_charge 57 = .ok (.iload_n 2, 1) := by decide +kernel
theorem dX7_charge_58 : decode cX7_charge 58 = .ok (.invokevirtual 274, 3) := by decide +kernel
theorem dX7_charge_61 : decode cX7_charge 61 = .ok (.aload_n 0, 1) := by decide +kernel
theorem dX7_charge_62 : decode cX7_charge 62 = .ok (.getfield 15, 3) := by decide +kernel
theorem dX7_charge_65 : decode cX7_charge 65 = .ok (.getfield 93, 3) := by decide +kernel
theorem dX7_charge_68 : decode cX7_charge 68 = .ok (.getfield 135, 3) := by decide +kernel
theorem dX7_charge_71 : decode cX7_charge 71 = .ok (.iload_n 1, 1) := by decide +kernel
theorem dX7_charge_72 : decode cX7_charge 72 = .ok (.iaload, 1) := by decide +kernel
theorem dX7_charge_73 : decode cX7_charge 73 = .ok (.ireturn, 1) := by decide +kernel
theorem dX7_drain_0 : decode cX7_drain 0 = .ok (.iload_n 1, 1) := by decide +kernel
theorem dX7_drain_1 : decode cX7_drain 1 = .ok (.aload_n 0, 1) := by decide +kernel
theorem dX7_drain_2 : decode cX7_drain 2 = .ok (.getfield 15, 3) := by decide +kernel
theorem dX7_drain_5 : decode cX7_drain 5 = .ok (.getfield 21, 3) := by decide +kernel
theorem dX7_drain_8 : decode cX7_drain 8 = .ok (.getfield 74, 3) := by decide +kernel
theorem dX7_drain_11 : decode cX7_drain 11 = .ok (.invokestatic 123, 3) := by decide +kernel
theorem dX7_drain_14 : decode cX7_drain 14 = .ok (.iload_n 2, 1) := by decide +kernel
theorem dX7_drain_15 : decode cX7_drain 15 = .ok (.iconst 1, 1) := by decide +kernel
theorem dX7_drain_16 : decode cX7_drain 16 = .ok (.ldc 249, 2) := by decide +kernel
theorem dX7_drain_18 : decode cX7_drain 18 = .ok (.invokestatic 80, 3) := by decide +kernel
theorem dX7_drain_21 : decode cX7_drain 21 = .ok (.aload_n 0, 1) := by decide +kernel
theorem dX7_drain_22 : decode cX7_drain 22 = .ok (.getfield 38, 3) := by decide +kernel
theorem dX7_drain_25 : decode cX7_drain 25 = .ok (.aload_n 0, 1) := by decide +kernel
theorem dX7_drain_26 : decode cX7_drain 26 = .ok (.getfield 15, 3) := by decide +kernel
theorem dX7_drain_29 : decode cX7_drain 29 = .ok (.getfield 93, 3) := by decide +kernel
theorem dX7_drain_32 : decode cX7_drain 32 = .ok (.invokevirtual 259, 3) := by decide +kernel
theorem dX7_drain_35 : decode cX7_drain 35 = .ok (.iload_n 2, 1) := by decide +kernel
theorem dX7_drain_36 : decode cX7_drain 36 = .ok (.aload_n 0, 1) := by decide +kernel
theorem dX7_drain_37 : decode cX7_drain 37 = .ok (.getfield 15, 3) := by decide +kernel
theorem dX7_drain_40 : decode cX7_drain 40 = .ok (.getfield 93, 3) := by decide +kernel
theorem dX7_drain_43 : decode cX7_drain 43 = .ok (.getfield 135, 3) := by decide +kernel
theorem dX7_drain_46 : decode cX7_drain 46 = .ok (.iload_n 1, 1) := by decide +kernel
theorem dX7_drain_47 : decode cX7_drain 47 = .ok (.iaload, 1) := by decide +kernel
theorem dX7_drain_48 : decode cX7_drain 48 = .ok (.invokestatic 277, 3) := by decide +kernel
theorem dX7_drain_51 : decode cX7_drain 51 = .ok (.istore_n 3, 1) := by decide +kernel
theorem dX7_drain_52 : decode cX7_drain 52 = .ok (.aload_n 0, 1) := by decide +kernel
theorem dX7_drain_53 : decode cX7_drain 53 = .ok (.getfield 15, 3) := by decide +kernel
theorem dX7_drain_56 : decode cX7_drain 56 = .ok (.getfield 93, 3) := by decide +kernel
theorem dX7_drain_59 : decode cX7_drain 59 = .ok (.dup, 1) := by decide +kernel
theorem dX7_drain_60 : decode cX7_drain 60 = .ok (.getfield 239, 3) := by decide +kernel
theorem dX7_drain_63 : decode cX7_drain 63 = .ok (.iload_n 3, 1) := by decide +kernel
theorem dX7_drain_64 : decode cX7_drain 64 = .ok (.i2l, 1) := by decide +kernel
theorem dX7_drain_65 : decode cX7_drain 65 = .ok (.ladd, 1) := by decide +kernel
theorem dX7_drain_66 : decode cX7_drain 66 = .ok (.putfield 239, 3) := by decide +kernel
theorem dX7_drain_69 : decode cX7_drain 69 = .ok (.aload_n 0, 1) := by decide +kernel
theorem dX7_drain_70 : decode cX7_drain 70 = .ok (.getfield 15, 3) := by decide +kernel
theorem dX7_drain_73 : decode cX7_drain 73 = .ok (.iload_n 1, 1) := by decide +kernel
theorem dX7_drain_74 : decode cX7_drain 74 = .ok (.iload_n 3, 1) := by decide +kernel
theorem dX7_drain_75 : decode cX7_drain 75 = .ok (.invokevirtual 282, 3) := by decide +kernel
theorem dX7_drain_78 : decode cX7_drain 78 = .ok (.pop, 1) := by decide +kernel
theorem dX7_drain_79 : decode cX7_drain 79 = .ok (.iload_n 3, 1) := by decide +kernel
theorem dX7_drain_80 : decode cX7_drain 80 = .ok (.ireturn, 1) := by decide +kernel
theorem dX7_setReserve_0 : decode cX7_setReserve 0 = .ok (.iload_n 1, 1) := by decide +kernel
theorem dX7_setReserve_1 : decode cX7_setReserve 1 = .ok (.aload_n 0, 1) := by decide +kernel
theorem dX7_setReserve_2 : decode cX7_setReserve 2 = .ok (.getfield 15, 3) := by decide +kernel
theorem dX7_setReserve_5 : decode cX7_setReserve 5 = .ok (.getfield 21, 3) := by decide +kernel
theorem dX7_setReserve_8 : decode cX7_setReserve 8 = .ok (.getfield 74, 3) := by decide +kernel
theorem dX7_setReserve_11 : decode cX7_setReserve 11 = .ok (.invokestatic 123, 3) := by decide +kernel
theorem dX7_setReserve_14 : decode cX7_setReserve 14 = .ok (.iload_n 2, 1) := by decide +kernel
theorem dX7_setReserve_15 : decode cX7_setReserve 15 = .ok (.iconst 0, 1) := by decide +kernel
theorem dX7_setReserve_16 : decode cX7_setReserve 16 = .ok (.ldc 249, 2) := by decide +kernel
theorem dX7_setReserve_18 : decode cX7_setReserve 18 = .ok (.invokestatic 80, 3) := by decide +kernel
theorem dX7_setReserve_21 : decode cX7_setReserve 21 = .ok (.aload_n 0, 1) := by decide +kernel
theorem dX7_setReserve_22 : decode cX7_setReserve 22 = .ok (.getfield 38, 3) := by decide +kernel
theorem dX7_setReserve_25 : decode cX7_setReserve 25 = .ok (.aload_n 0, 1) := by decide +kernel
theorem dX7_setReserve_26 : decode cX7_setReserve 26 = .ok (.getfield 15, 3) := by decide +kernel
theorem dX7_setReserve_29 : decode cX7_setReserve 29 = .ok (.getfield 93, 3) := by decide +kernel
theorem dX7_setReserve_32 : decode cX7_setReserve 32 = .ok (.invokevirtual 259, 3) := by decide +kernel
theorem dX7_setReserve_35 : decode cX7_setReserve 35 = .ok (.aload_n 0, 1) := by decide +kernel
theorem dX7_setReserve_36 : decode cX7_setReserve 36 = .ok (.getfield 15, 3) := by decide +kernel
theorem dX7_setReserve_39 : decode cX7_setReserve 39 = .ok (.getfield 93, 3) := by decide +kernel
theorem dX7_setReserve_42 : decode cX7_setReserve 42 = .ok (.getfield 144, 3) := by decide +kernel
theorem dX7_setReserve_45 : decode cX7_setReserve 45 = .ok (.iload_n 1, 1) := by decide +kernel
theorem dX7_setReserve_46 : decode cX7_setReserve 46 = .ok (.iaload, 1) := by decide +kernel
theorem dX7_setReserve_47 : decode cX7_setReserve 47 = .ok (.istore_n 3, 1) := by decide +kernel
theorem dX7_setReserve_48 : decode cX7_setReserve 48 = .ok (.aload_n 0, 1) := by decide +kernel
theorem dX7_setReserve_49 : decode cX7_setReserve 49 = .ok (.getfield 15, 3) := by decide +kernel
theorem dX7_setReserve_52 : decode cX7_setReserve 52 = .ok (.getfield 93, 3) := by decide +kernel
theorem dX7_setReserve_55 : decode cX7_setReserve 55 = .ok (.getfield 144, 3) := by decide +kernel
theorem dX7_setReserve_58 : decode cX7_setReserve 58 = .ok (.iload_n 1, 1) := by decide +kernel
theorem dX7_setReserve_59 : decode cX7_setReserve 59 = .ok (.iload_n 2, 1) := by decide +kernel
theorem dX7_setReserve_60 : decode cX7_setReserve 60 = .ok (.iastore, 1) := by decide +kernel
theorem dX7_setReserve_61 : decode cX7_setReserve 61 = .ok (.iload_n 3, 1) := by decide +kernel
theorem dX7_setReserve_62 : decode cX7_setReserve 62 = .ok (.ireturn, 1) := by decide +kernel
theorem dX7_setCable_0 : decode cX7_setCable 0 = .ok (.iload_n 1, 1) := by decide +kernel
theorem dX7_setCable_1 : decode cX7_setCable 1 = .ok (.aload_n 0, 1) := by decide +kernel
theorem dX7_setCable_2 : decode cX7_setCable 2 = .ok (.getfield 15, 3) := by decide +kernel
theorem dX7_setCable_5 : decode cX7_setCable 5 = .ok (.getfield 21, 3) := by decide +kernel
theorem dX7_setCable_8 : decode cX7_setCable 8 = .ok (.getfield 74, 3) := by decide +kernel
theorem dX7_setCable_11 : decode cX7_setCable 11 = .ok (.invokestatic 123, 3) := by decide +kernel
theorem dX7_setCable_14 : decode cX7_setCable 14 = .ok (.iload_n 2, 1) := by decide +kernel
theorem dX7_setCable_15 : decode cX7_setCable 15 = .ok (.aload_n 0, 1) := by decide +kernel
theorem dX7_setCable_16 : decode cX7_setCable 16 = .ok (.getfield 15, 3) := by decide +kernel
theorem dX7_setCable_19 : decode cX7_setCable 19 = .ok (.getfield 21, 3) := by decide +kernel
theorem dX7_setCable_22 : decode cX7_setCable 22 = .ok (.getfield 74, 3) := by decide +kernel
theorem dX7_setCable_25 : decode cX7_setCable 25 = .ok (.invokestatic 123, 3) := by decide +kernel
theorem dX7_setCable_28 : decode cX7_setCable 28 = .ok (.iload_n 3, 1) := by decide +kernel
theorem dX7_setCable_29 : decode cX7_setCable 29 = .ok (.iconst 0, 1) := by decide +kernel
theorem dX7_setCable_30 : decode cX7_setCable 30 = .ok (.sipush 900, 3) := by decide +kernel
theorem dX7_setCable_33 : decode cX7_setCable 33 = .ok (.invokestatic 80, 3) := by decide +kernel
theorem dX7_setCable_36 : decode cX7_setCable 36 = .ok (.iload 4, 2) := by decide +kernel
theorem dX7_setCable_38 : decode cX7_setCable 38 = .ok (.iconst 1, 1) := by decide +kernel
theorem dX7_setCable_39 : decode cX7_setCable 39 = .ok (.sipush 10000, 3) := by decide +kernel
theorem dX7_setCable_42 : decode cX7_setCable 42 = .ok (.invokestatic 80, 3) := by decide +kernel
theorem dX7_setCable_45 : decode cX7_setCable 45 = .ok (.aload_n 0, 1) := by decide +kernel
theorem dX7_setCable_46 : decode cX7_setCable 46 = .ok (.getfield 15, 3) := by decide +kernel
theorem dX7_setCable_49 : decode cX7_setCable 49 = .ok (.getfield 21, 3) := by decide +kernel
theorem dX7_setCable_52 : decode cX7_setCable 52 = .ok (.iload_n 1, 1) := by decide +kernel
theorem dX7_setCable_53 : decode cX7_setCable 53 = .ok (.iload_n 2, 1) := by decide +kernel
theorem dX7_setCable_54 : decode cX7_setCable 54 = .ok (.invokevirtual 154, 3) := by decide +kernel
theorem dX7_setCable_57 : decode cX7_setCable 57 = .ok (.istore 5, 2) := by decide +kernel
theorem dX7_setCable_59 : decode cX7_setCable 59 = .ok (.iload 5, 2) := by decide +kernel
theorem dX7_setCable_61 : decode cX7_setCable 61 = .ok (.iconst (-1), 1) := by decide +kernel
theorem dX7_setCable_62 : decode cX7_setCable 62 = .ok (.if_icmp .ne 5, 3) := by decide +kernel
theorem dX7_setCable_65 : decode cX7_setCable 65 = .ok (.iconst (-1), 1) := by decide +kernel
theorem dX7_setCable_66 : decode cX7_setCable 66 = .ok (.ireturn, 1) := by decide +kernel
theorem dX7_setCable_67 : decode cX7_setCable 67 = .ok (.aload_n 0, 1) := by decide +kernel
theorem dX7_setCable_68 : decode cX7_setCable 68 = .ok (.getfield 38, 3) := by decide +kernel
theorem dX7_setCable_71 : decode cX7_setCable 71 = .ok (.aload_n 0, 1) := by decide +kernel
theorem dX7_setCable_72 : decode cX7_setCable 72 = .ok (.getfield 15, 3) := by decide +kernel
theorem dX7_setCable_75 : decode cX7_setCable 75 = .ok (.getfield 93, 3) := by decide +kernel
theorem dX7_setCable_78 : decode cX7_setCable 78 = .ok (.invokevirtual 259, 3) := by decide +kernel
theorem dX7_setCable_81 : decode cX7_setCable 81 = .ok (.aload_n 0, 1) := by decide +kernel
theorem dX7_setCable_82 : decode cX7_setCable 82 = .ok (.getfield 15, 3) := by decide +kernel
theorem dX7_setCable_85 : decode cX7_setCable 85 = .ok (.getfield 93, 3) := by decide +kernel
theorem dX7_setCable_88 : decode cX7_setCable 88 = .ok (.getfield 157, 3) := by decide +kernel
theorem dX7_setCable_91 : decode cX7_setCable 91 = .ok (.iload 5, 2) := by decide +kernel
theorem dX7_setCable_93 : decode cX7_setCable 93 = .ok (.iaload, 1) := by decide +kernel
theorem dX7_setCable_94 : decode cX7_setCable 94 = .ok (.istore 6, 2) := by decide +kernel
theorem dX7_setCable_96 : decode cX7_setCable 96 = .ok (.aload_n 0, 1) := by decide +kernel
theorem dX7_setCable_97 : decode cX7_setCable 97 = .ok (.getfield 15, 3) := by decide +kernel
theorem dX7_setCable_100 : decode cX7_setCable 100 = .ok (.getfield 93, 3) := by decide +kernel
theorem dX7_setCable_103 : decode cX7_setCable 103 = .ok (.getfield 157, 3) := by decide +kernel
theorem dX7_setCable_106 : decode cX7_setCable 106 = .ok (.iload 5, 2) := by decide +kernel
theorem dX7_setCable_108 : decode cX7_setCable 108 = .ok (.iload_n 3, 1) := by decide +kernel
theorem dX7_setCable_109 : decode cX7_setCable 109 = .ok (.iastore, 1) := by decide +kernel
theorem dX7_setCable_110 : decode cX7_setCable 110 = .ok (.aload_n 0, 1) := by decide +kernel
theorem dX7_setCable_111 : decode cX7_setCable 111 = .ok (.getfield 15, 3) := by decide +kernel
theorem dX7_setCable_114 : decode cX7_setCable 114 = .ok (.getfield 93, 3) := by decide +kernel
theorem dX7_setCable_117 : decode cX7_setCable 117 = .ok (.getfield 160, 3) := by decide +kernel
theorem dX7_setCable_120 : decode cX7_setCable 120 = .ok (.iload 5, 2) := by decide +kernel
theorem dX7_setCable_122 : decode cX7_setCable 122 = .ok (.iload 4, 2) := by decide +kernel
theorem dX7_setCable_124 : decode cX7_setCable 124 = .ok (.iastore, 1) := by decide +kernel
theorem dX7_setCable_125 : decode cX7_setCable 125 = .ok (.iload 6, 2) := by decide +kernel
theorem dX7_setCable_127 : decode cX7_setCable 127 = .ok (.ireturn, 1) := by decide +kernel
theorem dX7_addTrip_0 : decode cX7_addTrip 0 = .ok (.iload_n 1, 1) := by decide +kernel
theorem dX7_addTrip_1 : decode cX7_addTrip 1 = .ok (.aload_n 0, 1) := by decide +kernel
theorem dX7_addTrip_2 : decode cX7_addTrip 2 = .ok (.getfield 15, 3) := by decide +kernel
theorem dX7_addTrip_5 : decode cX7_addTrip 5 = .ok (.getfield 21, 3) := by decide +kernel
theorem dX7_addTrip_8 : decode cX7_addTrip 8 = .ok (.getfield 74, 3) := by decide +kernel
theorem dX7_addTrip_11 : decode cX7_addTrip 11 = .ok (.invokestatic 123, 3) := by decide +kernel
theorem dX7_addTrip_14 : decode cX7_addTrip 14 = .ok (.iload_n 2, 1) := by decide +kernel
theorem dX7_addTrip_15 : decode cX7_addTrip 15 = .ok (.iconst 0, 1) := by decide +kernel
theorem dX7_addTrip_16 : decode cX7_addTrip 16 = .ok (.sipush 9999, 3) := by decide +kernel
theorem dX7_addTrip_19 : decode cX7_addTrip 19 = .ok (.invokestatic 80, 3) := by decide +kernel
theorem dX7_addTrip_22 : decode cX7_addTrip 22 = .ok (.iload_n 3, 1) := by decide +kernel
theorem dX7_addTrip_23 : decode cX7_addTrip 23 = .ok (.iconst 1, 1) := by decide +kernel
theorem dX7_addTrip_24 : decode cX7_addTrip 24 = .ok (.ldc 249, 2) := by decide +kernel
theorem dX7_addTrip_26 : decode cX7_addTrip 26 = .ok (.invokestatic 80, 3) := by decide +kernel
theorem dX7_addTrip_29 : decode cX7_addTrip 29 = .ok (.aload_n 0, 1) := by decide +kernel
theorem dX7_addTrip_30 : decode cX7_addTrip 30 = .ok (.getfield 15, 3) := by decide +kernel
theorem dX7_addTrip_33 : decode cX7_addTrip 33 = .ok (.getfield 93, 3) := by decide +kernel
theorem dX7_addTrip_36 : decode cX7_addTrip 36 = .ok (.getfield 97, 3) := by decide +kernel
theorem dX7_addTrip_39 : decode cX7_addTrip 39 = .ok (.getfield 103, 3) := by decide +kernel
theorem dX7_addTrip_42 : decode cX7_addTrip 42 = .ok (.bipush 16, 2) := by decide +kernel
theorem dX7_addTrip_44 : decode cX7_addTrip 44 = .ok (.if_icmp .lt 6, 3) := by decide +kernel
theorem dX7_addTrip_47 : decode cX7_addTrip 47 = .ok (.bipush (-2), 2) := by decide +kernel
theorem dX7_addTrip_49 : decode cX7_addTrip 49 = .ok (.ireturn, 1) := by decide +kernel
theorem dX7_addTrip_50 : decode cX7_addTrip 50 = .ok (.iload_n 2, 1) := by decide +kernel
theorem dX7_addTrip_51 : decode cX7_addTrip 51 = .ok (.aload_n 0, 1) := by decide +kernel
theorem dX7_addTrip_52 : decode cX7_addTrip 52 = .ok (.getfield 15, 3) := by decide +kernel
theorem dX7_addTrip_55 : decode cX7_addTrip 55 = .ok (.getfield 93, 3) := by decide +kernel
theorem dX7_addTrip_58 : decode cX7_addTrip 58 = .ok (.getfield 233, 3) := by decide +kernel
theorem dX7_addTrip_61 : decode cX7_addTrip 61 = .ok (.if_icmp .ge 6, 3) := by decide +kernel
theorem dX7_addTrip_64 : decode cX7_addTrip 64 = .ok (.bipush (-4), 2) := by decide +kernel
theorem dX7_addTrip_66 : decode cX7_addTrip 66 = .ok (.ireturn, 1) := by decide +kernel
theorem dX7_addTrip_67 : decode cX7_addTrip 67 = .ok (.aload_n 0, 1) := by decide +kernel
theorem dX7_addTrip_68 : decode cX7_addTrip 68 = .ok (.getfield 38, 3) := by decide +kernel
theorem dX7_addTrip_71 : decode cX7_addTrip 71 = .ok (.aload_n 0, 1) := by decide +kernel
theorem dX7_addTrip_72 : decode cX7_addTrip 72 = .ok (.getfield 15, 3) := by decide +kernel
theorem dX7_addTrip_75 : decode cX7_addTrip 75 = .ok (.getfield 93, 3) := by decide +kernel
theorem dX7_addTrip_78 : decode cX7_addTrip 78 = .ok (.invokevirtual 259, 3) := by decide +kernel
theorem dX7_addTrip_81 : decode cX7_addTrip 81 = .ok (.aload_n 0, 1) := by decide +kernel
theorem dX7_addTrip_82 : decode cX7_addTrip 82 = .ok (.getfield 15, 3) := by decide +kernel
theorem dX7_addTrip_85 : decode cX7_addTrip 85 = .ok (.getfield 93, 3) := by decide +kernel
theorem dX7_addTrip_88 : decode cX7_addTrip 88 = .ok (.getfield 97, 3) := by decide +kernel
theorem dX7_addTrip_91 : decode cX7_addTrip 91 = .ok (.iload_n 1, 1) := by decide +kernel
theorem dX7_addTrip_92 : decode cX7_addTrip 92 = .ok (.iload_n 2, 1) := by decide +kernel
theorem dX7_addTrip_93 : decode cX7_addTrip 93 = .ok (.iload_n 3, 1) := by decide +kernel
theorem dX7_addTrip_94 : decode cX7_addTrip 94 = .ok (.invokevirtual 285, 3) := by decide +kernel
theorem dX7_addTrip_97 : decode cX7_addTrip 97 = .ok (.ireturn, 1) := by decide +kernel
theorem dX7_dropTrip_0 : decode cX7_dropTrip 0 = .ok (.iload_n 1, 1) := by decide +kernel
theorem dX7_dropTrip_1 : decode cX7_dropTrip 1 = .ok (.aload_n 0, 1) := by decide +kernel
theorem dX7_dropTrip_2 : decode cX7_dropTrip 2 = .ok (.getfield 15, 3) := by decide +kernel
theorem dX7_dropTrip_5 : decode cX7_dropTrip 5 = .ok (.getfield 93, 3) := by decide +kernel
theorem dX7_dropTrip_8 : decode cX7_dropTrip 8 = .ok (.getfield 97, 3) := by decide +kernel
theorem dX7_dropTrip_11 : decode cX7_dropTrip 11 = .ok (.getfield 103, 3) := by decide +kernel
theorem dX7_dropTrip_14 : decode cX7_dropTrip 14 = .ok (.invokestatic 123, 3) := by decide +kernel
theorem dX7_dropTrip_17 : decode cX7_dropTrip 17 = .ok (.aload_n 0, 1) := by decide +kernel
theorem dX7_dropTrip_18 : decode cX7_dropTrip 18 = .ok (.getfield 15, 3) := by decide +kernel
theorem dX7_dropTrip_21 : decode cX7_dropTrip 21 = .ok (.getfield 93, 3) := by decide +kernel
theorem dX7_dropTrip_24 : decode cX7_dropTrip 24 = .ok (.getfield 97, 3) := by decide +kernel
theorem dX7_dropTrip_27 : decode cX7_dropTrip 27 = .ok (.getfield 181, 3) := by decide +kernel
theorem dX7_dropTrip_30 : decode cX7_dropTrip 30 = .ok (.iload_n 1, 1) := by decide +kernel
theorem dX7_dropTrip_31 : decode cX7_dropTrip 31 = .ok (.iaload, 1) := by decide +kernel
theorem dX7_dropTrip_32 : decode cX7_dropTrip 32 = .ok (.ifCond .eq 6, 3) := by decide +kernel
theorem dX7_dropTrip_35 : decode cX7_dropTrip 35 = .ok (.bipush (-3), 2) := by decide +kernel
theorem dX7_dropTrip_37 : decode cX7_dropTrip 37 = .ok (.ireturn, 1) := by decide +kernel
theorem dX7_dropTrip_38 : decode cX7_dropTrip 38 = .ok (.aload_n 0, 1) := by decide +kernel
theorem dX7_dropTrip_39 : decode cX7_dropTrip 39 = .ok (.getfield 38, 3) := by decide +kernel
theorem dX7_dropTrip_42 : decode cX7_dropTrip 42 = .ok (.aload_n 0, 1) := by decide +kernel
theorem dX7_dropTrip_43 : decode cX7_dropTrip 43 = .ok (.getfield 15, 3) := by decide +kernel
theorem dX7_dropTrip_46 : decode cX7_dropTrip 46 = .ok (.getfield 93, 3) := by decide +kernel
theorem dX7_dropTrip_49 : decode cX7_dropTrip 49 = .ok (.invokevirtual 259, 3) := by decide +kernel
theorem dX7_dropTrip_52 : decode cX7_dropTrip 52 = .ok (.aload_n 0, 1) := by decide +kernel
theorem dX7_dropTrip_53 : decode cX7_dropTrip 53 = .ok (.getfield 15, 3) := by decide +kernel
theorem dX7_dropTrip_56 : decode cX7_dropTrip 56 = .ok (.getfield 93, 3) := by decide +kernel
theorem dX7_dropTrip_59 : decode cX7_dropTrip 59 = .ok (.getfield 97, 3) := by decide +kernel
theorem dX7_dropTrip_62 : decode cX7_dropTrip 62 = .ok (.iload_n 1, 1) := by decide +kernel
theorem dX7_dropTrip_63 : decode cX7_dropTrip 63 = .ok (.invokevirtual 286, 3) := by decide +kernel
theorem dX7_dropTrip_66 : decode cX7_dropTrip 66 = .ok (.aload_n 0, 1) := by decide +kernel
theorem dX7_dropTrip_67 : decode cX7_dropTrip 67 = .ok (.getfield 15, 3) := by decide +kernel
theorem dX7_dropTrip_70 : decode cX7_dropTrip 70 = .ok (.getfield 93, 3) := by decide +kernel
theorem dX7_dropTrip_73 : decode cX7_dropTrip 73 = .ok (.getfield 97, 3) := by decide +kernel
theorem dX7_dropTrip_76 : decode cX7_dropTrip 76 = .ok (.getfield 103, 3) := by decide +kernel
theorem dX7_dropTrip_79 : decode cX7_dropTrip 79 = .ok (.ireturn, 1) := by decide +kernel
theorem dX7_run_0 : decode cX7_run 0 = .ok (.iload_n 1, 1) := by decide +kernel
theorem dX7_run_1 : decode cX7_run 1 = .ok (.iconst 1, 1) := by decide +kernel
theorem dX7_run_2 : decode cX7_run 2 = .ok (.sipush 1000, 3) := by decide +kernel
theorem dX7_run_5 : decode cX7_run 5 = .ok (.sipush 9999, 3) := by decide +kernel
theorem dX7_run_8 : decode cX7_run 8 = .ok (.aload_n 0, 1) := by decide +kernel
theorem dX7_run_9 : decode cX7_run 9 = .ok (.getfield 15, 3) := by decide +kernel
theorem dX7_run_12 : decode cX7_run 12 = .ok (.getfield 93, 3) := by decide +kernel
theorem dX7_run_15 : decode cX7_run 15 = .ok (.getfield 233, 3) := by decide +kernel
theorem dX7_run_18 : decode cX7_run 18 = .ok (.isub, 1) := by decide +kernel
theorem dX7_run_19 : decode cX7_run 19 = .ok (.invokestatic 277, 3) := by decide +kernel
theorem dX7_run_22 : decode cX7_run 22 = .ok (.invokestatic 80, 3) := by decide +kernel
theorem dX7_run_25 : decode cX7_run 25 = .ok (.aload_n 0, 1) := by decide +kernel
theorem dX7_run_26 : decode cX7_run 26 = .ok (.getfield 38, 3) := by decide +kernel
theorem dX7_run_29 : decode cX7_run 29 = .ok (.aload_n 0, 1) := by decide +kernel
theorem dX7_run_30 : decode cX7_run 30 = .ok (.getfield 15, 3) := by decide +kernel
theorem dX7_run_33 : decode cX7_run 33 = .ok (.getfield 93, 3) := by decide +kernel
theorem dX7_run_36 : decode cX7_run 36 = .ok (.invokevirtual 259, 3) := by decide +kernel
theorem dX7_run_39 : decode cX7_run 39 = .ok (.aload_n 0, 1) := by decide +kernel
theorem dX7_run_40 : decode cX7_run 40 = .ok (.getfield 15, 3) := by decide +kernel
theorem dX7_run_43 : decode cX7_run 43 = .ok (.iload_n 1, 1) := by decide +kernel
theorem dX7_run_44 : decode cX7_run 44 = .ok (.invokevirtual 290, 3) := by decide +kernel
theorem dX7_run_47 : decode cX7_run 47 = .ok (.aload_n 0, 1) := by decide +kernel
theorem dX7_run_48 : decode cX7_run 48 = .ok (.getfield 15, 3) := by decide +kernel
theorem dX7_run_51 : decode cX7_run 51 = .ok (.getfield 93, 3) := by decide +kernel
theorem dX7_run_54 : decode cX7_run 54 = .ok (.getfield 233, 3) := by decide +kernel
theorem dX7_run_57 : decode cX7_run 57 = .ok (.ireturn, 1) := by decide +kernel
theorem dX7_runToClosed_0 : decode cX7_runToClosed 0 = .ok (.iload_n 1, 1) := by decide +kernel
theorem dX7_runToClosed_1 : decode cX7_runToClosed 1 = .ok (.aload_n 0, 1) := by decide +kernel
theorem dX7_runToClosed_2 : decode cX7_runToClosed 2 = .ok (.getfield 15, 3) := by decide +kernel
theorem dX7_runToClosed_5 : decode cX7_runToClosed 5 = .ok (.getfield 93, 3) := by decide +kernel
theorem dX7_runToClosed_8 : decode cX7_runToClosed 8 = .ok (.getfield 111, 3) := by decide +kernel
theorem dX7_runToClosed_11 : decode cX7_runToClosed 11 = .ok (.getfield 115, 3) := by decide +kernel
theorem dX7_runToClosed_14 : decode cX7_runToClosed 14 = .ok (.invokestatic 123, 3) := by decide +kernel
theorem dX7_runToClosed_17 : decode cX7_runToClosed 17 = .ok (.iload_n 2, 1) := by decide +kernel
theorem dX7_runToClosed_18 : decode cX7_runToClosed 18 = .ok (.iconst 1, 1) := by decide +kernel
theorem dX7_runToClosed_19 : decode cX7_runToClosed 19 = .ok (.sipush 1000, 3) := by decide +kernel
theorem dX7_runToClosed_22 : decode cX7_runToClosed 22 = .ok (.invokestatic 80, 3) := by decide +kernel
theorem dX7_runToClosed_25 : decode cX7_runToClosed 25 = .ok (.aload_n 0, 1) := by decide +kernel
theorem dX7_runToClosed_26 : decode cX7_runToClosed 26 = .ok (.getfield 38, 3) := by decide +kernel
theorem dX7_runToClosed_29 : decode cX7_runToClosed 29 = .ok (.aload_n 0, 1) := by decide +kernel
theorem dX7_runToClosed_30 : decode cX7_runToClosed 30 = .ok (.getfield 15, 3) := by decide +kernel
theorem dX7_runToClosed_33 : decode cX7_runToClosed 33 = .ok (.getfield 93, 3) := by decide +kernel
theorem dX7_runToClosed_36 : decode cX7_runToClosed 36 = .ok (.invokevirtual 259, 3) := by decide +kernel
theorem dX7_runToClosed_39 : decode cX7_runToClosed 39 = .ok (.aload_n 0, 1) := by decide +kernel
theorem dX7_runToClosed_40 : decode cX7_runToClosed 40 = .ok (.getfield 15, 3) := by decide +kernel
theorem dX7_runToClosed_43 : decode cX7_runToClosed 43 = .ok (.iload_n 1, 1) := by decide +kernel
theorem dX7_runToClosed_44 : decode cX7_runToClosed 44 = .ok (.iload_n 2, 1) := by decide +kernel
theorem dX7_runToClosed_45 : decode cX7_runToClosed 45 = .ok (.sipush 9999, 3) := by decide +kernel
theorem dX7_runToClosed_48 : decode cX7_runToClosed 48 = .ok (.aload_n 0, 1) := by decide +kernel
theorem dX7_runToClosed_49 : decode cX7_runToClosed 49 = .ok (.getfield 15, 3) := by decide +kernel
theorem dX7_runToClosed_52 : decode cX7_runToClosed 52 = .ok (.getfield 93, 3) := by decide +kernel
theorem dX7_runToClosed_55 : decode cX7_runToClosed 55 = .ok (.getfield 233, 3) := by decide +kernel
theorem dX7_runToClosed_58 : decode cX7_runToClosed 58 = .ok (.isub, 1) := by decide +kernel
theorem dX7_runToClosed_59 : decode cX7_runToClosed 59 = .ok (.invokestatic 277, 3) := by decide +kernel
theorem dX7_runToClosed_62 : decode cX7_runToClosed 62 = .ok (.invokevirtual 293, 3) := by decide +kernel
theorem dX7_runToClosed_65 : decode cX7_runToClosed 65 = .ok (.istore_n 3, 1) := by decide +kernel
theorem dX7_runToClosed_66 : decode cX7_runToClosed 66 = .ok (.aload_n 0, 1) := by decide +kernel
theorem dX7_runToClosed_67 : decode cX7_runToClosed 67 = .ok (.getfield 15, 3) := by decide +kernel
theorem dX7_runToClosed_70 : decode cX7_runToClosed 70 = .ok (.getfield 93, 3) := by decide +kernel
theorem dX7_runToClosed_73 : decode cX7_runToClosed 73 = .ok (.getfield 111, 3) := by decide +kernel
theorem dX7_runToClosed_76 : decode cX7_runToClosed 76 = .ok (.iload_n 1, 1) := by decide +kernel
theorem dX7_runToClosed_77 : decode cX7_runToClosed 77 = .ok (.invokevirtual 267, 3) := by decide +kernel
theorem dX7_runToClosed_80 : decode cX7_runToClosed 80 = .ok (.ifCond .eq 7, 3) := by decide +kernel
theorem dX7_runToClosed_83 : decode cX7_runToClosed 83 = .ok (.iconst (-1), 1) := by decide +kernel
theorem dX7_runToClosed_84 : decode cX7_runToClosed 84 = .ok (.goto 4, 3) := by decide +kernel
theorem dX7_runToClosed_87 : decode cX7_runToClosed 87 = .ok (.iload_n 3, 1) := by decide +kernel
theorem dX7_runToClosed_88 : decode cX7_runToClosed 88 = .ok (.ireturn, 1) := by decide +kernel
theorem dX7_neediest_0 : decode cX7_neediest 0 = .ok (.iconst (-1), 1) := by decide +kernel
theorem dX7_neediest_1 : decode cX7_neediest 1 = .ok (.istore_n 1, 1) := by decide +kernel
theorem dX7_neediest_2 : decode cX7_neediest 2 = .ok (.iconst 0, 1) := by decide +kernel
theorem dX7_neediest_3 : decode cX7_neediest 3 = .ok (.istore_n 2, 1) := by decide +kernel
theorem dX7_neediest_4 : decode cX7_neediest 4 = .ok (.iload_n 2, 1) := by decide +kernel
theorem dX7_neediest_5 : decode cX7_neediest 5 = .ok (.aload_n 0, 1) := by decide +kernel
theorem dX7_neediest_6 : decode cX7_neediest 6 = .ok (.getfield 15, 3) := by decide +kernel
theorem dX7_neediest_9 : decode cX7_neediest 9 = .ok (.getfield 21, 3) := by decide +kernel
theorem dX7_neediest_12 : decode cX7_neediest 12 = .ok (.getfield 74, 3) := by decide +kernel
theorem dX7_neediest_15 : decode cX7_neediest 15 = .ok (.if_icmp .ge 41, 3) := by decide +kernel
theorem dX7_neediest_18 : decode cX7_neediest 18 = .ok (.iload_n 1, 1) := by decide +kernel
theorem dX7_neediest_19 : decode cX7_neediest 19 = .ok (.iconst (-1), 1) := by decide +kernel
theorem dX7_neediest_20 : decode cX7_neediest 20 = .ok (.if_icmp .eq 28, 3) := by decide +kernel
theorem dX7_neediest_23 : decode cX7_neediest 23 = .ok (.aload_n 0, 1) := by decide +kernel
theorem dX7_neediest_24 : decode cX7_neediest 24 = .ok (.getfield 15, 3) := by decide +kernel
theorem dX7_neediest_27 : decode cX7_neediest 27 = .ok (.getfield 93, 3) := by decide +kernel
theorem dX7_neediest_30 : decode cX7_neediest 30 = .ok (.iload_n 2, 1) := by decide +kernel
theorem dX7_neediest_31 : decode cX7_neediest 31 = .ok (.invokevirtual 310, 3) := by decide +kernel
theorem dX7_neediest_34 : decode cX7_neediest 34 = .ok (.aload_n 0, 1) := by decide +kernel
theorem dX7_neediest_35 : decode cX7_neediest 35 = .ok (.getfield 15, 3) := by decide +kernel
theorem dX7_neediest_38 : decode cX7_neediest 38 = .ok (.getfield 93, 3) := by decide +kernel
theorem dX7_neediest_41 : decode cX7_neediest 41 = .ok (.iload_n 1, 1) := by decide +kernel
theorem dX7_neediest_42 : decode cX7_neediest 42 = .ok (.invokevirtual 310, 3) := by decide +kernel
theorem dX7_neediest_45 : decode cX7_neediest 45 = .ok (.if_icmp .ge 5, 3) := by decide +kernel
theorem dX7_neediest_48 : decode cX7_neediest 48 = .ok (.iload_n 2, 1) := by decide +kernel
theorem dX7_neediest_49 : decode cX7_neediest 49 = .ok (.istore_n 1, 1) := by decide +kernel
theorem dX7_neediest_50 : decode cX7_neediest 50 = .ok (.iinc 2 1, 3) := by decide +kernel
theorem dX7_neediest_53 : decode cX7_neediest 53 = .ok (.goto (-49), 3) := by decide +kernel
theorem dX7_neediest_56 : decode cX7_neediest 56 = .ok (.iload_n 1, 1) := by decide +kernel
theorem dX7_neediest_57 : decode cX7_neediest 57 = .ok (.ireturn, 1) := by decide +kernel
theorem dX7_richest_0 : decode cX7_richest 0 = .ok (.iconst (-1), 1) := by decide +kernel
theorem dX7_richest_1 : decode cX7_richest 1 = .ok (.istore_n 1, 1) := by decide +kernel
theorem dX7_richest_2 : decode cX7_richest 2 = .ok (.iconst 0, 1) := by decide +kernel
theorem dX7_richest_3 : decode cX7_richest 3 = .ok (.istore_n 2, 1) := by decide +kernel
theorem dX7_richest_4 : decode cX7_richest 4 = .ok (.iload_n 2, 1) := by decide +kernel
theorem dX7_richest_5 : decode cX7_richest 5 = .ok (.aload_n 0, 1) := by decide +kernel
theorem dX7_richest_6 : decode cX7_richest 6 = .ok (.getfield 15, 3) := by decide +kernel
theorem dX7_richest_9 : decode cX7_richest 9 = .ok (.getfield 21, 3) := by decide +kernel
theorem dX7_richest_12 : decode cX7_richest 12 = .ok (.getfield 74, 3) := by decide +kernel
theorem dX7_richest_15 : decode cX7_richest 15 = .ok (.if_icmp .ge 41, 3) := by decide +kernel
theorem dX7_richest_18 : decode cX7_richest 18 = .ok (.iload_n 1, 1) := by decide +kernel
theorem dX7_richest_19 : decode cX7_richest 19 = .ok (.iconst (-1), 1) := by decide +kernel
theorem dX7_richest_20 : decode cX7_richest 20 = .ok (.if_icmp .eq 28, 3) := by decide +kernel
theorem dX7_richest_23 : decode cX7_richest 23 = .ok (.aload_n 0, 1) := by decide +kernel
theorem dX7_richest_24 : decode cX7_richest 24 = .ok (.getfield 15, 3) := by decide +kernel
theorem dX7_richest_27 : decode cX7_richest 27 = .ok (.getfield 93, 3) := by decide +kernel
theorem dX7_richest_30 : decode cX7_richest 30 = .ok (.iload_n 2, 1) := by decide +kernel
theorem dX7_richest_31 : decode cX7_richest 31 = .ok (.invokevirtual 310, 3) := by decide +kernel
theorem dX7_richest_34 : decode cX7_richest 34 = .ok (.aload_n 0, 1) := by decide +kernel
theorem dX7_richest_35 : decode cX7_richest 35 = .ok (.getfield 15, 3) := by decide +kernel
theorem dX7_richest_38 : decode cX7_richest 38 = .ok (.getfield 93, 3) := by decide +kernel
theorem dX7_richest_41 : decode cX7_richest 41 = .ok (.iload_n 1, 1) := by decide +kernel
theorem dX7_richest_42 : decode cX7_richest 42 = .ok (.invokevirtual 310, 3) := by decide +kernel
theorem dX7_richest_45 : decode cX7_richest 45 = .ok (.if_icmp .le 5, 3) := by decide +kernel
theorem dX7_richest_48 : decode cX7_richest 48 = .ok (.iload_n 2, 1) := by decide +kernel
theorem dX7_richest_49 : decode cX7_richest 49 = .ok (.istore_n 1, 1) := by decide +kernel
theorem dX7_richest_50 : decode cX7_richest 50 = .ok (.iinc 2 1, 3) := by decide +kernel
theorem dX7_richest_53 : decode cX7_richest 53 = .ok (.goto (-49), 3) := by decide +kernel
theorem dX7_richest_56 : decode cX7_richest 56 = .ok (.iload_n 1, 1) := by decide +kernel
theorem dX7_richest_57 : decode cX7_richest 57 = .ok (.ireturn, 1) := by decide +kernel
theorem dX7_undo_0 : decode cX7_undo 0 = .ok (.aload_n 0, 1) := by decide +kernel
theorem dX7_undo_1 : decode cX7_undo 1 = .ok (.getfield 38, 3) := by decide +kernel
theorem dX7_undo_4 : decode cX7_undo 4 = .ok (.getfield 122, 3) := by decide +kernel
theorem dX7_undo_7 : decode cX7_undo 7 = .ok (.ifCond .ne 5, 3) := by decide +kernel
theorem dX7_undo_10 : decode cX7_undo 10 = .ok (.iconst (-1), 1) := by decide +kernel
theorem dX7_undo_11 : decode cX7_undo 11 = .ok (.ireturn, 1) := by decide +kernel
theorem dX7_undo_12 : decode cX7_undo 12 = .ok (.aload_n 0, 1) := by decide +kernel
theorem dX7_undo_13 : decode cX7_undo 13 = .ok (.getfield 38, 3) := by decide +kernel
theorem dX7_undo_16 : decode cX7_undo 16 = .ok (.aload_n 0, 1) := by decide +kernel
theorem dX7_undo_17 : decode cX7_undo 17 = .ok (.getfield 15, 3) := by decide +kernel
theorem dX7_undo_20 : decode cX7_undo 20 = .ok (.getfield 93, 3) := by decide +kernel
theorem dX7_undo_23 : decode cX7_undo 23 = .ok (.invokevirtual 317, 3) := by decide +kernel
theorem dX7_undo_26 : decode cX7_undo 26 = .ok (.aload_n 0, 1) := by decide +kernel
theorem dX7_undo_27 : decode cX7_undo 27 = .ok (.getfield 38, 3) := by decide +kernel
theorem dX7_undo_30 : decode cX7_undo 30 = .ok (.getfield 122, 3) := by decide +kernel
theorem dX7_undo_33 : decode cX7_undo 33 = .ok (.ireturn, 1) := by decide +kernel
theorem dX7_checkIndex_0 : decode cX7_checkIndex 0 = .ok (.iload_n 0, 1) := by decide +kernel
theorem dX7_checkIndex_1 : decode cX7_checkIndex 1 = .ok (.ifCond .lt 8, 3) := by decide +kernel
theorem dX7_checkIndex_4 : decode cX7_checkIndex 4 = .ok (.iload_n 0, 1) := by decide +kernel
theorem dX7_checkIndex_5 : decode cX7_checkIndex 5 = .ok (.iload_n 1, 1) := by decide +kernel
theorem dX7_checkIndex_6 : decode cX7_checkIndex 6 = .ok (.if_icmp .lt 11, 3) := by decide +kernel
theorem dX7_checkIndex_9 : decode cX7_checkIndex 9 = .ok (.new 320, 3) := by decide +kernel
theorem dX7_checkIndex_12 : decode cX7_checkIndex 12 = .ok (.dup, 1) := by decide +kernel
theorem dX7_checkIndex_13 : decode cX7_checkIndex 13 = .ok (.invokespecial 322, 3) := by decide +kernel
theorem dX7_checkIndex_16 : decode cX7_checkIndex 16 = .ok (.athrow, 1) := by decide +kernel
theorem dX7_checkIndex_17 : decode cX7_checkIndex 17 = .ok (.return_, 1) := by decide +kernel
theorem dX7_checkRange_0 : decode cX7_checkRange 0 = .ok (.iload_n 0, 1) := by decide +kernel
theorem dX7_checkRange_1 : decode cX7_checkRange 1 = .ok (.iload_n 1, 1) := by decide +kernel
theorem dX7_checkRange_2 : decode cX7_checkRange 2 = .ok (.if_icmp .lt 8, 3) := by decide +kernel
theorem dX7_checkRange_5 : decode cX7_checkRange 5 = .ok (.iload_n 0, 1) := by decide +kernel
theorem dX7_checkRange_6 : decode cX7_checkRange 6 = .ok (.iload_n 2, 1) := by decide +kernel
theorem dX7_checkRange_7 : decode cX7_checkRange 7 = .ok (.if_icmp .le 11, 3) := by decide +kernel
theorem dX7_checkRange_10 : decode cX7_checkRange 10 = .ok (.new 323, 3) := by decide +kernel
theorem dX7_checkRange_13 : decode cX7_checkRange 13 = .ok (.dup, 1) := by decide +kernel
theorem dX7_checkRange_14 : decode cX7_checkRange 14 = .ok (.invokespecial 325, 3) := by decide +kernel
theorem dX7_checkRange_17 : decode cX7_checkRange 17 = .ok (.athrow, 1) := by decide +kernel
theorem dX7_checkRange_18 : decode cX7_checkRange 18 = .ok (.return_, 1) := by decide +kernel
theorem dX7_sumOf_0 : decode cX7_sumOf 0 = .ok (.lconst 0, 1) := by decide +kernel
theorem dX7_sumOf_1 : decode cX7_sumOf 1 = .ok (.lstore_n 2, 1) := by decide +kernel
theorem dX7_sumOf_2 : decode cX7_sumOf 2 = .ok (.iconst 0, 1) := by decide +kernel
theorem dX7_sumOf_3 : decode cX7_sumOf 3 = .ok (.istore 4, 2) := by decide +kernel
theorem dX7_sumOf_5 : decode cX7_sumOf 5 = .ok (.iload 4, 2) := by decide +kernel
theorem dX7_sumOf_7 : decode cX7_sumOf 7 = .ok (.iload_n 1, 1) := by decide +kernel
theorem dX7_sumOf_8 : decode cX7_sumOf 8 = .ok (.if_icmp .ge 24, 3) := by decide +kernel
theorem dX7_sumOf_11 : decode cX7_sumOf 11 = .ok (.iload 4, 2) := by decide +kernel
theorem dX7_sumOf_13 : decode cX7_sumOf 13 = .ok (.aload_n 0, 1) := by decide +kernel
theorem dX7_sumOf_14 : decode cX7_sumOf 14 = .ok (.arraylength, 1) := by decide +kernel
theorem dX7_sumOf_15 : decode cX7_sumOf 15 = .ok (.if_icmp .ge 17, 3) := by decide +kernel
theorem dX7_sumOf_18 : decode cX7_sumOf 18 = .ok (.lload_n 2, 1) := by decide +kernel
theorem dX7_sumOf_19 : decode cX7_sumOf 19 = .ok (.aload_n 0, 1) := by decide +kernel
theorem dX7_sumOf_20 : decode cX7_sumOf 20 = .ok (.iload 4, 2) := by decide +kernel
theorem dX7_sumOf_22 : decode cX7_sumOf 22 = .ok (.iaload, 1) := by decide +kernel
theorem dX7_sumOf_23 : decode cX7_sumOf 23 = .ok (.i2l, 1) := by decide +kernel
theorem dX7_sumOf_24 : decode cX7_sumOf 24 = .ok (.ladd, 1) := by decide +kernel
theorem dX7_sumOf_25 : decode cX7_sumOf 25 = .ok (.lstore_n 2, 1) := by decide +kernel
theorem dX7_sumOf_26 : decode cX7_sumOf 26 = .ok (.iinc 4 1, 3) := by decide +kernel
theorem dX7_sumOf_29 : decode cX7_sumOf 29 = .ok (.goto (-24), 3) := by decide +kernel
theorem dX7_sumOf_32 : decode cX7_sumOf 32 = .ok (.lload_n 2, 1) := by decide +kernel
theorem dX7_sumOf_33 : decode cX7_sumOf 33 = .ok (.lreturn, 1) := by decide +kernel
theorem dX7_copyRow_0 : decode cX7_copyRow 0 = .ok (.aload_n 0, 1) := by decide +kernel
theorem dX7_copyRow_1 : decode cX7_copyRow 1 = .ok (.iconst 0, 1) := by decide +kernel
theorem dX7_copyRow_2 : decode cX7_copyRow 2 = .ok (.aload_n 1, 1) := by decide +kernel
theorem dX7_copyRow_3 : decode cX7_copyRow 3 = .ok (.iconst 0, 1) := by decide +kernel
theorem dX7_copyRow_4 : decode cX7_copyRow 4 = .ok (.aload_n 0, 1) := by decide +kernel
theorem dX7_copyRow_5 : decode cX7_copyRow 5 = .ok (.arraylength, 1) := by decide +kernel
theorem dX7_copyRow_6 : decode cX7_copyRow 6 = .ok (.aload_n 1, 1) := by decide +kernel
theorem dX7_copyRow_7 : decode cX7_copyRow 7 = .ok (.arraylength, 1) := by decide +kernel
theorem dX7_copyRow_8 : decode cX7_copyRow 8 = .ok (.invokestatic 277, 3) := by decide +kernel
theorem dX7_copyRow_11 : decode cX7_copyRow 11 = .ok (.invokestatic 326, 3) := by decide +kernel
theorem dX7_copyRow_14 : decode cX7_copyRow 14 = .ok (.return_, 1) := by decide +kernel
theorem dX8_init_0 : decode cX8_init 0 = .ok (.aload_n 0, 1) := by decide +kernel
theorem dX8_init_1 : decode cX8_init 1 = .ok (.invokespecial 1, 3) := by decide +kernel
theorem dX8_init_4 : decode cX8_init 4 = .ok (.aload_n 0, 1) := by decide +kernel
theorem dX8_init_5 : decode cX8_init 5 = .ok (.iload_n 1, 1) := by decide +kernel
theorem dX8_init_6 : decode cX8_init 6 = .ok (.putfield 7, 3) := by decide +kernel
theorem dX8_init_9 : decode cX8_init 9 = .ok (.aload_n 0, 1) := by decide +kernel
theorem dX8_init_10 : decode cX8_init 10 = .ok (.iload_n 2, 1) := by decide +kernel
theorem dX8_init_11 : decode cX8_init 11 = .ok (.putfield 13, 3) := by decide +kernel
theorem dX8_init_14 : decode cX8_init 14 = .ok (.aload_n 0, 1) := by decide +kernel
theorem dX8_init_15 : decode cX8_init 15 = .ok (.iload_n 3, 1) := by decide +kernel
theorem dX8_init_16 : decode cX8_init 16 = .ok (.putfield 16, 3) := by decide +kernel
theorem dX8_init_19 : decode cX8_init 19 = .ok (.aload_n 0, 1) := by decide +kernel
theorem dX8_init_20 : decode cX8_init 20 = .ok (.iload 4, 2) := by decide +kernel
theorem dX8_init_22 : decode cX8_init 22 = .ok (.putfield 19, 3) := by decide +kernel
theorem dX8_init_25 : decode cX8_init 25 = .ok (.return_, 1) := by decide +kernel
theorem dX8_copy_0 : decode cX8_copy 0 = .ok (.new 8, 3) := by decide +kernel
theorem dX8_copy_3 : decode cX8_copy 3 = .ok (.dup, 1) := by decide +kernel
theorem dX8_copy_4 : decode cX8_copy 4 = .ok (.aload_n 0, 1) := by decide +kernel
theorem dX8_copy_5 : decode cX8_copy 5 = .ok (.getfield 7, 3) := by decide +kernel
theorem dX8_copy_8 : decode cX8_copy 8 = .ok (.aload_n 0, 1) := by decide +kernel
theorem dX8_copy_9 : decode cX8_copy 9 = .ok (.getfield 13, 3) := by decide +kernel
theorem dX8_copy_12 : decode cX8_copy 12 = .ok (.aload_n 0, 1) := by decide +kernel
theorem dX8_copy_13 : decode cX8_copy 13 = .ok (.getfield 16, 3) := by decide +kernel
theorem dX8_copy_16 : decode cX8_copy 16 = .ok (.aload_n 0, 1) := by decide +kernel
theorem dX8_copy_17 : decode cX8_copy 17 = .ok (.getfield 19, 3) := by decide +kernel
theorem dX8_copy_20 : decode cX8_copy 20 = .ok (.invokespecial 22, 3) := by decide +kernel
theorem dX8_copy_23 : decode cX8_copy 23 = .ok (.astore_n 1, 1) := by decide +kernel
theorem dX8_copy_24 : decode cX8_copy 24 = .ok (.aload_n 1, 1) := by decide +kernel
theorem dX8_copy_25 : decode cX8_copy 25 = .ok (.aload_n 0, 1) := by decide +kernel
theorem dX8_copy_26 : decode cX8_copy 26 = .ok (.getfield 25, 3) := by decide +kernel
theorem dX8_copy_29 : decode cX8_copy 29 = .ok (.putfield 25, 3) := by decide +kernel
theorem dX8_copy_32 : decode cX8_copy 32 = .ok (.aload_n 1, 1) := by decide +kernel
theorem dX8_copy_33 : decode cX8_copy 33 = .ok (.aload_n 0, 1) := by decide +kernel
theorem dX8_copy_34 : decode cX8_copy 34 = .ok (.getfield 28, 3) := by decide +kernel
theorem dX8_copy_37 : decode cX8_copy 37 = .ok (.putfield 28, 3) := by decide +kernel
theorem dX8_copy_40 : decode cX8_copy 40 = .ok (.aload_n 1, 1) := by decide +kernel
theorem dX8_copy_41 : decode cX8_copy 41 = .ok (.areturn, 1) := by decide +kernel
theorem dX9_init_0 : decode cX9_init 0 = .ok (.aload_n 0, 1) := by decide +kernel
theorem dX9_init_1 : decode cX9_init 1 = .ok (.invokespecial 1, 3) := by decide +kernel
theorem dX9_init_4 : decode cX9_init 4 = .ok (.aload_n 0, 1) := by decide +kernel
theorem dX9_init_5 : decode cX9_init 5 = .ok (.iload_n 1, 1) := by decide +kernel
theorem dX9_init_6 : decode cX9_init 6 = .ok (.putfield 7, 3) := by decide +kernel
theorem dX9_init_9 : decode cX9_init 9 = .ok (.aload_n 0, 1) := by decide +kernel
theorem dX9_init_10 : decode cX9_init 10 = .ok (.iload_n 2, 1) := by decide +kernel
theorem dX9_init_11 : decode cX9_init 11 = .ok (.putfield 13, 3) := by decide +kernel
theorem dX9_init_14 : decode cX9_init 14 = .ok (.aload_n 0, 1) := by decide +kernel
theorem dX9_init_15 : decode cX9_init 15 = .ok (.iload_n 3, 1) := by decide +kernel
theorem dX9_init_16 : decode cX9_init 16 = .ok (.putfield 16, 3) := by decide +kernel
theorem dX9_init_19 : decode cX9_init 19 = .ok (.aload_n 0, 1) := by decide +kernel
theorem dX9_init_20 : decode cX9_init 20 = .ok (.iload 4, 2) := by decide +kernel
theorem dX9_init_22 : decode cX9_init 22 = .ok (.putfield 19, 3) := by decide +kernel
theorem dX9_init_25 : decode cX9_init 25 = .ok (.aload_n 0, 1) := by decide +kernel
theorem dX9_init_26 : decode cX9_init 26 = .ok (.iload 5, 2) := by decide +kernel
theorem dX9_init_28 : decode cX9_init 28 = .ok (.putfield 22, 3) := by decide +kernel
theorem dX9_init_31 : decode cX9_init 31 = .ok (.return_, 1) := by decide +kernel
theorem dX9_copy_0 : decode cX9_copy 0 = .ok (.new 8, 3) := by decide +kernel
theorem dX9_copy_3 : decode cX9_copy 3 = .ok (.dup, 1) := by decide +kernel
theorem dX9_copy_4 : decode cX9_copy 4 = .ok (.aload_n 0, 1) := by decide +kernel
theorem dX9_copy_5 : decode cX9_copy 5 = .ok (.getfield 7, 3) := by decide +kernel
theorem dX9_copy_8 : decode cX9_copy 8 = .ok (.aload_n 0, 1) := by decide +kernel
theorem dX9_copy_9 : decode cX9_copy 9 = .ok (.getfield 13, 3) := by decide +kernel
theorem dX9_copy_12 : decode cX9_copy 12 = .ok (.aload_n 0, 1) := by decide +kernel
theorem dX9_copy_13 : decode cX9_copy 13 = .ok (.getfield 16, 3) := by decide +kernel
theorem dX9_copy_16 : decode cX9_copy 16 = .ok (.aload_n 0, 1) := by decide +kernel
theorem dX9_copy_17 : decode cX9_copy 17 = .ok (.getfield 19, 3) := by decide +kernel
theorem dX9_copy_20 : decode cX9_copy 20 = .ok (.aload_n 0, 1) := by decide +kernel
theorem dX9_copy_21 : decode cX9_copy 21 = .ok (.getfield 22, 3) := by decide +kernel
theorem dX9_copy_24 : decode cX9_copy 24 = .ok (.invokespecial 25, 3) := by decide +kernel
theorem dX9_copy_27 : decode cX9_copy 27 = .ok (.astore_n 1, 1) := by decide +kernel
theorem dX9_copy_28 : decode cX9_copy 28 = .ok (.aload_n 1, 1) := by decide +kernel
theorem dX9_copy_29 : decode cX9_copy 29 = .ok (.aload_n 0, 1) := by decide +kernel
theorem dX9_copy_30 : decode cX9_copy 30 = .ok (.getfield 28, 3) := by decide +kernel
theorem dX9_copy_33 : decode cX9_copy 33 = .ok (.putfield 28, 3) := by decide +kernel
theorem dX9_copy_36 : decode cX9_copy 36 = .ok (.aload_n 1, 1) := by decide +kernel
theorem dX9_copy_37 : decode cX9_copy 37 = .ok (.areturn, 1) := by decide +kernel
theorem dX10_init_0 : decode cX10_init 0 = .ok (.aload_n 0, 1) := by decide +kernel
theorem dX10_init_1 : decode cX10_init 1 = .ok (.invokespecial 1, 3) := by decide +kernel
theorem dX10_init_4 : decode cX10_init 4 = .ok (.aload_n 0, 1) := by decide +kernel
theorem dX10_init_5 : decode cX10_init 5 = .ok (.iload_n 1, 1) := by decide +kernel
theorem dX10_init_6 : decode cX10_init 6 = .ok (.putfield 7, 3) := by decide +kernel
theorem dX10_init_9 : decode cX10_init 9 = .ok (.aload_n 0, 1) := by decide +kernel
theorem dX10_init_10 : decode cX10_init 10 = .ok (.iload_n 2, 1) := by decide +kernel
theorem dX10_init_11 : decode cX10_init 11 = .ok (.putfield 13, 3) := by decide +kernel
theorem dX10_init_14 : decode cX10_init 14 = .ok (.aload_n 0, 1) := by decide +kernel
theorem dX10_init_15 : decode cX10_init 15 = .ok (.iload_n 3, 1) := by decide +kernel
theorem dX10_init_16 : decode cX10_init 16 = .ok (.putfield 16, 3) := by decide +kernel
theorem dX10_init_19 : decode cX10_init 19 = .ok (.return_, 1) := by decide +kernel
theorem dX10_copy_0 : decode cX10_copy 0 = .ok (.new 8, 3) := by decide +kernel
theorem dX10_copy_3 : decode cX10_copy 3 = .ok (.dup, 1) := by decide +kernel
theorem dX10_copy_4 : decode cX10_copy 4 = .ok (.aload_n 0, 1) := by decide +kernel
theorem dX10_copy_5 : decode cX10_copy 5 = .ok (.getfield 7, 3) := by decide +kernel
theorem dX10_copy_8 : decode cX10_copy 8 = .ok (.aload_n 0, 1) := by decide +kernel
theorem dX10_copy_9 : decode cX10_copy 9 = .ok (.getfield 13, 3) := by decide +kernel
theorem dX10_copy_12 : decode cX10_copy 12 = .ok (.aload_n 0, 1) := by decide +kernel
theorem dX10_copy_13 : decode cX10_copy 13 = .ok (.getfield 16, 3) := by decide +kernel
theorem dX10_copy_16 : decode cX10_copy 16 = .ok (.invokespecial 19, 3) := by decide +kernel
theorem dX10_copy_19 : decode cX10_copy 19 = .ok (.astore_n 1, 1) := by decide +kernel
theorem dX10_copy_20 : decode cX10_copy 20 = .ok (.aload_n 1, 1) := by decide +kernel
theorem dX10_copy_21 : decode cX10_copy 21 = .ok (.aload_n 0, 1) := by decide +kernel
theorem dX10_copy_22 : decode cX10_copy 22 = .ok (.getfield 22, 3) := by decide +kernel
theorem dX10_copy_25 : decode cX10_copy 25 = .ok (.putfield 22, 3) := by decide +kernel
theorem dX10_copy_28 : decode cX10_copy 28 = .ok (.aload_n 1, 1) := by decide +kernel
theorem dX10_copy_29 : decode cX10_copy 29 = .ok (.aload_n 0, 1) := by decide +kernel
theorem dX10_copy_30 : decode cX10_copy 30 = .ok (.getfield 25, 3) := by decide +kernel
theorem dX10_copy_33 : decode cX10_copy 33 = .ok (.putfield 25, 3) := by decide +kernel
theorem dX10_copy_36 : decode cX10_copy 36 = .ok (.aload_n 1, 1) := by decide +kernel
theorem dX10_copy_37 : decode cX10_copy 37 = .ok (.aload_n 0, 1) := by decide +kernel
theorem dX10_copy_38 : decode cX10_copy 38 = .ok (.getfield 28, 3) := by decide +kernel
theorem dX10_copy_41 : decode cX10_copy 41 = .ok (.putfield 28, 3) := by decide +kernel
theorem dX10_copy_44 : decode cX10_copy 44 = .ok (.aload_n 1, 1) := by decide +kernel
theorem dX10_copy_45 : decode cX10_copy 45 = .ok (.aload_n 0, 1) := by decide +kernel
theorem dX10_copy_46 : decode cX10_copy 46 = .ok (.getfield 31, 3) := by decide +kernel
theorem dX10_copy_49 : decode cX10_copy 49 = .ok (.putfield 31, 3) := by decide +kernel
theorem dX10_copy_52 : decode cX10_copy 52 = .ok (.aload_n 1, 1) := by decide +kernel
theorem dX10_copy_53 : decode cX10_copy 53 = .ok (.areturn, 1) := by decide +kernel
theorem dX11_init_0 : decode cX11_init 0 = .ok (.aload_n 0, 1) := by decide +kernel
theorem dX11_init_1 : decode cX11_init 1 = .ok (.invokespecial 1, 3) := by decide +kernel
theorem dX11_init_4 : decode cX11_init 4 = .ok (.aload_n 0, 1) := by decide +kernel
theorem dX11_init_5 : decode cX11_init 5 = .ok (.iload_n 1, 1) := by decide +kernel
theorem dX11_init_6 : decode cX11_init 6 = .ok (.putfield 7, 3) := by decide +kernel
theorem dX11_init_9 : decode cX11_init 9 = .ok (.aload_n 0, 1) := by decide +kernel
theorem dX11_init_10 : decode cX11_init 10 = .ok (.iload_n 2, 1) := by decide +kernel
theorem dX11_init_11 : decode cX11_init 11 = .ok (.putfield 13, 3) := by decide +kernel
theorem dX11_init_14 : decode cX11_init 14 = .ok (.aload_n 0, 1) := by decide +kernel
theorem dX11_init_15 : decode cX11_init 15 = .ok (.iload_n 3, 1) := by decide +kernel
theorem dX11_init_16 : decode cX11_init 16 = .ok (.putfield 16, 3) := by decide +kernel
theorem dX11_init_19 : decode cX11_init 19 = .ok (.return_, 1) := by decide +kernel
theorem dX11_copy_0 : decode cX11_copy 0 = .ok (.new 8, 3) := by decide +kernel
theorem dX11_copy_3 : decode cX11_copy 3 = .ok (.dup, 1) := by decide +kernel
theorem dX11_copy_4 : decode cX11_copy 4 = .ok (.aload_n 0, 1) := by decide +kernel
theorem dX11_copy_5 : decode cX11_copy 5 = .ok (.getfield 7, 3) := by decide +kernel
theorem dX11_copy_8 : decode cX11_copy 8 = .ok (.aload_n 0, 1) := by decide +kernel
theorem dX11_copy_9 : decode cX11_copy 9 = .ok (.getfield 13, 3) := by decide +kernel
theorem dX11_copy_12 : decode cX11_copy 12 = .ok (.aload_n 0, 1) := by decide +kernel
theorem dX11_copy_13 : decode cX11_copy 13 = .ok (.getfield 16, 3) := by decide +kernel
theorem dX11_copy_16 : decode cX11_copy 16 = .ok (.invokespecial 19, 3) := by decide +kernel
theorem dX11_copy_19 : decode cX11_copy 19 = .ok (.astore_n 1, 1) := by decide +kernel
theorem dX11_copy_20 : decode cX11_copy 20 = .ok (.aload_n 1, 1) := by decide +kernel
theorem dX11_copy_21 : decode cX11_copy 21 = .ok (.aload_n 0, 1) := by decide +kernel
theorem dX11_copy_22 : decode cX11_copy 22 = .ok (.getfield 22, 3) := by decide +kernel
theorem dX11_copy_25 : decode cX11_copy 25 = .ok (.putfield 22, 3) := by decide +kernel
theorem dX11_copy_28 : decode cX11_copy 28 = .ok (.aload_n 1, 1) := by decide +kernel
theorem dX11_copy_29 : decode cX11_copy 29 = .ok (.aload_n 0, 1) := by decide +kernel
theorem dX11_copy_30 : decode cX11_copy 30 = .ok (.getfield 25, 3) := by decide +kernel
theorem dX11_copy_33 : decode cX11_copy 33 = .ok (.putfield 25, 3) := by decide +kernel
theorem dX11_copy_36 : decode cX11_copy 36 = .ok (.aload_n 1, 1) := by decide +kernel
theorem dX11_copy_37 : decode cX11_copy 37 = .ok (.aload_n 0, 1) := by decide +kernel
theorem dX11_copy_38 : decode cX11_copy 38 = .ok (.getfield 28, 3) := by decide +kernel
theorem dX11_copy_41 : decode cX11_copy 41 = .ok (.putfield 28, 3) := by decide +kernel
theorem dX11_copy_44 : decode cX11_copy 44 = .ok (.aload_n 1, 1) := by decide +kernel
theorem dX11_copy_45 : decode cX11_copy 45 = .ok (.aload_n 0, 1) := by decide +kernel
theorem dX11_copy_46 : decode cX11_copy 46 = .ok (.getfield 31, 3) := by decide +kernel
theorem dX11_copy_49 : decode cX11_copy 49 = .ok (.putfield 31, 3) := by decide +kernel
theorem dX11_copy_52 : decode cX11_copy 52 = .ok (.aload_n 1, 1) := by decide +kernel
theorem dX11_copy_53 : decode cX11_copy 53 = .ok (.areturn, 1) := by decide +kernel
theorem dX12_init_0 : decode cX12_init 0 = .ok (.aload_n 0, 1) := by decide +kernel
theorem dX12_init_1 : decode cX12_init 1 = .ok (.invokespecial 1, 3) := by decide +kernel
theorem dX12_init_4 : decode cX12_init 4 = .ok (.aload_n 0, 1) := by decide +kernel
theorem dX12_init_5 : decode cX12_init 5 = .ok (.bipush 100, 2) := by decide +kernel
theorem dX12_init_7 : decode cX12_init 7 = .ok (.putfield 7, 3) := by decide +kernel
theorem dX12_init_10 : decode cX12_init 10 = .ok (.aload_n 0, 1) := by decide +kernel
theorem dX12_init_11 : decode cX12_init 11 = .ok (.bipush 100, 2) := by decide +kernel
theorem dX12_init_13 : decode cX12_init 13 = .ok (.putfield 13, 3) := by decide +kernel
theorem dX12_init_16 : decode cX12_init 16 = .ok (.aload_n 0, 1) := by decide +kernel
theorem dX12_init_17 : decode cX12_init 17 = .ok (.new 16, 3) := by decide +kernel
theorem dX12_init_20 : decode cX12_init 20 = .ok (.dup, 1) := by decide +kernel
theorem dX12_init_21 : decode cX12_init 21 = .ok (.invokespecial 18, 3) := by decide +kernel
theorem dX12_init_24 : decode cX12_init 24 = .ok (.putfield 19, 3) := by decide +kernel
theorem dX12_init_27 : decode cX12_init 27 = .ok (.aload_n 0, 1) := by decide +kernel
theorem dX12_init_28 : decode cX12_init 28 = .ok (.new 16, 3) := by decide +kernel
theorem dX12_init_31 : decode cX12_init 31 = .ok (.dup, 1) := by decide +kernel
theorem dX12_init_32 : decode cX12_init 32 = .ok (.invokespecial 18, 3) := by decide +kernel
theorem dX12_init_35 : decode cX12_init 35 = .ok (.putfield 23, 3) := by decide +kernel
theorem dX12_init_38 : decode cX12_init 38 = .ok (.aload_n 0, 1) := by decide +kernel
theorem dX12_init_39 : decode cX12_init 39 = .ok (.new 16, 3) := by decide +kernel
theorem dX12_init_42 : decode cX12_init 42 = .ok (.dup, 1) := by decide +kernel
theorem dX12_init_43 : decode cX12_init 43 = .ok (.invokespecial 18, 3) := by decide +kernel
theorem dX12_init_46 : decode cX12_init 46 = .ok (.putfield 26, 3) := by decide +kernel
theorem dX12_init_49 : decode cX12_init 49 = .ok (.aload_n 0, 1) := by decide +kernel
theorem dX12_init_50 : decode cX12_init 50 = .ok (.new 16, 3) := by decide +kernel
theorem dX12_init_53 : decode cX12_init 53 = .ok (.dup, 1) := by decide +kernel
theorem dX12_init_54 : decode cX12_init 54 = .ok (.invokespecial 18, 3) := by decide +kernel
theorem dX12_init_57 : decode cX12_init 57 = .ok (.putfield 29, 3) := by decide +kernel
theorem dX12_init_60 : decode cX12_init 60 = .ok (.aload_n 0, 1) := by decide +kernel
theorem dX12_init_61 : decode cX12_init 61 = .ok (.new 16, 3) := by decide +kernel
theorem dX12_init_64 : decode cX12_init 64 = .ok (.dup, 1) := by decide +kernel
theorem dX12_init_65 : decode cX12_init 65 = .ok (.invokespecial 18, 3) := by decide +kernel
theorem dX12_init_68 : decode cX12_init 68 = .ok (.putfield 32, 3) := by decide +kernel
theorem dX12_init_71 : decode cX12_init 71 = .ok (.aload_n 0, 1) := by decide +kernel
theorem dX12_init_72 : decode cX12_init 72 = .ok (.new 16, 3) := by decide +kernel
theorem dX12_init_75 : decode cX12_init 75 = .ok (.dup, 1) := by decide +kernel
theorem dX12_init_76 : decode cX12_init 76 = .ok (.invokespecial 18, 3) := by decide +kernel
theorem dX12_init_79 : decode cX12_init 79 = .ok (.putfield 35, 3) := by decide +kernel
theorem dX12_init_82 : decode cX12_init 82 = .ok (.aload_n 0, 1) := by decide +kernel
theorem dX12_init_83 : decode cX12_init 83 = .ok (.new 16, 3) := by decide +kernel
theorem dX12_init_86 : decode cX12_init 86 = .ok (.dup, 1) := by decide +kernel
theorem dX12_init_87 : decode cX12_init 87 = .ok (.invokespecial 18, 3) := by decide +kernel
theorem dX12_init_90 : decode cX12_init 90 = .ok (.putfield 38, 3) := by decide +kernel
theorem dX12_init_93 : decode cX12_init 93 = .ok (.return_, 1) := by decide +kernel
theorem dX12_copy_0 : decode cX12_copy 0 = .ok (.new 8, 3) := by decide +kernel
theorem dX12_copy_3 : decode cX12_copy 3 = .ok (.dup, 1) := by decide +kernel
theorem dX12_copy_4 : decode cX12_copy 4 = .ok (.invokespecial 41, 3) := by decide +kernel
theorem dX12_copy_7 : decode cX12_copy 7 = .ok (.astore_n 1, 1) := by decide +kernel
theorem dX12_copy_8 : decode cX12_copy 8 = .ok (.aload_n 1, 1) := by decide +kernel
theorem dX12_copy_9 : decode cX12_copy 9 = .ok (.aload_n 0, 1) := by decide +kernel
theorem dX12_copy_10 : decode cX12_copy 10 = .ok (.getfield 7, 3) := by decide +kernel
theorem dX12_copy_13 : decode cX12_copy 13 = .ok (.putfield 7, 3) := by decide +kernel
theorem dX12_copy_16 : decode cX12_copy 16 = .ok (.aload_n 1, 1) := by decide +kernel
theorem dX12_copy_17 : decode cX12_copy 17 = .ok (.aload_n 0, 1) := by decide +kernel
theorem dX12_copy_18 : decode cX12_copy 18 = .ok (.getfield 13, 3) := by decide +kernel
theorem dX12_copy_21 : decode cX12_copy 21 = .ok (.putfield 13, 3) := by decide +kernel
theorem dX12_copy_24 : decode cX12_copy 24 = .ok (.aload_n 1, 1) := by decide +kernel
theorem dX12_copy_25 : decode cX12_copy 25 = .ok (.aload_n 0, 1) := by decide +kernel
theorem dX12_copy_26 : decode cX12_copy 26 = .ok (.getfield 42, 3) := by decide +kernel
theorem dX12_copy_29 : decode cX12_copy 29 = .ok (.putfield 42, 3) := by decide +kernel
theorem dX12_copy_32 : decode cX12_copy 32 = .ok (.aload_n 1, 1) := by decide +kernel
theorem dX12_copy_33 : decode cX12_copy 33 = .ok (.aload_n 0, 1) := by decide +kernel
theorem dX12_copy_34 : decode cX12_copy 34 = .ok (.getfield 45, 3) := by decide +kernel
theorem dX12_copy_37 : decode cX12_copy 37 = .ok (.putfield 45, 3) := by decide +kernel
theorem dX12_copy_40 : decode cX12_copy 40 = .ok (.aload_n 1, 1) := by decide +kernel
theorem dX12_copy_41 : decode cX12_copy 41 = .ok (.aload_n 0, 1) := by decide +kernel
theorem dX12_copy_42 : decode cX12_copy 42 = .ok (.getfield 49, 3) := by decide +kernel
theorem dX12_copy_45 : decode cX12_copy 45 = .ok (.putfield 49, 3) := by decide +kernel
theorem dX12_copy_48 : decode cX12_copy 48 = .ok (.aload_n 1, 1) := by decide +kernel
theorem dX12_copy_49 : decode cX12_copy 49 = .ok (.aload_n 0, 1) := by decide +kernel
theorem dX12_copy_50 : decode cX12_copy 50 = .ok (.getfield 52, 3) := by decide +kernel
theorem dX12_copy_53 : decode cX12_copy 53 = .ok (.putfield 52, 3) := by decide +kernel
theorem dX12_copy_56 : decode cX12_copy 56 = .ok (.aload_n 1, 1) := by decide +kernel
theorem dX12_copy_57 : decode cX12_copy 57 = .ok (.aload_n 0, 1) := by decide +kernel
theorem dX12_copy_58 : decode cX12_copy 58 = .ok (.getfield 55, 3) := by decide +kernel
theorem dX12_copy_61 : decode cX12_copy 61 = .ok (.putfield 55, 3) := by decide +kernel
theorem dX12_copy_64 : decode cX12_copy 64 = .ok (.aload_n 1, 1) := by decide +kernel
theorem dX12_copy_65 : decode cX12_copy 65 = .ok (.getfield 19, 3) := by decide +kernel
theorem dX12_copy_68 : decode cX12_copy 68 = .ok (.aload_n 0, 1) := by decide +kernel
theorem dX12_copy_69 : decode cX12_copy 69 = .ok (.getfield 19, 3) := by decide +kernel
theorem dX12_copy_72 : decode cX12_copy 72 = .ok (.invokevirtual 58, 3) := by decide +kernel
theorem dX12_copy_75 : decode cX12_copy 75 = .ok (.pop, 1) := by decide +kernel
theorem dX12_copy_76 : decode cX12_copy 76 = .ok (.aload_n 1, 1) := by decide +kernel
theorem dX12_copy_77 : decode cX12_copy 77 = .ok (.getfield 23, 3) := by decide +kernel
theorem dX12_copy_80 : decode cX12_copy 80 = .ok (.aload_n 0, 1) := by decide +kernel
theorem dX12_copy_81 : decode cX12_copy 81 = .ok (.getfield 23, 3) := by decide +kernel
theorem dX12_copy_84 : decode cX12_copy 84 = .ok (.invokevirtual 58, 3) := by decide +kernel
theorem dX12_copy_87 : decode cX12_copy 87 = .ok (.pop, 1) := by decide +kernel
theorem dX12_copy_88 : decode cX12_copy 88 = .ok (.aload_n 0, 1) := by decide +kernel
theorem dX12_copy_89 : decode cX12_copy 89 = .ok (.getfield 26, 3) := by decide +kernel
theorem dX12_copy_92 : decode cX12_copy 92 = .ok (.invokevirtual 62, 3) := by decide +kernel
theorem dX12_copy_95 : decode cX12_copy 95 = .ok (.astore_n 2, 1) := by decide +kernel
theorem dX12_copy_96 : decode cX12_copy 96 = .ok (.aload_n 2, 1) := by decide +kernel
theorem dX12_copy_97 : decode cX12_copy 97 = .ok (.invokeinterface 66 1, 5) := by decide +kernel
theorem dX12_copy_102 : decode cX12_copy 102 = .ok (.ifCond .eq 31, 3) := by decide +kernel
theorem dX12_copy_105 : decode cX12_copy 105 = .ok (.aload_n 2, 1) := by decide +kernel
theorem dX12_copy_106 : decode cX12_copy 106 = .ok (.invokeinterface 72 1, 5) := by decide +kernel
theorem dX12_copy_111 : decode cX12_copy 111 = .ok (.checkcast 76, 3) := by decide +kernel
theorem dX12_copy_114 : decode cX12_copy 114 = .ok (.astore_n 3, 1) := by decide +kernel
theorem dX12_copy_115 : decode cX12_copy 115 = .ok (.aload_n 1, 1) := by decide +kernel
theorem dX12_copy_116 : decode cX12_copy 116 = .ok (.getfield 26, 3) := by decide +kernel
theorem dX12_copy_119 : decode cX12_copy 119 = .ok (.aload_n 3, 1) := by decide +kernel
theorem dX12_copy_120 : decode cX12_copy 120 = .ok (.invokevirtual 78, 3) := by decide +kernel
theorem dX12_copy_123 : decode cX12_copy 123 = .ok (.checkcast 76, 3) := by decide +kernel
theorem dX12_copy_126 : decode cX12_copy 126 = .ok (.invokevirtual 81, 3) := by decide +kernel
theorem dX12_copy_129 : decode cX12_copy 129 = .ok (.pop, 1) := by decide +kernel
theorem dX12_copy_130 : decode cX12_copy 130 = .ok (.goto (-34), 3) := by decide +kernel
theorem dX12_copy_133 : decode cX12_copy 133 = .ok (.aload_n 0, 1) := by decide +kernel
theorem dX12_copy_134 : decode cX12_copy 134 = .ok (.getfield 29, 3) := by decide +kernel
theorem dX12_copy_137 : decode cX12_copy 137 = .ok (.invokevirtual 62, 3) := by decide +kernel
theorem dX12_copy_140 : decode cX12_copy 140 = .ok (.astore_n 2, 1) := by decide +kernel
theorem dX12_copy_141 : decode cX12_copy 141 = .ok (.aload_n 2, 1) := by decide +kernel
theorem dX12_copy_142 : decode cX12_copy 142 = .ok (.invokeinterface 66 1, 5) := by decide +kernel
theorem dX12_copy_147 : decode cX12_copy 147 = .ok (.ifCond .eq 28, 3) := by decide +kernel
theorem dX12_copy_150 : decode cX12_copy 150 = .ok (.aload_n 2, 1) := by decide +kernel
theorem dX12_copy_151 : decode cX12_copy 151 = .ok (.invokeinterface 72 1, 5) := by decide +kernel
theorem dX12_copy_156 : decode cX12_copy 156 = .ok (.checkcast 85, 3) := by decide +kernel
theorem dX12_copy_159 : decode cX12_copy 159 = .ok (.astore_n 3, 1) := by decide +kernel
theorem dX12_copy_160 : decode cX12_copy 160 = .ok (.aload_n 1, 1) := by decide +kernel
theorem dX12_copy_161 : decode cX12_copy 161 = .ok (.getfield 29, 3) := by decide +kernel
theorem dX12_copy_164 : decode cX12_copy 164 = .ok (.aload_n 3, 1) := by decide +kernel
theorem dX12_copy_165 : decode cX12_copy 165 = .ok (.invokevirtual 87, 3) := by decide +kernel
theorem dX12_copy_168 : decode cX12_copy 168 = .ok (.invokevirtual 81, 3) := by decide +kernel
theorem dX12_copy_171 : decode cX12_copy 171 = .ok (.pop, 1) := by decide +kernel
theorem dX12_copy_172 : decode cX12_copy 172 = .ok (.goto (-31), 3) := by decide +kernel
theorem dX12_copy_175 : decode cX12_copy 175 = .ok (.aload_n 0, 1) := by decide +kernel
theorem dX12_copy_176 : decode cX12_copy 176 = .ok (.getfield 32, 3) := by decide +kernel
theorem dX12_copy_179 : decode cX12_copy 179 = .ok (.invokevirtual 62, 3) := by decide +kernel
theorem dX12_copy_182 : decode cX12_copy 182 = .ok (.astore_n 2, 1) := by decide +kernel
theorem dX12_copy_183 : decode cX12_copy 183 = .ok (.aload_n 2, 1) := by decide +kernel
theorem dX12_copy_184 : decode cX12_copy 184 = .ok (.invokeinterface 66 1, 5) := by decide +kernel
theorem dX12_copy_189 : decode cX12_copy 189 = .ok (.ifCond .eq 28, 3) := by decide +kernel
theorem dX12_copy_192 : decode cX12_copy 192 = .ok (.aload_n 2, 1) := by decide +kernel
theorem dX12_copy_193 : decode cX12_copy 193 = .ok (.invokeinterface 72 1, 5) := by decide +kernel
theorem dX12_copy_198 : decode cX12_copy 198 = .ok (.checkcast 91, 3) := by decide +kernel
theorem dX12_copy_201 : decode cX12_copy 201 = .ok (.astore_n 3, 1) := by decide +kernel
theorem dX12_copy_202 : decode cX12_copy 202 = .ok (.aload_n 1, 1) := by decide +kernel
theorem dX12_copy_203 : decode cX12_copy 203 = .ok (.getfield 32, 3) := by decide +kernel
theorem dX12_copy_206 : decode cX12_copy 206 = .ok (.aload_n 3, 1) := by decide +kernel
theorem dX12_copy_207 : decode cX12_copy 207 = .ok (.invokevirtual 93, 3) := by decide +kernel
theorem dX12_copy_210 : decode cX12_copy 210 = .ok (.invokevirtual 81, 3) := by decide +kernel
theorem dX12_copy_213 : decode cX12_copy 213 = .ok (.pop, 1) := by decide +kernel
theorem dX12_copy_214 : decode cX12_copy 214 = .ok (.goto (-31), 3) := by decide +kernel
theorem dX12_copy_217 : decode cX12_copy 217 = .ok (.aload_n 0, 1) := by decide +kernel
theorem dX12_copy_218 : decode cX12_copy 218 = .ok (.getfield 35, 3) := by decide +kernel
theorem dX12_copy_221 : decode cX12_copy 221 = .ok (.invokevirtual 62, 3) := by decide +kernel
theorem dX12_copy_224 : decode cX12_copy 224 = .ok (.astore_n 2, 1) := by decide +kernel
theorem dX12_copy_225 : decode cX12_copy 225 = .ok (.aload_n 2, 1) := by decide +kernel
theorem dX12_copy_226 : decode cX12_copy 226 = .ok (.invokeinterface 66 1, 5) := by decide +kernel
theorem dX12_copy_231 : decode cX12_copy 231 = .ok (.ifCond .eq 28, 3) := by decide +kernel
theorem dX12_copy_234 : decode cX12_copy 234 = .ok (.aload_n 2, 1) := by decide +kernel
theorem dX12_copy_235 : decode cX12_copy 235 = .ok (.invokeinterface 72 1, 5) := by decide +kernel
theorem dX12_copy_240 : decode cX12_copy 240 = .ok (.checkcast 96, 3) := by decide +kernel
theorem dX12_copy_243 : decode cX12_copy 243 = .ok (.astore_n 3, 1) := by decide +kernel
theorem dX12_copy_244 : decode cX12_copy 244 = .ok (.aload_n 1, 1) := by decide +kernel
theorem dX12_copy_245 : decode cX12_copy 245 = .ok (.getfield 35, 3) := by decide +kernel
theorem dX12_copy_248 : decode cX12_copy 248 = .ok (.aload_n 3, 1) := by decide +kernel
theorem dX12_copy_249 : decode cX12_copy 249 = .ok (.invokevirtual 98, 3) := by decide +kernel
theorem dX12_copy_252 : decode cX12_copy 252 = .ok (.invokevirtual 81, 3) := by decide +kernel
theorem dX12_copy_255 : decode cX12_copy 255 = .ok (.pop, 1) := by decide +kernel
theorem dX12_copy_256 : decode cX12_copy 256 = .ok (.goto (-31), 3) := by decide +kernel
theorem dX12_copy_259 : decode cX12_copy 259 = .ok (.aload_n 0, 1) := by decide +kernel
theorem dX12_copy_260 : decode cX12_copy 260 = .ok (.getfield 38, 3) := by decide +kernel
theorem dX12_copy_263 : decode cX12_copy 263 = .ok (.invokevirtual 62, 3) := by decide +kernel
theorem dX12_copy_266 : decode cX12_copy 266 = .ok (.astore_n 2, 1) := by decide +kernel
theorem dX12_copy_267 : decode cX12_copy 267 = .ok (.aload_n 2, 1) := by decide +kernel
theorem dX12_copy_268 : decode cX12_copy 268 = .ok (.invokeinterface 66 1, 5) := by decide +kernel
theorem dX12_copy_273 : decode cX12_copy 273 = .ok (.ifCond .eq 28, 3) := by decide +kernel
theorem dX12_copy_276 : decode cX12_copy 276 = .ok (.aload_n 2, 1) := by decide +kernel
theorem dX12_copy_277 : decode cX12_copy 277 = .ok (.invokeinterface 72 1, 5) := by decide +kernel
theorem dX12_copy_282 : decode cX12_copy 282 = .ok (.checkcast 101, 3) := by decide +kernel
theorem dX12_copy_285 : decode cX12_copy 285 = .ok (.astore_n 3, 1) := by decide +kernel
theorem dX12_copy_286 : decode cX12_copy 286 = .ok (.aload_n 1, 1) := by decide +kernel
theorem dX12_copy_287 : decode cX12_copy 287 = .ok (.getfield 38, 3) := by decide +kernel
theorem dX12_copy_290 : decode cX12_copy 290 = .ok (.aload_n 3, 1) := by decide +kernel
theorem dX12_copy_291 : decode cX12_copy 291 = .ok (.invokevirtual 103, 3) := by decide +kernel
theorem dX12_copy_294 : decode cX12_copy 294 = .ok (.invokevirtual 81, 3) := by decide +kernel
theorem dX12_copy_297 : decode cX12_copy 297 = .ok (.pop, 1) := by decide +kernel
theorem dX12_copy_298 : decode cX12_copy 298 = .ok (.goto (-31), 3) := by decide +kernel
theorem dX12_copy_301 : decode cX12_copy 301 = .ok (.aload_n 1, 1) := by decide +kernel
theorem dX12_copy_302 : decode cX12_copy 302 = .ok (.areturn, 1) := by decide +kernel
theorem dX12_room_0 : decode cX12_room 0 = .ok (.aload_n 1, 1) := by decide +kernel
theorem dX12_room_1 : decode cX12_room 1 = .ok (.getfield 106, 3) := by decide +kernel
theorem dX12_room_4 : decode cX12_room 4 = .ok (.aload_n 1, 1) := by decide +kernel
theorem dX12_room_5 : decode cX12_room 5 = .ok (.getfield 109, 3) := by decide +kernel
theorem dX12_room_8 : decode cX12_room 8 = .ok (.aload_n 0, 1) := by decide +kernel
theorem dX12_room_9 : decode cX12_room 9 = .ok (.getfield 7, 3) := by decide +kernel
theorem dX12_room_12 : decode cX12_room 12 = .ok (.idiv, 1) := by decide +kernel
theorem dX12_room_13 : decode cX12_room 13 = .ok (.isub, 1) := by decide +kernel
theorem dX12_room_14 : decode cX12_room 14 = .ok (.istore_n 2, 1) := by decide +kernel
theorem dX12_room_15 : decode cX12_room 15 = .ok (.aload_n 1, 1) := by decide +kernel
theorem dX12_room_16 : decode cX12_room 16 = .ok (.getfield 106, 3) := by decide +kernel
theorem dX12_room_19 : decode cX12_room 19 = .ok (.iconst 1, 1) := by decide +kernel
theorem dX12_room_20 : decode cX12_room 20 = .ok (.iadd, 1) := by decide +kernel
theorem dX12_room_21 : decode cX12_room 21 = .ok (.iconst 2, 1) := by decide +kernel
theorem dX12_room_22 : decode cX12_room 22 = .ok (.idiv, 1) := by decide +kernel
theorem dX12_room_23 : decode cX12_room 23 = .ok (.istore_n 3, 1) := by decide +kernel
theorem dX12_room_24 : decode cX12_room 24 = .ok (.iload_n 2, 1) := by decide +kernel
theorem dX12_room_25 : decode cX12_room 25 = .ok (.iload_n 3, 1) := by decide +kernel
theorem dX12_room_26 : decode cX12_room 26 = .ok (.if_icmp .le 7, 3) := by decide +kernel
theorem dX12_room_29 : decode cX12_room 29 = .ok (.iload_n 2, 1) := by decide +kernel
theorem dX12_room_30 : decode cX12_room 30 = .ok (.goto 4, 3) := by decide +kernel
theorem dX12_room_33 : decode cX12_room 33 = .ok (.iload_n 3, 1) := by decide +kernel
theorem dX12_room_34 : decode cX12_room 34 = .ok (.ireturn, 1) := by decide +kernel
theorem dX12_quarter_0 : decode cX12_quarter 0 = .ok (.ldc2_w 112, 3) := by decide +kernel
theorem dX12_quarter_3 : decode cX12_quarter 3 = .ok (.aload_n 1, 1) := by decide +kernel
theorem dX12_quarter_4 : decode cX12_quarter 4 = .ok (.getfield 114, 3) := by decide +kernel
theorem dX12_quarter_7 : decode cX12_quarter 7 = .ok (.i2l, 1) := by decide +kernel
theorem dX12_quarter_8 : decode cX12_quarter 8 = .ok (.lmul, 1) := by decide +kernel
theorem dX12_quarter_9 : decode cX12_quarter 9 = .ok (.aload_n 0, 1) := by decide +kernel
theorem dX12_quarter_10 : decode cX12_quarter 10 = .ok (.aload_n 1, 1) := by decide +kernel
theorem dX12_quarter_11 : decode cX12_quarter 11 = .ok (.invokevirtual 117, 3) := by decide +kernel
theorem dX12_quarter_14 : decode cX12_quarter 14 = .ok (.i2l, 1) := by decide +kernel
theorem dX12_quarter_15 : decode cX12_quarter 15 = .ok (.ldiv, 1) := by decide +kernel
theorem dX12_quarter_16 : decode cX12_quarter 16 = .ok (.l2i, 1) := by decide +kernel
theorem dX12_quarter_17 : decode cX12_quarter 17 = .ok (.istore_n 2, 1) := by decide +kernel
theorem dX12_quarter_18 : decode cX12_quarter 18 = .ok (.iload_n 2, 1) := by decide +kernel
theorem dX12_quarter_19 : decode cX12_quarter 19 = .ok (.iconst 3, 1) := by decide +kernel
theorem dX12_quarter_20 : decode cX12_quarter 20 = .ok (.if_icmp .le 7, 3) := by decide +kernel
theorem dX12_quarter_23 : decode cX12_quarter 23 = .ok (.iconst 3, 1) := by decide +kernel
theorem dX12_quarter_24 : decode cX12_quarter 24 = .ok (.goto 4, 3) := by decide +kernel
theorem dX12_quarter_27 : decode cX12_quarter 27 = .ok (.iload_n 2, 1) := by decide +kernel
theorem dX12_quarter_28 : decode cX12_quarter 28 = .ok (.ireturn, 1) := by decide +kernel
theorem dX12_weight_0 : decode cX12_weight 0 = .ok (.aload_n 1, 1) := by decide +kernel
theorem dX12_weight_1 : decode cX12_weight 1 = .ok (.getfield 121, 3) := by decide +kernel
theorem dX12_weight_4 : decode cX12_weight 4 = .ok (.ifCond .ge 7, 3) := by decide +kernel
theorem dX12_weight_7 : decode cX12_weight 7 = .ok (.iconst 1, 1) := by decide +kernel
theorem dX12_weight_8 : decode cX12_weight 8 = .ok (.goto 23, 3) := by decide +kernel
theorem dX12_weight_11 : decode cX12_weight 11 = .ok (.aload_n 0, 1) := by decide +kernel
theorem dX12_weight_12 : decode cX12_weight 12 = .ok (.getfield 19, 3) := by decide +kernel
theorem dX12_weight_15 : decode cX12_weight 15 = .ok (.aload_n 1, 1) := by decide +kernel
theorem dX12_weight_16 : decode cX12_weight 16 = .ok (.getfield 121, 3) := by decide +kernel
theorem dX12_weight_19 : decode cX12_weight 19 = .ok (.invokevirtual 124, 3) := by decide +kernel
theorem dX12_weight_22 : decode cX12_weight 22 = .ok (.checkcast 76, 3) := by decide +kernel
theorem dX12_weight_25 : decode cX12_weight 25 = .ok (.aload_n 0, 1) := by decide +kernel
theorem dX12_weight_26 : decode cX12_weight 26 = .ok (.aload_n 1, 1) := by decide +kernel
theorem dX12_weight_27 : decode cX12_weight 27 = .ok (.invokevirtual 128, 3) := by decide +kernel
theorem dX12_weight_30 : decode cX12_weight 30 = .ok (.iaload, 1) := by decide +kernel
theorem dX12_weight_31 : decode cX12_weight 31 = .ok (.ireturn, 1) := by decide +kernel
theorem dX12_spill_0 : decode cX12_spill 0 = .ok (.aload_n 1, 1) := by decide +kernel
theorem dX12_spill_1 : decode cX12_spill 1 = .ok (.getfield 114, 3) := by decide +kernel
theorem dX12_spill_4 : decode cX12_spill 4 = .ok (.aload_n 0, 1) := by decide +kernel
theorem dX12_spill_5 : decode cX12_spill 5 = .ok (.aload_n 1, 1) := by decide +kernel
theorem dX12_spill_6 : decode cX12_spill 6 = .ok (.invokevirtual 117, 3) := by decide +kernel
theorem dX12_spill_9 : decode cX12_spill 9 = .ok (.isub, 1) := by decide +kernel
theorem dX12_spill_10 : decode cX12_spill 10 = .ok (.istore_n 2, 1) := by decide +kernel
theorem dX12_spill_11 : decode cX12_spill 11 = .ok (.iload_n 2, 1) := by decide +kernel
theorem dX12_spill_12 : decode cX12_spill 12 = .ok (.ifCond .gt 4, 3) := by decide +kernel
theorem dX12_spill_15 : decode cX12_spill 15 = .ok (.return_, 1) := by decide +kernel
theorem dX12_spill_16 : decode cX12_spill 16 = .ok (.aload_n 1, 1) := by decide +kernel
theorem dX12_spill_17 : decode cX12_spill 17 = .ok (.dup, 1) := by decide +kernel
theorem dX12_spill_18 : decode cX12_spill 18 = .ok (.getfield 114, 3) := by decide +kernel
theorem dX12_spill_21 : decode cX12_spill 21 = .ok (.iload_n 2, 1) := by decide +kernel
theorem dX12_spill_22 : decode cX12_spill 22 = .ok (.isub, 1) := by decide +kernel
theorem dX12_spill_23 : decode cX12_spill 23 = .ok (.putfield 114, 3) := by decide +kernel
theorem dX12_spill_26 : decode cX12_spill 26 = .ok (.aload_n 0, 1) := by decide +kernel
theorem dX12_spill_27 : decode cX12_spill 27 = .ok (.dup, 1) := by decide +kernel
theorem dX12_spill_28 : decode cX12_spill 28 = .ok (.getfield 55, 3) := by decide +kernel
theorem dX12_spill_31 : decode cX12_spill 31 = .ok (.iload_n 2, 1) := by decide +kernel
theorem dX12_spill_32 : decode cX12_spill 32 = .ok (.i2l, 1) := by decide +kernel
theorem dX12_spill_33 : decode cX12_spill 33 = .ok (.ladd, 1) := by decide +kernel
theorem dX12_spill_34 : decode cX12_spill 34 = .ok (.putfield 55, 3) := by decide +kernel
theorem dX12_spill_37 : decode cX12_spill 37 = .ok (.return_, 1) := by decide +kernel
theorem dX12_take_0 : decode cX12_take 0 = .ok (.aload_n 1, 1) := by decide +kernel
theorem dX12_take_1 : decode cX12_take 1 = .ok (.dup, 1) := by decide +kernel
theorem dX12_take_2 : decode cX12_take 2 = .ok (.getfield 114, 3) := by decide +kernel
theorem dX12_take_5 : decode cX12_take 5 = .ok (.iload_n 2, 1) := by decide +kernel
theorem dX12_take_6 : decode cX12_take 6 = .ok (.iadd, 1) := by decide +kernel
theorem dX12_take_7 : decode cX12_take 7 = .ok (.putfield 114, 3) := by decide +kernel
theorem dX12_take_10 : decode cX12_take 10 = .ok (.aload_n 0, 1) := by decide +kernel
theorem dX12_take_11 : decode cX12_take 11 = .ok (.aload_n 1, 1) := by decide +kernel
theorem dX12_take_12 : decode cX12_take 12 = .ok (.invokevirtual 131, 3) := by decide +kernel
theorem dX12_take_15 : decode cX12_take 15 = .ok (.return_, 1) := by decide +kernel
theorem dX12_give_0 : decode cX12_give 0 = .ok (.aload_n 1, 1) := by decide +kernel
theorem dX12_give_1 : decode cX12_give 1 = .ok (.getfield 109, 3) := by decide +kernel
theorem dX12_give_4 : decode cX12_give 4 = .ok (.i2l, 1) := by decide +kernel
theorem dX12_give_5 : decode cX12_give 5 = .ok (.iload_n 2, 1) := by decide +kernel
theorem dX12_give_6 : decode cX12_give 6 = .ok (.i2l, 1) := by decide +kernel
theorem dX12_give_7 : decode cX12_give 7 = .ok (.aload_n 0, 1) := by decide +kernel
theorem dX12_give_8 : decode cX12_give 8 = .ok (.aload_n 1, 1) := by decide +kernel
theorem dX12_give_9 : decode cX12_give 9 = .ok (.invokevirtual 135, 3) := by decide +kernel
theorem dX12_give_12 : decode cX12_give 12 = .ok (.i2l, 1) := by decide +kernel
theorem dX12_give_13 : decode cX12_give 13 = .ok (.lmul, 1) := by decide +kernel
theorem dX12_give_14 : decode cX12_give 14 = .ok (.ladd, 1) := by decide +kernel
theorem dX12_give_15 : decode cX12_give 15 = .ok (.lstore_n 3, 1) := by decide +kernel
theorem dX12_give_16 : decode cX12_give 16 = .ok (.aload_n 1, 1) := by decide +kernel
theorem dX12_give_17 : decode cX12_give 17 = .ok (.lload_n 3, 1) := by decide +kernel
theorem dX12_give_18 : decode cX12_give 18 = .ok (.ldc2_w 138, 3) := by decide +kernel
theorem dX12_give_21 : decode cX12_give 21 = .ok (.lcmp, 1) := by decide +kernel
theorem dX12_give_22 : decode cX12_give 22 = .ok (.ifCond .le 8, 3) := by decide +kernel
theorem dX12_give_25 : decode cX12_give 25 = .ok (.ldc 140, 2) := by decide +kernel
theorem dX12_give_27 : decode cX12_give 27 = .ok (.goto 5, 3) := by decide +kernel
theorem dX12_give_30 : decode cX12_give 30 = .ok (.lload_n 3, 1) := by decide +kernel
theorem dX12_give_31 : decode cX12_give 31 = .ok (.l2i, 1) := by decide +kernel
theorem dX12_give_32 : decode cX12_give 32 = .ok (.putfield 109, 3) := by decide +kernel
theorem dX12_give_35 : decode cX12_give 35 = .ok (.aload_n 1, 1) := by decide +kernel
theorem dX12_give_36 : decode cX12_give 36 = .ok (.dup, 1) := by decide +kernel
theorem dX12_give_37 : decode cX12_give 37 = .ok (.getfield 114, 3) := by decide +kernel
theorem dX12_give_40 : decode cX12_give 40 = .ok (.iload_n 2, 1) := by decide +kernel
theorem dX12_give_41 : decode cX12_give 41 = .ok (.isub, 1) := by decide +kernel
theorem dX12_give_42 : decode cX12_give 42 = .ok (.putfield 114, 3) := by decide +kernel
theorem dX12_give_45 : decode cX12_give 45 = .ok (.aload_n 0, 1) := by decide +kernel
theorem dX12_give_46 : decode cX12_give 46 = .ok (.aload_n 1, 1) := by decide +kernel
theorem dX12_give_47 : decode cX12_give 47 = .ok (.invokevirtual 131, 3) := by decide +kernel
theorem dX12_give_50 : decode cX12_give 50 = .ok (.return_, 1) := by decide +kernel
theorem dX12_cable_0 : decode cX12_cable 0 = .ok (.aload_n 0, 1) := by decide +kernel
theorem dX12_cable_1 : decode cX12_cable 1 = .ok (.getfield 32, 3) := by decide +kernel
theorem dX12_cable_4 : decode cX12_cable 4 = .ok (.invokevirtual 62, 3) := by decide +kernel
theorem dX12_cable_7 : decode cX12_cable 7 = .ok (.astore_n 3, 1) := by decide +kernel
theorem dX12_cable_8 : decode cX12_cable 8 = .ok (.aload_n 3, 1) := by decide +kernel
theorem dX12_cable_9 : decode cX12_cable 9 = .ok (.invokeinterface 66 1, 5) := by decide +kernel
theorem dX12_cable_14 : decode cX12_cable 14 = .ok (.ifCond .eq 56, 3) := by decide +kernel
theorem dX12_cable_17 : decode cX12_cable 17 = .ok (.aload_n 3, 1) := by decide +kernel
theorem dX12_cable_18 : decode cX12_cable 18 = .ok (.invokeinterface 72 1, 5) := by decide +kernel
theorem dX12_cable_23 : decode cX12_cable 23 = .ok (.checkcast 91, 3) := by decide +kernel
theorem dX12_cable_26 : decode cX12_cable 26 = .ok (.astore 4, 2) := by decide +kernel
theorem dX12_cable_28 : decode cX12_cable 28 = .ok (.aload 4, 2) := by decide +kernel
theorem dX12_cable_30 : decode cX12_cable 30 = .ok (.getfield 141, 3) := by decide +kernel
theorem dX12_cable_33 : decode cX12_cable 33 = .ok (.iload_n 1, 1) := by decide +kernel
theorem dX12_cable_34 : decode cX12_cable 34 = .ok (.if_icmp .ne 12, 3) := by decide +kernel
theorem dX12_cable_37 : decode cX12_cable 37 = .ok (.aload 4, 2) := by decide +kernel
theorem dX12_cable_39 : decode cX12_cable 39 = .ok (.getfield 144, 3) := by decide +kernel
theorem dX12_cable_42 : decode cX12_cable 42 = .ok (.iload_n 2, 1) := by decide +kernel
theorem dX12_cable_43 : decode cX12_cable 43 = .ok (.if_icmp .eq 21, 3) := by decide +kernel
theorem dX12_cable_46 : decode cX12_cable 46 = .ok (.aload 4, 2) := by decide +kernel
theorem dX12_cable_48 : decode cX12_cable 48 = .ok (.getfield 141, 3) := by decide +kernel
theorem dX12_cable_51 : decode cX12_cable 51 = .ok (.iload_n 2, 1) := by decide +kernel
theorem dX12_cable_52 : decode cX12_cable 52 = .ok (.if_icmp .ne 15, 3) := by decide +kernel
theorem dX12_cable_55 : decode cX12_cable 55 = .ok (.aload 4, 2) := by decide +kernel
theorem dX12_cable_57 : decode cX12_cable 57 = .ok (.getfield 144, 3) := by decide +kernel
theorem dX12_cable_60 : decode cX12_cable 60 = .ok (.iload_n 1, 1) := by decide +kernel
theorem dX12_cable_61 : decode cX12_cable 61 = .ok (.if_icmp .ne 6, 3) := by decide +kernel
theorem dX12_cable_64 : decode cX12_cable 64 = .ok (.aload 4, 2) := by decide +kernel
theorem dX12_cable_66 : decode cX12_cable 66 = .ok (.areturn, 1) := by decide +kernel
theorem dX12_cable_67 : decode cX12_cable 67 = .ok (.goto (-59), 3) := by decide +kernel
theorem dX12_cable_70 : decode cX12_cable 70 = .ok (.aconst_null, 1) := by decide +kernel
theorem dX12_cable_71 : decode cX12_cable 71 = .ok (.areturn, 1) := by decide +kernel
theorem dX12_gain_0 : decode cX12_gain 0 = .ok (.iconst 0, 1) := by decide +kernel
theorem dX12_gain_1 : decode cX12_gain 1 = .ok (.istore_n 3, 1) := by decide +kernel
theorem dX12_gain_2 : decode cX12_gain 2 = .ok (.aload_n 0, 1) := by decide +kernel
theorem dX12_gain_3 : decode cX12_gain 3 = .ok (.getfield 23, 3) := by decide +kernel
theorem dX12_gain_6 : decode cX12_gain 6 = .ok (.invokevirtual 62, 3) := by decide +kernel
theorem dX12_gain_9 : decode cX12_gain 9 = .ok (.astore 4, 2) := by decide +kernel
theorem dX12_gain_11 : decode cX12_gain 11 = .ok (.aload 4, 2) := by decide +kernel
theorem dX12_gain_13 : decode cX12_gain 13 = .ok (.invokeinterface 66 1, 5) := by decide +kernel
theorem dX12_gain_18 : decode cX12_gain 18 = .ok (.ifCond .eq 49, 3) := by decide +kernel
theorem dX12_gain_21 : decode cX12_gain 21 = .ok (.aload 4, 2) := by decide +kernel
theorem dX12_gain_23 : decode cX12_gain 23 = .ok (.invokeinterface 72 1, 5) := by decide +kernel
theorem dX12_gain_28 : decode cX12_gain 28 = .ok (.checkcast 76, 3) := by decide +kernel
theorem dX12_gain_31 : decode cX12_gain 31 = .ok (.astore 5, 2) := by decide +kernel
theorem dX12_gain_33 : decode cX12_gain 33 = .ok (.aload 5, 2) := by decide +kernel
theorem dX12_gain_35 : decode cX12_gain 35 = .ok (.iconst 0, 1) := by decide +kernel
theorem dX12_gain_36 : decode cX12_gain 36 = .ok (.iaload, 1) := by decide +kernel
theorem dX12_gain_37 : decode cX12_gain 37 = .ok (.iload_n 1, 1) := by decide +kernel
theorem dX12_gain_38 : decode cX12_gain 38 = .ok (.if_icmp .ne 26, 3) := by decide +kernel
theorem dX12_gain_41 : decode cX12_gain 41 = .ok (.iload_n 2, 1) := by decide +kernel
theorem dX12_gain_42 : decode cX12_gain 42 = .ok (.aload 5, 2) := by decide +kernel
theorem dX12_gain_44 : decode cX12_gain 44 = .ok (.iconst 1, 1) := by decide +kernel
theorem dX12_gain_45 : decode cX12_gain 45 = .ok (.iaload, 1) := by decide +kernel
theorem dX12_gain_46 : decode cX12_gain 46 = .ok (.if_icmp .lt 18, 3) := by decide +kernel
theorem dX12_gain_49 : decode cX12_gain 49 = .ok (.iload_n 2, 1) := by decide +kernel
theorem dX12_gain_50 : decode cX12_gain 50 = .ok (.aload 5, 2) := by decide +kernel
theorem dX12_gain_52 : decode cX12_gain 52 = .ok (.iconst 2, 1) := by decide +kernel
theorem dX12_gain_53 : decode cX12_gain 53 = .ok (.iaload, 1) := by decide +kernel
theorem dX12_gain_54 : decode cX12_gain 54 = .ok (.if_icmp .gt 10, 3) := by decide +kernel
theorem dX12_gain_57 : decode cX12_gain 57 = .ok (.iload_n 3, 1) := by decide +kernel
theorem dX12_gain_58 : decode cX12_gain 58 = .ok (.aload 5, 2) := by decide +kernel
theorem dX12_gain_60 : decode cX12_gain 60 = .ok (.iconst 3, 1) := by decide +kernel
theorem dX12_gain_61 : decode cX12_gain 61 = .ok (.iaload, 1) := by decide +kernel
theorem dX12_gain_62 : decode cX12_gain 62 = .ok (.iadd, 1) := by decide +kernel
theorem dX12_gain_63 : decode cX12_gain 63 = .ok (.istore_n 3, 1) := by decide +kernel
theorem dX12_gain_64 : decode cX12_gain 64 = .ok (.goto (-53), 3) := by decide +kernel
theorem dX12_gain_67 : decode cX12_gain 67 = .ok (.iload_n 3, 1) := by decide +kernel
theorem dX12_gain_68 : decode cX12_gain 68 = .ok (.ireturn, 1) := by decide +kernel
theorem dX12_owed_0 : decode cX12_owed 0 = .ok (.aload_n 1, 1) := by decide +kernel
theorem dX12_owed_1 : decode cX12_owed 1 = .ok (.getfield 147, 3) := by decide +kernel
theorem dX12_owed_4 : decode cX12_owed 4 = .ok (.iconst 2, 1) := by decide +kernel
theorem dX12_owed_5 : decode cX12_owed 5 = .ok (.if_icmp .le 5, 3) := by decide +kernel
theorem dX12_owed_8 : decode cX12_owed 8 = .ok (.iconst 0, 1) := by decide +kernel
theorem dX12_owed_9 : decode cX12_owed 9 = .ok (.ireturn, 1) := by decide +kernel
theorem dX12_owed_10 : decode cX12_owed 10 = .ok (.aload_n 1, 1) := by decide +kernel
theorem dX12_owed_11 : decode cX12_owed 11 = .ok (.getfield 150, 3) := by decide +kernel
theorem dX12_owed_14 : decode cX12_owed 14 = .ok (.aload_n 0, 1) := by decide +kernel
theorem dX12_owed_15 : decode cX12_owed 15 = .ok (.getfield 13, 3) := by decide +kernel
theorem dX12_owed_18 : decode cX12_owed 18 = .ok (.idiv, 1) := by decide +kernel
theorem dX12_owed_19 : decode cX12_owed 19 = .ok (.aload_n 1, 1) := by decide +kernel
theorem dX12_owed_20 : decode cX12_owed 20 = .ok (.getfield 150, 3) := by decide +kernel
theorem dX12_owed_23 : decode cX12_owed 23 = .ok (.aload_n 0, 1) := by decide +kernel
theorem dX12_owed_24 : decode cX12_owed 24 = .ok (.getfield 13, 3) := by decide +kernel
theorem dX12_owed_27 : decode cX12_owed 27 = .ok (.irem, 1) := by decide +kernel
theorem dX12_owed_28 : decode cX12_owed 28 = .ok (.ifCond .le 7, 3) := by decide +kernel
theorem dX12_owed_31 : decode cX12_owed 31 = .ok (.iconst 1, 1) := by decide +kernel
theorem dX12_owed_32 : decode cX12_owed 32 = .ok (.goto 4, 3) := by decide +kernel
theorem dX12_owed_35 : decode cX12_owed 35 = .ok (.iconst 0, 1) := by decide +kernel
theorem dX12_owed_36 : decode cX12_owed 36 = .ok (.iadd, 1) := by decide +kernel
theorem dX12_owed_37 : decode cX12_owed 37 = .ok (.istore_n 2, 1) := by decide +kernel
theorem dX12_owed_38 : decode cX12_owed 38 = .ok (.iconst 0, 1) := by decide +kernel
theorem dX12_owed_39 : decode cX12_owed 39 = .ok (.aload_n 1, 1) := by decide +kernel
theorem dX12_owed_40 : decode cX12_owed 40 = .ok (.getfield 151, 3) := by decide +kernel
theorem dX12_owed_43 : decode cX12_owed 43 = .ok (.iload_n 2, 1) := by decide +kernel
theorem dX12_owed_44 : decode cX12_owed 44 = .ok (.iadd, 1) := by decide +kernel
theorem dX12_owed_45 : decode cX12_owed 45 = .ok (.aload_n 1, 1) := by decide +kernel
theorem dX12_owed_46 : decode cX12_owed 46 = .ok (.getfield 154, 3) := by decide +kernel
theorem dX12_owed_49 : decode cX12_owed 49 = .ok (.isub, 1) := by decide +kernel
theorem dX12_owed_50 : decode cX12_owed 50 = .ok (.invokestatic 157, 3) := by decide +kernel
theorem dX12_owed_53 : decode cX12_owed 53 = .ok (.ireturn, 1) := by decide +kernel
theorem dX12_outstanding_0 : decode cX12_outstanding 0 = .ok (.iconst 0, 1) := by decide +kernel
theorem dX12_outstanding_1 : decode cX12_outstanding 1 = .ok (.istore_n 2, 1) := by decide +kernel
theorem dX12_outstanding_2 : decode cX12_outstanding 2 = .ok (.aload_n 0, 1) := by decide +kernel
theorem dX12_outstanding_3 : decode cX12_outstanding 3 = .ok (.getfield 38, 3) := by decide +kernel
theorem dX12_outstanding_6 : decode cX12_outstanding 6 = .ok (.invokevirtual 62, 3) := by decide +kernel
theorem dX12_outstanding_9 : decode cX12_outstanding 9 = .ok (.astore_n 3, 1) := by decide +kernel
theorem dX12_outstanding_10 : decode cX12_outstanding 10 = .ok (.aload_n 3, 1) := by decide +kernel
theorem dX12_outstanding_11 : decode cX12_outstanding 11 = .ok (.invokeinterface 66 1, 5) := by decide +kernel
theorem dX12_outstanding_16 : decode cX12_outstanding 16 = .ok (.ifCond .eq 59, 3) := by decide +kernel
theorem dX12_outstanding_19 : decode cX12_outstanding 19 = .ok (.aload_n 3, 1) := by decide +kernel
theorem dX12_outstanding_20 : decode cX12_outstanding 20 = .ok (.invokeinterface 72 1, 5) := by decide +kernel
theorem dX12_outstanding_25 : decode cX12_outstanding 25 = .ok (.checkcast 101, 3) := by decide +kernel
theorem dX12_outstanding_28 : decode cX12_outstanding 28 = .ok (.astore 4, 2) := by decide +kernel
theorem dX12_outstanding_30 : decode cX12_outstanding 30 = .ok (.aload 4, 2) := by decide +kernel
theorem dX12_outstanding_32 : decode cX12_outstanding 32 = .ok (.getfield 163, 3) := by decide +kernel
theorem dX12_outstanding_35 : decode cX12_outstanding 35 = .ok (.iload_n 1, 1) := by decide +kernel
theorem dX12_outstanding_36 : decode cX12_outstanding 36 = .ok (.if_icmp .ne 36, 3) := by decide +kernel
theorem dX12_outstanding_39 : decode cX12_outstanding 39 = .ok (.iload_n 2, 1) := by decide +kernel
theorem dX12_outstanding_40 : decode cX12_outstanding 40 = .ok (.aload_n 0, 1) := by decide +kernel
theorem dX12_outstanding_41 : decode cX12_outstanding 41 = .ok (.aload 4, 2) := by decide +kernel
theorem dX12_outstanding_43 : decode cX12_outstanding 43 = .ok (.invokevirtual 166, 3) := by decide +kernel
theorem dX12_outstanding_46 : decode cX12_outstanding 46 = .ok (.aload 4, 2) := by decide +kernel
theorem dX12_outstanding_48 : decode cX12_outstanding 48 = .ok (.getfield 147, 3) := by decide +kernel
theorem dX12_outstanding_51 : decode cX12_outstanding 51 = .ok (.ifCond .ne 17, 3) := by decide +kernel
theorem dX12_outstanding_54 : decode cX12_outstanding 54 = .ok (.aload 4, 2) := by decide +kernel
theorem dX12_outstanding_56 : decode cX12_outstanding 56 = .ok (.getfield 170, 3) := by decide +kernel
theorem dX12_outstanding_59 : decode cX12_outstanding 59 = .ok (.aload 4, 2) := by decide +kernel
theorem dX12_outstanding_61 : decode cX12_outstanding 61 = .ok (.getfield 151, 3) := by decide +kernel
theorem dX12_outstanding_64 : decode cX12_outstanding 64 = .ok (.isub, 1) := by decide +kernel
theorem dX12_outstanding_65 : decode cX12_outstanding 65 = .ok (.goto 4, 3) := by decide +kernel
theorem dX12_outstanding_68 : decode cX12_outstanding 68 = .ok (.iconst 0, 1) := by decide +kernel
theorem dX12_outstanding_69 : decode cX12_outstanding 69 = .ok (.iadd, 1) := by decide +kernel
theorem dX12_outstanding_70 : decode cX12_outstanding 70 = .ok (.iadd, 1) := by decide +kernel
theorem dX12_outstanding_71 : decode cX12_outstanding 71 = .ok (.istore_n 2, 1) := by decide +kernel
theorem dX12_outstanding_72 : decode cX12_outstanding 72 = .ok (.goto (-62), 3) := by decide +kernel
theorem dX12_outstanding_75 : decode cX12_outstanding 75 = .ok (.iload_n 2, 1) := by decide +kernel
theorem dX12_outstanding_76 : decode cX12_outstanding 76 = .ok (.ireturn, 1) := by decide +kernel
theorem dX12_above_0 : decode cX12_above 0 = .ok (.aload_n 1, 1) := by decide +kernel
theorem dX12_above_1 : decode cX12_above 1 = .ok (.getfield 114, 3) := by decide +kernel
theorem dX12_above_4 : decode cX12_above 4 = .ok (.aload_n 1, 1) := by decide +kernel
theorem dX12_above_5 : decode cX12_above 5 = .ok (.getfield 173, 3) := by decide +kernel
theorem dX12_above_8 : decode cX12_above 8 = .ok (.isub, 1) := by decide +kernel
theorem dX12_above_9 : decode cX12_above 9 = .ok (.ireturn, 1) := by decide +kernel
theorem dX12_hindrance_0 : decode cX12_hindrance 0 = .ok (.aload_n 0, 1) := by decide +kernel
theorem dX12_hindrance_1 : decode cX12_hindrance 1 = .ok (.getfield 35, 3) := by decide +kernel
theorem dX12_hindrance_4 : decode cX12_hindrance 4 = .ok (.iload_n 1, 1) := by decide +kernel
theorem dX12_hindrance_5 : decode cX12_hindrance 5 = .ok (.invokevirtual 124, 3) := by decide +kernel
theorem dX12_hindrance_8 : decode cX12_hindrance 8 = .ok (.checkcast 96, 3) := by decide +kernel
theorem dX12_hindrance_11 : decode cX12_hindrance 11 = .ok (.astore_n 3, 1) := by decide +kernel
theorem dX12_hindrance_12 : decode cX12_hindrance 12 = .ok (.aload_n 3, 1) := by decide +kernel
theorem dX12_hindrance_13 : decode cX12_hindrance 13 = .ok (.getfield 176, 3) := by decide +kernel
theorem dX12_hindrance_16 : decode cX12_hindrance 16 = .ok (.ifCond .eq 5, 3) := by decide +kernel
theorem dX12_hindrance_19 : decode cX12_hindrance 19 = .ok (.iconst 1, 1) := by decide +kernel
theorem dX12_hindrance_20 : decode cX12_hindrance 20 = .ok (.ireturn, 1) := by decide +kernel
theorem dX12_hindrance_21 : decode cX12_hindrance 21 = .ok (.aload_n 0, 1) := by decide +kernel
theorem dX12_hindrance_22 : decode cX12_hindrance 22 = .ok (.iload_n 1, 1) := by decide +kernel
theorem dX12_hindrance_23 : decode cX12_hindrance 23 = .ok (.invokevirtual 180, 3) := by decide +kernel
theorem dX12_hindrance_26 : decode cX12_hindrance 26 = .ok (.iload_n 2, 1) := by decide +kernel
theorem dX12_hindrance_27 : decode cX12_hindrance 27 = .ok (.iadd, 1) := by decide +kernel
theorem dX12_hindrance_28 : decode cX12_hindrance 28 = .ok (.aload_n 3, 1) := by decide +kernel
theorem dX12_hindrance_29 : decode cX12_hindrance 29 = .ok (.getfield 184, 3) := by decide +kernel
theorem dX12_hindrance_32 : decode cX12_hindrance 32 = .ok (.if_icmp .le 5, 3) := by decide +kernel
theorem dX12_hindrance_35 : decode cX12_hindrance 35 = .ok (.iconst 2, 1) := by decide +kernel
theorem dX12_hindrance_36 : decode cX12_hindrance 36 = .ok (.ireturn, 1) := by decide +kernel
theorem dX12_hindrance_37 : decode cX12_hindrance 37 = .ok (.aload_n 0, 1) := by decide +kernel
theorem dX12_hindrance_38 : decode cX12_hindrance 38 = .ok (.aload_n 0, 1) := by decide +kernel
theorem dX12_hindrance_39 : decode cX12_hindrance 39 = .ok (.getfield 29, 3) := by decide +kernel
theorem dX12_hindrance_42 : decode cX12_hindrance 42 = .ok (.aload_n 3, 1) := by decide +kernel
theorem dX12_hindrance_43 : decode cX12_hindrance 43 = .ok (.getfield 187, 3) := by decide +kernel
theorem dX12_hindrance_46 : decode cX12_hindrance 46 = .ok (.invokevirtual 124, 3) := by decide +kernel
theorem dX12_hindrance_49 : decode cX12_hindrance 49 = .ok (.checkcast 85, 3) := by decide +kernel
theorem dX12_hindrance_52 : decode cX12_hindrance 52 = .ok (.invokevirtual 190, 3) := by decide +kernel
theorem dX12_hindrance_55 : decode cX12_hindrance 55 = .ok (.iload_n 2, 1) := by decide +kernel
theorem dX12_hindrance_56 : decode cX12_hindrance 56 = .ok (.if_icmp .ge 5, 3) := by decide +kernel
theorem dX12_hindrance_59 : decode cX12_hindrance 59 = .ok (.iconst 3, 1) := by decide +kernel
theorem dX12_hindrance_60 : decode cX12_hindrance 60 = .ok (.ireturn, 1) := by decide +kernel
theorem dX12_hindrance_61 : decode cX12_hindrance 61 = .ok (.aload_n 0, 1) := by decide +kernel
theorem dX12_hindrance_62 : decode cX12_hindrance 62 = .ok (.getfield 38, 3) := by decide +kernel
theorem dX12_hindrance_65 : decode cX12_hindrance 65 = .ok (.invokevirtual 193, 3) := by decide +kernel
theorem dX12_hindrance_68 : decode cX12_hindrance 68 = .ok (.bipush 16, 2) := by decide +kernel
theorem dX12_hindrance_70 : decode cX12_hindrance 70 = .ok (.if_icmp .ne 7, 3) := by decide +kernel
theorem dX12_hindrance_73 : decode cX12_hindrance 73 = .ok (.iconst 4, 1) := by decide +kernel
theorem dX12_hindrance_74 : decode cX12_hindrance 74 = .ok (.goto 4, 3) := by decide +kernel
theorem dX12_hindrance_77 : decode cX12_hindrance 77 = .ok (.iconst 0, 1) := by decide +kernel
theorem dX12_hindrance_78 : decode cX12_hindrance 78 = .ok (.ireturn, 1) := by decide +kernel
theorem dX12_through_0 : decode cX12_through 0 = .ok (.iload 4, 2) := by decide +kernel
theorem dX12_through_2 : decode cX12_through 2 = .ok (.i2l, 1) := by decide +kernel
theorem dX12_through_3 : decode cX12_through 3 = .ok (.aload_n 1, 1) := by decide +kernel
theorem dX12_through_4 : decode cX12_through 4 = .ok (.getfield 203, 3) := by decide +kernel
theorem dX12_through_7 : decode cX12_through 7 = .ok (.i2l, 1) := by decide +kernel
theorem dX12_through_8 : decode cX12_through 8 = .ok (.lmul, 1) := by decide +kernel
theorem dX12_through_9 : decode cX12_through 9 = .ok (.ldc2_w 206, 3) := by decide +kernel
theorem dX12_through_12 : decode cX12_through 12 = .ok (.ldiv, 1) := by decide +kernel
theorem dX12_through_13 : decode cX12_through 13 = .ok (.l2i, 1) := by decide +kernel
theorem dX12_through_14 : decode cX12_through 14 = .ok (.istore 5, 2) := by decide +kernel
theorem dX12_through_16 : decode cX12_through 16 = .ok (.aload_n 0, 1) := by decide +kernel
theorem dX12_through_17 : decode cX12_through 17 = .ok (.aload_n 2, 1) := by decide +kernel
theorem dX12_through_18 : decode cX12_through 18 = .ok (.iload 4, 2) := by decide +kernel
theorem dX12_through_20 : decode cX12_through 20 = .ok (.invokevirtual 208, 3) := by decide +kernel
theorem dX12_through_23 : decode cX12_through 23 = .ok (.aload_n 1, 1) := by decide +kernel
theorem dX12_through_24 : decode cX12_through 24 = .ok (.dup, 1) := by decide +kernel
theorem dX12_through_25 : decode cX12_through 25 = .ok (.getfield 212, 3) := by decide +kernel
theorem dX12_through_28 : decode cX12_through 28 = .ok (.iload 4, 2) := by decide +kernel
theorem dX12_through_30 : decode cX12_through 30 = .ok (.iadd, 1) := by decide +kernel
theorem dX12_through_31 : decode cX12_through 31 = .ok (.putfield 212, 3) := by decide +kernel
theorem dX12_through_34 : decode cX12_through 34 = .ok (.aload_n 1, 1) := by decide +kernel
theorem dX12_through_35 : decode cX12_through 35 = .ok (.dup, 1) := by decide +kernel
theorem dX12_through_36 : decode cX12_through 36 = .ok (.getfield 213, 3) := by decide +kernel
theorem dX12_through_39 : decode cX12_through 39 = .ok (.iload 5, 2) := by decide +kernel
theorem dX12_through_41 : decode cX12_through 41 = .ok (.iadd, 1) := by decide +kernel
theorem dX12_through_42 : decode cX12_through 42 = .ok (.putfield 213, 3) := by decide +kernel
theorem dX12_through_45 : decode cX12_through 45 = .ok (.aload_n 0, 1) := by decide +kernel
theorem dX12_through_46 : decode cX12_through 46 = .ok (.dup, 1) := by decide +kernel
theorem dX12_through_47 : decode cX12_through 47 = .ok (.getfield 52, 3) := by decide +kernel
theorem dX12_through_50 : decode cX12_through 50 = .ok (.iload 5, 2) := by decide +kernel
theorem dX12_through_52 : decode cX12_through 52 = .ok (.i2l, 1) := by decide +kernel
theorem dX12_through_53 : decode cX12_through 53 = .ok (.ladd, 1) := by decide +kernel
theorem dX12_through_54 : decode cX12_through 54 = .ok (.putfield 52, 3) := by decide +kernel
theorem dX12_through_57 : decode cX12_through 57 = .ok (.aload_n 0, 1) := by decide +kernel
theorem dX12_through_58 : decode cX12_through 58 = .ok (.aload_n 3, 1) := by decide +kernel
theorem dX12_through_59 : decode cX12_through 59 = .ok (.iload 4, 2) := by decide +kernel
theorem dX12_through_61 : decode cX12_through 61 = .ok (.iload 5, 2) := by decide +kernel
theorem dX12_through_63 : decode cX12_through 63 = .ok (.isub, 1) := by decide +kernel
theorem dX12_through_64 : decode cX12_through 64 = .ok (.invokevirtual 216, 3) := by decide +kernel
theorem dX12_through_67 : decode cX12_through 67 = .ok (.iload 4, 2) := by decide +kernel
theorem dX12_through_69 : decode cX12_through 69 = .ok (.iload 5, 2) := by decide +kernel
theorem dX12_through_71 : decode cX12_through 71 = .ok (.isub, 1) := by decide +kernel
theorem dX12_through_72 : decode cX12_through 72 = .ok (.ireturn, 1) := by decide +kernel
theorem dX12_shine_0 : decode cX12_shine 0 = .ok (.iconst 0, 1) := by decide +kernel
theorem dX12_shine_1 : decode cX12_shine 1 = .ok (.istore_n 1, 1) := by decide +kernel
theorem dX12_shine_2 : decode cX12_shine 2 = .ok (.iload_n 1, 1) := by decide +kernel
theorem dX12_shine_3 : decode cX12_shine 3 = .ok (.aload_n 0, 1) := by decide +kernel
theorem dX12_shine_4 : decode cX12_shine 4 = .ok (.getfield 29, 3) := by decide +kernel
theorem dX12_shine_7 : decode cX12_shine 7 = .ok (.invokevirtual 193, 3) := by decide +kernel
theorem dX12_shine_10 : decode cX12_shine 10 = .ok (.if_icmp .ge 49, 3) := by decide +kernel
theorem dX12_shine_13 : decode cX12_shine 13 = .ok (.aload_n 0, 1) := by decide +kernel
theorem dX12_shine_14 : decode cX12_shine 14 = .ok (.iload_n 1, 1) := by decide +kernel
theorem dX12_shine_15 : decode cX12_shine 15 = .ok (.aload_n 0, 1) := by decide +kernel
theorem dX12_shine_16 : decode cX12_shine 16 = .ok (.getfield 42, 3) := by decide +kernel
theorem dX12_shine_19 : decode cX12_shine 19 = .ok (.bipush 24, 2) := by decide +kernel
theorem dX12_shine_21 : decode cX12_shine 21 = .ok (.irem, 1) := by decide +kernel
theorem dX12_shine_22 : decode cX12_shine 22 = .ok (.invokevirtual 219, 3) := by decide +kernel
theorem dX12_shine_25 : decode cX12_shine 25 = .ok (.istore_n 2, 1) := by decide +kernel
theorem dX12_shine_26 : decode cX12_shine 26 = .ok (.aload_n 0, 1) := by decide +kernel
theorem dX12_shine_27 : decode cX12_shine 27 = .ok (.dup, 1) := by decide +kernel
theorem dX12_shine_28 : decode cX12_shine 28 = .ok (.getfield 45, 3) := by decide +kernel
theorem dX12_shine_31 : decode cX12_shine 31 = .ok (.iload_n 2, 1) := by decide +kernel
theorem dX12_shine_32 : decode cX12_shine 32 = .ok (.i2l, 1) := by decide +kernel
theorem dX12_shine_33 : decode cX12_shine 33 = .ok (.ladd, 1) := by decide +kernel
theorem dX12_shine_34 : decode cX12_shine 34 = .ok (.putfield 45, 3) := by decide +kernel
theorem dX12_shine_37 : decode cX12_shine 37 = .ok (.aload_n 0, 1) := by decide +kernel
theorem dX12_shine_38 : decode cX12_shine 38 = .ok (.aload_n 0, 1) := by decide +kernel
theorem dX12_shine_39 : decode cX12_shine 39 = .ok (.getfield 29, 3) := by decide +kernel
theorem dX12_shine_42 : decode cX12_shine 42 = .ok (.iload_n 1, 1) := by decide +kernel
theorem dX12_shine_43 : decode cX12_shine 43 = .ok (.invokevirtual 124, 3) := by decide +kernel
theorem dX12_shine_46 : decode cX12_shine 46 = .ok (.checkcast 85, 3) := by decide +kernel
theorem dX12_shine_49 : decode cX12_shine 49 = .ok (.iload_n 2, 1) := by decide +kernel
theorem dX12_shine_50 : decode cX12_shine 50 = .ok (.invokevirtual 216, 3) := by decide +kernel
theorem dX12_shine_53 : decode cX12_shine 53 = .ok (.iinc 1 1, 3) := by decide +kernel
theorem dX12_shine_56 : decode cX12_shine 56 = .ok (.goto (-54), 3) := by decide +kernel
theorem dX12_shine_59 : decode cX12_shine 59 = .ok (.return_, 1) := by decide +kernel
theorem dX12_travel_0 : decode cX12_travel 0 = .ok (.aload_n 1, 1) := by decide +kernel
theorem dX12_travel_1 : decode cX12_travel 1 = .ok (.iconst 1, 1) := by decide +kernel
theorem dX12_travel_2 : decode cX12_travel 2 = .ok (.iaload, 1) := by decide +kernel
theorem dX12_travel_3 : decode cX12_travel 3 = .ok (.aload_n 0, 1) := by decide +kernel
theorem dX12_travel_4 : decode cX12_travel 4 = .ok (.getfield 42, 3) := by decide +kernel
theorem dX12_travel_7 : decode cX12_travel 7 = .ok (.if_icmp .ne 9, 3) := by decide +kernel
theorem dX12_travel_10 : decode cX12_travel 10 = .ok (.aload_n 1, 1) := by decide +kernel
theorem dX12_travel_11 : decode cX12_travel 11 = .ok (.iconst 3, 1) := by decide +kernel
theorem dX12_travel_12 : decode cX12_travel 12 = .ok (.iaload, 1) := by decide +kernel
theorem dX12_travel_13 : decode cX12_travel 13 = .ok (.ifCond .eq 4, 3) := by decide +kernel
theorem dX12_travel_16 : decode cX12_travel 16 = .ok (.return_, 1) := by decide +kernel
theorem dX12_travel_17 : decode cX12_travel 17 = .ok (.aload_n 0, 1) := by decide +kernel
theorem dX12_travel_18 : decode cX12_travel 18 = .ok (.getfield 29, 3) := by decide +kernel
theorem dX12_travel_21 : decode cX12_travel 21 = .ok (.aload_n 1, 1) := by decide +kernel
theorem dX12_travel_22 : decode cX12_travel 22 = .ok (.iconst 0, 1) := by decide +kernel
theorem dX12_travel_23 : decode cX12_travel 23 = .ok (.iaload, 1) := by decide +kernel
theorem dX12_travel_24 : decode cX12_travel 24 = .ok (.invokevirtual 124, 3) := by decide +kernel
theorem dX12_travel_27 : decode cX12_travel 27 = .ok (.checkcast 85, 3) := by decide +kernel
theorem dX12_travel_30 : decode cX12_travel 30 = .ok (.astore_n 2, 1) := by decide +kernel
theorem dX12_travel_31 : decode cX12_travel 31 = .ok (.aload_n 2, 1) := by decide +kernel
theorem dX12_travel_32 : decode cX12_travel 32 = .ok (.getfield 114, 3) := by decide +kernel
theorem dX12_travel_35 : decode cX12_travel 35 = .ok (.aload_n 1, 1) := by decide +kernel
theorem dX12_travel_36 : decode cX12_travel 36 = .ok (.iconst 2, 1) := by decide +kernel
theorem dX12_travel_37 : decode cX12_travel 37 = .ok (.iaload, 1) := by decide +kernel
theorem dX12_travel_38 : decode cX12_travel 38 = .ok (.if_icmp .ge 18, 3) := by decide +kernel
theorem dX12_travel_41 : decode cX12_travel 41 = .ok (.aload_n 1, 1) := by decide +kernel
theorem dX12_travel_42 : decode cX12_travel 42 = .ok (.iconst 3, 1) := by decide +kernel
theorem dX12_travel_43 : decode cX12_travel 43 = .ok (.iconst 2, 1) := by decide +kernel
theorem dX12_travel_44 : decode cX12_travel 44 = .ok (.iastore, 1) := by decide +kernel
theorem dX12_travel_45 : decode cX12_travel 45 = .ok (.aload_n 2, 1) := by decide +kernel
theorem dX12_travel_46 : decode cX12_travel 46 = .ok (.dup, 1) := by decide +kernel
theorem dX12_travel_47 : decode cX12_travel 47 = .ok (.getfield 222, 3) := by decide +kernel
theorem dX12_travel_50 : decode cX12_travel 50 = .ok (.iconst 1, 1) := by decide +kernel
theorem dX12_travel_51 : decode cX12_travel 51 = .ok (.iadd, 1) := by decide +kernel
theorem dX12_travel_52 : decode cX12_travel 52 = .ok (.putfield 222, 3) := by decide +kernel
theorem dX12_travel_55 : decode cX12_travel 55 = .ok (.return_, 1) := by decide +kernel
theorem dX12_travel_56 : decode cX12_travel 56 = .ok (.aload_n 1, 1) := by decide +kernel
theorem dX12_travel_57 : decode cX12_travel 57 = .ok (.iconst 3, 1) := by decide +kernel
theorem dX12_travel_58 : decode cX12_travel 58 = .ok (.iconst 1, 1) := by decide +kernel
theorem dX12_travel_59 : decode cX12_travel 59 = .ok (.iastore, 1) := by decide +kernel
theorem dX12_travel_60 : decode cX12_travel 60 = .ok (.aload_n 2, 1) := by decide +kernel
theorem dX12_travel_61 : decode cX12_travel 61 = .ok (.dup, 1) := by decide +kernel
theorem dX12_travel_62 : decode cX12_travel 62 = .ok (.getfield 225, 3) := by decide +kernel
theorem dX12_travel_65 : decode cX12_travel 65 = .ok (.iconst 1, 1) := by decide +kernel
theorem dX12_travel_66 : decode cX12_travel 66 = .ok (.iadd, 1) := by decide +kernel
theorem dX12_travel_67 : decode cX12_travel 67 = .ok (.putfield 225, 3) := by decide +kernel
theorem dX12_travel_70 : decode cX12_travel 70 = .ok (.aload_n 0, 1) := by decide +kernel
theorem dX12_travel_71 : decode cX12_travel 71 = .ok (.dup, 1) := by decide +kernel
theorem dX12_travel_72 : decode cX12_travel 72 = .ok (.getfield 49, 3) := by decide +kernel
theorem dX12_travel_75 : decode cX12_travel 75 = .ok (.aload_n 1, 1) := by decide +kernel
theorem dX12_travel_76 : decode cX12_travel 76 = .ok (.iconst 2, 1) := by decide +kernel
theorem dX12_travel_77 : decode cX12_travel 77 = .ok (.iaload, 1) := by decide +kernel
theorem dX12_travel_78 : decode cX12_travel 78 = .ok (.i2l, 1) := by decide +kernel
theorem dX12_travel_79 : decode cX12_travel 79 = .ok (.ladd, 1) := by decide +kernel
theorem dX12_travel_80 : decode cX12_travel 80 = .ok (.putfield 49, 3) := by decide +kernel
theorem dX12_travel_83 : decode cX12_travel 83 = .ok (.aload_n 0, 1) := by decide +kernel
theorem dX12_travel_84 : decode cX12_travel 84 = .ok (.aload_n 2, 1) := by decide +kernel
theorem dX12_travel_85 : decode cX12_travel 85 = .ok (.aload_n 1, 1) := by decide +kernel
theorem dX12_travel_86 : decode cX12_travel 86 = .ok (.iconst 2, 1) := by decide +kernel
theorem dX12_travel_87 : decode cX12_travel 87 = .ok (.iaload, 1) := by decide +kernel
theorem dX12_travel_88 : decode cX12_travel 88 = .ok (.invokevirtual 208, 3) := by decide +kernel
theorem dX12_travel_91 : decode cX12_travel 91 = .ok (.return_, 1) := by decide +kernel
theorem dX12_serve_0 : decode cX12_serve 0 = .ok (.aload_n 0, 1) := by decide +kernel
theorem dX12_serve_1 : decode cX12_serve 1 = .ok (.getfield 35, 3) := by decide +kernel
theorem dX12_serve_4 : decode cX12_serve 4 = .ok (.aload_n 1, 1) := by decide +kernel
theorem dX12_serve_5 : decode cX12_serve 5 = .ok (.getfield 163, 3) := by decide +kernel
theorem dX12_serve_8 : decode cX12_serve 8 = .ok (.invokevirtual 124, 3) := by decide +kernel
theorem dX12_serve_11 : decode cX12_serve 11 = .ok (.checkcast 96, 3) := by decide +kernel
theorem dX12_serve_14 : decode cX12_serve 14 = .ok (.astore_n 2, 1) := by decide +kernel
theorem dX12_serve_15 : decode cX12_serve 15 = .ok (.aload_n 0, 1) := by decide +kernel
theorem dX12_serve_16 : decode cX12_serve 16 = .ok (.getfield 29, 3) := by decide +kernel
theorem dX12_serve_19 : decode cX12_serve 19 = .ok (.aload_n 2, 1) := by decide +kernel
theorem dX12_serve_20 : decode cX12_serve 20 = .ok (.getfield 187, 3) := by decide +kernel
theorem dX12_serve_23 : decode cX12_serve 23 = .ok (.invokevirtual 124, 3) := by decide +kernel
theorem dX12_serve_26 : decode cX12_serve 26 = .ok (.checkcast 85, 3) := by decide +kernel
theorem dX12_serve_29 : decode cX12_serve 29 = .ok (.astore_n 3, 1) := by decide +kernel
theorem dX12_serve_30 : decode cX12_serve 30 = .ok (.aload_n 0, 1) := by decide +kernel
theorem dX12_serve_31 : decode cX12_serve 31 = .ok (.getfield 29, 3) := by decide +kernel
theorem dX12_serve_34 : decode cX12_serve 34 = .ok (.aload_n 2, 1) := by decide +kernel
theorem dX12_serve_35 : decode cX12_serve 35 = .ok (.getfield 228, 3) := by decide +kernel
theorem dX12_serve_38 : decode cX12_serve 38 = .ok (.invokevirtual 124, 3) := by decide +kernel
theorem dX12_serve_41 : decode cX12_serve 41 = .ok (.checkcast 85, 3) := by decide +kernel
theorem dX12_serve_44 : decode cX12_serve 44 = .ok (.astore 4, 2) := by decide +kernel
theorem dX12_serve_46 : decode cX12_serve 46 = .ok (.aload_n 0, 1) := by decide +kernel
theorem dX12_serve_47 : decode cX12_serve 47 = .ok (.aload_n 2, 1) := by decide +kernel
theorem dX12_serve_48 : decode cX12_serve 48 = .ok (.getfield 187, 3) := by decide +kernel
theorem dX12_serve_51 : decode cX12_serve 51 = .ok (.aload_n 2, 1) := by decide +kernel
theorem dX12_serve_52 : decode cX12_serve 52 = .ok (.getfield 228, 3) := by decide +kernel
theorem dX12_serve_55 : decode cX12_serve 55 = .ok (.invokevirtual 231, 3) := by decide +kernel
theorem dX12_serve_58 : decode cX12_serve 58 = .ok (.astore 5, 2) := by decide +kernel
theorem dX12_serve_60 : decode cX12_serve 60 = .ok (.aload_n 1, 1) := by decide +kernel
theorem dX12_serve_61 : decode cX12_serve 61 = .ok (.getfield 147, 3) := by decide +kernel
theorem dX12_serve_64 : decode cX12_serve 64 = .ok (.iconst 2, 1) := by decide +kernel
theorem dX12_serve_65 : decode cX12_serve 65 = .ok (.if_icmp .ge 19, 3) := by decide +kernel
theorem dX12_serve_68 : decode cX12_serve 68 = .ok (.aload_n 0, 1) := by decide +kernel
theorem dX12_serve_69 : decode cX12_serve 69 = .ok (.getfield 42, 3) := by decide +kernel
theorem dX12_serve_72 : decode cX12_serve 72 = .ok (.aload_n 1, 1) := by decide +kernel
theorem dX12_serve_73 : decode cX12_serve 73 = .ok (.getfield 235, 3) := by decide +kernel
theorem dX12_serve_76 : decode cX12_serve 76 = .ok (.if_icmp .lt 8, 3) := by decide +kernel
theorem dX12_serve_79 : decode cX12_serve 79 = .ok (.aload_n 1, 1) := by decide +kernel
theorem dX12_serve_80 : decode cX12_serve 80 = .ok (.iconst 2, 1) := by decide +kernel
theorem dX12_serve_81 : decode cX12_serve 81 = .ok (.putfield 147, 3) := by decide +kernel
theorem dX12_serve_84 : decode cX12_serve 84 = .ok (.iconst 0, 1) := by decide +kernel
theorem dX12_serve_85 : decode cX12_serve 85 = .ok (.aload 5, 2) := by decide +kernel
theorem dX12_serve_87 : decode cX12_serve 87 = .ok (.getfield 238, 3) := by decide +kernel
theorem dX12_serve_90 : decode cX12_serve 90 = .ok (.aload 5, 2) := by decide +kernel
theorem dX12_serve_92 : decode cX12_serve 92 = .ok (.getfield 212, 3) := by decide +kernel
theorem dX12_serve_95 : decode cX12_serve 95 = .ok (.isub, 1) := by decide +kernel
theorem dX12_serve_96 : decode cX12_serve 96 = .ok (.invokestatic 157, 3) := by decide +kernel
theorem dX12_serve_99 : decode cX12_serve 99 = .ok (.istore 6, 2) := by decide +kernel
theorem dX12_serve_101 : decode cX12_serve 101 = .ok (.aload_n 1, 1) := by decide +kernel
theorem dX12_serve_102 : decode cX12_serve 102 = .ok (.getfield 147, 3) := by decide +kernel
theorem dX12_serve_105 : decode cX12_serve 105 = .ok (.ifCond .ne 99, 3) := by decide +kernel
theorem dX12_serve_108 : decode cX12_serve 108 = .ok (.aload_n 1, 1) := by decide +kernel
theorem dX12_serve_109 : decode cX12_serve 109 = .ok (.getfield 170, 3) := by decide +kernel
theorem dX12_serve_112 : decode cX12_serve 112 = .ok (.aload_n 1, 1) := by decide +kernel
theorem dX12_serve_113 : decode cX12_serve 113 = .ok (.getfield 151, 3) := by decide +kernel
theorem dX12_serve_116 : decode cX12_serve 116 = .ok (.isub, 1) := by decide +kernel
theorem dX12_serve_117 : decode cX12_serve 117 = .ok (.iconst 0, 1) := by decide +kernel
theorem dX12_serve_118 : decode cX12_serve 118 = .ok (.aload_n 0, 1) := by decide +kernel
theorem dX12_serve_119 : decode cX12_serve 119 = .ok (.aload_n 3, 1) := by decide +kernel
theorem dX12_serve_120 : decode cX12_serve 120 = .ok (.invokevirtual 190, 3) := by decide +kernel
theorem dX12_serve_123 : decode cX12_serve 123 = .ok (.invokestatic 157, 3) := by decide +kernel
theorem dX12_serve_126 : decode cX12_serve 126 = .ok (.invokestatic 241, 3) := by decide +kernel
theorem dX12_serve_129 : decode cX12_serve 129 = .ok (.iload 6, 2) := by decide +kernel
theorem dX12_serve_131 : decode cX12_serve 131 = .ok (.invokestatic 241, 3) := by decide +kernel
theorem dX12_serve_134 : decode cX12_serve 134 = .ok (.istore 7, 2) := by decide +kernel
theorem dX12_serve_136 : decode cX12_serve 136 = .ok (.aload_n 1, 1) := by decide +kernel
theorem dX12_serve_137 : decode cX12_serve 137 = .ok (.ldc2_w 197, 3) := by decide +kernel
theorem dX12_serve_140 : decode cX12_serve 140 = .ok (.aload_n 1, 1) := by decide +kernel
theorem dX12_serve_141 : decode cX12_serve 141 = .ok (.getfield 150, 3) := by decide +kernel
theorem dX12_serve_144 : decode cX12_serve 144 = .ok (.i2l, 1) := by decide +kernel
theorem dX12_serve_145 : decode cX12_serve 145 = .ok (.iload 7, 2) := by decide +kernel
theorem dX12_serve_147 : decode cX12_serve 147 = .ok (.i2l, 1) := by decide +kernel
theorem dX12_serve_148 : decode cX12_serve 148 = .ok (.aload_n 0, 1) := by decide +kernel
theorem dX12_serve_149 : decode cX12_serve 149 = .ok (.aload_n 3, 1) := by decide +kernel
theorem dX12_serve_150 : decode cX12_serve 150 = .ok (.invokevirtual 135, 3) := by decide +kernel
theorem dX12_serve_153 : decode cX12_serve 153 = .ok (.i2l, 1) := by decide +kernel
theorem dX12_serve_154 : decode cX12_serve 154 = .ok (.lmul, 1) := by decide +kernel
theorem dX12_serve_155 : decode cX12_serve 155 = .ok (.ladd, 1) := by decide +kernel
theorem dX12_serve_156 : decode cX12_serve 156 = .ok (.invokestatic 199, 3) := by decide +kernel
theorem dX12_serve_159 : decode cX12_serve 159 = .ok (.l2i, 1) := by decide +kernel
theorem dX12_serve_160 : decode cX12_serve 160 = .ok (.putfield 150, 3) := by decide +kernel
theorem dX12_serve_163 : decode cX12_serve 163 = .ok (.aload_n 0, 1) := by decide +kernel
theorem dX12_serve_164 : decode cX12_serve 164 = .ok (.aload 5, 2) := by decide +kernel
theorem dX12_serve_166 : decode cX12_serve 166 = .ok (.aload_n 3, 1) := by decide +kernel
theorem dX12_serve_167 : decode cX12_serve 167 = .ok (.aload 4, 2) := by decide +kernel
theorem dX12_serve_169 : decode cX12_serve 169 = .ok (.iload 7, 2) := by decide +kernel
theorem dX12_serve_171 : decode cX12_serve 171 = .ok (.invokevirtual 243, 3) := by decide +kernel
theorem dX12_serve_174 : decode cX12_serve 174 = .ok (.istore 8, 2) := by decide +kernel
theorem dX12_serve_176 : decode cX12_serve 176 = .ok (.aload_n 1, 1) := by decide +kernel
theorem dX12_serve_177 : decode cX12_serve 177 = .ok (.dup, 1) := by decide +kernel
theorem dX12_serve_178 : decode cX12_serve 178 = .ok (.getfield 151, 3) := by decide +kernel
theorem dX12_serve_181 : decode cX12_serve 181 = .ok (.iload 7, 2) := by decide +kernel
theorem dX12_serve_183 : decode cX12_serve 183 = .ok (.iadd, 1) := by decide +kernel
theorem dX12_serve_184 : decode cX12_serve 184 = .ok (.putfield 151, 3) := by decide +kernel
theorem dX12_serve_187 : decode cX12_serve 187 = .ok (.aload_n 1, 1) := by decide +kernel
theorem dX12_serve_188 : decode cX12_serve 188 = .ok (.getfield 151, 3) := by decide +kernel
theorem dX12_serve_191 : decode cX12_serve 191 = .ok (.aload_n 1, 1) := by decide +kernel
theorem dX12_serve_192 : decode cX12_serve 192 = .ok (.getfield 170, 3) := by decide +kernel
theorem dX12_serve_195 : decode cX12_serve 195 = .ok (.if_icmp .ne 8, 3) := by decide +kernel
theorem dX12_serve_198 : decode cX12_serve 198 = .ok (.aload_n 1, 1) := by decide +kernel
theorem dX12_serve_199 : decode cX12_serve 199 = .ok (.iconst 1, 1) := by decide +kernel
theorem dX12_serve_200 : decode cX12_serve 200 = .ok (.putfield 147, 3) := by decide +kernel
theorem dX12_serve_203 : decode cX12_serve 203 = .ok (.return_, 1) := by decide +kernel
theorem dX12_serve_204 : decode cX12_serve 204 = .ok (.aload_n 1, 1) := by decide +kernel
theorem dX12_serve_205 : decode cX12_serve 205 = .ok (.getfield 147, 3) := by decide +kernel
theorem dX12_serve_208 : decode cX12_serve 208 = .ok (.iconst 2, 1) := by decide +kernel
theorem dX12_serve_209 : decode cX12_serve 209 = .ok (.if_icmp .eq 4, 3) := by decide +kernel
theorem dX12_serve_212 : decode cX12_serve 212 = .ok (.return_, 1) := by decide +kernel
theorem dX12_serve_213 : decode cX12_serve 213 = .ok (.ldc2_w 206, 3) := by decide +kernel
theorem dX12_serve_216 : decode cX12_serve 216 = .ok (.aload 5, 2) := by decide +kernel
theorem dX12_serve_218 : decode cX12_serve 218 = .ok (.getfield 203, 3) := by decide +kernel
theorem dX12_serve_221 : decode cX12_serve 221 = .ok (.i2l, 1) := by decide +kernel
theorem dX12_serve_222 : decode cX12_serve 222 = .ok (.lsub, 1) := by decide +kernel
theorem dX12_serve_223 : decode cX12_serve 223 = .ok (.lstore 7, 2) := by decide +kernel
theorem dX12_serve_225 : decode cX12_serve 225 = .ok (.aload_n 0, 1) := by decide +kernel
theorem dX12_serve_226 : decode cX12_serve 226 = .ok (.aload_n 1, 1) := by decide +kernel
theorem dX12_serve_227 : decode cX12_serve 227 = .ok (.invokevirtual 166, 3) := by decide +kernel
theorem dX12_serve_230 : decode cX12_serve 230 = .ok (.i2l, 1) := by decide +kernel
theorem dX12_serve_231 : decode cX12_serve 231 = .ok (.ldc2_w 206, 3) := by decide +kernel
theorem dX12_serve_234 : decode cX12_serve 234 = .ok (.lmul, 1) := by decide +kernel
theorem dX12_serve_235 : decode cX12_serve 235 = .ok (.lload 7, 2) := by decide +kernel
theorem dX12_serve_237 : decode cX12_serve 237 = .ok (.ldiv, 1) := by decide +kernel
theorem dX12_serve_238 : decode cX12_serve 238 = .ok (.aload_n 0, 1) := by decide +kernel
theorem dX12_serve_239 : decode cX12_serve 239 = .ok (.aload_n 1, 1) := by decide +kernel
theorem dX12_serve_240 : decode cX12_serve 240 = .ok (.invokevirtual 166, 3) := by decide +kernel
theorem dX12_serve_243 : decode cX12_serve 243 = .ok (.i2l, 1) := by decide +kernel
theorem dX12_serve_244 : decode cX12_serve 244 = .ok (.ldc2_w 206, 3) := by decide +kernel
theorem dX12_serve_247 : decode cX12_serve 247 = .ok (.lmul, 1) := by decide +kernel
theorem dX12_serve_248 : decode cX12_serve 248 = .ok (.lload 7, 2) := by decide +kernel
theorem dX12_serve_250 : decode cX12_serve 250 = .ok (.lrem, 1) := by decide +kernel
theorem dX12_serve_251 : decode cX12_serve 251 = .ok (.lconst 0, 1) := by decide +kernel
theorem dX12_serve_252 : decode cX12_serve 252 = .ok (.lcmp, 1) := by decide +kernel
theorem dX12_serve_253 : decode cX12_serve 253 = .ok (.ifCond .le 7, 3) := by decide +kernel
theorem dX12_serve_256 : decode cX12_serve 256 = .ok (.lconst 1, 1) := by decide +kernel
theorem dX12_serve_257 : decode cX12_serve 257 = .ok (.goto 4, 3) := by decide +kernel
theorem dX12_serve_260 : decode cX12_serve 260 = .ok (.lconst 0, 1) := by decide +kernel
theorem dX12_serve_261 : decode cX12_serve 261 = .ok (.ladd, 1) := by decide +kernel
theorem dX12_serve_262 : decode cX12_serve 262 = .ok (.lstore 9, 2) := by decide +kernel
theorem dX12_serve_264 : decode cX12_serve 264 = .ok (.lload 9, 2) := by decide +kernel
theorem dX12_serve_266 : decode cX12_serve 266 = .ok (.aload 4, 2) := by decide +kernel
theorem dX12_serve_268 : decode cX12_serve 268 = .ok (.getfield 114, 3) := by decide +kernel
theorem dX12_serve_271 : decode cX12_serve 271 = .ok (.i2l, 1) := by decide +kernel
theorem dX12_serve_272 : decode cX12_serve 272 = .ok (.invokestatic 199, 3) := by decide +kernel
theorem dX12_serve_275 : decode cX12_serve 275 = .ok (.iload 6, 2) := by decide +kernel
theorem dX12_serve_277 : decode cX12_serve 277 = .ok (.i2l, 1) := by decide +kernel
theorem dX12_serve_278 : decode cX12_serve 278 = .ok (.invokestatic 199, 3) := by decide +kernel
theorem dX12_serve_281 : decode cX12_serve 281 = .ok (.l2i, 1) := by decide +kernel
theorem dX12_serve_282 : decode cX12_serve 282 = .ok (.istore 11, 2) := by decide +kernel
theorem dX12_serve_284 : decode cX12_serve 284 = .ok (.aload_n 1, 1) := by decide +kernel
theorem dX12_serve_285 : decode cX12_serve 285 = .ok (.dup, 1) := by decide +kernel
theorem dX12_serve_286 : decode cX12_serve 286 = .ok (.getfield 154, 3) := by decide +kernel
theorem dX12_serve_289 : decode cX12_serve 289 = .ok (.aload_n 0, 1) := by decide +kernel
theorem dX12_serve_290 : decode cX12_serve 290 = .ok (.aload 5, 2) := by decide +kernel
theorem dX12_serve_292 : decode cX12_serve 292 = .ok (.aload 4, 2) := by decide +kernel
theorem dX12_serve_294 : decode cX12_serve 294 = .ok (.aload_n 3, 1) := by decide +kernel
theorem dX12_serve_295 : decode cX12_serve 295 = .ok (.iload 11, 2) := by decide +kernel
theorem dX12_serve_297 : decode cX12_serve 297 = .ok (.invokevirtual 243, 3) := by decide +kernel
theorem dX12_serve_300 : decode cX12_serve 300 = .ok (.iadd, 1) := by decide +kernel
theorem dX12_serve_301 : decode cX12_serve 301 = .ok (.putfield 154, 3) := by decide +kernel
theorem dX12_serve_304 : decode cX12_serve 304 = .ok (.aload_n 0, 1) := by decide +kernel
theorem dX12_serve_305 : decode cX12_serve 305 = .ok (.aload_n 1, 1) := by decide +kernel
theorem dX12_serve_306 : decode cX12_serve 306 = .ok (.invokevirtual 166, 3) := by decide +kernel
theorem dX12_serve_309 : decode cX12_serve 309 = .ok (.ifCond .ne 11, 3) := by decide +kernel
theorem dX12_serve_312 : decode cX12_serve 312 = .ok (.aload_n 1, 1) := by decide +kernel
theorem dX12_serve_313 : decode cX12_serve 313 = .ok (.iconst 3, 1) := by decide +kernel
theorem dX12_serve_314 : decode cX12_serve 314 = .ok (.putfield 147, 3) := by decide +kernel
theorem dX12_serve_317 : decode cX12_serve 317 = .ok (.goto 29, 3) := by decide +kernel
theorem dX12_serve_320 : decode cX12_serve 320 = .ok (.aload_n 0, 1) := by decide +kernel
theorem dX12_serve_321 : decode cX12_serve 321 = .ok (.getfield 42, 3) := by decide +kernel
theorem dX12_serve_324 : decode cX12_serve 324 = .ok (.aload_n 1, 1) := by decide +kernel
theorem dX12_serve_325 : decode cX12_serve 325 = .ok (.getfield 235, 3) := by decide +kernel
theorem dX12_serve_328 : decode cX12_serve 328 = .ok (.aload_n 2, 1) := by decide +kernel
theorem dX12_serve_329 : decode cX12_serve 329 = .ok (.getfield 247, 3) := by decide +kernel
theorem dX12_serve_332 : decode cX12_serve 332 = .ok (.iadd, 1) := by decide +kernel
theorem dX12_serve_333 : decode cX12_serve 333 = .ok (.if_icmp .lt 13, 3) := by decide +kernel
theorem dX12_serve_336 : decode cX12_serve 336 = .ok (.aload_n 1, 1) := by decide +kernel
theorem dX12_serve_337 : decode cX12_serve 337 = .ok (.iconst 4, 1) := by decide +kernel
theorem dX12_serve_338 : decode cX12_serve 338 = .ok (.putfield 147, 3) := by decide +kernel
theorem dX12_serve_341 : decode cX12_serve 341 = .ok (.aload_n 2, 1) := by decide +kernel
theorem dX12_serve_342 : decode cX12_serve 342 = .ok (.iconst 1, 1) := by decide +kernel
theorem dX12_serve_343 : decode cX12_serve 343 = .ok (.putfield 176, 3) := by decide +kernel
theorem dX12_serve_346 : decode cX12_serve 346 = .ok (.return_, 1) := by decide +kernel
theorem dX12_pass_0 : decode cX12_pass 0 = .ok (.aload_n 0, 1) := by decide +kernel
theorem dX12_pass_1 : decode cX12_pass 1 = .ok (.invokevirtual 250, 3) := by decide +kernel
theorem dX12_pass_4 : decode cX12_pass 4 = .ok (.aload_n 0, 1) := by decide +kernel
theorem dX12_pass_5 : decode cX12_pass 5 = .ok (.getfield 26, 3) := by decide +kernel
theorem dX12_pass_8 : decode cX12_pass 8 = .ok (.invokevirtual 62, 3) := by decide +kernel
theorem dX12_pass_11 : decode cX12_pass 11 = .ok (.astore_n 1, 1) := by decide +kernel
theorem dX12_pass_12 : decode cX12_pass 12 = .ok (.aload_n 1, 1) := by decide +kernel
theorem dX12_pass_13 : decode cX12_pass 13 = .ok (.invokeinterface 66 1, 5) := by decide +kernel
theorem dX12_pass_18 : decode cX12_pass 18 = .ok (.ifCond .eq 21, 3) := by decide +kernel
theorem dX12_pass_21 : decode cX12_pass 21 = .ok (.aload_n 1, 1) := by decide +kernel
theorem dX12_pass_22 : decode cX12_pass 22 = .ok (.invokeinterface 72 1, 5) := by decide +kernel
theorem dX12_pass_27 : decode cX12_pass 27 = .ok (.checkcast 76, 3) := by decide +kernel
theorem dX12_pass_30 : decode cX12_pass 30 = .ok (.astore_n 2, 1) := by decide +kernel
theorem dX12_pass_31 : decode cX12_pass 31 = .ok (.aload_n 0, 1) := by decide +kernel
theorem dX12_pass_32 : decode cX12_pass 32 = .ok (.aload_n 2, 1) := by decide +kernel
theorem dX12_pass_33 : decode cX12_pass 33 = .ok (.invokevirtual 253, 3) := by decide +kernel
theorem dX12_pass_36 : decode cX12_pass 36 = .ok (.goto (-24), 3) := by decide +kernel
theorem dX12_pass_39 : decode cX12_pass 39 = .ok (.aload_n 0, 1) := by decide +kernel
theorem dX12_pass_40 : decode cX12_pass 40 = .ok (.getfield 32, 3) := by decide +kernel
theorem dX12_pass_43 : decode cX12_pass 43 = .ok (.invokevirtual 62, 3) := by decide +kernel
theorem dX12_pass_46 : decode cX12_pass 46 = .ok (.astore_n 1, 1) := by decide +kernel
theorem dX12_pass_47 : decode cX12_pass 47 = .ok (.aload_n 1, 1) := by decide +kernel
theorem dX12_pass_48 : decode cX12_pass 48 = .ok (.invokeinterface 66 1, 5) := by decide +kernel
theorem dX12_pass_53 : decode cX12_pass 53 = .ok (.ifCond .eq 21, 3) := by decide +kernel
theorem dX12_pass_56 : decode cX12_pass 56 = .ok (.aload_n 1, 1) := by decide +kernel
theorem dX12_pass_57 : decode cX12_pass 57 = .ok (.invokeinterface 72 1, 5) := by decide +kernel
theorem dX12_pass_62 : decode cX12_pass 62 = .ok (.checkcast 91, 3) := by decide +kernel
theorem dX12_pass_65 : decode cX12_pass 65 = .ok (.astore_n 2, 1) := by decide +kernel
theorem dX12_pass_66 : decode cX12_pass 66 = .ok (.aload_n 2, 1) := by decide +kernel
theorem dX12_pass_67 : decode cX12_pass 67 = .ok (.iconst 0, 1) := by decide +kernel
theorem dX12_pass_68 : decode cX12_pass 68 = .ok (.putfield 212, 3) := by decide +kernel
theorem dX12_pass_71 : decode cX12_pass 71 = .ok (.goto (-24), 3) := by decide +kernel
theorem dX12_pass_74 : decode cX12_pass 74 = .ok (.aload_n 0, 1) := by decide +kernel
theorem dX12_pass_75 : decode cX12_pass 75 = .ok (.getfield 38, 3) := by decide +kernel
theorem dX12_pass_78 : decode cX12_pass 78 = .ok (.invokevirtual 62, 3) := by decide +kernel
theorem dX12_pass_81 : decode cX12_pass 81 = .ok (.astore_n 1, 1) := by decide +kernel
theorem dX12_pass_82 : decode cX12_pass 82 = .ok (.aload_n 1, 1) := by decide +kernel
theorem dX12_pass_83 : decode cX12_pass 83 = .ok (.invokeinterface 66 1, 5) := by decide +kernel
theorem dX12_pass_88 : decode cX12_pass 88 = .ok (.ifCond .eq 21, 3) := by decide +kernel
theorem dX12_pass_91 : decode cX12_pass 91 = .ok (.aload_n 1, 1) := by decide +kernel
theorem dX12_pass_92 : decode cX12_pass 92 = .ok (.invokeinterface 72 1, 5) := by decide +kernel
theorem dX12_pass_97 : decode cX12_pass 97 = .ok (.checkcast 101, 3) := by decide +kernel
theorem dX12_pass_100 : decode cX12_pass 100 = .ok (.astore_n 2, 1) := by decide +kernel
theorem dX12_pass_101 : decode cX12_pass 101 = .ok (.aload_n 0, 1) := by decide +kernel
theorem dX12_pass_102 : decode cX12_pass 102 = .ok (.aload_n 2, 1) := by decide +kernel
theorem dX12_pass_103 : decode cX12_pass 103 = .ok (.invokevirtual 257, 3) := by decide +kernel
theorem dX12_pass_106 : decode cX12_pass 106 = .ok (.goto (-24), 3) := by decide +kernel
theorem dX12_pass_109 : decode cX12_pass 109 = .ok (.aload_n 0, 1) := by decide +kernel
theorem dX12_pass_110 : decode cX12_pass 110 = .ok (.dup, 1) := by decide +kernel
theorem dX12_pass_111 : decode cX12_pass 111 = .ok (.getfield 42, 3) := by decide +kernel
theorem dX12_pass_114 : decode cX12_pass 114 = .ok (.iconst 1, 1) := by decide +kernel
theorem dX12_pass_115 : decode cX12_pass 115 = .ok (.iadd, 1) := by decide +kernel
theorem dX12_pass_116 : decode cX12_pass 116 = .ok (.putfield 42, 3) := by decide +kernel
theorem dX12_pass_119 : decode cX12_pass 119 = .ok (.return_, 1) := by decide +kernel
theorem dJ5_init_d00df_0 : decode cJ5_init_d00df 0 = .ok (.aload_n 0, 1) := by decide +kernel
theorem dJ5_init_d00df_1 : decode cJ5_init_d00df 1 = .ok (.invokespecial 3, 3) := by decide +kernel
theorem dJ5_init_d00df_4 : decode cJ5_init_d00df 4 = .ok (.getstatic 18, 3) := by decide +kernel
theorem dJ5_init_d00df_7 : decode cJ5_init_d00df 7 = .ok (.ifCond .eq 18, 3) := by decide +kernel
theorem dJ5_init_d00df_10 : decode cJ5_init_d00df 10 = .ok (.aload_n 0, 1) := by decide +kernel
theorem dJ5_init_d00df_11 : decode cJ5_init_d00df 11 = .ok (.iload_n 1, 1) := by decide +kernel
theorem dJ5_init_d00df_12 : decode cJ5_init_d00df 12 = .ok (.newarray .byte, 2) := by decide +kernel
theorem dJ5_init_d00df_14 : decode cJ5_init_d00df 14 = .ok (.putfield 15, 3) := by decide +kernel
theorem dJ5_init_d00df_17 : decode cJ5_init_d00df 17 = .ok (.aload_n 0, 1) := by decide +kernel
theorem dJ5_init_d00df_18 : decode cJ5_init_d00df 18 = .ok (.iconst 0, 1) := by decide +kernel
theorem dJ5_init_d00df_19 : decode cJ5_init_d00df 19 = .ok (.putfield 22, 3) := by decide +kernel
theorem dJ5_init_d00df_22 : decode cJ5_init_d00df 22 = .ok (.goto 16, 3) := by decide +kernel
theorem dJ5_init_d00df_25 : decode cJ5_init_d00df 25 = .ok (.aload_n 0, 1) := by decide +kernel
theorem dJ5_init_d00df_26 : decode cJ5_init_d00df 26 = .ok (.iload_n 1, 1) := by decide +kernel
theorem dJ5_init_d00df_27 : decode cJ5_init_d00df 27 = .ok (.invokestatic 26, 3) := by decide +kernel
theorem dJ5_init_d00df_30 : decode cJ5_init_d00df 30 = .ok (.putfield 15, 3) := by decide +kernel
theorem dJ5_init_d00df_33 : decode cJ5_init_d00df 33 = .ok (.aload_n 0, 1) := by decide +kernel
theorem dJ5_init_d00df_34 : decode cJ5_init_d00df 34 = .ok (.iconst 1, 1) := by decide +kernel
theorem dJ5_init_d00df_35 : decode cJ5_init_d00df 35 = .ok (.putfield 22, 3) := by decide +kernel
theorem dJ5_init_d00df_38 : decode cJ5_init_d00df 38 = .ok (.return_, 1) := by decide +kernel
theorem dJ5_length_8abf5_0 : decode cJ5_length_8abf5 0 = .ok (.aload_n 0, 1) := by decide +kernel
theorem dJ5_length_8abf5_1 : decode cJ5_length_8abf5 1 = .ok (.getfield 79, 3) := by decide +kernel
theorem dJ5_length_8abf5_4 : decode cJ5_length_8abf5 4 = .ok (.ireturn, 1) := by decide +kernel
theorem dJ5_ensureCapacityInternal_d00df_0 : decode cJ5_ensureCapacityInternal_d00df 0 = .ok (.aload_n 0, 1) := by decide +kernel
theorem dJ5_ensureCapacityInternal_d00df_1 : decode cJ5_ensureCapacityInternal_d00df 1 = .ok (.getfield 15, 3) := by decide +kernel
theorem dJ5_ensureCapacityInternal_d00df_4 : decode cJ5_ensureCapacityInternal_d00df 4 = .ok (.arraylength, 1) := by decide +kernel
theorem dJ5_ensureCapacityInternal_d00df_5 : decode cJ5_ensureCapacityInternal_d00df 5 = .ok (.aload_n 0, 1) := by decide +kernel
theorem dJ5_ensureCapacityInternal_d00df_6 : decode cJ5_ensureCapacityInternal_d00df 6 = .ok (.getfield 22, 3) := by decide +kernel
theorem dJ5_ensureCapacityInternal_d00df_9 : decode cJ5_ensureCapacityInternal_d00df 9 = .ok (.ishr, 1) := by decide +kernel
theorem dJ5_ensureCapacityInternal_d00df_10 : decode cJ5_ensureCapacityInternal_d00df 10 = .ok (.istore_n 2, 1) := by decide +kernel
theorem dJ5_ensureCapacityInternal_d00df_11 : decode cJ5_ensureCapacityInternal_d00df 11 = .ok (.iload_n 1, 1) := by decide +kernel
theorem dJ5_ensureCapacityInternal_d00df_12 : decode cJ5_ensureCapacityInternal_d00df 12 = .ok (.iload_n 2, 1) := by decide +kernel
theorem dJ5_ensureCapacityInternal_d00df_13 : decode cJ5_ensureCapacityInternal_d00df 13 = .ok (.isub, 1) := by decide +kernel
theorem dJ5_ensureCapacityInternal_d00df_14 : decode cJ5_ensureCapacityInternal_d00df 14 = .ok (.ifCond .le 24, 3) := by decide +kernel
theorem dJ5_ensureCapacityInternal_d00df_17 : decode cJ5_ensureCapacityInternal_d00df 17 = .ok (.aload_n 0, 1) := by decide +kernel
theorem dJ5_ensureCapacityInternal_d00df_18 : decode cJ5_ensureCapacityInternal_d00df 18 = .ok (.aload_n 0, 1) := by decide +kernel
theorem dJ5_ensureCapacityInternal_d00df_19 : decode cJ5_ensureCapacityInternal_d00df 19 = .ok (.getfield 15, 3) := by decide +kernel
theorem dJ5_ensureCapacityInternal_d00df_22 : decode cJ5_ensureCapacityInternal_d00df 22 = .ok (.aload_n 0, 1) := by decide +kernel
theorem dJ5_ensureCapacityInternal_d00df_23 : decode cJ5_ensureCapacityInternal_d00df 23 = .ok (.iload_n 1, 1) := by decide +kernel
theorem dJ5_ensureCapacityInternal_d00df_24 : decode cJ5_ensureCapacityInternal_d00df 24 = .ok (.invokevirtual 104, 3) := by decide +kernel
theorem dJ5_ensureCapacityInternal_d00df_27 : decode cJ5_ensureCapacityInternal_d00df 27 = .ok (.aload_n 0, 1) := by decide +kernel
theorem dJ5_ensureCapacityInternal_d00df_28 : decode cJ5_ensureCapacityInternal_d00df 28 = .ok (.getfield 22, 3) := by decide +kernel
theorem dJ5_ensureCapacityInternal_d00df_31 : decode cJ5_ensureCapacityInternal_d00df 31 = .ok (.ishl, 1) := by decide +kernel
theorem dJ5_ensureCapacityInternal_d00df_32 : decode cJ5_ensureCapacityInternal_d00df 32 = .ok (.invokestatic 108, 3) := by decide +kernel
theorem dJ5_ensureCapacityInternal_d00df_35 : decode cJ5_ensureCapacityInternal_d00df 35 = .ok (.putfield 15, 3) := by decide +kernel
theorem dJ5_ensureCapacityInternal_d00df_38 : decode cJ5_ensureCapacityInternal_d00df 38 = .ok (.return_, 1) := by decide +kernel
theorem dJ5_newCapacity_0f7a4_0 : decode cJ5_newCapacity_0f7a4 0 = .ok (.aload_n 0, 1) := by decide +kernel
theorem dJ5_newCapacity_0f7a4_1 : decode cJ5_newCapacity_0f7a4 1 = .ok (.getfield 15, 3) := by decide +kernel
theorem dJ5_newCapacity_0f7a4_4 : decode cJ5_newCapacity_0f7a4 4 = .ok (.arraylength, 1) := by decide +kernel
theorem dJ5_newCapacity_0f7a4_5 : decode cJ5_newCapacity_0f7a4 5 = .ok (.istore_n 2, 1) := by decide +kernel
theorem dJ5_newCapacity_0f7a4_6 : decode cJ5_newCapacity_0f7a4 6 = .ok (.iload_n 1, 1) := by decide +kernel
theorem dJ5_newCapacity_0f7a4_7 : decode cJ5_newCapacity_0f7a4 7 = .ok (.aload_n 0, 1) := by decide +kernel
theorem dJ5_newCapacity_0f7a4_8 : decode cJ5_newCapacity_0f7a4 8 = .ok (.getfield 22, 3) := by decide +kernel
theorem dJ5_newCapacity_0f7a4_11 : decode cJ5_newCapacity_0f7a4 11 = .ok (.ishl, 1) := by decide +kernel
theorem dJ5_newCapacity_0f7a4_12 : decode cJ5_newCapacity_0f7a4 12 = .ok (.istore_n 3, 1) := by decide +kernel
theorem dJ5_newCapacity_0f7a4_13 : decode cJ5_newCapacity_0f7a4 13 = .ok (.iload_n 3, 1) := by decide +kernel
theorem dJ5_newCapacity_0f7a4_14 : decode cJ5_newCapacity_0f7a4 14 = .ok (.iload_n 2, 1) := by decide +kernel
theorem dJ5_newCapacity_0f7a4_15 : decode cJ5_newCapacity_0f7a4 15 = .ok (.isub, 1) := by decide +kernel
theorem dJ5_newCapacity_0f7a4_16 : decode cJ5_newCapacity_0f7a4 16 = .ok (.istore 4, 2) := by decide +kernel
theorem dJ5_newCapacity_0f7a4_18 : decode cJ5_newCapacity_0f7a4 18 = .ok (.iload_n 2, 1) := by decide +kernel
theorem dJ5_newCapacity_0f7a4_19 : decode cJ5_newCapacity_0f7a4 19 = .ok (.iload 4, 2) := by decide +kernel
theorem dJ5_newCapacity_0f7a4_21 : decode cJ5_newCapacity_0f7a4 21 = .ok (.iload_n 2, 1) := by decide +kernel
theorem dJ5_newCapacity_0f7a4_22 : decode cJ5_newCapacity_0f7a4 22 = .ok (.iconst 2, 1) := by decide +kernel
theorem dJ5_newCapacity_0f7a4_23 : decode cJ5_newCapacity_0f7a4 23 = .ok (.aload_n 0, 1) := by decide +kernel
theorem dJ5_newCapacity_0f7a4_24 : decode cJ5_newCapacity_0f7a4 24 = .ok (.getfield 22, 3) := by decide +kernel
theorem dJ5_newCapacity_0f7a4_27 : decode cJ5_newCapacity_0f7a4 27 = .ok (.ishl, 1) := by decide +kernel
theorem dJ5_newCapacity_0f7a4_28 : decode cJ5_newCapacity_0f7a4 28 = .ok (.iadd, 1) := by decide +kernel
theorem dJ5_newCapacity_0f7a4_29 : decode cJ5_newCapacity_0f7a4 29 = .ok (.invokestatic 114, 3) := by decide +kernel
theorem dJ5_newCapacity_0f7a4_32 : decode cJ5_newCapacity_0f7a4 32 = .ok (.istore 5, 2) := by decide +kernel
theorem dJ5_newCapacity_0f7a4_34 : decode cJ5_newCapacity_0f7a4 34 = .ok (.iload 5, 2) := by decide +kernel
theorem dJ5_newCapacity_0f7a4_36 : decode cJ5_newCapacity_0f7a4 36 = .ok (.ldc 39, 2) := by decide +kernel
theorem dJ5_newCapacity_0f7a4_38 : decode cJ5_newCapacity_0f7a4 38 = .ok (.if_icmp .ne 13, 3) := by decide +kernel
theorem dJ5_newCapacity_0f7a4_41 : decode cJ5_newCapacity_0f7a4 41 = .ok (.new 120, 3) := by decide +kernel
theorem dJ5_newCapacity_0f7a4_44 : decode cJ5_newCapacity_0f7a4 44 = .ok (.dup, 1) := by decide +kernel
theorem dJ5_newCapacity_0f7a4_45 : decode cJ5_newCapacity_0f7a4 45 = .ok (.ldc 122, 2) := by decide +kernel
theorem dJ5_newCapacity_0f7a4_47 : decode cJ5_newCapacity_0f7a4 47 = .ok (.invokespecial 124, 3) := by decide +kernel
theorem dJ5_newCapacity_0f7a4_50 : decode cJ5_newCapacity_0f7a4 50 = .ok (.athrow, 1) := by decide +kernel
theorem dJ5_newCapacity_0f7a4_51 : decode cJ5_newCapacity_0f7a4 51 = .ok (.iload 5, 2) := by decide +kernel
theorem dJ5_newCapacity_0f7a4_53 : decode cJ5_newCapacity_0f7a4 53 = .ok (.aload_n 0, 1) := by decide +kernel
theorem dJ5_newCapacity_0f7a4_54 : decode cJ5_newCapacity_0f7a4 54 = .ok (.getfield 22, 3) := by decide +kernel
theorem dJ5_newCapacity_0f7a4_57 : decode cJ5_newCapacity_0f7a4 57 = .ok (.ishr, 1) := by decide +kernel
theorem dJ5_newCapacity_0f7a4_58 : decode cJ5_newCapacity_0f7a4 58 = .ok (.ireturn, 1) := by decide +kernel
theorem dJ5_inflate_da8c8_0 : decode cJ5_inflate_da8c8 0 = .ok (.aload_n 0, 1) := by decide +kernel
theorem dJ5_inflate_da8c8_1 : decode cJ5_inflate_da8c8 1 = .ok (.invokevirtual 83, 3) := by decide +kernel
theorem dJ5_inflate_da8c8_4 : decode cJ5_inflate_da8c8 4 = .ok (.ifCond .ne 4, 3) := by decide +kernel
theorem dJ5_inflate_da8c8_7 : decode cJ5_inflate_da8c8 7 = .ok (.return_, 1) := by decide +kernel
theorem dJ5_inflate_da8c8_8 : decode cJ5_inflate_da8c8 8 = .ok (.aload_n 0, 1) := by decide +kernel
theorem dJ5_inflate_da8c8_9 : decode cJ5_inflate_da8c8 9 = .ok (.getfield 15, 3) := by decide +kernel
theorem dJ5_inflate_da8c8_12 : decode cJ5_inflate_da8c8 12 = .ok (.arraylength, 1) := by decide +kernel
theorem dJ5_inflate_da8c8_13 : decode cJ5_inflate_da8c8 13 = .ok (.invokestatic 26, 3) := by decide +kernel
theorem dJ5_inflate_da8c8_16 : decode cJ5_inflate_da8c8 16 = .ok (.astore_n 1, 1) := by decide +kernel
theorem dJ5_inflate_da8c8_17 : decode cJ5_inflate_da8c8 17 = .ok (.aload_n 0, 1) := by decide +kernel
theorem dJ5_inflate_da8c8_18 : decode cJ5_inflate_da8c8 18 = .ok (.getfield 15, 3) := by decide +kernel
theorem dJ5_inflate_da8c8_21 : decode cJ5_inflate_da8c8 21 = .ok (.iconst 0, 1) := by decide +kernel
theorem dJ5_inflate_da8c8_22 : decode cJ5_inflate_da8c8 22 = .ok (.aload_n 1, 1) := by decide +kernel
theorem dJ5_inflate_da8c8_23 : decode cJ5_inflate_da8c8 23 = .ok (.iconst 0, 1) := by decide +kernel
theorem dJ5_inflate_da8c8_24 : decode cJ5_inflate_da8c8 24 = .ok (.aload_n 0, 1) := by decide +kernel
theorem dJ5_inflate_da8c8_25 : decode cJ5_inflate_da8c8 25 = .ok (.getfield 79, 3) := by decide +kernel
theorem dJ5_inflate_da8c8_28 : decode cJ5_inflate_da8c8 28 = .ok (.invokestatic 125, 3) := by decide +kernel
theorem dJ5_inflate_da8c8_31 : decode cJ5_inflate_da8c8 31 = .ok (.aload_n 0, 1) := by decide +kernel
theorem dJ5_inflate_da8c8_32 : decode cJ5_inflate_da8c8 32 = .ok (.aload_n 1, 1) := by decide +kernel
theorem dJ5_inflate_da8c8_33 : decode cJ5_inflate_da8c8 33 = .ok (.putfield 15, 3) := by decide +kernel
theorem dJ5_inflate_da8c8_36 : decode cJ5_inflate_da8c8 36 = .ok (.aload_n 0, 1) := by decide +kernel
theorem dJ5_inflate_da8c8_37 : decode cJ5_inflate_da8c8 37 = .ok (.iconst 1, 1) := by decide +kernel
theorem dJ5_inflate_da8c8_38 : decode cJ5_inflate_da8c8 38 = .ok (.putfield 22, 3) := by decide +kernel
theorem dJ5_inflate_da8c8_41 : decode cJ5_inflate_da8c8 41 = .ok (.return_, 1) := by decide +kernel
theorem dJ5_append_cf1ce_0 : decode cJ5_append_cf1ce 0 = .ok (.aload_n 1, 1) := by decide +kernel
theorem dJ5_append_cf1ce_1 : decode cJ5_append_cf1ce 1 = .ok (.ifnonnull 8, 3) := by decide +kernel
theorem dJ5_append_cf1ce_4 : decode cJ5_append_cf1ce 4 = .ok (.aload_n 0, 1) := by decide +kernel
theorem dJ5_append_cf1ce_5 : decode cJ5_append_cf1ce 5 = .ok (.invokevirtual 204, 3) := by decide +kernel
theorem dJ5_append_cf1ce_8 : decode cJ5_append_cf1ce 8 = .ok (.areturn, 1) := by decide +kernel
theorem dJ5_append_cf1ce_9 : decode cJ5_append_cf1ce 9 = .ok (.aload_n 1, 1) := by decide +kernel
theorem dJ5_append_cf1ce_10 : decode cJ5_append_cf1ce 10 = .ok (.invokevirtual 32, 3) := by decide +kernel
theorem dJ5_append_cf1ce_13 : decode cJ5_append_cf1ce 13 = .ok (.istore_n 2, 1) := by decide +kernel
theorem dJ5_append_cf1ce_14 : decode cJ5_append_cf1ce 14 = .ok (.aload_n 0, 1) := by decide +kernel
theorem dJ5_append_cf1ce_15 : decode cJ5_append_cf1ce 15 = .ok (.aload_n 0, 1) := by decide +kernel
theorem dJ5_append_cf1ce_16 : decode cJ5_append_cf1ce 16 = .ok (.getfield 79, 3) := by decide +kernel
theorem dJ5_append_cf1ce_19 : decode cJ5_append_cf1ce 19 = .ok (.iload_n 2, 1) := by decide +kernel
theorem dJ5_append_cf1ce_20 : decode cJ5_append_cf1ce 20 = .ok (.iadd, 1) := by decide +kernel
theorem dJ5_append_cf1ce_21 : decode cJ5_append_cf1ce 21 = .ok (.invokevirtual 100, 3) := by decide +kernel
theorem dJ5_append_cf1ce_24 : decode cJ5_append_cf1ce 24 = .ok (.aload_n 0, 1) := by decide +kernel
theorem dJ5_append_cf1ce_25 : decode cJ5_append_cf1ce 25 = .ok (.aload_n 0, 1) := by decide +kernel
theorem dJ5_append_cf1ce_26 : decode cJ5_append_cf1ce 26 = .ok (.getfield 79, 3) := by decide +kernel
theorem dJ5_append_cf1ce_29 : decode cJ5_append_cf1ce 29 = .ok (.aload_n 1, 1) := by decide +kernel
theorem dJ5_append_cf1ce_30 : decode cJ5_append_cf1ce 30 = .ok (.invokevirtual 208, 3) := by decide +kernel
theorem dJ5_append_cf1ce_33 : decode cJ5_append_cf1ce 33 = .ok (.aload_n 0, 1) := by decide +kernel
theorem dJ5_append_cf1ce_34 : decode cJ5_append_cf1ce 34 = .ok (.dup, 1) := by decide +kernel
theorem dJ5_append_cf1ce_35 : decode cJ5_append_cf1ce 35 = .ok (.getfield 79, 3) := by decide +kernel
theorem dJ5_append_cf1ce_38 : decode cJ5_append_cf1ce 38 = .ok (.iload_n 2, 1) := by decide +kernel
theorem dJ5_append_cf1ce_39 : decode cJ5_append_cf1ce 39 = .ok (.iadd, 1) := by decide +kernel
theorem dJ5_append_cf1ce_40 : decode cJ5_append_cf1ce 40 = .ok (.putfield 79, 3) := by decide +kernel
theorem dJ5_append_cf1ce_43 : decode cJ5_append_cf1ce 43 = .ok (.aload_n 0, 1) := by decide +kernel
theorem dJ5_append_cf1ce_44 : decode cJ5_append_cf1ce 44 = .ok (.areturn, 1) := by decide +kernel
theorem dJ5_appendNull_278bc_0 : decode cJ5_appendNull_278bc 0 = .ok (.aload_n 0, 1) := by decide +kernel
theorem dJ5_appendNull_278bc_1 : decode cJ5_appendNull_278bc 1 = .ok (.aload_n 0, 1) := by decide +kernel
theorem dJ5_appendNull_278bc_2 : decode cJ5_appendNull_278bc 2 = .ok (.getfield 79, 3) := by decide +kernel
theorem dJ5_appendNull_278bc_5 : decode cJ5_appendNull_278bc 5 = .ok (.iconst 4, 1) := by decide +kernel
theorem dJ5_appendNull_278bc_6 : decode cJ5_appendNull_278bc 6 = .ok (.iadd, 1) := by decide +kernel
theorem dJ5_appendNull_278bc_7 : decode cJ5_appendNull_278bc 7 = .ok (.invokevirtual 100, 3) := by decide +kernel
theorem dJ5_appendNull_278bc_10 : decode cJ5_appendNull_278bc 10 = .ok (.aload_n 0, 1) := by decide +kernel
theorem dJ5_appendNull_278bc_11 : decode cJ5_appendNull_278bc 11 = .ok (.getfield 79, 3) := by decide +kernel
theorem dJ5_appendNull_278bc_14 : decode cJ5_appendNull_278bc 14 = .ok (.istore_n 1, 1) := by decide +kernel
theorem dJ5_appendNull_278bc_15 : decode cJ5_appendNull_278bc 15 = .ok (.aload_n 0, 1) := by decide +kernel
theorem dJ5_appendNull_278bc_16 : decode cJ5_appendNull_278bc 16 = .ok (.getfield 15, 3) := by decide +kernel
theorem dJ5_appendNull_278bc_19 : decode cJ5_appendNull_278bc 19 = .ok (.astore_n 2, 1) := by decide +kernel
theorem dJ5_appendNull_278bc_20 : decode cJ5_appendNull_278bc 20 = .ok (.aload_n 0, 1) := by decide +kernel
theorem dJ5_appendNull_278bc_21 : decode cJ5_appendNull_278bc 21 = .ok (.invokevirtual 83, 3) := by decide +kernel
theorem dJ5_appendNull_278bc_24 : decode cJ5_appendNull_278bc 24 = .ok (.ifCond .eq 38, 3) := by decide +kernel
theorem dJ5_appendNull_278bc_27 : decode cJ5_appendNull_278bc 27 = .ok (.aload_n 2, 1) := by decide +kernel
theorem dJ5_appendNull_278bc_28 : decode cJ5_appendNull_278bc 28 = .ok (.iload_n 1, 1) := by decide +kernel
theorem dJ5_appendNull_278bc_29 : decode cJ5_appendNull_278bc 29 = .ok (.iinc 1 1, 3) := by decide +kernel
theorem dJ5_appendNull_278bc_32 : decode cJ5_appendNull_278bc 32 = .ok (.bipush 110, 2) := by decide +kernel
theorem dJ5_appendNull_278bc_34 : decode cJ5_appendNull_278bc 34 = .ok (.bastore, 1) := by decide +kernel
theorem dJ5_appendNull_278bc_35 : decode cJ5_appendNull_278bc 35 = .ok (.aload_n 2, 1) := by decide +kernel
theorem dJ5_appendNull_278bc_36 : decode cJ5_appendNull_278bc 36 = .ok (.iload_n 1, 1) := by decide +kernel
theorem dJ5_appendNull_278bc_37 : decode cJ5_appendNull_278bc 37 = .ok (.iinc 1 1, 3) := by decide +kernel
theorem dJ5_appendNull_278bc_40 : decode cJ5_appendNull_278bc 40 = .ok (.bipush 117, 2) := by decide +kernel
theorem dJ5_appendNull_278bc_42 : decode cJ5_appendNull_278bc 42 = .ok (.bastore, 1) := by decide +kernel
theorem dJ5_appendNull_278bc_43 : decode cJ5_appendNull_278bc 43 = .ok (.aload_n 2, 1) := by decide +kernel
theorem dJ5_appendNull_278bc_44 : decode cJ5_appendNull_278bc 44 = .ok (.iload_n 1, 1) := by decide +kernel
theorem dJ5_appendNull_278bc_45 : decode cJ5_appendNull_278bc 45 = .ok (.iinc 1 1, 3) := by decide +kernel
theorem dJ5_appendNull_278bc_48 : decode cJ5_appendNull_278bc 48 = .ok (.bipush 108, 2) := by decide +kernel
theorem dJ5_appendNull_278bc_50 : decode cJ5_appendNull_278bc 50 = .ok (.bastore, 1) := by decide +kernel
theorem dJ5_appendNull_278bc_51 : decode cJ5_appendNull_278bc 51 = .ok (.aload_n 2, 1) := by decide +kernel
theorem dJ5_appendNull_278bc_52 : decode cJ5_appendNull_278bc 52 = .ok (.iload_n 1, 1) := by decide +kernel
theorem dJ5_appendNull_278bc_53 : decode cJ5_appendNull_278bc 53 = .ok (.iinc 1 1, 3) := by decide +kernel
theorem dJ5_appendNull_278bc_56 : decode cJ5_appendNull_278bc 56 = .ok (.bipush 108, 2) := by decide +kernel
theorem dJ5_appendNull_278bc_58 : decode cJ5_appendNull_278bc 58 = .ok (.bastore, 1) := by decide +kernel
theorem dJ5_appendNull_278bc_59 : decode cJ5_appendNull_278bc 59 = .ok (.goto 17, 3) := by decide +kernel
theorem dJ5_appendNull_278bc_62 : decode cJ5_appendNull_278bc 62 = .ok (.aload_n 2, 1) := by decide +kernel
theorem dJ5_appendNull_278bc_63 : decode cJ5_appendNull_278bc 63 = .ok (.iload_n 1, 1) := by decide +kernel
theorem dJ5_appendNull_278bc_64 : decode cJ5_appendNull_278bc 64 = .ok (.bipush 110, 2) := by decide +kernel
theorem dJ5_appendNull_278bc_66 : decode cJ5_appendNull_278bc 66 = .ok (.bipush 117, 2) := by decide +kernel
theorem dJ5_appendNull_278bc_68 : decode cJ5_appendNull_278bc 68 = .ok (.bipush 108, 2) := by decide +kernel
theorem dJ5_appendNull_278bc_70 : decode cJ5_appendNull_278bc 70 = .ok (.bipush 108, 2) := by decide +kernel
theorem dJ5_appendNull_278bc_72 : decode cJ5_appendNull_278bc 72 = .ok (.invokestatic 226, 3) := by decide +kernel
theorem dJ5_appendNull_278bc_75 : decode cJ5_appendNull_278bc 75 = .ok (.istore_n 1, 1) := by decide +kernel
theorem dJ5_appendNull_278bc_76 : decode cJ5_appendNull_278bc 76 = .ok (.aload_n 0, 1) := by decide +kernel
theorem dJ5_appendNull_278bc_77 : decode cJ5_appendNull_278bc 77 = .ok (.iload_n 1, 1) := by decide +kernel
theorem dJ5_appendNull_278bc_78 : decode cJ5_appendNull_278bc 78 = .ok (.putfield 79, 3) := by decide +kernel
theorem dJ5_appendNull_278bc_81 : decode cJ5_appendNull_278bc 81 = .ok (.aload_n 0, 1) := by decide +kernel
theorem dJ5_appendNull_278bc_82 : decode cJ5_appendNull_278bc 82 = .ok (.areturn, 1) := by decide +kernel
theorem dJ5_append_3fe6f_0 : decode cJ5_append_3fe6f 0 = .ok (.aload_n 0, 1) := by decide +kernel
theorem dJ5_append_3fe6f_1 : decode cJ5_append_3fe6f 1 = .ok (.aload_n 0, 1) := by decide +kernel
theorem dJ5_append_3fe6f_2 : decode cJ5_append_3fe6f 2 = .ok (.getfield 79, 3) := by decide +kernel
theorem dJ5_append_3fe6f_5 : decode cJ5_append_3fe6f 5 = .ok (.iconst 1, 1) := by decide +kernel
theorem dJ5_append_3fe6f_6 : decode cJ5_append_3fe6f 6 = .ok (.iadd, 1) := by decide +kernel
theorem dJ5_append_3fe6f_7 : decode cJ5_append_3fe6f 7 = .ok (.invokevirtual 100, 3) := by decide +kernel
theorem dJ5_append_3fe6f_10 : decode cJ5_append_3fe6f 10 = .ok (.aload_n 0, 1) := by decide +kernel
theorem dJ5_append_3fe6f_11 : decode cJ5_append_3fe6f 11 = .ok (.invokevirtual 83, 3) := by decide +kernel
theorem dJ5_append_3fe6f_14 : decode cJ5_append_3fe6f 14 = .ok (.ifCond .eq 31, 3) := by decide +kernel
theorem dJ5_append_3fe6f_17 : decode cJ5_append_3fe6f 17 = .ok (.iload_n 1, 1) := by decide +kernel
theorem dJ5_append_3fe6f_18 : decode cJ5_append_3fe6f 18 = .ok (.invokestatic 191, 3) := by decide +kernel
theorem dJ5_append_3fe6f_21 : decode cJ5_append_3fe6f 21 = .ok (.ifCond .eq 24, 3) := by decide +kernel
theorem dJ5_append_3fe6f_24 : decode cJ5_append_3fe6f 24 = .ok (.aload_n 0, 1) := by decide +kernel
theorem dJ5_append_3fe6f_25 : decode cJ5_append_3fe6f 25 = .ok (.getfield 15, 3) := by decide +kernel
theorem dJ5_append_3fe6f_28 : decode cJ5_append_3fe6f 28 = .ok (.aload_n 0, 1) := by decide +kernel
theorem dJ5_append_3fe6f_29 : decode cJ5_append_3fe6f 29 = .ok (.dup, 1) := by decide +kernel
theorem dJ5_append_3fe6f_30 : decode cJ5_append_3fe6f 30 = .ok (.getfield 79, 3) := by decide +kernel
theorem dJ5_append_3fe6f_33 : decode cJ5_append_3fe6f 33 = .ok (.dup_x1, 1) := by decide +kernel
theorem dJ5_append_3fe6f_34 : decode cJ5_append_3fe6f 34 = .ok (.iconst 1, 1) := by decide +kernel
theorem dJ5_append_3fe6f_35 : decode cJ5_append_3fe6f 35 = .ok (.iadd, 1) := by decide +kernel
theorem dJ5_append_3fe6f_36 : decode cJ5_append_3fe6f 36 = .ok (.putfield 79, 3) := by decide +kernel
theorem dJ5_append_3fe6f_39 : decode cJ5_append_3fe6f 39 = .ok (.iload_n 1, 1) := by decide +kernel
theorem dJ5_append_3fe6f_40 : decode cJ5_append_3fe6f 40 = .ok (.i2b, 1) := by decide +kernel
theorem dJ5_append_3fe6f_41 : decode cJ5_append_3fe6f 41 = .ok (.bastore, 1) := by decide +kernel
theorem dJ5_append_3fe6f_42 : decode cJ5_append_3fe6f 42 = .ok (.goto 33, 3) := by decide +kernel
theorem dJ5_append_3fe6f_45 : decode cJ5_append_3fe6f 45 = .ok (.aload_n 0, 1) := by decide +kernel
theorem dJ5_append_3fe6f_46 : decode cJ5_append_3fe6f 46 = .ok (.invokevirtual 83, 3) := by decide +kernel
theorem dJ5_append_3fe6f_49 : decode cJ5_append_3fe6f 49 = .ok (.ifCond .eq 7, 3) := by decide +kernel
theorem dJ5_append_3fe6f_52 : decode cJ5_append_3fe6f 52 = .ok (.aload_n 0, 1) := by decide +kernel
theorem dJ5_append_3fe6f_53 : decode cJ5_append_3fe6f 53 = .ok (.invokevirtual 195, 3) := by decide +kernel
theorem dJ5_append_3fe6f_56 : decode cJ5_append_3fe6f 56 = .ok (.aload_n 0, 1) := by decide +kernel
theorem dJ5_append_3fe6f_57 : decode cJ5_append_3fe6f 57 = .ok (.getfield 15, 3) := by decide +kernel
theorem dJ5_append_3fe6f_60 : decode cJ5_append_3fe6f 60 = .ok (.aload_n 0, 1) := by decide +kernel
theorem dJ5_append_3fe6f_61 : decode cJ5_append_3fe6f 61 = .ok (.dup, 1) := by decide +kernel
theorem dJ5_append_3fe6f_62 : decode cJ5_append_3fe6f 62 = .ok (.getfield 79, 3) := by decide +kernel
theorem dJ5_append_3fe6f_65 : decode cJ5_append_3fe6f 65 = .ok (.dup_x1, 1) := by decide +kernel
theorem dJ5_append_3fe6f_66 : decode cJ5_append_3fe6f 66 = .ok (.iconst 1, 1) := by decide +kernel
theorem dJ5_append_3fe6f_67 : decode cJ5_append_3fe6f 67 = .ok (.iadd, 1) := by decide +kernel
theorem dJ5_append_3fe6f_68 : decode cJ5_append_3fe6f 68 = .ok (.putfield 79, 3) := by decide +kernel
theorem dJ5_append_3fe6f_71 : decode cJ5_append_3fe6f 71 = .ok (.iload_n 1, 1) := by decide +kernel
theorem dJ5_append_3fe6f_72 : decode cJ5_append_3fe6f 72 = .ok (.invokestatic 197, 3) := by decide +kernel
theorem dJ5_append_3fe6f_75 : decode cJ5_append_3fe6f 75 = .ok (.aload_n 0, 1) := by decide +kernel
theorem dJ5_append_3fe6f_76 : decode cJ5_append_3fe6f 76 = .ok (.areturn, 1) := by decide +kernel
theorem dJ5_append_c97b9_0 : decode cJ5_append_c97b9 0 = .ok (.aload_n 0, 1) := by decide +kernel
theorem dJ5_append_c97b9_1 : decode cJ5_append_c97b9 1 = .ok (.getfield 79, 3) := by decide +kernel
theorem dJ5_append_c97b9_4 : decode cJ5_append_c97b9 4 = .ok (.istore_n 2, 1) := by decide +kernel
theorem dJ5_append_c97b9_5 : decode cJ5_append_c97b9 5 = .ok (.iload_n 2, 1) := by decide +kernel
theorem dJ5_append_c97b9_6 : decode cJ5_append_c97b9 6 = .ok (.iload_n 1, 1) := by decide +kernel
theorem dJ5_append_c97b9_7 : decode cJ5_append_c97b9 7 = .ok (.invokestatic 245, 3) := by decide +kernel
theorem dJ5_append_c97b9_10 : decode cJ5_append_c97b9 10 = .ok (.iadd, 1) := by decide +kernel
theorem dJ5_append_c97b9_11 : decode cJ5_append_c97b9 11 = .ok (.istore_n 3, 1) := by decide +kernel
theorem dJ5_append_c97b9_12 : decode cJ5_append_c97b9 12 = .ok (.aload_n 0, 1) := by decide +kernel
theorem dJ5_append_c97b9_13 : decode cJ5_append_c97b9 13 = .ok (.iload_n 3, 1) := by decide +kernel
theorem dJ5_append_c97b9_14 : decode cJ5_append_c97b9 14 = .ok (.invokevirtual 100, 3) := by decide +kernel
theorem dJ5_append_c97b9_17 : decode cJ5_append_c97b9 17 = .ok (.aload_n 0, 1) := by decide +kernel
theorem dJ5_append_c97b9_18 : decode cJ5_append_c97b9 18 = .ok (.invokevirtual 83, 3) := by decide +kernel
theorem dJ5_append_c97b9_21 : decode cJ5_append_c97b9 21 = .ok (.ifCond .eq 16, 3) := by decide +kernel
theorem dJ5_append_c97b9_24 : decode cJ5_append_c97b9 24 = .ok (.iload_n 1, 1) := by decide +kernel
theorem dJ5_append_c97b9_25 : decode cJ5_append_c97b9 25 = .ok (.iload_n 3, 1) := by decide +kernel
theorem dJ5_append_c97b9_26 : decode cJ5_append_c97b9 26 = .ok (.aload_n 0, 1) := by decide +kernel
theorem dJ5_append_c97b9_27 : decode cJ5_append_c97b9 27 = .ok (.getfield 15, 3) := by decide +kernel
theorem dJ5_append_c97b9_30 : decode cJ5_append_c97b9 30 = .ok (.invokestatic 248, 3) := by decide +kernel
theorem dJ5_append_c97b9_33 : decode cJ5_append_c97b9 33 = .ok (.pop, 1) := by decide +kernel
theorem dJ5_append_c97b9_34 : decode cJ5_append_c97b9 34 = .ok (.goto 14, 3) := by decide +kernel
theorem dJ5_append_c97b9_37 : decode cJ5_append_c97b9 37 = .ok (.iload_n 1, 1) := by decide +kernel
theorem dJ5_append_c97b9_38 : decode cJ5_append_c97b9 38 = .ok (.iload_n 2, 1) := by decide +kernel
theorem dJ5_append_c97b9_39 : decode cJ5_append_c97b9 39 = .ok (.iload_n 3, 1) := by decide +kernel
theorem dJ5_append_c97b9_40 : decode cJ5_append_c97b9 40 = .ok (.aload_n 0, 1) := by decide +kernel
theorem dJ5_append_c97b9_41 : decode cJ5_append_c97b9 41 = .ok (.getfield 15, 3) := by decide +kernel
theorem dJ5_append_c97b9_44 : decode cJ5_append_c97b9 44 = .ok (.invokestatic 251, 3) := by decide +kernel
theorem dJ5_append_c97b9_47 : decode cJ5_append_c97b9 47 = .ok (.pop, 1) := by decide +kernel
theorem dJ5_append_c97b9_48 : decode cJ5_append_c97b9 48 = .ok (.aload_n 0, 1) := by decide +kernel
theorem dJ5_append_c97b9_49 : decode cJ5_append_c97b9 49 = .ok (.iload_n 3, 1) := by decide +kernel
theorem dJ5_append_c97b9_50 : decode cJ5_append_c97b9 50 = .ok (.putfield 79, 3) := by decide +kernel
theorem dJ5_append_c97b9_53 : decode cJ5_append_c97b9 53 = .ok (.aload_n 0, 1) := by decide +kernel
theorem dJ5_append_c97b9_54 : decode cJ5_append_c97b9 54 = .ok (.areturn, 1) := by decide +kernel
theorem dJ5_getValue_6d5f1_0 : decode cJ5_getValue_6d5f1 0 = .ok (.aload_n 0, 1) := by decide +kernel
theorem dJ5_getValue_6d5f1_1 : decode cJ5_getValue_6d5f1 1 = .ok (.getfield 15, 3) := by decide +kernel
theorem dJ5_getValue_6d5f1_4 : decode cJ5_getValue_6d5f1 4 = .ok (.areturn, 1) := by decide +kernel
theorem dJ5_isLatin1_aae02_0 : decode cJ5_isLatin1_aae02 0 = .ok (.getstatic 18, 3) := by decide +kernel
theorem dJ5_isLatin1_aae02_3 : decode cJ5_isLatin1_aae02 3 = .ok (.ifCond .eq 14, 3) := by decide +kernel
theorem dJ5_isLatin1_aae02_6 : decode cJ5_isLatin1_aae02 6 = .ok (.aload_n 0, 1) := by decide +kernel
theorem dJ5_isLatin1_aae02_7 : decode cJ5_isLatin1_aae02 7 = .ok (.getfield 22, 3) := by decide +kernel
theorem dJ5_isLatin1_aae02_10 : decode cJ5_isLatin1_aae02 10 = .ok (.ifCond .ne 7, 3) := by decide +kernel
theorem dJ5_isLatin1_aae02_13 : decode cJ5_isLatin1_aae02 13 = .ok (.iconst 1, 1) := by decide +kernel
theorem dJ5_isLatin1_aae02_14 : decode cJ5_isLatin1_aae02 14 = .ok (.goto 4, 3) := by decide +kernel
theorem dJ5_isLatin1_aae02_17 : decode cJ5_isLatin1_aae02 17 = .ok (.iconst 0, 1) := by decide +kernel
theorem dJ5_isLatin1_aae02_18 : decode cJ5_isLatin1_aae02 18 = .ok (.ireturn, 1) := by decide +kernel
theorem dJ5_inflateIfNeededFor_a7421_0 : decode cJ5_inflateIfNeededFor_a7421 0 = .ok (.getstatic 18, 3) := by decide +kernel
theorem dJ5_inflateIfNeededFor_a7421_3 : decode cJ5_inflateIfNeededFor_a7421 3 = .ok (.ifCond .eq 18, 3) := by decide +kernel
theorem dJ5_inflateIfNeededFor_a7421_6 : decode cJ5_inflateIfNeededFor_a7421 6 = .ok (.aload_n 0, 1) := by decide +kernel
theorem dJ5_inflateIfNeededFor_a7421_7 : decode cJ5_inflateIfNeededFor_a7421 7 = .ok (.getfield 22, 3) := by decide +kernel
theorem dJ5_inflateIfNeededFor_a7421_10 : decode cJ5_inflateIfNeededFor_a7421 10 = .ok (.aload_n 1, 1) := by decide +kernel
theorem dJ5_inflateIfNeededFor_a7421_11 : decode cJ5_inflateIfNeededFor_a7421 11 = .ok (.invokevirtual 40, 3) := by decide +kernel
theorem dJ5_inflateIfNeededFor_a7421_14 : decode cJ5_inflateIfNeededFor_a7421 14 = .ok (.if_icmp .eq 7, 3) := by decide +kernel
theorem dJ5_inflateIfNeededFor_a7421_17 : decode cJ5_inflateIfNeededFor_a7421 17 = .ok (.aload_n 0, 1) := by decide +kernel
theorem dJ5_inflateIfNeededFor_a7421_18 : decode cJ5_inflateIfNeededFor_a7421 18 = .ok (.invokevirtual 195, 3) := by decide +kernel
theorem dJ5_inflateIfNeededFor_a7421_21 : decode cJ5_inflateIfNeededFor_a7421 21 = .ok (.return_, 1) := by decide +kernel
theorem dJ5_putStringAt_47b60_0 : decode cJ5_putStringAt_47b60 0 = .ok (.aload_n 0, 1) := by decide +kernel
theorem dJ5_putStringAt_47b60_1 : decode cJ5_putStringAt_47b60 1 = .ok (.aload_n 2, 1) := by decide +kernel
theorem dJ5_putStringAt_47b60_2 : decode cJ5_putStringAt_47b60 2 = .ok (.invokevirtual 397, 3) := by decide +kernel
theorem dJ5_putStringAt_47b60_5 : decode cJ5_putStringAt_47b60 5 = .ok (.aload_n 2, 1) := by decide +kernel
theorem dJ5_putStringAt_47b60_6 : decode cJ5_putStringAt_47b60 6 = .ok (.aload_n 0, 1) := by decide +kernel
theorem dJ5_putStringAt_47b60_7 : decode cJ5_putStringAt_47b60 7 = .ok (.getfield 15, 3) := by decide +kernel
theorem dJ5_putStringAt_47b60_10 : decode cJ5_putStringAt_47b60 10 = .ok (.iload_n 1, 1) := by decide +kernel
theorem dJ5_putStringAt_47b60_11 : decode cJ5_putStringAt_47b60 11 = .ok (.aload_n 0, 1) := by decide +kernel
theorem dJ5_putStringAt_47b60_12 : decode cJ5_putStringAt_47b60 12 = .ok (.getfield 22, 3) := by decide +kernel
theorem dJ5_putStringAt_47b60_15 : decode cJ5_putStringAt_47b60 15 = .ok (.invokevirtual 399, 3) := by decide +kernel
theorem dJ5_putStringAt_47b60_18 : decode cJ5_putStringAt_47b60 18 = .ok (.return_, 1) := by decide +kernel
theorem dJ6_getChars_ba4f3_0 : decode cJ6_getChars_ba4f3 0 = .ok (.iload_n 1, 1) := by decide +kernel
theorem dJ6_getChars_ba4f3_1 : decode cJ6_getChars_ba4f3 1 = .ok (.istore 5, 2) := by decide +kernel
theorem dJ6_getChars_ba4f3_3 : decode cJ6_getChars_ba4f3 3 = .ok (.iload_n 0, 1) := by decide +kernel
theorem dJ6_getChars_ba4f3_4 : decode cJ6_getChars_ba4f3 4 = .ok (.ifCond .ge 7, 3) := by decide +kernel
theorem dJ6_getChars_ba4f3_7 : decode cJ6_getChars_ba4f3 7 = .ok (.iconst 1, 1) := by decide +kernel
theorem dJ6_getChars_ba4f3_8 : decode cJ6_getChars_ba4f3 8 = .ok (.goto 4, 3) := by decide +kernel
theorem dJ6_getChars_ba4f3_11 : decode cJ6_getChars_ba4f3 11 = .ok (.iconst 0, 1) := by decide +kernel
theorem dJ6_getChars_ba4f3_12 : decode cJ6_getChars_ba4f3 12 = .ok (.istore 6, 2) := by decide +kernel
theorem dJ6_getChars_ba4f3_14 : decode cJ6_getChars_ba4f3 14 = .ok (.iload 6, 2) := by decide +kernel
theorem dJ6_getChars_ba4f3_16 : decode cJ6_getChars_ba4f3 16 = .ok (.ifCond .ne 6, 3) := by decide +kernel
theorem dJ6_getChars_ba4f3_19 : decode cJ6_getChars_ba4f3 19 = .ok (.iload_n 0, 1) := by decide +kernel
theorem dJ6_getChars_ba4f3_20 : decode cJ6_getChars_ba4f3 20 = .ok (.ineg, 1) := by decide +kernel
theorem dJ6_getChars_ba4f3_21 : decode cJ6_getChars_ba4f3 21 = .ok (.istore_n 0, 1) := by decide +kernel
theorem dJ6_getChars_ba4f3_22 : decode cJ6_getChars_ba4f3 22 = .ok (.iload_n 0, 1) := by decide +kernel
theorem dJ6_getChars_ba4f3_23 : decode cJ6_getChars_ba4f3 23 = .ok (.bipush (-100), 2) := by decide +kernel
theorem dJ6_getChars_ba4f3_25 : decode cJ6_getChars_ba4f3 25 = .ok (.if_icmp .gt 47, 3) := by decide +kernel
theorem dJ6_getChars_ba4f3_28 : decode cJ6_getChars_ba4f3 28 = .ok (.iload_n 0, 1) := by decide +kernel
theorem dJ6_getChars_ba4f3_29 : decode cJ6_getChars_ba4f3 29 = .ok (.bipush 100, 2) := by decide +kernel
theorem dJ6_getChars_ba4f3_31 : decode cJ6_getChars_ba4f3 31 = .ok (.idiv, 1) := by decide +kernel
theorem dJ6_getChars_ba4f3_32 : decode cJ6_getChars_ba4f3 32 = .ok (.istore_n 3, 1) := by decide +kernel
theorem dJ6_getChars_ba4f3_33 : decode cJ6_getChars_ba4f3 33 = .ok (.iload_n 3, 1) := by decide +kernel
theorem dJ6_getChars_ba4f3_34 : decode cJ6_getChars_ba4f3 34 = .ok (.bipush 100, 2) := by decide +kernel
theorem dJ6_getChars_ba4f3_36 : decode cJ6_getChars_ba4f3 36 = .ok (.imul, 1) := by decide +kernel
theorem dJ6_getChars_ba4f3_37 : decode cJ6_getChars_ba4f3 37 = .ok (.iload_n 0, 1) := by decide +kernel
theorem dJ6_getChars_ba4f3_38 : decode cJ6_getChars_ba4f3 38 = .ok (.isub, 1) := by decide +kernel
theorem dJ6_getChars_ba4f3_39 : decode cJ6_getChars_ba4f3 39 = .ok (.istore 4, 2) := by decide +kernel
theorem dJ6_getChars_ba4f3_41 : decode cJ6_getChars_ba4f3 41 = .ok (.iload_n 3, 1) := by decide +kernel
theorem dJ6_getChars_ba4f3_42 : decode cJ6_getChars_ba4f3 42 = .ok (.istore_n 0, 1) := by decide +kernel
theorem dJ6_getChars_ba4f3_43 : decode cJ6_getChars_ba4f3 43 = .ok (.aload_n 2, 1) := by decide +kernel
theorem dJ6_getChars_ba4f3_44 : decode cJ6_getChars_ba4f3 44 = .ok (.iinc 5 (-1), 3) := by decide +kernel
theorem dJ6_getChars_ba4f3_47 : decode cJ6_getChars_ba4f3 47 = .ok (.iload 5, 2) := by decide +kernel
theorem dJ6_getChars_ba4f3_49 : decode cJ6_getChars_ba4f3 49 = .ok (.getstatic 83, 3) := by decide +kernel
theorem dJ6_getChars_ba4f3_52 : decode cJ6_getChars_ba4f3 52 = .ok (.iload 4, 2) := by decide +kernel
theorem dJ6_getChars_ba4f3_54 : decode cJ6_getChars_ba4f3 54 = .ok (.baload, 1) := by decide +kernel
theorem dJ6_getChars_ba4f3_55 : decode cJ6_getChars_ba4f3 55 = .ok (.bastore, 1) := by decide +kernel
theorem dJ6_getChars_ba4f3_56 : decode cJ6_getChars_ba4f3 56 = .ok (.aload_n 2, 1) := by decide +kernel
theorem dJ6_getChars_ba4f3_57 : decode cJ6_getChars_ba4f3 57 = .ok (.iinc 5 (-1), 3) := by decide +kernel
theorem dJ6_getChars_ba4f3_60 : decode cJ6_getChars_ba4f3 60 = .ok (.iload 5, 2) := by decide +kernel
theorem dJ6_getChars_ba4f3_62 : decode cJ6_getChars_ba4f3 62 = .ok (.getstatic 87, 3) := by decide +kernel
theorem dJ6_getChars_ba4f3_65 : decode cJ6_getChars_ba4f3 65 = .ok (.iload 4, 2) := by decide +kernel
theorem dJ6_getChars_ba4f3_67 : decode cJ6_getChars_ba4f3 67 = .ok (.baload, 1) := by decide +kernel
theorem dJ6_getChars_ba4f3_68 : decode cJ6_getChars_ba4f3 68 = .ok (.bastore, 1) := by decide +kernel
theorem dJ6_getChars_ba4f3_69 : decode cJ6_getChars_ba4f3 69 = .ok (.goto (-47), 3) := by decide +kernel
theorem dJ6_getChars_ba4f3_72 : decode cJ6_getChars_ba4f3 72 = .ok (.aload_n 2, 1) := by decide +kernel
theorem dJ6_getChars_ba4f3_73 : decode cJ6_getChars_ba4f3 73 = .ok (.iinc 5 (-1), 3) := by decide +kernel
theorem dJ6_getChars_ba4f3_76 : decode cJ6_getChars_ba4f3 76 = .ok (.iload 5, 2) := by decide +kernel
theorem dJ6_getChars_ba4f3_78 : decode cJ6_getChars_ba4f3 78 = .ok (.getstatic 83, 3) := by decide +kernel
theorem dJ6_getChars_ba4f3_81 : decode cJ6_getChars_ba4f3 81 = .ok (.iload_n 0, 1) := by decide +kernel
theorem dJ6_getChars_ba4f3_82 : decode cJ6_getChars_ba4f3 82 = .ok (.ineg, 1) := by decide +kernel
theorem dJ6_getChars_ba4f3_83 : decode cJ6_getChars_ba4f3 83 = .ok (.baload, 1) := by decide +kernel
theorem dJ6_getChars_ba4f3_84 : decode cJ6_getChars_ba4f3 84 = .ok (.bastore, 1) := by decide +kernel
theorem dJ6_getChars_ba4f3_85 : decode cJ6_getChars_ba4f3 85 = .ok (.iload_n 0, 1) := by decide +kernel
theorem dJ6_getChars_ba4f3_86 : decode cJ6_getChars_ba4f3 86 = .ok (.bipush (-9), 2) := by decide +kernel
theorem dJ6_getChars_ba4f3_88 : decode cJ6_getChars_ba4f3 88 = .ok (.if_icmp .ge 16, 3) := by decide +kernel
theorem dJ6_getChars_ba4f3_91 : decode cJ6_getChars_ba4f3 91 = .ok (.aload_n 2, 1) := by decide +kernel
theorem dJ6_getChars_ba4f3_92 : decode cJ6_getChars_ba4f3 92 = .ok (.iinc 5 (-1), 3) := by decide +kernel
theorem dJ6_getChars_ba4f3_95 : decode cJ6_getChars_ba4f3 95 = .ok (.iload 5, 2) := by decide +kernel
theorem dJ6_getChars_ba4f3_97 : decode cJ6_getChars_ba4f3 97 = .ok (.getstatic 87, 3) := by decide +kernel
theorem dJ6_getChars_ba4f3_100 : decode cJ6_getChars_ba4f3 100 = .ok (.iload_n 0, 1) := by decide +kernel
theorem dJ6_getChars_ba4f3_101 : decode cJ6_getChars_ba4f3 101 = .ok (.ineg, 1) := by decide +kernel
theorem dJ6_getChars_ba4f3_102 : decode cJ6_getChars_ba4f3 102 = .ok (.baload, 1) := by decide +kernel
theorem dJ6_getChars_ba4f3_103 : decode cJ6_getChars_ba4f3 103 = .ok (.bastore, 1) := by decide +kernel
theorem dJ6_getChars_ba4f3_104 : decode cJ6_getChars_ba4f3 104 = .ok (.iload 6, 2) := by decide +kernel
theorem dJ6_getChars_ba4f3_106 : decode cJ6_getChars_ba4f3 106 = .ok (.ifCond .eq 12, 3) := by decide +kernel
theorem dJ6_getChars_ba4f3_109 : decode cJ6_getChars_ba4f3 109 = .ok (.aload_n 2, 1) := by decide +kernel
theorem dJ6_getChars_ba4f3_110 : decode cJ6_getChars_ba4f3 110 = .ok (.iinc 5 (-1), 3) := by decide +kernel
theorem dJ6_getChars_ba4f3_113 : decode cJ6_getChars_ba4f3 113 = .ok (.iload 5, 2) := by decide +kernel
theorem dJ6_getChars_ba4f3_115 : decode cJ6_getChars_ba4f3 115 = .ok (.bipush 45, 2) := by decide +kernel
theorem dJ6_getChars_ba4f3_117 : decode cJ6_getChars_ba4f3 117 = .ok (.bastore, 1) := by decide +kernel
theorem dJ6_getChars_ba4f3_118 : decode cJ6_getChars_ba4f3 118 = .ok (.iload 5, 2) := by decide +kernel
theorem dJ6_getChars_ba4f3_120 : decode cJ6_getChars_ba4f3 120 = .ok (.ireturn, 1) := by decide +kernel
theorem dJ6_stringSize_0f7a4_0 : decode cJ6_stringSize_0f7a4 0 = .ok (.iconst 1, 1) := by decide +kernel
theorem dJ6_stringSize_0f7a4_1 : decode cJ6_stringSize_0f7a4 1 = .ok (.istore_n 1, 1) := by decide +kernel
theorem dJ6_stringSize_0f7a4_2 : decode cJ6_stringSize_0f7a4 2 = .ok (.iload_n 0, 1) := by decide +kernel
theorem dJ6_stringSize_0f7a4_3 : decode cJ6_stringSize_0f7a4 3 = .ok (.ifCond .lt 8, 3) := by decide +kernel
theorem dJ6_stringSize_0f7a4_6 : decode cJ6_stringSize_0f7a4 6 = .ok (.iconst 0, 1) := by decide +kernel
theorem dJ6_stringSize_0f7a4_7 : decode cJ6_stringSize_0f7a4 7 = .ok (.istore_n 1, 1) := by decide +kernel
theorem dJ6_stringSize_0f7a4_8 : decode cJ6_stringSize_0f7a4 8 = .ok (.iload_n 0, 1) := by decide +kernel
theorem dJ6_stringSize_0f7a4_9 : decode cJ6_stringSize_0f7a4 9 = .ok (.ineg, 1) := by decide +kernel
theorem dJ6_stringSize_0f7a4_10 : decode cJ6_stringSize_0f7a4 10 = .ok (.istore_n 0, 1) := by decide +kernel
theorem dJ6_stringSize_0f7a4_11 : decode cJ6_stringSize_0f7a4 11 = .ok (.bipush (-10), 2) := by decide +kernel
theorem dJ6_stringSize_0f7a4_13 : decode cJ6_stringSize_0f7a4 13 = .ok (.istore_n 2, 1) := by decide +kernel
theorem dJ6_stringSize_0f7a4_14 : decode cJ6_stringSize_0f7a4 14 = .ok (.iconst 1, 1) := by decide +kernel
theorem dJ6_stringSize_0f7a4_15 : decode cJ6_stringSize_0f7a4 15 = .ok (.istore_n 3, 1) := by decide +kernel
theorem dJ6_stringSize_0f7a4_16 : decode cJ6_stringSize_0f7a4 16 = .ok (.iload_n 3, 1) := by decide +kernel
theorem dJ6_stringSize_0f7a4_17 : decode cJ6_stringSize_0f7a4 17 = .ok (.bipush 10, 2) := by decide +kernel
theorem dJ6_stringSize_0f7a4_19 : decode cJ6_stringSize_0f7a4 19 = .ok (.if_icmp .ge 23, 3) := by decide +kernel
theorem dJ6_stringSize_0f7a4_22 : decode cJ6_stringSize_0f7a4 22 = .ok (.iload_n 0, 1) := by decide +kernel
theorem dJ6_stringSize_0f7a4_23 : decode cJ6_stringSize_0f7a4 23 = .ok (.iload_n 2, 1) := by decide +kernel
theorem dJ6_stringSize_0f7a4_24 : decode cJ6_stringSize_0f7a4 24 = .ok (.if_icmp .le 7, 3) := by decide +kernel
theorem dJ6_stringSize_0f7a4_27 : decode cJ6_stringSize_0f7a4 27 = .ok (.iload_n 3, 1) := by decide +kernel
theorem dJ6_stringSize_0f7a4_28 : decode cJ6_stringSize_0f7a4 28 = .ok (.iload_n 1, 1) := by decide +kernel
theorem dJ6_stringSize_0f7a4_29 : decode cJ6_stringSize_0f7a4 29 = .ok (.iadd, 1) := by decide +kernel
theorem dJ6_stringSize_0f7a4_30 : decode cJ6_stringSize_0f7a4 30 = .ok (.ireturn, 1) := by decide +kernel
theorem dJ6_stringSize_0f7a4_31 : decode cJ6_stringSize_0f7a4 31 = .ok (.bipush 10, 2) := by decide +kernel
theorem dJ6_stringSize_0f7a4_33 : decode cJ6_stringSize_0f7a4 33 = .ok (.iload_n 2, 1) := by decide +kernel
theorem dJ6_stringSize_0f7a4_34 : decode cJ6_stringSize_0f7a4 34 = .ok (.imul, 1) := by decide +kernel
theorem dJ6_stringSize_0f7a4_35 : decode cJ6_stringSize_0f7a4 35 = .ok (.istore_n 2, 1) := by decide +kernel
theorem dJ6_stringSize_0f7a4_36 : decode cJ6_stringSize_0f7a4 36 = .ok (.iinc 3 1, 3) := by decide +kernel
theorem dJ6_stringSize_0f7a4_39 : decode cJ6_stringSize_0f7a4 39 = .ok (.goto (-23), 3) := by decide +kernel
theorem dJ6_stringSize_0f7a4_42 : decode cJ6_stringSize_0f7a4 42 = .ok (.bipush 10, 2) := by decide +kernel
theorem dJ6_stringSize_0f7a4_44 : decode cJ6_stringSize_0f7a4 44 = .ok (.iload_n 1, 1) := by decide +kernel
theorem dJ6_stringSize_0f7a4_45 : decode cJ6_stringSize_0f7a4 45 = .ok (.iadd, 1) := by decide +kernel
theorem dJ6_stringSize_0f7a4_46 : decode cJ6_stringSize_0f7a4 46 = .ok (.ireturn, 1) := by decide +kernel
theorem dJ9_max_7cf53_0 : decode cJ9_max_7cf53 0 = .ok (.iload_n 0, 1) := by decide +kernel
theorem dJ9_max_7cf53_1 : decode cJ9_max_7cf53 1 = .ok (.iload_n 1, 1) := by decide +kernel
theorem dJ9_max_7cf53_2 : decode cJ9_max_7cf53 2 = .ok (.if_icmp .lt 7, 3) := by decide +kernel
theorem dJ9_max_7cf53_5 : decode cJ9_max_7cf53 5 = .ok (.iload_n 0, 1) := by decide +kernel
theorem dJ9_max_7cf53_6 : decode cJ9_max_7cf53 6 = .ok (.goto 4, 3) := by decide +kernel
theorem dJ9_max_7cf53_9 : decode cJ9_max_7cf53 9 = .ok (.iload_n 1, 1) := by decide +kernel
theorem dJ9_max_7cf53_10 : decode cJ9_max_7cf53 10 = .ok (.ireturn, 1) := by decide +kernel
theorem dJ9_min_7cf53_0 : decode cJ9_min_7cf53 0 = .ok (.iload_n 0, 1) := by decide +kernel
theorem dJ9_min_7cf53_1 : decode cJ9_min_7cf53 1 = .ok (.iload_n 1, 1) := by decide +kernel
theorem dJ9_min_7cf53_2 : decode cJ9_min_7cf53 2 = .ok (.if_icmp .gt 7, 3) := by decide +kernel
theorem dJ9_min_7cf53_5 : decode cJ9_min_7cf53 5 = .ok (.iload_n 0, 1) := by decide +kernel
theorem dJ9_min_7cf53_6 : decode cJ9_min_7cf53 6 = .ok (.goto 4, 3) := by decide +kernel
theorem dJ9_min_7cf53_9 : decode cJ9_min_7cf53 9 = .ok (.iload_n 1, 1) := by decide +kernel
theorem dJ9_min_7cf53_10 : decode cJ9_min_7cf53 10 = .ok (.ireturn, 1) := by decide +kernel
theorem dJ9_min_f86c9_0 : decode cJ9_min_f86c9 0 = .ok (.lload_n 0, 1) := by decide +kernel
theorem dJ9_min_f86c9_1 : decode cJ9_min_f86c9 1 = .ok (.lload_n 2, 1) := by decide +kernel
theorem dJ9_min_f86c9_2 : decode cJ9_min_f86c9 2 = .ok (.lcmp, 1) := by decide +kernel
theorem dJ9_min_f86c9_3 : decode cJ9_min_f86c9 3 = .ok (.ifCond .gt 7, 3) := by decide +kernel
theorem dJ9_min_f86c9_6 : decode cJ9_min_f86c9 6 = .ok (.lload_n 0, 1) := by decide +kernel
theorem dJ9_min_f86c9_7 : decode cJ9_min_f86c9 7 = .ok (.goto 4, 3) := by decide +kernel
theorem dJ9_min_f86c9_10 : decode cJ9_min_f86c9 10 = .ok (.lload_n 2, 1) := by decide +kernel
theorem dJ9_min_f86c9_11 : decode cJ9_min_f86c9 11 = .ok (.lreturn, 1) := by decide +kernel
theorem dJ0_init_81219_0 : decode cJ0_init_81219 0 = .ok (.aload_n 0, 1) := by decide +kernel
theorem dJ0_init_81219_1 : decode cJ0_init_81219 1 = .ok (.aload_n 1, 1) := by decide +kernel
theorem dJ0_init_81219_2 : decode cJ0_init_81219 2 = .ok (.aconst_null, 1) := by decide +kernel
theorem dJ0_init_81219_3 : decode cJ0_init_81219 3 = .ok (.invokespecial 489, 3) := by decide +kernel
theorem dJ0_init_81219_6 : decode cJ0_init_81219 6 = .ok (.return_, 1) := by decide +kernel
theorem dJ0_length_8abf5_0 : decode cJ0_length_8abf5 0 = .ok (.aload_n 0, 1) := by decide +kernel
theorem dJ0_length_8abf5_1 : decode cJ0_length_8abf5 1 = .ok (.getfield 9, 3) := by decide +kernel
theorem dJ0_length_8abf5_4 : decode cJ0_length_8abf5 4 = .ok (.arraylength, 1) := by decide +kernel
theorem dJ0_length_8abf5_5 : decode cJ0_length_8abf5 5 = .ok (.aload_n 0, 1) := by decide +kernel
theorem dJ0_length_8abf5_6 : decode cJ0_length_8abf5 6 = .ok (.invokevirtual 335, 3) := by decide +kernel
theorem dJ0_length_8abf5_9 : decode cJ0_length_8abf5 9 = .ok (.ishr, 1) := by decide +kernel
theorem dJ0_length_8abf5_10 : decode cJ0_length_8abf5 10 = .ok (.ireturn, 1) := by decide +kernel
theorem dJ0_charAt_5068e_0 : decode cJ0_charAt_5068e 0 = .ok (.aload_n 0, 1) := by decide +kernel
theorem dJ0_charAt_5068e_1 : decode cJ0_charAt_5068e 1 = .ok (.invokevirtual 492, 3) := by decide +kernel
theorem dJ0_charAt_5068e_4 : decode cJ0_charAt_5068e 4 = .ok (.ifCond .eq 12, 3) := by decide +kernel
theorem dJ0_charAt_5068e_7 : decode cJ0_charAt_5068e 7 = .ok (.aload_n 0, 1) := by decide +kernel
theorem dJ0_charAt_5068e_8 : decode cJ0_charAt_5068e 8 = .ok (.getfield 9, 3) := by decide +kernel
theorem dJ0_charAt_5068e_11 : decode cJ0_charAt_5068e 11 = .ok (.iload_n 1, 1) := by decide +kernel
theorem dJ0_charAt_5068e_12 : decode cJ0_charAt_5068e 12 = .ok (.invokestatic 495, 3) := by decide +kernel
theorem dJ0_charAt_5068e_15 : decode cJ0_charAt_5068e 15 = .ok (.ireturn, 1) := by decide +kernel
theorem dJ0_charAt_5068e_16 : decode cJ0_charAt_5068e 16 = .ok (.aload_n 0, 1) := by decide +kernel
theorem dJ0_charAt_5068e_17 : decode cJ0_charAt_5068e 17 = .ok (.getfield 9, 3) := by decide +kernel
theorem dJ0_charAt_5068e_20 : decode cJ0_charAt_5068e 20 = .ok (.iload_n 1, 1) := by decide +kernel
theorem dJ0_charAt_5068e_21 : decode cJ0_charAt_5068e 21 = .ok (.invokestatic 498, 3) := by decide +kernel
theorem dJ0_charAt_5068e_24 : decode cJ0_charAt_5068e 24 = .ok (.ireturn, 1) := by decide +kernel
theorem dJ0_getBytes_840e7_0 : decode cJ0_getBytes_840e7 0 = .ok (.aload_n 0, 1) := by decide +kernel
theorem dJ0_getBytes_840e7_1 : decode cJ0_getBytes_840e7 1 = .ok (.invokevirtual 335, 3) := by decide +kernel
theorem dJ0_getBytes_840e7_4 : decode cJ0_getBytes_840e7 4 = .ok (.iload_n 3, 1) := by decide +kernel
theorem dJ0_getBytes_840e7_5 : decode cJ0_getBytes_840e7 5 = .ok (.if_icmp .ne 23, 3) := by decide +kernel
theorem dJ0_getBytes_840e7_8 : decode cJ0_getBytes_840e7 8 = .ok (.aload_n 0, 1) := by decide +kernel
theorem dJ0_getBytes_840e7_9 : decode cJ0_getBytes_840e7 9 = .ok (.getfield 9, 3) := by decide +kernel
theorem dJ0_getBytes_840e7_12 : decode cJ0_getBytes_840e7 12 = .ok (.iconst 0, 1) := by decide +kernel
theorem dJ0_getBytes_840e7_13 : decode cJ0_getBytes_840e7 13 = .ok (.aload_n 1, 1) := by decide +kernel
theorem dJ0_getBytes_840e7_14 : decode cJ0_getBytes_840e7 14 = .ok (.iload_n 2, 1) := by decide +kernel
theorem dJ0_getBytes_840e7_15 : decode cJ0_getBytes_840e7 15 = .ok (.iload_n 3, 1) := by decide +kernel
theorem dJ0_getBytes_840e7_16 : decode cJ0_getBytes_840e7 16 = .ok (.ishl, 1) := by decide +kernel
theorem dJ0_getBytes_840e7_17 : decode cJ0_getBytes_840e7 17 = .ok (.aload_n 0, 1) := by decide +kernel
theorem dJ0_getBytes_840e7_18 : decode cJ0_getBytes_840e7 18 = .ok (.getfield 9, 3) := by decide +kernel
theorem dJ0_getBytes_840e7_21 : decode cJ0_getBytes_840e7 21 = .ok (.arraylength, 1) := by decide +kernel
theorem dJ0_getBytes_840e7_22 : decode cJ0_getBytes_840e7 22 = .ok (.invokestatic 212, 3) := by decide +kernel
theorem dJ0_getBytes_840e7_25 : decode cJ0_getBytes_840e7 25 = .ok (.goto 18, 3) := by decide +kernel
theorem dJ0_getBytes_840e7_28 : decode cJ0_getBytes_840e7 28 = .ok (.aload_n 0, 1) := by decide +kernel
theorem dJ0_getBytes_840e7_29 : decode cJ0_getBytes_840e7 29 = .ok (.getfield 9, 3) := by decide +kernel
theorem dJ0_getBytes_840e7_32 : decode cJ0_getBytes_840e7 32 = .ok (.iconst 0, 1) := by decide +kernel
theorem dJ0_getBytes_840e7_33 : decode cJ0_getBytes_840e7 33 = .ok (.aload_n 1, 1) := by decide +kernel
theorem dJ0_getBytes_840e7_34 : decode cJ0_getBytes_840e7 34 = .ok (.iload_n 2, 1) := by decide +kernel
theorem dJ0_getBytes_840e7_35 : decode cJ0_getBytes_840e7 35 = .ok (.aload_n 0, 1) := by decide +kernel
theorem dJ0_getBytes_840e7_36 : decode cJ0_getBytes_840e7 36 = .ok (.getfield 9, 3) := by decide +kernel
theorem dJ0_getBytes_840e7_39 : decode cJ0_getBytes_840e7 39 = .ok (.arraylength, 1) := by decide +kernel
theorem dJ0_getBytes_840e7_40 : decode cJ0_getBytes_840e7 40 = .ok (.invokestatic 106, 3) := by decide +kernel
theorem dJ0_getBytes_840e7_43 : decode cJ0_getBytes_840e7 43 = .ok (.return_, 1) := by decide +kernel
theorem dJ0_init_db425_0 : decode cJ0_init_db425 0 = .ok (.aload_n 0, 1) := by decide +kernel
theorem dJ0_init_db425_1 : decode cJ0_init_db425 1 = .ok (.invokespecial 1, 3) := by decide +kernel
theorem dJ0_init_db425_4 : decode cJ0_init_db425 4 = .ok (.aload_n 1, 1) := by decide +kernel
theorem dJ0_init_db425_5 : decode cJ0_init_db425 5 = .ok (.invokevirtual 552, 3) := by decide +kernel
theorem dJ0_init_db425_8 : decode cJ0_init_db425 8 = .ok (.astore_n 3, 1) := by decide +kernel
theorem dJ0_init_db425_9 : decode cJ0_init_db425 9 = .ok (.aload_n 1, 1) := by decide +kernel
theorem dJ0_init_db425_10 : decode cJ0_init_db425 10 = .ok (.invokevirtual 549, 3) := by decide +kernel
theorem dJ0_init_db425_13 : decode cJ0_init_db425 13 = .ok (.istore 4, 2) := by decide +kernel
theorem dJ0_init_db425_15 : decode cJ0_init_db425 15 = .ok (.aload_n 1, 1) := by decide +kernel
theorem dJ0_init_db425_16 : decode cJ0_init_db425 16 = .ok (.invokevirtual 1047, 3) := by decide +kernel
theorem dJ0_init_db425_19 : decode cJ0_init_db425 19 = .ok (.ifCond .eq 22, 3) := by decide +kernel
theorem dJ0_init_db425_22 : decode cJ0_init_db425 22 = .ok (.aload_n 0, 1) := by decide +kernel
theorem dJ0_init_db425_23 : decode cJ0_init_db425 23 = .ok (.iconst 0, 1) := by decide +kernel
theorem dJ0_init_db425_24 : decode cJ0_init_db425 24 = .ok (.putfield 15, 3) := by decide +kernel
theorem dJ0_init_db425_27 : decode cJ0_init_db425 27 = .ok (.aload_n 0, 1) := by decide +kernel
theorem dJ0_init_db425_28 : decode cJ0_init_db425 28 = .ok (.aload_n 3, 1) := by decide +kernel
theorem dJ0_init_db425_29 : decode cJ0_init_db425 29 = .ok (.iconst 0, 1) := by decide +kernel
theorem dJ0_init_db425_30 : decode cJ0_init_db425 30 = .ok (.iload 4, 2) := by decide +kernel
theorem dJ0_init_db425_32 : decode cJ0_init_db425 32 = .ok (.invokestatic 54, 3) := by decide +kernel
theorem dJ0_init_db425_35 : decode cJ0_init_db425 35 = .ok (.putfield 9, 3) := by decide +kernel
theorem dJ0_init_db425_38 : decode cJ0_init_db425 38 = .ok (.goto 59, 3) := by decide +kernel
theorem dJ0_init_db425_41 : decode cJ0_init_db425 41 = .ok (.getstatic 38, 3) := by decide +kernel
theorem dJ0_init_db425_44 : decode cJ0_init_db425 44 = .ok (.ifCond .eq 35, 3) := by decide +kernel
theorem dJ0_init_db425_47 : decode cJ0_init_db425 47 = .ok (.aload_n 1, 1) := by decide +kernel
theorem dJ0_init_db425_48 : decode cJ0_init_db425 48 = .ok (.getfield 1048, 3) := by decide +kernel
theorem dJ0_init_db425_51 : decode cJ0_init_db425 51 = .ok (.ifCond .eq 28, 3) := by decide +kernel
theorem dJ0_init_db425_54 : decode cJ0_init_db425 54 = .ok (.aload_n 0, 1) := by decide +kernel
theorem dJ0_init_db425_55 : decode cJ0_init_db425 55 = .ok (.aload_n 3, 1) := by decide +kernel
theorem dJ0_init_db425_56 : decode cJ0_init_db425 56 = .ok (.iconst 0, 1) := by decide +kernel
theorem dJ0_init_db425_57 : decode cJ0_init_db425 57 = .ok (.iload 4, 2) := by decide +kernel
theorem dJ0_init_db425_59 : decode cJ0_init_db425 59 = .ok (.invokestatic 1051, 3) := by decide +kernel
theorem dJ0_init_db425_62 : decode cJ0_init_db425 62 = .ok (.putfield 9, 3) := by decide +kernel
theorem dJ0_init_db425_65 : decode cJ0_init_db425 65 = .ok (.aload_n 0, 1) := by decide +kernel
theorem dJ0_init_db425_66 : decode cJ0_init_db425 66 = .ok (.aload_n 0, 1) := by decide +kernel
theorem dJ0_init_db425_67 : decode cJ0_init_db425 67 = .ok (.getfield 9, 3) := by decide +kernel
theorem dJ0_init_db425_70 : decode cJ0_init_db425 70 = .ok (.iload 4, 2) := by decide +kernel
theorem dJ0_init_db425_72 : decode cJ0_init_db425 72 = .ok (.invokestatic 47, 3) := by decide +kernel
theorem dJ0_init_db425_75 : decode cJ0_init_db425 75 = .ok (.putfield 15, 3) := by decide +kernel
theorem dJ0_init_db425_78 : decode cJ0_init_db425 78 = .ok (.return_, 1) := by decide +kernel
theorem dJ0_init_db425_79 : decode cJ0_init_db425 79 = .ok (.aload_n 0, 1) := by decide +kernel
theorem dJ0_init_db425_80 : decode cJ0_init_db425 80 = .ok (.iconst 1, 1) := by decide +kernel
theorem dJ0_init_db425_81 : decode cJ0_init_db425 81 = .ok (.putfield 15, 3) := by decide +kernel
theorem dJ0_init_db425_84 : decode cJ0_init_db425 84 = .ok (.aload_n 0, 1) := by decide +kernel
theorem dJ0_init_db425_85 : decode cJ0_init_db425 85 = .ok (.aload_n 3, 1) := by decide +kernel
theorem dJ0_init_db425_86 : decode cJ0_init_db425 86 = .ok (.iconst 0, 1) := by decide +kernel
theorem dJ0_init_db425_87 : decode cJ0_init_db425 87 = .ok (.iload 4, 2) := by decide +kernel
theorem dJ0_init_db425_89 : decode cJ0_init_db425 89 = .ok (.iconst 1, 1) := by decide +kernel
theorem dJ0_init_db425_90 : decode cJ0_init_db425 90 = .ok (.ishl, 1) := by decide +kernel
theorem dJ0_init_db425_91 : decode cJ0_init_db425 91 = .ok (.invokestatic 54, 3) := by decide +kernel
theorem dJ0_init_db425_94 : decode cJ0_init_db425 94 = .ok (.putfield 9, 3) := by decide +kernel
theorem dJ0_init_db425_97 : decode cJ0_init_db425 97 = .ok (.return_, 1) := by decide +kernel
theorem dJ0_coder_7d493_0 : decode cJ0_coder_7d493 0 = .ok (.getstatic 38, 3) := by decide +kernel
theorem dJ0_coder_7d493_3 : decode cJ0_coder_7d493 3 = .ok (.ifCond .eq 10, 3) := by decide +kernel
theorem dJ0_coder_7d493_6 : decode cJ0_coder_7d493 6 = .ok (.aload_n 0, 1) := by decide +kernel
theorem dJ0_coder_7d493_7 : decode cJ0_coder_7d493 7 = .ok (.getfield 15, 3) := by decide +kernel
theorem dJ0_coder_7d493_10 : decode cJ0_coder_7d493 10 = .ok (.goto 4, 3) := by decide +kernel
theorem dJ0_coder_7d493_13 : decode cJ0_coder_7d493 13 = .ok (.iconst 1, 1) := by decide +kernel
theorem dJ0_coder_7d493_14 : decode cJ0_coder_7d493 14 = .ok (.ireturn, 1) := by decide +kernel
theorem dJ0_isLatin1_aae02_0 : decode cJ0_isLatin1_aae02 0 = .ok (.getstatic 38, 3) := by decide +kernel
theorem dJ0_isLatin1_aae02_3 : decode cJ0_isLatin1_aae02 3 = .ok (.ifCond .eq 14, 3) := by decide +kernel
theorem dJ0_isLatin1_aae02_6 : decode cJ0_isLatin1_aae02 6 = .ok (.aload_n 0, 1) := by decide +kernel
theorem dJ0_isLatin1_aae02_7 : decode cJ0_isLatin1_aae02 7 = .ok (.getfield 15, 3) := by decide +kernel
theorem dJ0_isLatin1_aae02_10 : decode cJ0_isLatin1_aae02 10 = .ok (.ifCond .ne 7, 3) := by decide +kernel
theorem dJ0_isLatin1_aae02_13 : decode cJ0_isLatin1_aae02 13 = .ok (.iconst 1, 1) := by decide +kernel
theorem dJ0_isLatin1_aae02_14 : decode cJ0_isLatin1_aae02 14 = .ok (.goto 4, 3) := by decide +kernel
theorem dJ0_isLatin1_aae02_17 : decode cJ0_isLatin1_aae02 17 = .ok (.iconst 0, 1) := by decide +kernel
theorem dJ0_isLatin1_aae02_18 : decode cJ0_isLatin1_aae02 18 = .ok (.ireturn, 1) := by decide +kernel
theorem dJ0_checkIndex_df160_0 : decode cJ0_checkIndex_df160 0 = .ok (.iload_n 0, 1) := by decide +kernel
theorem dJ0_checkIndex_df160_1 : decode cJ0_checkIndex_df160 1 = .ok (.iload_n 1, 1) := by decide +kernel
theorem dJ0_checkIndex_df160_2 : decode cJ0_checkIndex_df160 2 = .ok (.getstatic 1053, 3) := by decide +kernel
theorem dJ0_checkIndex_df160_5 : decode cJ0_checkIndex_df160 5 = .ok (.invokestatic 1059, 3) := by decide +kernel
theorem dJ0_checkIndex_df160_8 : decode cJ0_checkIndex_df160 8 = .ok (.pop, 1) := by decide +kernel
theorem dJ0_checkIndex_df160_9 : decode cJ0_checkIndex_df160 9 = .ok (.return_, 1) := by decide +kernel
theorem dJ0_checkBoundsOffCount_cabcc_0 : decode cJ0_checkBoundsOffCount_cabcc 0 = .ok (.iload_n 0, 1) := by decide +kernel
theorem dJ0_checkBoundsOffCount_cabcc_1 : decode cJ0_checkBoundsOffCount_cabcc 1 = .ok (.iload_n 1, 1) := by decide +kernel
theorem dJ0_checkBoundsOffCount_cabcc_2 : decode cJ0_checkBoundsOffCount_cabcc 2 = .ok (.iload_n 2, 1) := by decide +kernel
theorem dJ0_checkBoundsOffCount_cabcc_3 : decode cJ0_checkBoundsOffCount_cabcc 3 = .ok (.getstatic 1053, 3) := by decide +kernel
theorem dJ0_checkBoundsOffCount_cabcc_6 : decode cJ0_checkBoundsOffCount_cabcc 6 = .ok (.invokestatic 1065, 3) := by decide +kernel
theorem dJ0_checkBoundsOffCount_cabcc_9 : decode cJ0_checkBoundsOffCount_cabcc 9 = .ok (.ireturn, 1) := by decide +kernel
theorem dJ0_checkBoundsBeginEnd_23922_0 : decode cJ0_checkBoundsBeginEnd_23922 0 = .ok (.iload_n 0, 1) := by decide +kernel
theorem dJ0_checkBoundsBeginEnd_23922_1 : decode cJ0_checkBoundsBeginEnd_23922 1 = .ok (.iload_n 1, 1) := by decide +kernel
theorem dJ0_checkBoundsBeginEnd_23922_2 : decode cJ0_checkBoundsBeginEnd_23922 2 = .ok (.iload_n 2, 1) := by decide +kernel
theorem dJ0_checkBoundsBeginEnd_23922_3 : decode cJ0_checkBoundsBeginEnd_23922 3 = .ok (.getstatic 1053, 3) := by decide +kernel
theorem dJ0_checkBoundsBeginEnd_23922_6 : decode cJ0_checkBoundsBeginEnd_23922 6 = .ok (.invokestatic 1062, 3) := by decide +kernel
theorem dJ0_checkBoundsBeginEnd_23922_9 : decode cJ0_checkBoundsBeginEnd_23922 9 = .ok (.pop, 1) := by decide +kernel
theorem dJ0_checkBoundsBeginEnd_23922_10 : decode cJ0_checkBoundsBeginEnd_23922 10 = .ok (.return_, 1) := by decide +kernel
theorem dJ4_init_da8c8_0 : decode cJ4_init_da8c8 0 = .ok (.aload_n 0, 1) := by decide +kernel
theorem dJ4_init_da8c8_1 : decode cJ4_init_da8c8 1 = .ok (.bipush 16, 2) := by decide +kernel
theorem dJ4_init_da8c8_3 : decode cJ4_init_da8c8 3 = .ok (.invokespecial 1, 3) := by decide +kernel
theorem dJ4_init_da8c8_6 : decode cJ4_init_da8c8 6 = .ok (.return_, 1) := by decide +kernel
theorem dJ4_append_15ec4_0 : decode cJ4_append_15ec4 0 = .ok (.aload_n 0, 1) := by decide +kernel
theorem dJ4_append_15ec4_1 : decode cJ4_append_15ec4 1 = .ok (.aload_n 1, 1) := by decide +kernel
theorem dJ4_append_15ec4_2 : decode cJ4_append_15ec4 2 = .ok (.invokespecial 29, 3) := by decide +kernel
theorem dJ4_append_15ec4_5 : decode cJ4_append_15ec4 5 = .ok (.pop, 1) := by decide +kernel
theorem dJ4_append_15ec4_6 : decode cJ4_append_15ec4 6 = .ok (.aload_n 0, 1) := by decide +kernel
theorem dJ4_append_15ec4_7 : decode cJ4_append_15ec4 7 = .ok (.areturn, 1) := by decide +kernel
theorem dJ4_append_cf468_0 : decode cJ4_append_cf468 0 = .ok (.aload_n 0, 1) := by decide +kernel
theorem dJ4_append_cf468_1 : decode cJ4_append_cf468 1 = .ok (.iload_n 1, 1) := by decide +kernel
theorem dJ4_append_cf468_2 : decode cJ4_append_cf468 2 = .ok (.invokespecial 50, 3) := by decide +kernel
theorem dJ4_append_cf468_5 : decode cJ4_append_cf468 5 = .ok (.pop, 1) := by decide +kernel
theorem dJ4_append_cf468_6 : decode cJ4_append_cf468 6 = .ok (.aload_n 0, 1) := by decide +kernel
theorem dJ4_append_cf468_7 : decode cJ4_append_cf468 7 = .ok (.areturn, 1) := by decide +kernel
theorem dJ4_append_bf812_0 : decode cJ4_append_bf812 0 = .ok (.aload_n 0, 1) := by decide +kernel
theorem dJ4_append_bf812_1 : decode cJ4_append_bf812 1 = .ok (.iload_n 1, 1) := by decide +kernel
theorem dJ4_append_bf812_2 : decode cJ4_append_bf812 2 = .ok (.invokespecial 53, 3) := by decide +kernel
theorem dJ4_append_bf812_5 : decode cJ4_append_bf812 5 = .ok (.pop, 1) := by decide +kernel
theorem dJ4_append_bf812_6 : decode cJ4_append_bf812 6 = .ok (.aload_n 0, 1) := by decide +kernel
theorem dJ4_append_bf812_7 : decode cJ4_append_bf812 7 = .ok (.areturn, 1) := by decide +kernel
theorem dJ4_toString_0e30d_0 : decode cJ4_toString_0e30d 0 = .ok (.new 18, 3) := by decide +kernel
theorem dJ4_toString_0e30d_3 : decode cJ4_toString_0e30d 3 = .ok (.dup, 1) := by decide +kernel
theorem dJ4_toString_0e30d_4 : decode cJ4_toString_0e30d 4 = .ok (.aload_n 0, 1) := by decide +kernel
theorem dJ4_toString_0e30d_5 : decode cJ4_toString_0e30d 5 = .ok (.invokespecial 137, 3) := by decide +kernel
theorem dJ4_toString_0e30d_8 : decode cJ4_toString_0e30d 8 = .ok (.areturn, 1) := by decide +kernel
theorem dJ4_length_8abf5_0 : decode cJ4_length_8abf5 0 = .ok (.aload_n 0, 1) := by decide +kernel
theorem dJ4_length_8abf5_1 : decode cJ4_length_8abf5 1 = .ok (.invokespecial 343, 3) := by decide +kernel
theorem dJ4_length_8abf5_4 : decode cJ4_length_8abf5 4 = .ok (.ireturn, 1) := by decide +kernel
theorem dJ1_charAt_3b067_0 : decode cJ1_charAt_3b067 0 = .ok (.iload_n 1, 1) := by decide +kernel
theorem dJ1_charAt_3b067_1 : decode cJ1_charAt_3b067 1 = .ok (.aload_n 0, 1) := by decide +kernel
theorem dJ1_charAt_3b067_2 : decode cJ1_charAt_3b067 2 = .ok (.arraylength, 1) := by decide +kernel
theorem dJ1_charAt_3b067_3 : decode cJ1_charAt_3b067 3 = .ok (.invokestatic 9, 3) := by decide +kernel
theorem dJ1_charAt_3b067_6 : decode cJ1_charAt_3b067 6 = .ok (.aload_n 0, 1) := by decide +kernel
theorem dJ1_charAt_3b067_7 : decode cJ1_charAt_3b067 7 = .ok (.iload_n 1, 1) := by decide +kernel
theorem dJ1_charAt_3b067_8 : decode cJ1_charAt_3b067 8 = .ok (.baload, 1) := by decide +kernel
theorem dJ1_charAt_3b067_9 : decode cJ1_charAt_3b067 9 = .ok (.sipush 255, 3) := by decide +kernel
theorem dJ1_charAt_3b067_12 : decode cJ1_charAt_3b067 12 = .ok (.iand, 1) := by decide +kernel
theorem dJ1_charAt_3b067_13 : decode cJ1_charAt_3b067 13 = .ok (.i2c, 1) := by decide +kernel
theorem dJ1_charAt_3b067_14 : decode cJ1_charAt_3b067 14 = .ok (.ireturn, 1) := by decide +kernel
theorem dJ1_canEncode_fc78d_0 : decode cJ1_canEncode_fc78d 0 = .ok (.iload_n 0, 1) := by decide +kernel
theorem dJ1_canEncode_fc78d_1 : decode cJ1_canEncode_fc78d 1 = .ok (.sipush 255, 3) := by decide +kernel
theorem dJ1_canEncode_fc78d_4 : decode cJ1_canEncode_fc78d 4 = .ok (.if_icmp .gt 7, 3) := by decide +kernel
theorem dJ1_canEncode_fc78d_7 : decode cJ1_canEncode_fc78d 7 = .ok (.iconst 1, 1) := by decide +kernel
theorem dJ1_canEncode_fc78d_8 : decode cJ1_canEncode_fc78d 8 = .ok (.goto 4, 3) := by decide +kernel
theorem dJ1_canEncode_fc78d_11 : decode cJ1_canEncode_fc78d 11 = .ok (.iconst 0, 1) := by decide +kernel
theorem dJ1_canEncode_fc78d_12 : decode cJ1_canEncode_fc78d 12 = .ok (.ireturn, 1) := by decide +kernel
theorem dJ1_inflate_0e8fd_0 : decode cJ1_inflate_0e8fd 0 = .ok (.aload_n 0, 1) := by decide +kernel
theorem dJ1_inflate_0e8fd_1 : decode cJ1_inflate_0e8fd 1 = .ok (.iload_n 1, 1) := by decide +kernel
theorem dJ1_inflate_0e8fd_2 : decode cJ1_inflate_0e8fd 2 = .ok (.aload_n 2, 1) := by decide +kernel
theorem dJ1_inflate_0e8fd_3 : decode cJ1_inflate_0e8fd 3 = .ok (.iload_n 3, 1) := by decide +kernel
theorem dJ1_inflate_0e8fd_4 : decode cJ1_inflate_0e8fd 4 = .ok (.iload 4, 2) := by decide +kernel
theorem dJ1_inflate_0e8fd_6 : decode cJ1_inflate_0e8fd 6 = .ok (.invokestatic 240, 3) := by decide +kernel
theorem dJ1_inflate_0e8fd_9 : decode cJ1_inflate_0e8fd 9 = .ok (.return_, 1) := by decide +kernel
theorem dJ2_newBytesFor_77867_0 : decode cJ2_newBytesFor_77867 0 = .ok (.iload_n 0, 1) := by decide +kernel
theorem dJ2_newBytesFor_77867_1 : decode cJ2_newBytesFor_77867 1 = .ok (.invokestatic 11, 3) := by decide +kernel
theorem dJ2_newBytesFor_77867_4 : decode cJ2_newBytesFor_77867 4 = .ok (.newarray .byte, 2) := by decide +kernel
theorem dJ2_newBytesFor_77867_6 : decode cJ2_newBytesFor_77867 6 = .ok (.areturn, 1) := by decide +kernel
theorem dJ2_newBytesLength_0f7a4_0 : decode cJ2_newBytesLength_0f7a4 0 = .ok (.iload_n 0, 1) := by decide +kernel
theorem dJ2_newBytesLength_0f7a4_1 : decode cJ2_newBytesLength_0f7a4 1 = .ok (.ifCond .ge 11, 3) := by decide +kernel
theorem dJ2_newBytesLength_0f7a4_4 : decode cJ2_newBytesLength_0f7a4 4 = .ok (.new 17, 3) := by decide +kernel
theorem dJ2_newBytesLength_0f7a4_7 : decode cJ2_newBytesLength_0f7a4 7 = .ok (.dup, 1) := by decide +kernel
theorem dJ2_newBytesLength_0f7a4_8 : decode cJ2_newBytesLength_0f7a4 8 = .ok (.invokespecial 19, 3) := by decide +kernel
theorem dJ2_newBytesLength_0f7a4_11 : decode cJ2_newBytesLength_0f7a4 11 = .ok (.athrow, 1) := by decide +kernel
theorem dJ2_newBytesLength_0f7a4_12 : decode cJ2_newBytesLength_0f7a4 12 = .ok (.iload_n 0, 1) := by decide +kernel
theorem dJ2_newBytesLength_0f7a4_13 : decode cJ2_newBytesLength_0f7a4 13 = .ok (.ldc 20, 2) := by decide +kernel
theorem dJ2_newBytesLength_0f7a4_15 : decode cJ2_newBytesLength_0f7a4 15 = .ok (.if_icmp .lt 40, 3) := by decide +kernel
theorem dJ2_newBytesLength_0f7a4_18 : decode cJ2_newBytesLength_0f7a4 18 = .ok (.new 21, 3) := by decide +kernel
theorem dJ2_newBytesLength_0f7a4_21 : decode cJ2_newBytesLength_0f7a4 21 = .ok (.dup, 1) := by decide +kernel
theorem dJ2_newBytesLength_0f7a4_22 : decode cJ2_newBytesLength_0f7a4 22 = .ok (.new 23, 3) := by decide +kernel
theorem dJ2_newBytesLength_0f7a4_25 : decode cJ2_newBytesLength_0f7a4 25 = .ok (.dup, 1) := by decide +kernel
theorem dJ2_newBytesLength_0f7a4_26 : decode cJ2_newBytesLength_0f7a4 26 = .ok (.invokespecial 25, 3) := by decide +kernel
theorem dJ2_newBytesLength_0f7a4_29 : decode cJ2_newBytesLength_0f7a4 29 = .ok (.ldc 26, 2) := by decide +kernel
theorem dJ2_newBytesLength_0f7a4_31 : decode cJ2_newBytesLength_0f7a4 31 = .ok (.invokevirtual 28, 3) := by decide +kernel
theorem dJ2_newBytesLength_0f7a4_34 : decode cJ2_newBytesLength_0f7a4 34 = .ok (.iload_n 0, 1) := by decide +kernel
theorem dJ2_newBytesLength_0f7a4_35 : decode cJ2_newBytesLength_0f7a4 35 = .ok (.invokevirtual 32, 3) := by decide +kernel
theorem dJ2_newBytesLength_0f7a4_38 : decode cJ2_newBytesLength_0f7a4 38 = .ok (.ldc 35, 2) := by decide +kernel
theorem dJ2_newBytesLength_0f7a4_40 : decode cJ2_newBytesLength_0f7a4 40 = .ok (.invokevirtual 28, 3) := by decide +kernel
theorem dJ2_newBytesLength_0f7a4_43 : decode cJ2_newBytesLength_0f7a4 43 = .ok (.ldc 20, 2) := by decide +kernel
theorem dJ2_newBytesLength_0f7a4_45 : decode cJ2_newBytesLength_0f7a4 45 = .ok (.invokevirtual 32, 3) := by decide +kernel
theorem dJ2_newBytesLength_0f7a4_48 : decode cJ2_newBytesLength_0f7a4 48 = .ok (.invokevirtual 37, 3) := by decide +kernel
theorem dJ2_newBytesLength_0f7a4_51 : decode cJ2_newBytesLength_0f7a4 51 = .ok (.invokespecial 41, 3) := by decide +kernel
theorem dJ2_newBytesLength_0f7a4_54 : decode cJ2_newBytesLength_0f7a4 54 = .ok (.athrow, 1) := by decide +kernel
theorem dJ2_newBytesLength_0f7a4_55 : decode cJ2_newBytesLength_0f7a4 55 = .ok (.iload_n 0, 1) := by decide +kernel
theorem dJ2_newBytesLength_0f7a4_56 : decode cJ2_newBytesLength_0f7a4 56 = .ok (.iconst 1, 1) := by decide +kernel
theorem dJ2_newBytesLength_0f7a4_57 : decode cJ2_newBytesLength_0f7a4 57 = .ok (.ishl, 1) := by decide +kernel
theorem dJ2_newBytesLength_0f7a4_58 : decode cJ2_newBytesLength_0f7a4 58 = .ok (.ireturn, 1) := by decide +kernel
theorem dJ2_putChar_b72d1_0 : decode cJ2_putChar_b72d1 0 = .ok (.getstatic 44, 3) := by decide +kernel
theorem dJ2_putChar_b72d1_3 : decode cJ2_putChar_b72d1 3 = .ok (.ifCond .ne 25, 3) := by decide +kernel
