theorem dX8_row_36 : decode cX8_row 36 = .ok (.iconst 0, 1) := by decide +kernel
theorem dX8_row_37 : decode cX8_row 37 = .ok (.ireturn, 1) := by decide +kernel
theorem dX8_row_38 : decode cX8_row 38 = .ok (.aload_n 0, 1) := by decide +kernel
theorem dX8_row_39 : decode cX8_row 39 = .ok (.getfield 62, 3) := by decide +kernel
theorem dX8_row_42 : decode cX8_row 42 = .ok (.aload_n 0, 1) := by decide +kernel
theorem dX8_row_43 : decode cX8_row 43 = .ok (.getfield 293, 3) := by decide +kernel
theorem dX8_row_46 : decode cX8_row 46 = .ok (.iload_n 1, 1) := by decide +kernel
theorem dX8_row_47 : decode cX8_row 47 = .ok (.iastore, 1) := by decide +kernel
theorem dX8_row_48 : decode cX8_row 48 = .ok (.aload_n 0, 1) := by decide +kernel
theorem dX8_row_49 : decode cX8_row 49 = .ok (.getfield 65, 3) := by decide +kernel
theorem dX8_row_52 : decode cX8_row 52 = .ok (.aload_n 0, 1) := by decide +kernel
theorem dX8_row_53 : decode cX8_row 53 = .ok (.getfield 293, 3) := by decide +kernel
theorem dX8_row_56 : decode cX8_row 56 = .ok (.iload_n 2, 1) := by decide +kernel
theorem dX8_row_57 : decode cX8_row 57 = .ok (.iastore, 1) := by decide +kernel
theorem dX8_row_58 : decode cX8_row 58 = .ok (.iconst 0, 1) := by decide +kernel
theorem dX8_row_59 : decode cX8_row 59 = .ok (.istore 4, 2) := by decide +kernel
theorem dX8_row_61 : decode cX8_row 61 = .ok (.iload 4, 2) := by decide +kernel
theorem dX8_row_63 : decode cX8_row 63 = .ok (.bipush 48, 2) := by decide +kernel
theorem dX8_row_65 : decode cX8_row 65 = .ok (.if_icmp .ge 94, 3) := by decide +kernel
theorem dX8_row_68 : decode cX8_row 68 = .ok (.iload 4, 2) := by decide +kernel
theorem dX8_row_70 : decode cX8_row 70 = .ok (.aload_n 0, 1) := by decide +kernel
theorem dX8_row_71 : decode cX8_row 71 = .ok (.getfield 13, 3) := by decide +kernel
theorem dX8_row_74 : decode cX8_row 74 = .ok (.iload_n 1, 1) := by decide +kernel
theorem dX8_row_75 : decode cX8_row 75 = .ok (.iaload, 1) := by decide +kernel
theorem dX8_row_76 : decode cX8_row 76 = .ok (.if_icmp .ge 38, 3) := by decide +kernel
theorem dX8_row_79 : decode cX8_row 79 = .ok (.aload_n 0, 1) := by decide +kernel
theorem dX8_row_80 : decode cX8_row 80 = .ok (.getfield 22, 3) := by decide +kernel
theorem dX8_row_83 : decode cX8_row 83 = .ok (.iload_n 1, 1) := by decide +kernel
theorem dX8_row_84 : decode cX8_row 84 = .ok (.iload_n 2, 1) := by decide +kernel
theorem dX8_row_85 : decode cX8_row 85 = .ok (.iload 4, 2) := by decide +kernel
theorem dX8_row_87 : decode cX8_row 87 = .ok (.invokestatic 152, 3) := by decide +kernel
theorem dX8_row_90 : decode cX8_row 90 = .ok (.iaload, 1) := by decide +kernel
theorem dX8_row_91 : decode cX8_row 91 = .ok (.iconst (-1), 1) := by decide +kernel
theorem dX8_row_92 : decode cX8_row 92 = .ok (.if_icmp .eq 22, 3) := by decide +kernel
theorem dX8_row_95 : decode cX8_row 95 = .ok (.aload_n 0, 1) := by decide +kernel
theorem dX8_row_96 : decode cX8_row 96 = .ok (.getfield 25, 3) := by decide +kernel
theorem dX8_row_99 : decode cX8_row 99 = .ok (.iload_n 1, 1) := by decide +kernel
theorem dX8_row_100 : decode cX8_row 100 = .ok (.iload_n 2, 1) := by decide +kernel
theorem dX8_row_101 : decode cX8_row 101 = .ok (.iload 4, 2) := by decide +kernel
theorem dX8_row_103 : decode cX8_row 103 = .ok (.invokestatic 152, 3) := by decide +kernel
theorem dX8_row_106 : decode cX8_row 106 = .ok (.baload, 1) := by decide +kernel
theorem dX8_row_107 : decode cX8_row 107 = .ok (.ifCond .eq 7, 3) := by decide +kernel
theorem dX8_row_110 : decode cX8_row 110 = .ok (.iconst 1, 1) := by decide +kernel
theorem dX8_row_111 : decode cX8_row 111 = .ok (.goto 4, 3) := by decide +kernel
theorem dX8_row_114 : decode cX8_row 114 = .ok (.iconst 0, 1) := by decide +kernel
theorem dX8_row_115 : decode cX8_row 115 = .ok (.istore 5, 2) := by decide +kernel
theorem dX8_row_117 : decode cX8_row 117 = .ok (.aload_n 0, 1) := by decide +kernel
theorem dX8_row_118 : decode cX8_row 118 = .ok (.getfield 68, 3) := by decide +kernel
theorem dX8_row_121 : decode cX8_row 121 = .ok (.bipush 48, 2) := by decide +kernel
theorem dX8_row_123 : decode cX8_row 123 = .ok (.aload_n 0, 1) := by decide +kernel
theorem dX8_row_124 : decode cX8_row 124 = .ok (.getfield 293, 3) := by decide +kernel
theorem dX8_row_127 : decode cX8_row 127 = .ok (.imul, 1) := by decide +kernel
theorem dX8_row_128 : decode cX8_row 128 = .ok (.iload 4, 2) := by decide +kernel
theorem dX8_row_130 : decode cX8_row 130 = .ok (.iadd, 1) := by decide +kernel
theorem dX8_row_131 : decode cX8_row 131 = .ok (.iload 5, 2) := by decide +kernel
theorem dX8_row_133 : decode cX8_row 133 = .ok (.ifCond .eq 18, 3) := by decide +kernel
theorem dX8_row_136 : decode cX8_row 136 = .ok (.aload_n 0, 1) := by decide +kernel
theorem dX8_row_137 : decode cX8_row 137 = .ok (.getfield 19, 3) := by decide +kernel
theorem dX8_row_140 : decode cX8_row 140 = .ok (.bipush 48, 2) := by decide +kernel
theorem dX8_row_142 : decode cX8_row 142 = .ok (.iload_n 1, 1) := by decide +kernel
theorem dX8_row_143 : decode cX8_row 143 = .ok (.imul, 1) := by decide +kernel
theorem dX8_row_144 : decode cX8_row 144 = .ok (.iload 4, 2) := by decide +kernel
theorem dX8_row_146 : decode cX8_row 146 = .ok (.iadd, 1) := by decide +kernel
theorem dX8_row_147 : decode cX8_row 147 = .ok (.iaload, 1) := by decide +kernel
theorem dX8_row_148 : decode cX8_row 148 = .ok (.goto 4, 3) := by decide +kernel
theorem dX8_row_151 : decode cX8_row 151 = .ok (.iconst (-1), 1) := by decide +kernel
theorem dX8_row_152 : decode cX8_row 152 = .ok (.iastore, 1) := by decide +kernel
theorem dX8_row_153 : decode cX8_row 153 = .ok (.iinc 4 1, 3) := by decide +kernel
theorem dX8_row_156 : decode cX8_row 156 = .ok (.goto (-95), 3) := by decide +kernel
theorem dX8_row_159 : decode cX8_row 159 = .ok (.aload_n 0, 1) := by decide +kernel
theorem dX8_row_160 : decode cX8_row 160 = .ok (.aload_n 0, 1) := by decide +kernel
theorem dX8_row_161 : decode cX8_row 161 = .ok (.getfield 293, 3) := by decide +kernel
theorem dX8_row_164 : decode cX8_row 164 = .ok (.invokevirtual 302, 3) := by decide +kernel
theorem dX8_row_167 : decode cX8_row 167 = .ok (.aload_n 0, 1) := by decide +kernel
theorem dX8_row_168 : decode cX8_row 168 = .ok (.dup, 1) := by decide +kernel
theorem dX8_row_169 : decode cX8_row 169 = .ok (.getfield 293, 3) := by decide +kernel
theorem dX8_row_172 : decode cX8_row 172 = .ok (.iconst 1, 1) := by decide +kernel
theorem dX8_row_173 : decode cX8_row 173 = .ok (.iadd, 1) := by decide +kernel
theorem dX8_row_174 : decode cX8_row 174 = .ok (.putfield 293, 3) := by decide +kernel
theorem dX8_row_177 : decode cX8_row 177 = .ok (.aload_n 0, 1) := by decide +kernel
theorem dX8_row_178 : decode cX8_row 178 = .ok (.getfield 293, 3) := by decide +kernel
theorem dX8_row_181 : decode cX8_row 181 = .ok (.iconst 1, 1) := by decide +kernel
theorem dX8_row_182 : decode cX8_row 182 = .ok (.isub, 1) := by decide +kernel
theorem dX8_row_183 : decode cX8_row 183 = .ok (.ireturn, 1) := by decide +kernel
theorem dX8_inRow_0 : decode cX8_inRow 0 = .ok (.aload_n 0, 1) := by decide +kernel
theorem dX8_inRow_1 : decode cX8_inRow 1 = .ok (.iload_n 1, 1) := by decide +kernel
theorem dX8_inRow_2 : decode cX8_inRow 2 = .ok (.invokevirtual 296, 3) := by decide +kernel
theorem dX8_inRow_5 : decode cX8_inRow 5 = .ok (.ifCond .eq 23, 3) := by decide +kernel
theorem dX8_inRow_8 : decode cX8_inRow 8 = .ok (.aload_n 0, 1) := by decide +kernel
theorem dX8_inRow_9 : decode cX8_inRow 9 = .ok (.aload_n 0, 1) := by decide +kernel
theorem dX8_inRow_10 : decode cX8_inRow 10 = .ok (.getfield 62, 3) := by decide +kernel
theorem dX8_inRow_13 : decode cX8_inRow 13 = .ok (.iload_n 1, 1) := by decide +kernel
theorem dX8_inRow_14 : decode cX8_inRow 14 = .ok (.iaload, 1) := by decide +kernel
theorem dX8_inRow_15 : decode cX8_inRow 15 = .ok (.aload_n 0, 1) := by decide +kernel
theorem dX8_inRow_16 : decode cX8_inRow 16 = .ok (.getfield 65, 3) := by decide +kernel
theorem dX8_inRow_19 : decode cX8_inRow 19 = .ok (.iload_n 1, 1) := by decide +kernel
theorem dX8_inRow_20 : decode cX8_inRow 20 = .ok (.iaload, 1) := by decide +kernel
theorem dX8_inRow_21 : decode cX8_inRow 21 = .ok (.iload_n 2, 1) := by decide +kernel
theorem dX8_inRow_22 : decode cX8_inRow 22 = .ok (.invokevirtual 159, 3) := by decide +kernel
theorem dX8_inRow_25 : decode cX8_inRow 25 = .ok (.goto 4, 3) := by decide +kernel
theorem dX8_inRow_28 : decode cX8_inRow 28 = .ok (.iconst (-1), 1) := by decide +kernel
theorem dX8_inRow_29 : decode cX8_inRow 29 = .ok (.ireturn, 1) := by decide +kernel
theorem dX8_set_0 : decode cX8_set 0 = .ok (.aload_n 0, 1) := by decide +kernel
theorem dX8_set_1 : decode cX8_set 1 = .ok (.iload_n 1, 1) := by decide +kernel
theorem dX8_set_2 : decode cX8_set 2 = .ok (.iload_n 2, 1) := by decide +kernel
theorem dX8_set_3 : decode cX8_set 3 = .ok (.invokevirtual 306, 3) := by decide +kernel
theorem dX8_set_6 : decode cX8_set 6 = .ok (.istore 4, 2) := by decide +kernel
theorem dX8_set_8 : decode cX8_set 8 = .ok (.iload 4, 2) := by decide +kernel
theorem dX8_set_10 : decode cX8_set 10 = .ok (.iconst (-1), 1) := by decide +kernel
theorem dX8_set_11 : decode cX8_set 11 = .ok (.if_icmp .eq 7, 3) := by decide +kernel
theorem dX8_set_14 : decode cX8_set 14 = .ok (.iconst 1, 1) := by decide +kernel
theorem dX8_set_15 : decode cX8_set 15 = .ok (.goto 4, 3) := by decide +kernel
theorem dX8_set_18 : decode cX8_set 18 = .ok (.iconst 0, 1) := by decide +kernel
theorem dX8_set_19 : decode cX8_set 19 = .ok (.istore 5, 2) := by decide +kernel
theorem dX8_set_21 : decode cX8_set 21 = .ok (.iload 5, 2) := by decide +kernel
theorem dX8_set_23 : decode cX8_set 23 = .ok (.ifCond .eq 65, 3) := by decide +kernel
theorem dX8_set_26 : decode cX8_set 26 = .ok (.iload_n 3, 1) := by decide +kernel
theorem dX8_set_27 : decode cX8_set 27 = .ok (.iconst 0, 1) := by decide +kernel
theorem dX8_set_28 : decode cX8_set 28 = .ok (.aload_n 0, 1) := by decide +kernel
theorem dX8_set_29 : decode cX8_set 29 = .ok (.getfield 16, 3) := by decide +kernel
theorem dX8_set_32 : decode cX8_set 32 = .ok (.bipush 48, 2) := by decide +kernel
theorem dX8_set_34 : decode cX8_set 34 = .ok (.aload_n 0, 1) := by decide +kernel
theorem dX8_set_35 : decode cX8_set 35 = .ok (.getfield 62, 3) := by decide +kernel
theorem dX8_set_38 : decode cX8_set 38 = .ok (.iload_n 1, 1) := by decide +kernel
theorem dX8_set_39 : decode cX8_set 39 = .ok (.iaload, 1) := by decide +kernel
theorem dX8_set_40 : decode cX8_set 40 = .ok (.imul, 1) := by decide +kernel
theorem dX8_set_41 : decode cX8_set 41 = .ok (.iload 4, 2) := by decide +kernel
theorem dX8_set_43 : decode cX8_set 43 = .ok (.iadd, 1) := by decide +kernel
theorem dX8_set_44 : decode cX8_set 44 = .ok (.iaload, 1) := by decide +kernel
theorem dX8_set_45 : decode cX8_set 45 = .ok (.invokestatic 165, 3) := by decide +kernel
theorem dX8_set_48 : decode cX8_set 48 = .ok (.invokestatic 144, 3) := by decide +kernel
theorem dX8_set_51 : decode cX8_set 51 = .ok (.ifCond .ne 33, 3) := by decide +kernel
theorem dX8_set_54 : decode cX8_set 54 = .ok (.iload_n 3, 1) := by decide +kernel
theorem dX8_set_55 : decode cX8_set 55 = .ok (.iconst (-1), 1) := by decide +kernel
theorem dX8_set_56 : decode cX8_set 56 = .ok (.if_icmp .ne 32, 3) := by decide +kernel
theorem dX8_set_59 : decode cX8_set 59 = .ok (.aload_n 0, 1) := by decide +kernel
theorem dX8_set_60 : decode cX8_set 60 = .ok (.getfield 25, 3) := by decide +kernel
theorem dX8_set_63 : decode cX8_set 63 = .ok (.aload_n 0, 1) := by decide +kernel
theorem dX8_set_64 : decode cX8_set 64 = .ok (.getfield 62, 3) := by decide +kernel
theorem dX8_set_67 : decode cX8_set 67 = .ok (.iload_n 1, 1) := by decide +kernel
theorem dX8_set_68 : decode cX8_set 68 = .ok (.iaload, 1) := by decide +kernel
theorem dX8_set_69 : decode cX8_set 69 = .ok (.aload_n 0, 1) := by decide +kernel
theorem dX8_set_70 : decode cX8_set 70 = .ok (.getfield 65, 3) := by decide +kernel
theorem dX8_set_73 : decode cX8_set 73 = .ok (.iload_n 1, 1) := by decide +kernel
theorem dX8_set_74 : decode cX8_set 74 = .ok (.iaload, 1) := by decide +kernel
theorem dX8_set_75 : decode cX8_set 75 = .ok (.iload 4, 2) := by decide +kernel
theorem dX8_set_77 : decode cX8_set 77 = .ok (.invokestatic 152, 3) := by decide +kernel
theorem dX8_set_80 : decode cX8_set 80 = .ok (.baload, 1) := by decide +kernel
theorem dX8_set_81 : decode cX8_set 81 = .ok (.ifCond .ne 7, 3) := by decide +kernel
theorem dX8_set_84 : decode cX8_set 84 = .ok (.iconst 1, 1) := by decide +kernel
theorem dX8_set_85 : decode cX8_set 85 = .ok (.goto 4, 3) := by decide +kernel
theorem dX8_set_88 : decode cX8_set 88 = .ok (.iconst 0, 1) := by decide +kernel
theorem dX8_set_89 : decode cX8_set 89 = .ok (.istore 6, 2) := by decide +kernel
theorem dX8_set_91 : decode cX8_set 91 = .ok (.aload_n 0, 1) := by decide +kernel
theorem dX8_set_92 : decode cX8_set 92 = .ok (.iload 5, 2) := by decide +kernel
theorem dX8_set_94 : decode cX8_set 94 = .ok (.ifCond .ne 7, 3) := by decide +kernel
theorem dX8_set_97 : decode cX8_set 97 = .ok (.iconst 1, 1) := by decide +kernel
theorem dX8_set_98 : decode cX8_set 98 = .ok (.goto 13, 3) := by decide +kernel
theorem dX8_set_101 : decode cX8_set 101 = .ok (.iload 6, 2) := by decide +kernel
theorem dX8_set_103 : decode cX8_set 103 = .ok (.ifCond .eq 7, 3) := by decide +kernel
theorem dX8_set_106 : decode cX8_set 106 = .ok (.iconst 0, 1) := by decide +kernel
theorem dX8_set_107 : decode cX8_set 107 = .ok (.goto 4, 3) := by decide +kernel
theorem dX8_set_110 : decode cX8_set 110 = .ok (.iconst 2, 1) := by decide +kernel
theorem dX8_set_111 : decode cX8_set 111 = .ok (.invokevirtual 162, 3) := by decide +kernel
theorem dX8_set_114 : decode cX8_set 114 = .ok (.ifCond .eq 5, 3) := by decide +kernel
theorem dX8_set_117 : decode cX8_set 117 = .ok (.iconst 0, 1) := by decide +kernel
theorem dX8_set_118 : decode cX8_set 118 = .ok (.ireturn, 1) := by decide +kernel
theorem dX8_set_119 : decode cX8_set 119 = .ok (.aload_n 0, 1) := by decide +kernel
theorem dX8_set_120 : decode cX8_set 120 = .ok (.getfield 68, 3) := by decide +kernel
theorem dX8_set_123 : decode cX8_set 123 = .ok (.bipush 48, 2) := by decide +kernel
theorem dX8_set_125 : decode cX8_set 125 = .ok (.iload_n 1, 1) := by decide +kernel
theorem dX8_set_126 : decode cX8_set 126 = .ok (.imul, 1) := by decide +kernel
theorem dX8_set_127 : decode cX8_set 127 = .ok (.iload 4, 2) := by decide +kernel
theorem dX8_set_129 : decode cX8_set 129 = .ok (.iadd, 1) := by decide +kernel
theorem dX8_set_130 : decode cX8_set 130 = .ok (.iaload, 1) := by decide +kernel
theorem dX8_set_131 : decode cX8_set 131 = .ok (.istore 7, 2) := by decide +kernel
theorem dX8_set_133 : decode cX8_set 133 = .ok (.aload_n 0, 1) := by decide +kernel
theorem dX8_set_134 : decode cX8_set 134 = .ok (.getfield 68, 3) := by decide +kernel
theorem dX8_set_137 : decode cX8_set 137 = .ok (.bipush 48, 2) := by decide +kernel
theorem dX8_set_139 : decode cX8_set 139 = .ok (.iload_n 1, 1) := by decide +kernel
theorem dX8_set_140 : decode cX8_set 140 = .ok (.imul, 1) := by decide +kernel
theorem dX8_set_141 : decode cX8_set 141 = .ok (.iload 4, 2) := by decide +kernel
theorem dX8_set_143 : decode cX8_set 143 = .ok (.iadd, 1) := by decide +kernel
theorem dX8_set_144 : decode cX8_set 144 = .ok (.iload_n 3, 1) := by decide +kernel
theorem dX8_set_145 : decode cX8_set 145 = .ok (.iastore, 1) := by decide +kernel
theorem dX8_set_146 : decode cX8_set 146 = .ok (.aload_n 0, 1) := by decide +kernel
theorem dX8_set_147 : decode cX8_set 147 = .ok (.iload_n 1, 1) := by decide +kernel
theorem dX8_set_148 : decode cX8_set 148 = .ok (.invokevirtual 302, 3) := by decide +kernel
theorem dX8_set_151 : decode cX8_set 151 = .ok (.iload 7, 2) := by decide +kernel
theorem dX8_set_153 : decode cX8_set 153 = .ok (.ireturn, 1) := by decide +kernel
theorem dX8_value_0 : decode cX8_value 0 = .ok (.aload_n 0, 1) := by decide +kernel
theorem dX8_value_1 : decode cX8_value 1 = .ok (.iload_n 1, 1) := by decide +kernel
theorem dX8_value_2 : decode cX8_value 2 = .ok (.invokevirtual 296, 3) := by decide +kernel
theorem dX8_value_5 : decode cX8_value 5 = .ok (.ifCond .eq 32, 3) := by decide +kernel
theorem dX8_value_8 : decode cX8_value 8 = .ok (.aload_n 0, 1) := by decide +kernel
theorem dX8_value_9 : decode cX8_value 9 = .ok (.aload_n 0, 1) := by decide +kernel
theorem dX8_value_10 : decode cX8_value 10 = .ok (.getfield 62, 3) := by decide +kernel
theorem dX8_value_13 : decode cX8_value 13 = .ok (.iload_n 1, 1) := by decide +kernel
theorem dX8_value_14 : decode cX8_value 14 = .ok (.iaload, 1) := by decide +kernel
theorem dX8_value_15 : decode cX8_value 15 = .ok (.iload_n 2, 1) := by decide +kernel
theorem dX8_value_16 : decode cX8_value 16 = .ok (.invokevirtual 219, 3) := by decide +kernel
theorem dX8_value_19 : decode cX8_value 19 = .ok (.ifCond .eq 18, 3) := by decide +kernel
theorem dX8_value_22 : decode cX8_value 22 = .ok (.aload_n 0, 1) := by decide +kernel
theorem dX8_value_23 : decode cX8_value 23 = .ok (.aload_n 0, 1) := by decide +kernel
theorem dX8_value_24 : decode cX8_value 24 = .ok (.getfield 62, 3) := by decide +kernel
theorem dX8_value_27 : decode cX8_value 27 = .ok (.iload_n 1, 1) := by decide +kernel
theorem dX8_value_28 : decode cX8_value 28 = .ok (.iaload, 1) := by decide +kernel
theorem dX8_value_29 : decode cX8_value 29 = .ok (.iload_n 2, 1) := by decide +kernel
theorem dX8_value_30 : decode cX8_value 30 = .ok (.iload_n 3, 1) := by decide +kernel
theorem dX8_value_31 : decode cX8_value 31 = .ok (.invokevirtual 159, 3) := by decide +kernel
theorem dX8_value_34 : decode cX8_value 34 = .ok (.goto 4, 3) := by decide +kernel
theorem dX8_value_37 : decode cX8_value 37 = .ok (.iconst (-1), 1) := by decide +kernel
theorem dX8_value_38 : decode cX8_value 38 = .ok (.istore 4, 2) := by decide +kernel
theorem dX8_value_40 : decode cX8_value 40 = .ok (.aload_n 0, 1) := by decide +kernel
theorem dX8_value_41 : decode cX8_value 41 = .ok (.iload 4, 2) := by decide +kernel
theorem dX8_value_43 : decode cX8_value 43 = .ok (.iconst (-1), 1) := by decide +kernel
theorem dX8_value_44 : decode cX8_value 44 = .ok (.if_icmp .ne 7, 3) := by decide +kernel
theorem dX8_value_47 : decode cX8_value 47 = .ok (.iconst 1, 1) := by decide +kernel
theorem dX8_value_48 : decode cX8_value 48 = .ok (.goto 4, 3) := by decide +kernel
theorem dX8_value_51 : decode cX8_value 51 = .ok (.iconst 0, 1) := by decide +kernel
theorem dX8_value_52 : decode cX8_value 52 = .ok (.invokevirtual 162, 3) := by decide +kernel
theorem dX8_value_55 : decode cX8_value 55 = .ok (.ifCond .eq 5, 3) := by decide +kernel
theorem dX8_value_58 : decode cX8_value 58 = .ok (.iconst 0, 1) := by decide +kernel
theorem dX8_value_59 : decode cX8_value 59 = .ok (.ireturn, 1) := by decide +kernel
theorem dX8_value_60 : decode cX8_value 60 = .ok (.aload_n 0, 1) := by decide +kernel
theorem dX8_value_61 : decode cX8_value 61 = .ok (.iload_n 1, 1) := by decide +kernel
theorem dX8_value_62 : decode cX8_value 62 = .ok (.iload_n 2, 1) := by decide +kernel
theorem dX8_value_63 : decode cX8_value 63 = .ok (.invokevirtual 299, 3) := by decide +kernel
theorem dX8_value_66 : decode cX8_value 66 = .ok (.aload_n 0, 1) := by decide +kernel
theorem dX8_value_67 : decode cX8_value 67 = .ok (.getfield 68, 3) := by decide +kernel
theorem dX8_value_70 : decode cX8_value 70 = .ok (.sipush 960, 3) := by decide +kernel
theorem dX8_value_73 : decode cX8_value 73 = .ok (.iload 4, 2) := by decide +kernel
theorem dX8_value_75 : decode cX8_value 75 = .ok (.iadd, 1) := by decide +kernel
theorem dX8_value_76 : decode cX8_value 76 = .ok (.iaload, 1) := by decide +kernel
theorem dX8_value_77 : decode cX8_value 77 = .ok (.ireturn, 1) := by decide +kernel
theorem dX8_replayed_0 : decode cX8_replayed 0 = .ok (.aload_n 0, 1) := by decide +kernel
theorem dX8_replayed_1 : decode cX8_replayed 1 = .ok (.iload_n 1, 1) := by decide +kernel
theorem dX8_replayed_2 : decode cX8_replayed 2 = .ok (.iload_n 2, 1) := by decide +kernel
theorem dX8_replayed_3 : decode cX8_replayed 3 = .ok (.invokevirtual 306, 3) := by decide +kernel
theorem dX8_replayed_6 : decode cX8_replayed 6 = .ok (.istore_n 3, 1) := by decide +kernel
theorem dX8_replayed_7 : decode cX8_replayed 7 = .ok (.aload_n 0, 1) := by decide +kernel
theorem dX8_replayed_8 : decode cX8_replayed 8 = .ok (.iload_n 3, 1) := by decide +kernel
theorem dX8_replayed_9 : decode cX8_replayed 9 = .ok (.iconst (-1), 1) := by decide +kernel
theorem dX8_replayed_10 : decode cX8_replayed 10 = .ok (.if_icmp .ne 7, 3) := by decide +kernel
theorem dX8_replayed_13 : decode cX8_replayed 13 = .ok (.iconst 1, 1) := by decide +kernel
theorem dX8_replayed_14 : decode cX8_replayed 14 = .ok (.goto 4, 3) := by decide +kernel
theorem dX8_replayed_17 : decode cX8_replayed 17 = .ok (.iconst 0, 1) := by decide +kernel
theorem dX8_replayed_18 : decode cX8_replayed 18 = .ok (.invokevirtual 162, 3) := by decide +kernel
theorem dX8_replayed_21 : decode cX8_replayed 21 = .ok (.ifCond .eq 7, 3) := by decide +kernel
theorem dX8_replayed_24 : decode cX8_replayed 24 = .ok (.iconst 0, 1) := by decide +kernel
theorem dX8_replayed_25 : decode cX8_replayed 25 = .ok (.goto 14, 3) := by decide +kernel
theorem dX8_replayed_28 : decode cX8_replayed 28 = .ok (.aload_n 0, 1) := by decide +kernel
theorem dX8_replayed_29 : decode cX8_replayed 29 = .ok (.getfield 68, 3) := by decide +kernel
theorem dX8_replayed_32 : decode cX8_replayed 32 = .ok (.bipush 48, 2) := by decide +kernel
theorem dX8_replayed_34 : decode cX8_replayed 34 = .ok (.iload_n 1, 1) := by decide +kernel
theorem dX8_replayed_35 : decode cX8_replayed 35 = .ok (.imul, 1) := by decide +kernel
theorem dX8_replayed_36 : decode cX8_replayed 36 = .ok (.iload_n 3, 1) := by decide +kernel
theorem dX8_replayed_37 : decode cX8_replayed 37 = .ok (.iadd, 1) := by decide +kernel
theorem dX8_replayed_38 : decode cX8_replayed 38 = .ok (.iaload, 1) := by decide +kernel
theorem dX8_replayed_39 : decode cX8_replayed 39 = .ok (.ireturn, 1) := by decide +kernel
theorem dX8_standing_0 : decode cX8_standing 0 = .ok (.aload_n 0, 1) := by decide +kernel
theorem dX8_standing_1 : decode cX8_standing 1 = .ok (.aload_n 0, 1) := by decide +kernel
theorem dX8_standing_2 : decode cX8_standing 2 = .ok (.iload_n 1, 1) := by decide +kernel
theorem dX8_standing_3 : decode cX8_standing 3 = .ok (.invokevirtual 296, 3) := by decide +kernel
theorem dX8_standing_6 : decode cX8_standing 6 = .ok (.ifCond .eq 7, 3) := by decide +kernel
theorem dX8_standing_9 : decode cX8_standing 9 = .ok (.iconst 0, 1) := by decide +kernel
theorem dX8_standing_10 : decode cX8_standing 10 = .ok (.goto 4, 3) := by decide +kernel
theorem dX8_standing_13 : decode cX8_standing 13 = .ok (.iconst 1, 1) := by decide +kernel
theorem dX8_standing_14 : decode cX8_standing 14 = .ok (.invokevirtual 162, 3) := by decide +kernel
theorem dX8_standing_17 : decode cX8_standing 17 = .ok (.ifCond .eq 5, 3) := by decide +kernel
theorem dX8_standing_20 : decode cX8_standing 20 = .ok (.iconst 0, 1) := by decide +kernel
theorem dX8_standing_21 : decode cX8_standing 21 = .ok (.ireturn, 1) := by decide +kernel
theorem dX8_standing_22 : decode cX8_standing 22 = .ok (.iconst 0, 1) := by decide +kernel
theorem dX8_standing_23 : decode cX8_standing 23 = .ok (.istore_n 2, 1) := by decide +kernel
theorem dX8_standing_24 : decode cX8_standing 24 = .ok (.iconst 0, 1) := by decide +kernel
theorem dX8_standing_25 : decode cX8_standing 25 = .ok (.istore_n 3, 1) := by decide +kernel
theorem dX8_standing_26 : decode cX8_standing 26 = .ok (.iload_n 3, 1) := by decide +kernel
theorem dX8_standing_27 : decode cX8_standing 27 = .ok (.bipush 24, 2) := by decide +kernel
theorem dX8_standing_29 : decode cX8_standing 29 = .ok (.if_icmp .ge 31, 3) := by decide +kernel
theorem dX8_standing_32 : decode cX8_standing 32 = .ok (.iload_n 2, 1) := by decide +kernel
theorem dX8_standing_33 : decode cX8_standing 33 = .ok (.aload_n 0, 1) := by decide +kernel
theorem dX8_standing_34 : decode cX8_standing 34 = .ok (.getfield 74, 3) := by decide +kernel
theorem dX8_standing_37 : decode cX8_standing 37 = .ok (.bipush 24, 2) := by decide +kernel
theorem dX8_standing_39 : decode cX8_standing 39 = .ok (.iload_n 1, 1) := by decide +kernel
theorem dX8_standing_40 : decode cX8_standing 40 = .ok (.imul, 1) := by decide +kernel
theorem dX8_standing_41 : decode cX8_standing 41 = .ok (.iload_n 3, 1) := by decide +kernel
theorem dX8_standing_42 : decode cX8_standing 42 = .ok (.iadd, 1) := by decide +kernel
theorem dX8_standing_43 : decode cX8_standing 43 = .ok (.iaload, 1) := by decide +kernel
theorem dX8_standing_44 : decode cX8_standing 44 = .ok (.ifCond .le 7, 3) := by decide +kernel
theorem dX8_standing_47 : decode cX8_standing 47 = .ok (.iconst 1, 1) := by decide +kernel
theorem dX8_standing_48 : decode cX8_standing 48 = .ok (.goto 4, 3) := by decide +kernel
theorem dX8_standing_51 : decode cX8_standing 51 = .ok (.iconst 0, 1) := by decide +kernel
theorem dX8_standing_52 : decode cX8_standing 52 = .ok (.iadd, 1) := by decide +kernel
theorem dX8_standing_53 : decode cX8_standing 53 = .ok (.istore_n 2, 1) := by decide +kernel
theorem dX8_standing_54 : decode cX8_standing 54 = .ok (.iinc 3 1, 3) := by decide +kernel
theorem dX8_standing_57 : decode cX8_standing 57 = .ok (.goto (-31), 3) := by decide +kernel
theorem dX8_standing_60 : decode cX8_standing 60 = .ok (.sipush 10000, 3) := by decide +kernel
theorem dX8_standing_63 : decode cX8_standing 63 = .ok (.aload_n 0, 1) := by decide +kernel
theorem dX8_standing_64 : decode cX8_standing 64 = .ok (.getfield 65, 3) := by decide +kernel
theorem dX8_standing_67 : decode cX8_standing 67 = .ok (.iload_n 1, 1) := by decide +kernel
theorem dX8_standing_68 : decode cX8_standing 68 = .ok (.iaload, 1) := by decide +kernel
theorem dX8_standing_69 : decode cX8_standing 69 = .ok (.imul, 1) := by decide +kernel
theorem dX8_standing_70 : decode cX8_standing 70 = .ok (.bipush 100, 2) := by decide +kernel
theorem dX8_standing_72 : decode cX8_standing 72 = .ok (.iload_n 2, 1) := by decide +kernel
theorem dX8_standing_73 : decode cX8_standing 73 = .ok (.imul, 1) := by decide +kernel
theorem dX8_standing_74 : decode cX8_standing 74 = .ok (.iadd, 1) := by decide +kernel
theorem dX8_standing_75 : decode cX8_standing 75 = .ok (.aload_n 0, 1) := by decide +kernel
theorem dX8_standing_76 : decode cX8_standing 76 = .ok (.getfield 71, 3) := by decide +kernel
theorem dX8_standing_79 : decode cX8_standing 79 = .ok (.iload_n 1, 1) := by decide +kernel
theorem dX8_standing_80 : decode cX8_standing 80 = .ok (.iaload, 1) := by decide +kernel
theorem dX8_standing_81 : decode cX8_standing 81 = .ok (.iadd, 1) := by decide +kernel
theorem dX8_standing_82 : decode cX8_standing 82 = .ok (.ireturn, 1) := by decide +kernel
theorem dX8_mover_0 : decode cX8_mover 0 = .ok (.aload_n 0, 1) := by decide +kernel
theorem dX8_mover_1 : decode cX8_mover 1 = .ok (.iload_n 1, 1) := by decide +kernel
theorem dX8_mover_2 : decode cX8_mover 2 = .ok (.iload_n 2, 1) := by decide +kernel
theorem dX8_mover_3 : decode cX8_mover 3 = .ok (.invokevirtual 219, 3) := by decide +kernel
theorem dX8_mover_6 : decode cX8_mover 6 = .ok (.istore_n 3, 1) := by decide +kernel
theorem dX8_mover_7 : decode cX8_mover 7 = .ok (.aload_n 0, 1) := by decide +kernel
theorem dX8_mover_8 : decode cX8_mover 8 = .ok (.iload_n 3, 1) := by decide +kernel
theorem dX8_mover_9 : decode cX8_mover 9 = .ok (.ifCond .ne 7, 3) := by decide +kernel
theorem dX8_mover_12 : decode cX8_mover 12 = .ok (.iconst 1, 1) := by decide +kernel
theorem dX8_mover_13 : decode cX8_mover 13 = .ok (.goto 17, 3) := by decide +kernel
theorem dX8_mover_16 : decode cX8_mover 16 = .ok (.aload_n 0, 1) := by decide +kernel
theorem dX8_mover_17 : decode cX8_mover 17 = .ok (.getfield 309, 3) := by decide +kernel
theorem dX8_mover_20 : decode cX8_mover 20 = .ok (.bipush 8, 2) := by decide +kernel
theorem dX8_mover_22 : decode cX8_mover 22 = .ok (.if_icmp .ne 7, 3) := by decide +kernel
theorem dX8_mover_25 : decode cX8_mover 25 = .ok (.iconst 2, 1) := by decide +kernel
theorem dX8_mover_26 : decode cX8_mover 26 = .ok (.goto 4, 3) := by decide +kernel
theorem dX8_mover_29 : decode cX8_mover 29 = .ok (.iconst 0, 1) := by decide +kernel
theorem dX8_mover_30 : decode cX8_mover 30 = .ok (.invokevirtual 162, 3) := by decide +kernel
theorem dX8_mover_33 : decode cX8_mover 33 = .ok (.ifCond .eq 5, 3) := by decide +kernel
theorem dX8_mover_36 : decode cX8_mover 36 = .ok (.iconst 0, 1) := by decide +kernel
theorem dX8_mover_37 : decode cX8_mover 37 = .ok (.ireturn, 1) := by decide +kernel
theorem dX8_mover_38 : decode cX8_mover 38 = .ok (.aload_n 0, 1) := by decide +kernel
theorem dX8_mover_39 : decode cX8_mover 39 = .ok (.getfield 83, 3) := by decide +kernel
theorem dX8_mover_42 : decode cX8_mover 42 = .ok (.aload_n 0, 1) := by decide +kernel
theorem dX8_mover_43 : decode cX8_mover 43 = .ok (.getfield 309, 3) := by decide +kernel
theorem dX8_mover_46 : decode cX8_mover 46 = .ok (.iload_n 1, 1) := by decide +kernel
theorem dX8_mover_47 : decode cX8_mover 47 = .ok (.iastore, 1) := by decide +kernel
theorem dX8_mover_48 : decode cX8_mover 48 = .ok (.aload_n 0, 1) := by decide +kernel
theorem dX8_mover_49 : decode cX8_mover 49 = .ok (.getfield 86, 3) := by decide +kernel
theorem dX8_mover_52 : decode cX8_mover 52 = .ok (.aload_n 0, 1) := by decide +kernel
theorem dX8_mover_53 : decode cX8_mover 53 = .ok (.getfield 309, 3) := by decide +kernel
theorem dX8_mover_56 : decode cX8_mover 56 = .ok (.iload_n 2, 1) := by decide +kernel
theorem dX8_mover_57 : decode cX8_mover 57 = .ok (.iastore, 1) := by decide +kernel
theorem dX8_mover_58 : decode cX8_mover 58 = .ok (.aload_n 0, 1) := by decide +kernel
theorem dX8_mover_59 : decode cX8_mover 59 = .ok (.getfield 89, 3) := by decide +kernel
theorem dX8_mover_62 : decode cX8_mover 62 = .ok (.aload_n 0, 1) := by decide +kernel
theorem dX8_mover_63 : decode cX8_mover 63 = .ok (.getfield 309, 3) := by decide +kernel
theorem dX8_mover_66 : decode cX8_mover 66 = .ok (.iconst (-1), 1) := by decide +kernel
theorem dX8_mover_67 : decode cX8_mover 67 = .ok (.iastore, 1) := by decide +kernel
theorem dX8_mover_68 : decode cX8_mover 68 = .ok (.aload_n 0, 1) := by decide +kernel
theorem dX8_mover_69 : decode cX8_mover 69 = .ok (.dup, 1) := by decide +kernel
theorem dX8_mover_70 : decode cX8_mover 70 = .ok (.getfield 309, 3) := by decide +kernel
theorem dX8_mover_73 : decode cX8_mover 73 = .ok (.iconst 1, 1) := by decide +kernel
theorem dX8_mover_74 : decode cX8_mover 74 = .ok (.iadd, 1) := by decide +kernel
theorem dX8_mover_75 : decode cX8_mover 75 = .ok (.putfield 309, 3) := by decide +kernel
theorem dX8_mover_78 : decode cX8_mover 78 = .ok (.aload_n 0, 1) := by decide +kernel
theorem dX8_mover_79 : decode cX8_mover 79 = .ok (.getfield 309, 3) := by decide +kernel
theorem dX8_mover_82 : decode cX8_mover 82 = .ok (.iconst 1, 1) := by decide +kernel
theorem dX8_mover_83 : decode cX8_mover 83 = .ok (.isub, 1) := by decide +kernel
theorem dX8_mover_84 : decode cX8_mover 84 = .ok (.ireturn, 1) := by decide +kernel
theorem dX8_isMover_0 : decode cX8_isMover 0 = .ok (.iload_n 1, 1) := by decide +kernel
theorem dX8_isMover_1 : decode cX8_isMover 1 = .ok (.iconst 0, 1) := by decide +kernel
theorem dX8_isMover_2 : decode cX8_isMover 2 = .ok (.aload_n 0, 1) := by decide +kernel
theorem dX8_isMover_3 : decode cX8_isMover 3 = .ok (.getfield 309, 3) := by decide +kernel
theorem dX8_isMover_6 : decode cX8_isMover 6 = .ok (.iconst 1, 1) := by decide +kernel
theorem dX8_isMover_7 : decode cX8_isMover 7 = .ok (.isub, 1) := by decide +kernel
theorem dX8_isMover_8 : decode cX8_isMover 8 = .ok (.invokestatic 144, 3) := by decide +kernel
theorem dX8_isMover_11 : decode cX8_isMover 11 = .ok (.ireturn, 1) := by decide +kernel
theorem dX8_off_0 : decode cX8_off 0 = .ok (.aload_n 0, 1) := by decide +kernel
theorem dX8_off_1 : decode cX8_off 1 = .ok (.getfield 65, 3) := by decide +kernel
theorem dX8_off_4 : decode cX8_off 4 = .ok (.iload_n 1, 1) := by decide +kernel
theorem dX8_off_5 : decode cX8_off 5 = .ok (.iaload, 1) := by decide +kernel
theorem dX8_off_6 : decode cX8_off 6 = .ok (.aload_n 0, 1) := by decide +kernel
theorem dX8_off_7 : decode cX8_off 7 = .ok (.getfield 86, 3) := by decide +kernel
theorem dX8_off_10 : decode cX8_off 10 = .ok (.iload_n 2, 1) := by decide +kernel
theorem dX8_off_11 : decode cX8_off 11 = .ok (.iaload, 1) := by decide +kernel
theorem dX8_off_12 : decode cX8_off 12 = .ok (.isub, 1) := by decide +kernel
theorem dX8_off_13 : decode cX8_off 13 = .ok (.istore_n 3, 1) := by decide +kernel
theorem dX8_off_14 : decode cX8_off 14 = .ok (.iload_n 3, 1) := by decide +kernel
theorem dX8_off_15 : decode cX8_off 15 = .ok (.ifCond .ge 8, 3) := by decide +kernel
theorem dX8_off_18 : decode cX8_off 18 = .ok (.iload_n 3, 1) := by decide +kernel
theorem dX8_off_19 : decode cX8_off 19 = .ok (.ineg, 1) := by decide +kernel
theorem dX8_off_20 : decode cX8_off 20 = .ok (.goto 4, 3) := by decide +kernel
theorem dX8_off_23 : decode cX8_off 23 = .ok (.iload_n 3, 1) := by decide +kernel
theorem dX8_off_24 : decode cX8_off 24 = .ok (.ireturn, 1) := by decide +kernel
theorem dX8_nextRow_0 : decode cX8_nextRow 0 = .ok (.iconst (-1), 1) := by decide +kernel
theorem dX8_nextRow_1 : decode cX8_nextRow 1 = .ok (.istore_n 2, 1) := by decide +kernel
theorem dX8_nextRow_2 : decode cX8_nextRow 2 = .ok (.iconst 0, 1) := by decide +kernel
theorem dX8_nextRow_3 : decode cX8_nextRow 3 = .ok (.istore_n 3, 1) := by decide +kernel
theorem dX8_nextRow_4 : decode cX8_nextRow 4 = .ok (.iload_n 3, 1) := by decide +kernel
theorem dX8_nextRow_5 : decode cX8_nextRow 5 = .ok (.aload_n 0, 1) := by decide +kernel
theorem dX8_nextRow_6 : decode cX8_nextRow 6 = .ok (.getfield 293, 3) := by decide +kernel
theorem dX8_nextRow_9 : decode cX8_nextRow 9 = .ok (.if_icmp .ge 71, 3) := by decide +kernel
theorem dX8_nextRow_12 : decode cX8_nextRow 12 = .ok (.aload_n 0, 1) := by decide +kernel
theorem dX8_nextRow_13 : decode cX8_nextRow 13 = .ok (.getfield 62, 3) := by decide +kernel
theorem dX8_nextRow_16 : decode cX8_nextRow 16 = .ok (.iload_n 3, 1) := by decide +kernel
theorem dX8_nextRow_17 : decode cX8_nextRow 17 = .ok (.iaload, 1) := by decide +kernel
theorem dX8_nextRow_18 : decode cX8_nextRow 18 = .ok (.aload_n 0, 1) := by decide +kernel
theorem dX8_nextRow_19 : decode cX8_nextRow 19 = .ok (.getfield 83, 3) := by decide +kernel
theorem dX8_nextRow_22 : decode cX8_nextRow 22 = .ok (.iload_n 1, 1) := by decide +kernel
theorem dX8_nextRow_23 : decode cX8_nextRow 23 = .ok (.iaload, 1) := by decide +kernel
theorem dX8_nextRow_24 : decode cX8_nextRow 24 = .ok (.if_icmp .ne 16, 3) := by decide +kernel
theorem dX8_nextRow_27 : decode cX8_nextRow 27 = .ok (.aload_n 0, 1) := by decide +kernel
theorem dX8_nextRow_28 : decode cX8_nextRow 28 = .ok (.iload_n 3, 1) := by decide +kernel
theorem dX8_nextRow_29 : decode cX8_nextRow 29 = .ok (.iload_n 1, 1) := by decide +kernel
theorem dX8_nextRow_30 : decode cX8_nextRow 30 = .ok (.invokevirtual 312, 3) := by decide +kernel
theorem dX8_nextRow_33 : decode cX8_nextRow 33 = .ok (.ifCond .le 7, 3) := by decide +kernel
theorem dX8_nextRow_36 : decode cX8_nextRow 36 = .ok (.iconst 1, 1) := by decide +kernel
theorem dX8_nextRow_37 : decode cX8_nextRow 37 = .ok (.goto 4, 3) := by decide +kernel
theorem dX8_nextRow_40 : decode cX8_nextRow 40 = .ok (.iconst 0, 1) := by decide +kernel
theorem dX8_nextRow_41 : decode cX8_nextRow 41 = .ok (.istore 4, 2) := by decide +kernel
theorem dX8_nextRow_43 : decode cX8_nextRow 43 = .ok (.iload 4, 2) := by decide +kernel
theorem dX8_nextRow_45 : decode cX8_nextRow 45 = .ok (.ifCond .eq 27, 3) := by decide +kernel
theorem dX8_nextRow_48 : decode cX8_nextRow 48 = .ok (.iload_n 2, 1) := by decide +kernel
theorem dX8_nextRow_49 : decode cX8_nextRow 49 = .ok (.iconst (-1), 1) := by decide +kernel
theorem dX8_nextRow_50 : decode cX8_nextRow 50 = .ok (.if_icmp .eq 18, 3) := by decide +kernel
theorem dX8_nextRow_53 : decode cX8_nextRow 53 = .ok (.aload_n 0, 1) := by decide +kernel
theorem dX8_nextRow_54 : decode cX8_nextRow 54 = .ok (.iload_n 3, 1) := by decide +kernel
theorem dX8_nextRow_55 : decode cX8_nextRow 55 = .ok (.iload_n 1, 1) := by decide +kernel
theorem dX8_nextRow_56 : decode cX8_nextRow 56 = .ok (.invokevirtual 312, 3) := by decide +kernel
theorem dX8_nextRow_59 : decode cX8_nextRow 59 = .ok (.aload_n 0, 1) := by decide +kernel
theorem dX8_nextRow_60 : decode cX8_nextRow 60 = .ok (.iload_n 2, 1) := by decide +kernel
theorem dX8_nextRow_61 : decode cX8_nextRow 61 = .ok (.iload_n 1, 1) := by decide +kernel
theorem dX8_nextRow_62 : decode cX8_nextRow 62 = .ok (.invokevirtual 312, 3) := by decide +kernel
theorem dX8_nextRow_65 : decode cX8_nextRow 65 = .ok (.if_icmp .le 7, 3) := by decide +kernel
theorem dX8_nextRow_68 : decode cX8_nextRow 68 = .ok (.iload_n 3, 1) := by decide +kernel
theorem dX8_nextRow_69 : decode cX8_nextRow 69 = .ok (.goto 4, 3) := by decide +kernel
theorem dX8_nextRow_72 : decode cX8_nextRow 72 = .ok (.iload_n 2, 1) := by decide +kernel
theorem dX8_nextRow_73 : decode cX8_nextRow 73 = .ok (.istore_n 2, 1) := by decide +kernel
theorem dX8_nextRow_74 : decode cX8_nextRow 74 = .ok (.iinc 3 1, 3) := by decide +kernel
theorem dX8_nextRow_77 : decode cX8_nextRow 77 = .ok (.goto (-73), 3) := by decide +kernel
theorem dX8_nextRow_80 : decode cX8_nextRow 80 = .ok (.iload_n 2, 1) := by decide +kernel
theorem dX8_nextRow_81 : decode cX8_nextRow 81 = .ok (.ireturn, 1) := by decide +kernel
theorem dX8_step_0 : decode cX8_step 0 = .ok (.aload_n 0, 1) := by decide +kernel
theorem dX8_step_1 : decode cX8_step 1 = .ok (.iload_n 1, 1) := by decide +kernel
theorem dX8_step_2 : decode cX8_step 2 = .ok (.invokevirtual 315, 3) := by decide +kernel
theorem dX8_step_5 : decode cX8_step 5 = .ok (.istore_n 2, 1) := by decide +kernel
theorem dX8_step_6 : decode cX8_step 6 = .ok (.iload_n 2, 1) := by decide +kernel
theorem dX8_step_7 : decode cX8_step 7 = .ok (.ifCond .eq 11, 3) := by decide +kernel
theorem dX8_step_10 : decode cX8_step 10 = .ok (.aload_n 0, 1) := by decide +kernel
theorem dX8_step_11 : decode cX8_step 11 = .ok (.iload_n 1, 1) := by decide +kernel
theorem dX8_step_12 : decode cX8_step 12 = .ok (.invokevirtual 318, 3) := by decide +kernel
theorem dX8_step_15 : decode cX8_step 15 = .ok (.goto 4, 3) := by decide +kernel
theorem dX8_step_18 : decode cX8_step 18 = .ok (.iconst (-1), 1) := by decide +kernel
theorem dX8_step_19 : decode cX8_step 19 = .ok (.istore_n 3, 1) := by decide +kernel
theorem dX8_step_20 : decode cX8_step 20 = .ok (.aload_n 0, 1) := by decide +kernel
theorem dX8_step_21 : decode cX8_step 21 = .ok (.iload_n 2, 1) := by decide +kernel
theorem dX8_step_22 : decode cX8_step 22 = .ok (.ifCond .ne 7, 3) := by decide +kernel
theorem dX8_step_25 : decode cX8_step 25 = .ok (.iconst 1, 1) := by decide +kernel
theorem dX8_step_26 : decode cX8_step 26 = .ok (.goto 13, 3) := by decide +kernel
theorem dX8_step_29 : decode cX8_step 29 = .ok (.iload_n 3, 1) := by decide +kernel
theorem dX8_step_30 : decode cX8_step 30 = .ok (.iconst (-1), 1) := by decide +kernel
theorem dX8_step_31 : decode cX8_step 31 = .ok (.if_icmp .ne 7, 3) := by decide +kernel
theorem dX8_step_34 : decode cX8_step 34 = .ok (.iconst 2, 1) := by decide +kernel
theorem dX8_step_35 : decode cX8_step 35 = .ok (.goto 4, 3) := by decide +kernel
theorem dX8_step_38 : decode cX8_step 38 = .ok (.iconst 0, 1) := by decide +kernel
theorem dX8_step_39 : decode cX8_step 39 = .ok (.invokevirtual 162, 3) := by decide +kernel
theorem dX8_step_42 : decode cX8_step 42 = .ok (.ifCond .eq 5, 3) := by decide +kernel
theorem dX8_step_45 : decode cX8_step 45 = .ok (.iconst 0, 1) := by decide +kernel
theorem dX8_step_46 : decode cX8_step 46 = .ok (.ireturn, 1) := by decide +kernel
theorem dX8_step_47 : decode cX8_step 47 = .ok (.aload_n 0, 1) := by decide +kernel
theorem dX8_step_48 : decode cX8_step 48 = .ok (.getfield 65, 3) := by decide +kernel
theorem dX8_step_51 : decode cX8_step 51 = .ok (.iload_n 3, 1) := by decide +kernel
theorem dX8_step_52 : decode cX8_step 52 = .ok (.iaload, 1) := by decide +kernel
theorem dX8_step_53 : decode cX8_step 53 = .ok (.aload_n 0, 1) := by decide +kernel
theorem dX8_step_54 : decode cX8_step 54 = .ok (.getfield 86, 3) := by decide +kernel
theorem dX8_step_57 : decode cX8_step 57 = .ok (.iload_n 1, 1) := by decide +kernel
theorem dX8_step_58 : decode cX8_step 58 = .ok (.iaload, 1) := by decide +kernel
theorem dX8_step_59 : decode cX8_step 59 = .ok (.if_icmp .ge 7, 3) := by decide +kernel
theorem dX8_step_62 : decode cX8_step 62 = .ok (.iconst 1, 1) := by decide +kernel
theorem dX8_step_63 : decode cX8_step 63 = .ok (.goto 4, 3) := by decide +kernel
theorem dX8_step_66 : decode cX8_step 66 = .ok (.iconst 0, 1) := by decide +kernel
theorem dX8_step_67 : decode cX8_step 67 = .ok (.istore 4, 2) := by decide +kernel
theorem dX8_step_69 : decode cX8_step 69 = .ok (.iload 4, 2) := by decide +kernel
theorem dX8_step_71 : decode cX8_step 71 = .ok (.ifCond .eq 14, 3) := by decide +kernel
theorem dX8_step_74 : decode cX8_step 74 = .ok (.aload_n 0, 1) := by decide +kernel
theorem dX8_step_75 : decode cX8_step 75 = .ok (.getfield 65, 3) := by decide +kernel
theorem dX8_step_78 : decode cX8_step 78 = .ok (.iload_n 3, 1) := by decide +kernel
theorem dX8_step_79 : decode cX8_step 79 = .ok (.iaload, 1) := by decide +kernel
theorem dX8_step_80 : decode cX8_step 80 = .ok (.iconst 1, 1) := by decide +kernel
theorem dX8_step_81 : decode cX8_step 81 = .ok (.iadd, 1) := by decide +kernel
theorem dX8_step_82 : decode cX8_step 82 = .ok (.goto 9, 3) := by decide +kernel
theorem dX8_step_85 : decode cX8_step 85 = .ok (.aload_n 0, 1) := by decide +kernel
theorem dX8_step_86 : decode cX8_step 86 = .ok (.getfield 65, 3) := by decide +kernel
theorem dX8_step_89 : decode cX8_step 89 = .ok (.iload_n 3, 1) := by decide +kernel
theorem dX8_step_90 : decode cX8_step 90 = .ok (.iaload, 1) := by decide +kernel
theorem dX8_step_91 : decode cX8_step 91 = .ok (.istore 5, 2) := by decide +kernel
theorem dX8_step_93 : decode cX8_step 93 = .ok (.bipush 24, 2) := by decide +kernel
theorem dX8_step_95 : decode cX8_step 95 = .ok (.aload_n 0, 1) := by decide +kernel
theorem dX8_step_96 : decode cX8_step 96 = .ok (.getfield 62, 3) := by decide +kernel
theorem dX8_step_99 : decode cX8_step 99 = .ok (.iload_n 3, 1) := by decide +kernel
theorem dX8_step_100 : decode cX8_step 100 = .ok (.iaload, 1) := by decide +kernel
theorem dX8_step_101 : decode cX8_step 101 = .ok (.imul, 1) := by decide +kernel
theorem dX8_step_102 : decode cX8_step 102 = .ok (.iload 5, 2) := by decide +kernel
theorem dX8_step_104 : decode cX8_step 104 = .ok (.iadd, 1) := by decide +kernel
theorem dX8_step_105 : decode cX8_step 105 = .ok (.istore 6, 2) := by decide +kernel
theorem dX8_step_107 : decode cX8_step 107 = .ok (.bipush 24, 2) := by decide +kernel
theorem dX8_step_109 : decode cX8_step 109 = .ok (.iload_n 3, 1) := by decide +kernel
theorem dX8_step_110 : decode cX8_step 110 = .ok (.imul, 1) := by decide +kernel
theorem dX8_step_111 : decode cX8_step 111 = .ok (.iload 5, 2) := by decide +kernel
theorem dX8_step_113 : decode cX8_step 113 = .ok (.iadd, 1) := by decide +kernel
theorem dX8_step_114 : decode cX8_step 114 = .ok (.istore 7, 2) := by decide +kernel
theorem dX8_step_116 : decode cX8_step 116 = .ok (.aload_n 0, 1) := by decide +kernel
theorem dX8_step_117 : decode cX8_step 117 = .ok (.getfield 92, 3) := by decide +kernel
theorem dX8_step_120 : decode cX8_step 120 = .ok (.aload_n 0, 1) := by decide +kernel
theorem dX8_step_121 : decode cX8_step 121 = .ok (.getfield 321, 3) := by decide +kernel
theorem dX8_step_124 : decode cX8_step 124 = .ok (.aload_n 0, 1) := by decide +kernel
theorem dX8_step_125 : decode cX8_step 125 = .ok (.getfield 89, 3) := by decide +kernel
theorem dX8_step_128 : decode cX8_step 128 = .ok (.iload_n 1, 1) := by decide +kernel
theorem dX8_step_129 : decode cX8_step 129 = .ok (.iaload, 1) := by decide +kernel
theorem dX8_step_130 : decode cX8_step 130 = .ok (.iastore, 1) := by decide +kernel
theorem dX8_step_131 : decode cX8_step 131 = .ok (.aload_n 0, 1) := by decide +kernel
theorem dX8_step_132 : decode cX8_step 132 = .ok (.getfield 95, 3) := by decide +kernel
theorem dX8_step_135 : decode cX8_step 135 = .ok (.aload_n 0, 1) := by decide +kernel
theorem dX8_step_136 : decode cX8_step 136 = .ok (.getfield 321, 3) := by decide +kernel
theorem dX8_step_139 : decode cX8_step 139 = .ok (.iload_n 3, 1) := by decide +kernel
theorem dX8_step_140 : decode cX8_step 140 = .ok (.iastore, 1) := by decide +kernel
theorem dX8_step_141 : decode cX8_step 141 = .ok (.aload_n 0, 1) := by decide +kernel
theorem dX8_step_142 : decode cX8_step 142 = .ok (.getfield 101, 3) := by decide +kernel
theorem dX8_step_145 : decode cX8_step 145 = .ok (.aload_n 0, 1) := by decide +kernel
theorem dX8_step_146 : decode cX8_step 146 = .ok (.getfield 321, 3) := by decide +kernel
theorem dX8_step_149 : decode cX8_step 149 = .ok (.aload_n 0, 1) := by decide +kernel
theorem dX8_step_150 : decode cX8_step 150 = .ok (.getfield 80, 3) := by decide +kernel
theorem dX8_step_153 : decode cX8_step 153 = .ok (.iload_n 3, 1) := by decide +kernel
theorem dX8_step_154 : decode cX8_step 154 = .ok (.iaload, 1) := by decide +kernel
theorem dX8_step_155 : decode cX8_step 155 = .ok (.iastore, 1) := by decide +kernel
theorem dX8_step_156 : decode cX8_step 156 = .ok (.aload_n 0, 1) := by decide +kernel
theorem dX8_step_157 : decode cX8_step 157 = .ok (.getfield 104, 3) := by decide +kernel
theorem dX8_step_160 : decode cX8_step 160 = .ok (.aload_n 0, 1) := by decide +kernel
theorem dX8_step_161 : decode cX8_step 161 = .ok (.getfield 321, 3) := by decide +kernel
theorem dX8_step_164 : decode cX8_step 164 = .ok (.aload_n 0, 1) := by decide +kernel
theorem dX8_step_165 : decode cX8_step 165 = .ok (.getfield 65, 3) := by decide +kernel
theorem dX8_step_168 : decode cX8_step 168 = .ok (.iload_n 3, 1) := by decide +kernel
theorem dX8_step_169 : decode cX8_step 169 = .ok (.iaload, 1) := by decide +kernel
theorem dX8_step_170 : decode cX8_step 170 = .ok (.iastore, 1) := by decide +kernel
theorem dX8_step_171 : decode cX8_step 171 = .ok (.aload_n 0, 1) := by decide +kernel
theorem dX8_step_172 : decode cX8_step 172 = .ok (.getfield 107, 3) := by decide +kernel
theorem dX8_step_175 : decode cX8_step 175 = .ok (.aload_n 0, 1) := by decide +kernel
theorem dX8_step_176 : decode cX8_step 176 = .ok (.getfield 321, 3) := by decide +kernel
theorem dX8_step_179 : decode cX8_step 179 = .ok (.aload_n 0, 1) := by decide +kernel
theorem dX8_step_180 : decode cX8_step 180 = .ok (.getfield 71, 3) := by decide +kernel
theorem dX8_step_183 : decode cX8_step 183 = .ok (.iload_n 3, 1) := by decide +kernel
theorem dX8_step_184 : decode cX8_step 184 = .ok (.iaload, 1) := by decide +kernel
theorem dX8_step_185 : decode cX8_step 185 = .ok (.iastore, 1) := by decide +kernel
theorem dX8_step_186 : decode cX8_step 186 = .ok (.aload_n 0, 1) := by decide +kernel
theorem dX8_step_187 : decode cX8_step 187 = .ok (.getfield 110, 3) := by decide +kernel
theorem dX8_step_190 : decode cX8_step 190 = .ok (.aload_n 0, 1) := by decide +kernel
theorem dX8_step_191 : decode cX8_step 191 = .ok (.getfield 321, 3) := by decide +kernel
theorem dX8_step_194 : decode cX8_step 194 = .ok (.aload_n 0, 1) := by decide +kernel
theorem dX8_step_195 : decode cX8_step 195 = .ok (.getfield 74, 3) := by decide +kernel
theorem dX8_step_198 : decode cX8_step 198 = .ok (.iload 7, 2) := by decide +kernel
theorem dX8_step_200 : decode cX8_step 200 = .ok (.iaload, 1) := by decide +kernel
theorem dX8_step_201 : decode cX8_step 201 = .ok (.iastore, 1) := by decide +kernel
theorem dX8_step_202 : decode cX8_step 202 = .ok (.iconst 0, 1) := by decide +kernel
theorem dX8_step_203 : decode cX8_step 203 = .ok (.istore 8, 2) := by decide +kernel
theorem dX8_step_205 : decode cX8_step 205 = .ok (.iload 8, 2) := by decide +kernel
theorem dX8_step_207 : decode cX8_step 207 = .ok (.iconst 2, 1) := by decide +kernel
theorem dX8_step_208 : decode cX8_step 208 = .ok (.if_icmp .ge 135, 3) := by decide +kernel
theorem dX8_step_211 : decode cX8_step 211 = .ok (.aload_n 0, 1) := by decide +kernel
theorem dX8_step_212 : decode cX8_step 212 = .ok (.getfield 113, 3) := by decide +kernel
theorem dX8_step_215 : decode cX8_step 215 = .ok (.iconst 2, 1) := by decide +kernel
theorem dX8_step_216 : decode cX8_step 216 = .ok (.aload_n 0, 1) := by decide +kernel
theorem dX8_step_217 : decode cX8_step 217 = .ok (.getfield 321, 3) := by decide +kernel
theorem dX8_step_220 : decode cX8_step 220 = .ok (.imul, 1) := by decide +kernel
theorem dX8_step_221 : decode cX8_step 221 = .ok (.iload 8, 2) := by decide +kernel
theorem dX8_step_223 : decode cX8_step 223 = .ok (.iadd, 1) := by decide +kernel
theorem dX8_step_224 : decode cX8_step 224 = .ok (.aload_n 0, 1) := by decide +kernel
theorem dX8_step_225 : decode cX8_step 225 = .ok (.getfield 77, 3) := by decide +kernel
theorem dX8_step_228 : decode cX8_step 228 = .ok (.iconst 2, 1) := by decide +kernel
theorem dX8_step_229 : decode cX8_step 229 = .ok (.iload 7, 2) := by decide +kernel
theorem dX8_step_231 : decode cX8_step 231 = .ok (.imul, 1) := by decide +kernel
theorem dX8_step_232 : decode cX8_step 232 = .ok (.iload 8, 2) := by decide +kernel
theorem dX8_step_234 : decode cX8_step 234 = .ok (.iadd, 1) := by decide +kernel
theorem dX8_step_235 : decode cX8_step 235 = .ok (.iaload, 1) := by decide +kernel
theorem dX8_step_236 : decode cX8_step 236 = .ok (.iastore, 1) := by decide +kernel
theorem dX8_step_237 : decode cX8_step 237 = .ok (.aload_n 0, 1) := by decide +kernel
theorem dX8_step_238 : decode cX8_step 238 = .ok (.getfield 116, 3) := by decide +kernel
theorem dX8_step_241 : decode cX8_step 241 = .ok (.iconst 2, 1) := by decide +kernel
theorem dX8_step_242 : decode cX8_step 242 = .ok (.aload_n 0, 1) := by decide +kernel
theorem dX8_step_243 : decode cX8_step 243 = .ok (.getfield 321, 3) := by decide +kernel
theorem dX8_step_246 : decode cX8_step 246 = .ok (.imul, 1) := by decide +kernel
theorem dX8_step_247 : decode cX8_step 247 = .ok (.iload 8, 2) := by decide +kernel
theorem dX8_step_249 : decode cX8_step 249 = .ok (.iadd, 1) := by decide +kernel
theorem dX8_step_250 : decode cX8_step 250 = .ok (.aload_n 0, 1) := by decide +kernel
theorem dX8_step_251 : decode cX8_step 251 = .ok (.iload 6, 2) := by decide +kernel
theorem dX8_step_253 : decode cX8_step 253 = .ok (.iconst 1, 1) := by decide +kernel
theorem dX8_step_254 : decode cX8_step 254 = .ok (.iload 8, 2) := by decide +kernel
theorem dX8_step_256 : decode cX8_step 256 = .ok (.invokevirtual 272, 3) := by decide +kernel
theorem dX8_step_259 : decode cX8_step 259 = .ok (.iconst (-1), 1) := by decide +kernel
theorem dX8_step_260 : decode cX8_step 260 = .ok (.if_icmp .ne 7, 3) := by decide +kernel
theorem dX8_step_263 : decode cX8_step 263 = .ok (.iconst (-1), 1) := by decide +kernel
theorem dX8_step_264 : decode cX8_step 264 = .ok (.goto 22, 3) := by decide +kernel
theorem dX8_step_267 : decode cX8_step 267 = .ok (.aload_n 0, 1) := by decide +kernel
theorem dX8_step_268 : decode cX8_step 268 = .ok (.getfield 68, 3) := by decide +kernel
theorem dX8_step_271 : decode cX8_step 271 = .ok (.bipush 48, 2) := by decide +kernel
theorem dX8_step_273 : decode cX8_step 273 = .ok (.iload_n 3, 1) := by decide +kernel
theorem dX8_step_274 : decode cX8_step 274 = .ok (.imul, 1) := by decide +kernel
theorem dX8_step_275 : decode cX8_step 275 = .ok (.aload_n 0, 1) := by decide +kernel
theorem dX8_step_276 : decode cX8_step 276 = .ok (.iload 6, 2) := by decide +kernel
theorem dX8_step_278 : decode cX8_step 278 = .ok (.iconst 1, 1) := by decide +kernel
theorem dX8_step_279 : decode cX8_step 279 = .ok (.iload 8, 2) := by decide +kernel
theorem dX8_step_281 : decode cX8_step 281 = .ok (.invokevirtual 272, 3) := by decide +kernel
theorem dX8_step_284 : decode cX8_step 284 = .ok (.iadd, 1) := by decide +kernel
theorem dX8_step_285 : decode cX8_step 285 = .ok (.iaload, 1) := by decide +kernel
theorem dX8_step_286 : decode cX8_step 286 = .ok (.iastore, 1) := by decide +kernel
theorem dX8_step_287 : decode cX8_step 287 = .ok (.aload_n 0, 1) := by decide +kernel
theorem dX8_step_288 : decode cX8_step 288 = .ok (.getfield 119, 3) := by decide +kernel
theorem dX8_step_291 : decode cX8_step 291 = .ok (.iconst 2, 1) := by decide +kernel
theorem dX8_step_292 : decode cX8_step 292 = .ok (.aload_n 0, 1) := by decide +kernel
theorem dX8_step_293 : decode cX8_step 293 = .ok (.getfield 321, 3) := by decide +kernel
theorem dX8_step_296 : decode cX8_step 296 = .ok (.imul, 1) := by decide +kernel
theorem dX8_step_297 : decode cX8_step 297 = .ok (.iload 8, 2) := by decide +kernel
theorem dX8_step_299 : decode cX8_step 299 = .ok (.iadd, 1) := by decide +kernel
theorem dX8_step_300 : decode cX8_step 300 = .ok (.aload_n 0, 1) := by decide +kernel
theorem dX8_step_301 : decode cX8_step 301 = .ok (.iload 6, 2) := by decide +kernel
theorem dX8_step_303 : decode cX8_step 303 = .ok (.iconst 0, 1) := by decide +kernel
theorem dX8_step_304 : decode cX8_step 304 = .ok (.iload 8, 2) := by decide +kernel
theorem dX8_step_306 : decode cX8_step 306 = .ok (.invokevirtual 272, 3) := by decide +kernel
theorem dX8_step_309 : decode cX8_step 309 = .ok (.iconst (-1), 1) := by decide +kernel
theorem dX8_step_310 : decode cX8_step 310 = .ok (.if_icmp .ne 7, 3) := by decide +kernel
theorem dX8_step_313 : decode cX8_step 313 = .ok (.iconst (-1), 1) := by decide +kernel
theorem dX8_step_314 : decode cX8_step 314 = .ok (.goto 22, 3) := by decide +kernel
theorem dX8_step_317 : decode cX8_step 317 = .ok (.aload_n 0, 1) := by decide +kernel
theorem dX8_step_318 : decode cX8_step 318 = .ok (.getfield 68, 3) := by decide +kernel
theorem dX8_step_321 : decode cX8_step 321 = .ok (.bipush 48, 2) := by decide +kernel
theorem dX8_step_323 : decode cX8_step 323 = .ok (.iload_n 3, 1) := by decide +kernel
theorem dX8_step_324 : decode cX8_step 324 = .ok (.imul, 1) := by decide +kernel
theorem dX8_step_325 : decode cX8_step 325 = .ok (.aload_n 0, 1) := by decide +kernel
theorem dX8_step_326 : decode cX8_step 326 = .ok (.iload 6, 2) := by decide +kernel
theorem dX8_step_328 : decode cX8_step 328 = .ok (.iconst 0, 1) := by decide +kernel
theorem dX8_step_329 : decode cX8_step 329 = .ok (.iload 8, 2) := by decide +kernel
theorem dX8_step_331 : decode cX8_step 331 = .ok (.invokevirtual 272, 3) := by decide +kernel
theorem dX8_step_334 : decode cX8_step 334 = .ok (.iadd, 1) := by decide +kernel
theorem dX8_step_335 : decode cX8_step 335 = .ok (.iaload, 1) := by decide +kernel
theorem dX8_step_336 : decode cX8_step 336 = .ok (.iastore, 1) := by decide +kernel
theorem dX8_step_337 : decode cX8_step 337 = .ok (.iinc 8 1, 3) := by decide +kernel
theorem dX8_step_340 : decode cX8_step 340 = .ok (.goto (-135), 3) := by decide +kernel
theorem dX8_step_343 : decode cX8_step 343 = .ok (.aload_n 0, 1) := by decide +kernel
theorem dX8_step_344 : decode cX8_step 344 = .ok (.iload_n 3, 1) := by decide +kernel
theorem dX8_step_345 : decode cX8_step 345 = .ok (.iload 5, 2) := by decide +kernel
theorem dX8_step_347 : decode cX8_step 347 = .ok (.iload 4, 2) := by decide +kernel
theorem dX8_step_349 : decode cX8_step 349 = .ok (.invokevirtual 280, 3) := by decide +kernel
theorem dX8_step_352 : decode cX8_step 352 = .ok (.aload_n 0, 1) := by decide +kernel
theorem dX8_step_353 : decode cX8_step 353 = .ok (.iload_n 3, 1) := by decide +kernel
theorem dX8_step_354 : decode cX8_step 354 = .ok (.invokevirtual 302, 3) := by decide +kernel
theorem dX8_step_357 : decode cX8_step 357 = .ok (.aload_n 0, 1) := by decide +kernel
theorem dX8_step_358 : decode cX8_step 358 = .ok (.getfield 98, 3) := by decide +kernel
theorem dX8_step_361 : decode cX8_step 361 = .ok (.aload_n 0, 1) := by decide +kernel
theorem dX8_step_362 : decode cX8_step 362 = .ok (.getfield 321, 3) := by decide +kernel
theorem dX8_step_365 : decode cX8_step 365 = .ok (.aload_n 0, 1) := by decide +kernel
theorem dX8_step_366 : decode cX8_step 366 = .ok (.getfield 80, 3) := by decide +kernel
theorem dX8_step_369 : decode cX8_step 369 = .ok (.iload_n 3, 1) := by decide +kernel
theorem dX8_step_370 : decode cX8_step 370 = .ok (.iaload, 1) := by decide +kernel
theorem dX8_step_371 : decode cX8_step 371 = .ok (.iastore, 1) := by decide +kernel
theorem dX8_step_372 : decode cX8_step 372 = .ok (.aload_n 0, 1) := by decide +kernel
theorem dX8_step_373 : decode cX8_step 373 = .ok (.getfield 89, 3) := by decide +kernel
theorem dX8_step_376 : decode cX8_step 376 = .ok (.iload_n 1, 1) := by decide +kernel
theorem dX8_step_377 : decode cX8_step 377 = .ok (.aload_n 0, 1) := by decide +kernel
theorem dX8_step_378 : decode cX8_step 378 = .ok (.getfield 321, 3) := by decide +kernel
theorem dX8_step_381 : decode cX8_step 381 = .ok (.iastore, 1) := by decide +kernel
theorem dX8_step_382 : decode cX8_step 382 = .ok (.aload_n 0, 1) := by decide +kernel
theorem dX8_step_383 : decode cX8_step 383 = .ok (.dup, 1) := by decide +kernel
theorem dX8_step_384 : decode cX8_step 384 = .ok (.getfield 321, 3) := by decide +kernel
theorem dX8_step_387 : decode cX8_step 387 = .ok (.iconst 1, 1) := by decide +kernel
theorem dX8_step_388 : decode cX8_step 388 = .ok (.iadd, 1) := by decide +kernel
theorem dX8_step_389 : decode cX8_step 389 = .ok (.putfield 321, 3) := by decide +kernel
theorem dX8_step_392 : decode cX8_step 392 = .ok (.iload_n 3, 1) := by decide +kernel
theorem dX8_step_393 : decode cX8_step 393 = .ok (.ireturn, 1) := by decide +kernel
theorem dX8_undo_0 : decode cX8_undo 0 = .ok (.aload_n 0, 1) := by decide +kernel
theorem dX8_undo_1 : decode cX8_undo 1 = .ok (.iload_n 1, 1) := by decide +kernel
theorem dX8_undo_2 : decode cX8_undo 2 = .ok (.invokevirtual 315, 3) := by decide +kernel
theorem dX8_undo_5 : decode cX8_undo 5 = .ok (.istore_n 2, 1) := by decide +kernel
theorem dX8_undo_6 : decode cX8_undo 6 = .ok (.iload_n 2, 1) := by decide +kernel
theorem dX8_undo_7 : decode cX8_undo 7 = .ok (.ifCond .eq 12, 3) := by decide +kernel
theorem dX8_undo_10 : decode cX8_undo 10 = .ok (.aload_n 0, 1) := by decide +kernel
theorem dX8_undo_11 : decode cX8_undo 11 = .ok (.getfield 89, 3) := by decide +kernel
theorem dX8_undo_14 : decode cX8_undo 14 = .ok (.iload_n 1, 1) := by decide +kernel
theorem dX8_undo_15 : decode cX8_undo 15 = .ok (.iaload, 1) := by decide +kernel
theorem dX8_undo_16 : decode cX8_undo 16 = .ok (.goto 4, 3) := by decide +kernel
theorem dX8_undo_19 : decode cX8_undo 19 = .ok (.iconst (-1), 1) := by decide +kernel
theorem dX8_undo_20 : decode cX8_undo 20 = .ok (.istore_n 3, 1) := by decide +kernel
theorem dX8_undo_21 : decode cX8_undo 21 = .ok (.aload_n 0, 1) := by decide +kernel
theorem dX8_undo_22 : decode cX8_undo 22 = .ok (.iload_n 2, 1) := by decide +kernel
theorem dX8_undo_23 : decode cX8_undo 23 = .ok (.ifCond .ne 7, 3) := by decide +kernel
theorem dX8_undo_26 : decode cX8_undo 26 = .ok (.iconst 1, 1) := by decide +kernel
theorem dX8_undo_27 : decode cX8_undo 27 = .ok (.goto 33, 3) := by decide +kernel
theorem dX8_undo_30 : decode cX8_undo 30 = .ok (.iload_n 3, 1) := by decide +kernel
theorem dX8_undo_31 : decode cX8_undo 31 = .ok (.iconst (-1), 1) := by decide +kernel
theorem dX8_undo_32 : decode cX8_undo 32 = .ok (.if_icmp .eq 23, 3) := by decide +kernel
theorem dX8_undo_35 : decode cX8_undo 35 = .ok (.aload_n 0, 1) := by decide +kernel
theorem dX8_undo_36 : decode cX8_undo 36 = .ok (.getfield 80, 3) := by decide +kernel
theorem dX8_undo_39 : decode cX8_undo 39 = .ok (.aload_n 0, 1) := by decide +kernel
theorem dX8_undo_40 : decode cX8_undo 40 = .ok (.getfield 95, 3) := by decide +kernel
theorem dX8_undo_43 : decode cX8_undo 43 = .ok (.iload_n 3, 1) := by decide +kernel
theorem dX8_undo_44 : decode cX8_undo 44 = .ok (.iaload, 1) := by decide +kernel
theorem dX8_undo_45 : decode cX8_undo 45 = .ok (.iaload, 1) := by decide +kernel
theorem dX8_undo_46 : decode cX8_undo 46 = .ok (.aload_n 0, 1) := by decide +kernel
theorem dX8_undo_47 : decode cX8_undo 47 = .ok (.getfield 98, 3) := by decide +kernel
theorem dX8_undo_50 : decode cX8_undo 50 = .ok (.iload_n 3, 1) := by decide +kernel
theorem dX8_undo_51 : decode cX8_undo 51 = .ok (.iaload, 1) := by decide +kernel
theorem dX8_undo_52 : decode cX8_undo 52 = .ok (.if_icmp .eq 7, 3) := by decide +kernel
theorem dX8_undo_55 : decode cX8_undo 55 = .ok (.iconst 2, 1) := by decide +kernel
theorem dX8_undo_56 : decode cX8_undo 56 = .ok (.goto 4, 3) := by decide +kernel
theorem dX8_undo_59 : decode cX8_undo 59 = .ok (.iconst 0, 1) := by decide +kernel
theorem dX8_undo_60 : decode cX8_undo 60 = .ok (.invokevirtual 162, 3) := by decide +kernel
theorem dX8_undo_63 : decode cX8_undo 63 = .ok (.ifCond .eq 5, 3) := by decide +kernel
theorem dX8_undo_66 : decode cX8_undo 66 = .ok (.iconst 0, 1) := by decide +kernel
theorem dX8_undo_67 : decode cX8_undo 67 = .ok (.ireturn, 1) := by decide +kernel
theorem dX8_undo_68 : decode cX8_undo 68 = .ok (.aload_n 0, 1) := by decide +kernel
theorem dX8_undo_69 : decode cX8_undo 69 = .ok (.getfield 95, 3) := by decide +kernel
theorem dX8_undo_72 : decode cX8_undo 72 = .ok (.iload_n 3, 1) := by decide +kernel
theorem dX8_undo_73 : decode cX8_undo 73 = .ok (.iaload, 1) := by decide +kernel
theorem dX8_undo_74 : decode cX8_undo 74 = .ok (.istore 4, 2) := by decide +kernel
theorem dX8_undo_76 : decode cX8_undo 76 = .ok (.aload_n 0, 1) := by decide +kernel
theorem dX8_undo_77 : decode cX8_undo 77 = .ok (.getfield 65, 3) := by decide +kernel
theorem dX8_undo_80 : decode cX8_undo 80 = .ok (.iload 4, 2) := by decide +kernel
theorem dX8_undo_82 : decode cX8_undo 82 = .ok (.iaload, 1) := by decide +kernel
theorem dX8_undo_83 : decode cX8_undo 83 = .ok (.aload_n 0, 1) := by decide +kernel
theorem dX8_undo_84 : decode cX8_undo 84 = .ok (.getfield 104, 3) := by decide +kernel
theorem dX8_undo_87 : decode cX8_undo 87 = .ok (.iload_n 3, 1) := by decide +kernel
theorem dX8_undo_88 : decode cX8_undo 88 = .ok (.iaload, 1) := by decide +kernel
theorem dX8_undo_89 : decode cX8_undo 89 = .ok (.if_icmp .le 13, 3) := by decide +kernel
theorem dX8_undo_92 : decode cX8_undo 92 = .ok (.aload_n 0, 1) := by decide +kernel
theorem dX8_undo_93 : decode cX8_undo 93 = .ok (.getfield 65, 3) := by decide +kernel
theorem dX8_undo_96 : decode cX8_undo 96 = .ok (.iload 4, 2) := by decide +kernel
theorem dX8_undo_98 : decode cX8_undo 98 = .ok (.iaload, 1) := by decide +kernel
theorem dX8_undo_99 : decode cX8_undo 99 = .ok (.goto 9, 3) := by decide +kernel
theorem dX8_undo_102 : decode cX8_undo 102 = .ok (.aload_n 0, 1) := by decide +kernel
theorem dX8_undo_103 : decode cX8_undo 103 = .ok (.getfield 104, 3) := by decide +kernel
theorem dX8_undo_106 : decode cX8_undo 106 = .ok (.iload_n 3, 1) := by decide +kernel
theorem dX8_undo_107 : decode cX8_undo 107 = .ok (.iaload, 1) := by decide +kernel
theorem dX8_undo_108 : decode cX8_undo 108 = .ok (.istore 5, 2) := by decide +kernel
theorem dX8_undo_110 : decode cX8_undo 110 = .ok (.bipush 24, 2) := by decide +kernel
theorem dX8_undo_112 : decode cX8_undo 112 = .ok (.aload_n 0, 1) := by decide +kernel
theorem dX8_undo_113 : decode cX8_undo 113 = .ok (.getfield 62, 3) := by decide +kernel
theorem dX8_undo_116 : decode cX8_undo 116 = .ok (.iload 4, 2) := by decide +kernel
theorem dX8_undo_118 : decode cX8_undo 118 = .ok (.iaload, 1) := by decide +kernel
theorem dX8_undo_119 : decode cX8_undo 119 = .ok (.imul, 1) := by decide +kernel
theorem dX8_undo_120 : decode cX8_undo 120 = .ok (.iload 5, 2) := by decide +kernel
theorem dX8_undo_122 : decode cX8_undo 122 = .ok (.iadd, 1) := by decide +kernel
theorem dX8_undo_123 : decode cX8_undo 123 = .ok (.istore 6, 2) := by decide +kernel
theorem dX8_undo_125 : decode cX8_undo 125 = .ok (.bipush 24, 2) := by decide +kernel
theorem dX8_undo_127 : decode cX8_undo 127 = .ok (.iload 4, 2) := by decide +kernel
theorem dX8_undo_129 : decode cX8_undo 129 = .ok (.imul, 1) := by decide +kernel
theorem dX8_undo_130 : decode cX8_undo 130 = .ok (.iload 5, 2) := by decide +kernel
theorem dX8_undo_132 : decode cX8_undo 132 = .ok (.iadd, 1) := by decide +kernel
theorem dX8_undo_133 : decode cX8_undo 133 = .ok (.istore 7, 2) := by decide +kernel
theorem dX8_undo_135 : decode cX8_undo 135 = .ok (.aload_n 0, 1) := by decide +kernel
theorem dX8_undo_136 : decode cX8_undo 136 = .ok (.getfield 65, 3) := by decide +kernel
theorem dX8_undo_139 : decode cX8_undo 139 = .ok (.iload 4, 2) := by decide +kernel
theorem dX8_undo_141 : decode cX8_undo 141 = .ok (.aload_n 0, 1) := by decide +kernel
theorem dX8_undo_142 : decode cX8_undo 142 = .ok (.getfield 104, 3) := by decide +kernel
theorem dX8_undo_145 : decode cX8_undo 145 = .ok (.iload_n 3, 1) := by decide +kernel
theorem dX8_undo_146 : decode cX8_undo 146 = .ok (.iaload, 1) := by decide +kernel
theorem dX8_undo_147 : decode cX8_undo 147 = .ok (.iastore, 1) := by decide +kernel
theorem dX8_undo_148 : decode cX8_undo 148 = .ok (.aload_n 0, 1) := by decide +kernel
theorem dX8_undo_149 : decode cX8_undo 149 = .ok (.getfield 71, 3) := by decide +kernel
theorem dX8_undo_152 : decode cX8_undo 152 = .ok (.iload 4, 2) := by decide +kernel
theorem dX8_undo_154 : decode cX8_undo 154 = .ok (.aload_n 0, 1) := by decide +kernel
theorem dX8_undo_155 : decode cX8_undo 155 = .ok (.getfield 107, 3) := by decide +kernel
theorem dX8_undo_158 : decode cX8_undo 158 = .ok (.iload_n 3, 1) := by decide +kernel
theorem dX8_undo_159 : decode cX8_undo 159 = .ok (.iaload, 1) := by decide +kernel
theorem dX8_undo_160 : decode cX8_undo 160 = .ok (.iastore, 1) := by decide +kernel
theorem dX8_undo_161 : decode cX8_undo 161 = .ok (.aload_n 0, 1) := by decide +kernel
theorem dX8_undo_162 : decode cX8_undo 162 = .ok (.getfield 74, 3) := by decide +kernel
theorem dX8_undo_165 : decode cX8_undo 165 = .ok (.iload 7, 2) := by decide +kernel
theorem dX8_undo_167 : decode cX8_undo 167 = .ok (.aload_n 0, 1) := by decide +kernel
theorem dX8_undo_168 : decode cX8_undo 168 = .ok (.getfield 110, 3) := by decide +kernel
theorem dX8_undo_171 : decode cX8_undo 171 = .ok (.iload_n 3, 1) := by decide +kernel
theorem dX8_undo_172 : decode cX8_undo 172 = .ok (.iaload, 1) := by decide +kernel
theorem dX8_undo_173 : decode cX8_undo 173 = .ok (.iastore, 1) := by decide +kernel
theorem dX8_undo_174 : decode cX8_undo 174 = .ok (.iconst 0, 1) := by decide +kernel
theorem dX8_undo_175 : decode cX8_undo 175 = .ok (.istore 8, 2) := by decide +kernel
theorem dX8_undo_177 : decode cX8_undo 177 = .ok (.iload 8, 2) := by decide +kernel
theorem dX8_undo_179 : decode cX8_undo 179 = .ok (.iconst 2, 1) := by decide +kernel
theorem dX8_undo_180 : decode cX8_undo 180 = .ok (.if_icmp .ge 76, 3) := by decide +kernel
theorem dX8_undo_183 : decode cX8_undo 183 = .ok (.aload_n 0, 1) := by decide +kernel
theorem dX8_undo_184 : decode cX8_undo 184 = .ok (.getfield 77, 3) := by decide +kernel
theorem dX8_undo_187 : decode cX8_undo 187 = .ok (.iconst 2, 1) := by decide +kernel
theorem dX8_undo_188 : decode cX8_undo 188 = .ok (.iload 7, 2) := by decide +kernel
theorem dX8_undo_190 : decode cX8_undo 190 = .ok (.imul, 1) := by decide +kernel
theorem dX8_undo_191 : decode cX8_undo 191 = .ok (.iload 8, 2) := by decide +kernel
theorem dX8_undo_193 : decode cX8_undo 193 = .ok (.iadd, 1) := by decide +kernel
theorem dX8_undo_194 : decode cX8_undo 194 = .ok (.aload_n 0, 1) := by decide +kernel
theorem dX8_undo_195 : decode cX8_undo 195 = .ok (.getfield 113, 3) := by decide +kernel
theorem dX8_undo_198 : decode cX8_undo 198 = .ok (.iconst 2, 1) := by decide +kernel
theorem dX8_undo_199 : decode cX8_undo 199 = .ok (.iload_n 3, 1) := by decide +kernel
theorem dX8_undo_200 : decode cX8_undo 200 = .ok (.imul, 1) := by decide +kernel
theorem dX8_undo_201 : decode cX8_undo 201 = .ok (.iload 8, 2) := by decide +kernel
theorem dX8_undo_203 : decode cX8_undo 203 = .ok (.iadd, 1) := by decide +kernel
theorem dX8_undo_204 : decode cX8_undo 204 = .ok (.iaload, 1) := by decide +kernel
theorem dX8_undo_205 : decode cX8_undo 205 = .ok (.iastore, 1) := by decide +kernel
theorem dX8_undo_206 : decode cX8_undo 206 = .ok (.aload_n 0, 1) := by decide +kernel
theorem dX8_undo_207 : decode cX8_undo 207 = .ok (.iload 6, 2) := by decide +kernel
theorem dX8_undo_209 : decode cX8_undo 209 = .ok (.iconst 0, 1) := by decide +kernel
theorem dX8_undo_210 : decode cX8_undo 210 = .ok (.iload 8, 2) := by decide +kernel
theorem dX8_undo_212 : decode cX8_undo 212 = .ok (.invokevirtual 272, 3) := by decide +kernel
theorem dX8_undo_215 : decode cX8_undo 215 = .ok (.iconst (-1), 1) := by decide +kernel
theorem dX8_undo_216 : decode cX8_undo 216 = .ok (.if_icmp .eq 34, 3) := by decide +kernel
theorem dX8_undo_219 : decode cX8_undo 219 = .ok (.aload_n 0, 1) := by decide +kernel
theorem dX8_undo_220 : decode cX8_undo 220 = .ok (.getfield 68, 3) := by decide +kernel
theorem dX8_undo_223 : decode cX8_undo 223 = .ok (.bipush 48, 2) := by decide +kernel
theorem dX8_undo_225 : decode cX8_undo 225 = .ok (.iload 4, 2) := by decide +kernel
theorem dX8_undo_227 : decode cX8_undo 227 = .ok (.imul, 1) := by decide +kernel
theorem dX8_undo_228 : decode cX8_undo 228 = .ok (.aload_n 0, 1) := by decide +kernel
theorem dX8_undo_229 : decode cX8_undo 229 = .ok (.iload 6, 2) := by decide +kernel
theorem dX8_undo_231 : decode cX8_undo 231 = .ok (.iconst 0, 1) := by decide +kernel
theorem dX8_undo_232 : decode cX8_undo 232 = .ok (.iload 8, 2) := by decide +kernel
theorem dX8_undo_234 : decode cX8_undo 234 = .ok (.invokevirtual 272, 3) := by decide +kernel
theorem dX8_undo_237 : decode cX8_undo 237 = .ok (.iadd, 1) := by decide +kernel
theorem dX8_undo_238 : decode cX8_undo 238 = .ok (.aload_n 0, 1) := by decide +kernel
theorem dX8_undo_239 : decode cX8_undo 239 = .ok (.getfield 119, 3) := by decide +kernel
theorem dX8_undo_242 : decode cX8_undo 242 = .ok (.iconst 2, 1) := by decide +kernel
theorem dX8_undo_243 : decode cX8_undo 243 = .ok (.iload_n 3, 1) := by decide +kernel
theorem dX8_undo_244 : decode cX8_undo 244 = .ok (.imul, 1) := by decide +kernel
theorem dX8_undo_245 : decode cX8_undo 245 = .ok (.iload 8, 2) := by decide +kernel
theorem dX8_undo_247 : decode cX8_undo 247 = .ok (.iadd, 1) := by decide +kernel
theorem dX8_undo_248 : decode cX8_undo 248 = .ok (.iaload, 1) := by decide +kernel
theorem dX8_undo_249 : decode cX8_undo 249 = .ok (.iastore, 1) := by decide +kernel
theorem dX8_undo_250 : decode cX8_undo 250 = .ok (.iinc 8 1, 3) := by decide +kernel
theorem dX8_undo_253 : decode cX8_undo 253 = .ok (.goto (-76), 3) := by decide +kernel
theorem dX8_undo_256 : decode cX8_undo 256 = .ok (.iconst 0, 1) := by decide +kernel
theorem dX8_undo_257 : decode cX8_undo 257 = .ok (.istore 8, 2) := by decide +kernel
theorem dX8_undo_259 : decode cX8_undo 259 = .ok (.iload 8, 2) := by decide +kernel
theorem dX8_undo_261 : decode cX8_undo 261 = .ok (.iconst 2, 1) := by decide +kernel
theorem dX8_undo_262 : decode cX8_undo 262 = .ok (.if_icmp .ge 123, 3) := by decide +kernel
theorem dX8_undo_265 : decode cX8_undo 265 = .ok (.aload_n 0, 1) := by decide +kernel
theorem dX8_undo_266 : decode cX8_undo 266 = .ok (.iload 6, 2) := by decide +kernel
theorem dX8_undo_268 : decode cX8_undo 268 = .ok (.iconst 1, 1) := by decide +kernel
theorem dX8_undo_269 : decode cX8_undo 269 = .ok (.iload 8, 2) := by decide +kernel
theorem dX8_undo_271 : decode cX8_undo 271 = .ok (.invokevirtual 272, 3) := by decide +kernel
theorem dX8_undo_274 : decode cX8_undo 274 = .ok (.iconst (-1), 1) := by decide +kernel
theorem dX8_undo_275 : decode cX8_undo 275 = .ok (.if_icmp .eq 48, 3) := by decide +kernel
theorem dX8_undo_278 : decode cX8_undo 278 = .ok (.aload_n 0, 1) := by decide +kernel
theorem dX8_undo_279 : decode cX8_undo 279 = .ok (.getfield 104, 3) := by decide +kernel
theorem dX8_undo_282 : decode cX8_undo 282 = .ok (.iload_n 3, 1) := by decide +kernel
theorem dX8_undo_283 : decode cX8_undo 283 = .ok (.iaload, 1) := by decide +kernel
theorem dX8_undo_284 : decode cX8_undo 284 = .ok (.iload 5, 2) := by decide +kernel
theorem dX8_undo_286 : decode cX8_undo 286 = .ok (.if_icmp .ge 37, 3) := by decide +kernel
theorem dX8_undo_289 : decode cX8_undo 289 = .ok (.aload_n 0, 1) := by decide +kernel
theorem dX8_undo_290 : decode cX8_undo 290 = .ok (.getfield 68, 3) := by decide +kernel
theorem dX8_undo_293 : decode cX8_undo 293 = .ok (.bipush 48, 2) := by decide +kernel
theorem dX8_undo_295 : decode cX8_undo 295 = .ok (.iload 4, 2) := by decide +kernel
theorem dX8_undo_297 : decode cX8_undo 297 = .ok (.imul, 1) := by decide +kernel
theorem dX8_undo_298 : decode cX8_undo 298 = .ok (.aload_n 0, 1) := by decide +kernel
theorem dX8_undo_299 : decode cX8_undo 299 = .ok (.iload 6, 2) := by decide +kernel
theorem dX8_undo_301 : decode cX8_undo 301 = .ok (.iconst 1, 1) := by decide +kernel
theorem dX8_undo_302 : decode cX8_undo 302 = .ok (.iload 8, 2) := by decide +kernel
theorem dX8_undo_304 : decode cX8_undo 304 = .ok (.invokevirtual 272, 3) := by decide +kernel
theorem dX8_undo_307 : decode cX8_undo 307 = .ok (.iadd, 1) := by decide +kernel
theorem dX8_undo_308 : decode cX8_undo 308 = .ok (.aload_n 0, 1) := by decide +kernel
theorem dX8_undo_309 : decode cX8_undo 309 = .ok (.getfield 116, 3) := by decide +kernel
theorem dX8_undo_312 : decode cX8_undo 312 = .ok (.iconst 2, 1) := by decide +kernel
theorem dX8_undo_313 : decode cX8_undo 313 = .ok (.iload_n 3, 1) := by decide +kernel
theorem dX8_undo_314 : decode cX8_undo 314 = .ok (.imul, 1) := by decide +kernel
theorem dX8_undo_315 : decode cX8_undo 315 = .ok (.iload 8, 2) := by decide +kernel
theorem dX8_undo_317 : decode cX8_undo 317 = .ok (.iadd, 1) := by decide +kernel
theorem dX8_undo_318 : decode cX8_undo 318 = .ok (.iaload, 1) := by decide +kernel
theorem dX8_undo_319 : decode cX8_undo 319 = .ok (.iastore, 1) := by decide +kernel
theorem dX8_undo_320 : decode cX8_undo 320 = .ok (.goto 59, 3) := by decide +kernel
theorem dX8_undo_323 : decode cX8_undo 323 = .ok (.aload_n 0, 1) := by decide +kernel
theorem dX8_undo_324 : decode cX8_undo 324 = .ok (.iload 6, 2) := by decide +kernel
theorem dX8_undo_326 : decode cX8_undo 326 = .ok (.iconst 1, 1) := by decide +kernel
theorem dX8_undo_327 : decode cX8_undo 327 = .ok (.iload 8, 2) := by decide +kernel
theorem dX8_undo_329 : decode cX8_undo 329 = .ok (.invokevirtual 272, 3) := by decide +kernel
theorem dX8_undo_332 : decode cX8_undo 332 = .ok (.iconst (-1), 1) := by decide +kernel
theorem dX8_undo_333 : decode cX8_undo 333 = .ok (.if_icmp .eq 46, 3) := by decide +kernel
theorem dX8_undo_336 : decode cX8_undo 336 = .ok (.aload_n 0, 1) := by decide +kernel
theorem dX8_undo_337 : decode cX8_undo 337 = .ok (.getfield 29, 3) := by decide +kernel
theorem dX8_undo_340 : decode cX8_undo 340 = .ok (.iload 6, 2) := by decide +kernel
theorem dX8_undo_342 : decode cX8_undo 342 = .ok (.iaload, 1) := by decide +kernel
theorem dX8_undo_343 : decode cX8_undo 343 = .ok (.bipush 6, 2) := by decide +kernel
theorem dX8_undo_345 : decode cX8_undo 345 = .ok (.if_icmp .eq 34, 3) := by decide +kernel
theorem dX8_undo_348 : decode cX8_undo 348 = .ok (.aload_n 0, 1) := by decide +kernel
theorem dX8_undo_349 : decode cX8_undo 349 = .ok (.getfield 68, 3) := by decide +kernel
theorem dX8_undo_352 : decode cX8_undo 352 = .ok (.bipush 48, 2) := by decide +kernel
theorem dX8_undo_354 : decode cX8_undo 354 = .ok (.iload 4, 2) := by decide +kernel
theorem dX8_undo_356 : decode cX8_undo 356 = .ok (.imul, 1) := by decide +kernel
theorem dX8_undo_357 : decode cX8_undo 357 = .ok (.aload_n 0, 1) := by decide +kernel
theorem dX8_undo_358 : decode cX8_undo 358 = .ok (.iload 6, 2) := by decide +kernel
theorem dX8_undo_360 : decode cX8_undo 360 = .ok (.iconst 1, 1) := by decide +kernel
theorem dX8_undo_361 : decode cX8_undo 361 = .ok (.iload 8, 2) := by decide +kernel
theorem dX8_undo_363 : decode cX8_undo 363 = .ok (.invokevirtual 272, 3) := by decide +kernel
theorem dX8_undo_366 : decode cX8_undo 366 = .ok (.iadd, 1) := by decide +kernel
theorem dX8_undo_367 : decode cX8_undo 367 = .ok (.aload_n 0, 1) := by decide +kernel
theorem dX8_undo_368 : decode cX8_undo 368 = .ok (.getfield 116, 3) := by decide +kernel
theorem dX8_undo_371 : decode cX8_undo 371 = .ok (.iconst 2, 1) := by decide +kernel
theorem dX8_undo_372 : decode cX8_undo 372 = .ok (.iload_n 3, 1) := by decide +kernel
theorem dX8_undo_373 : decode cX8_undo 373 = .ok (.imul, 1) := by decide +kernel
theorem dX8_undo_374 : decode cX8_undo 374 = .ok (.iload 8, 2) := by decide +kernel
theorem dX8_undo_376 : decode cX8_undo 376 = .ok (.iadd, 1) := by decide +kernel
theorem dX8_undo_377 : decode cX8_undo 377 = .ok (.iaload, 1) := by decide +kernel
theorem dX8_undo_378 : decode cX8_undo 378 = .ok (.iastore, 1) := by decide +kernel
theorem dX8_undo_379 : decode cX8_undo 379 = .ok (.iinc 8 1, 3) := by decide +kernel
theorem dX8_undo_382 : decode cX8_undo 382 = .ok (.goto (-123), 3) := by decide +kernel
theorem dX8_undo_385 : decode cX8_undo 385 = .ok (.aload_n 0, 1) := by decide +kernel
theorem dX8_undo_386 : decode cX8_undo 386 = .ok (.getfield 80, 3) := by decide +kernel
theorem dX8_undo_389 : decode cX8_undo 389 = .ok (.iload 4, 2) := by decide +kernel
theorem dX8_undo_391 : decode cX8_undo 391 = .ok (.aload_n 0, 1) := by decide +kernel
theorem dX8_undo_392 : decode cX8_undo 392 = .ok (.getfield 101, 3) := by decide +kernel
theorem dX8_undo_395 : decode cX8_undo 395 = .ok (.iload_n 3, 1) := by decide +kernel
theorem dX8_undo_396 : decode cX8_undo 396 = .ok (.iaload, 1) := by decide +kernel
theorem dX8_undo_397 : decode cX8_undo 397 = .ok (.iastore, 1) := by decide +kernel
theorem dX8_undo_398 : decode cX8_undo 398 = .ok (.aload_n 0, 1) := by decide +kernel
theorem dX8_undo_399 : decode cX8_undo 399 = .ok (.getfield 89, 3) := by decide +kernel
theorem dX8_undo_402 : decode cX8_undo 402 = .ok (.iload_n 1, 1) := by decide +kernel
theorem dX8_undo_403 : decode cX8_undo 403 = .ok (.aload_n 0, 1) := by decide +kernel
theorem dX8_undo_404 : decode cX8_undo 404 = .ok (.getfield 92, 3) := by decide +kernel
theorem dX8_undo_407 : decode cX8_undo 407 = .ok (.iload_n 3, 1) := by decide +kernel
theorem dX8_undo_408 : decode cX8_undo 408 = .ok (.iaload, 1) := by decide +kernel
theorem dX8_undo_409 : decode cX8_undo 409 = .ok (.iastore, 1) := by decide +kernel
theorem dX8_undo_410 : decode cX8_undo 410 = .ok (.iload 4, 2) := by decide +kernel
theorem dX8_undo_412 : decode cX8_undo 412 = .ok (.ireturn, 1) := by decide +kernel
theorem dL_schema_0 : decode cL_schema 0 = .ok (.aload_n 1, 1) := by decide +kernel
theorem dL_schema_1 : decode cL_schema 1 = .ok (.iconst 0, 1) := by decide +kernel
theorem dL_schema_2 : decode cL_schema 2 = .ok (.aload_n 0, 1) := by decide +kernel
theorem dL_schema_3 : decode cL_schema 3 = .ok (.invokevirtual 7, 3) := by decide +kernel
theorem dL_schema_6 : decode cL_schema 6 = .ok (.i2l, 1) := by decide +kernel
theorem dL_schema_7 : decode cL_schema 7 = .ok (.lastore, 1) := by decide +kernel
theorem dL_schema_8 : decode cL_schema 8 = .ok (.goto 6, 3) := by decide +kernel
theorem dL_schema_11 : decode cL_schema 11 = .ok (.astore_n 2, 1) := by decide +kernel
theorem dL_schema_12 : decode cL_schema 12 = .ok (.iconst 1, 1) := by decide +kernel
theorem dL_schema_13 : decode cL_schema 13 = .ok (.ireturn, 1) := by decide +kernel
theorem dL_schema_14 : decode cL_schema 14 = .ok (.iconst 0, 1) := by decide +kernel
theorem dL_schema_15 : decode cL_schema 15 = .ok (.ireturn, 1) := by decide +kernel
theorem dL_add_0 : decode cL_add 0 = .ok (.aload 6, 2) := by decide +kernel
theorem dL_add_2 : decode cL_add 2 = .ok (.iconst 0, 1) := by decide +kernel
theorem dL_add_3 : decode cL_add 3 = .ok (.aload_n 0, 1) := by decide +kernel
theorem dL_add_4 : decode cL_add 4 = .ok (.iload_n 1, 1) := by decide +kernel
theorem dL_add_5 : decode cL_add 5 = .ok (.iload_n 2, 1) := by decide +kernel
theorem dL_add_6 : decode cL_add 6 = .ok (.iload_n 3, 1) := by decide +kernel
theorem dL_add_7 : decode cL_add 7 = .ok (.iload 4, 2) := by decide +kernel
theorem dL_add_9 : decode cL_add 9 = .ok (.iload 5, 2) := by decide +kernel
theorem dL_add_11 : decode cL_add 11 = .ok (.invokevirtual 15, 3) := by decide +kernel
theorem dL_add_14 : decode cL_add 14 = .ok (.i2l, 1) := by decide +kernel
theorem dL_add_15 : decode cL_add 15 = .ok (.lastore, 1) := by decide +kernel
theorem dL_add_16 : decode cL_add 16 = .ok (.goto 15, 3) := by decide +kernel
theorem dL_add_19 : decode cL_add 19 = .ok (.astore 7, 2) := by decide +kernel
theorem dL_add_21 : decode cL_add 21 = .ok (.iconst 1, 1) := by decide +kernel
theorem dL_add_22 : decode cL_add 22 = .ok (.ireturn, 1) := by decide +kernel
theorem dL_add_23 : decode cL_add 23 = .ok (.astore 7, 2) := by decide +kernel
theorem dL_add_25 : decode cL_add 25 = .ok (.iconst 2, 1) := by decide +kernel
theorem dL_add_26 : decode cL_add 26 = .ok (.ireturn, 1) := by decide +kernel
theorem dL_add_27 : decode cL_add 27 = .ok (.astore 7, 2) := by decide +kernel
theorem dL_add_29 : decode cL_add 29 = .ok (.iconst 3, 1) := by decide +kernel
theorem dL_add_30 : decode cL_add 30 = .ok (.ireturn, 1) := by decide +kernel
theorem dL_add_31 : decode cL_add 31 = .ok (.iconst 0, 1) := by decide +kernel
theorem dL_add_32 : decode cL_add 32 = .ok (.ireturn, 1) := by decide +kernel
theorem dL_rename_0 : decode cL_rename 0 = .ok (.aload 4, 2) := by decide +kernel
theorem dL_rename_2 : decode cL_rename 2 = .ok (.iconst 0, 1) := by decide +kernel
theorem dL_rename_3 : decode cL_rename 3 = .ok (.aload_n 0, 1) := by decide +kernel
theorem dL_rename_4 : decode cL_rename 4 = .ok (.iload_n 1, 1) := by decide +kernel
theorem dL_rename_5 : decode cL_rename 5 = .ok (.iload_n 2, 1) := by decide +kernel
theorem dL_rename_6 : decode cL_rename 6 = .ok (.iload_n 3, 1) := by decide +kernel
theorem dL_rename_7 : decode cL_rename 7 = .ok (.invokevirtual 23, 3) := by decide +kernel
theorem dL_rename_10 : decode cL_rename 10 = .ok (.i2l, 1) := by decide +kernel
theorem dL_rename_11 : decode cL_rename 11 = .ok (.lastore, 1) := by decide +kernel
theorem dL_rename_12 : decode cL_rename 12 = .ok (.goto 15, 3) := by decide +kernel
theorem dL_rename_15 : decode cL_rename 15 = .ok (.astore 5, 2) := by decide +kernel
theorem dL_rename_17 : decode cL_rename 17 = .ok (.iconst 1, 1) := by decide +kernel
theorem dL_rename_18 : decode cL_rename 18 = .ok (.ireturn, 1) := by decide +kernel
theorem dL_rename_19 : decode cL_rename 19 = .ok (.astore 5, 2) := by decide +kernel
theorem dL_rename_21 : decode cL_rename 21 = .ok (.iconst 2, 1) := by decide +kernel
theorem dL_rename_22 : decode cL_rename 22 = .ok (.ireturn, 1) := by decide +kernel
theorem dL_rename_23 : decode cL_rename 23 = .ok (.astore 5, 2) := by decide +kernel
theorem dL_rename_25 : decode cL_rename 25 = .ok (.iconst 3, 1) := by decide +kernel
theorem dL_rename_26 : decode cL_rename 26 = .ok (.ireturn, 1) := by decide +kernel
theorem dL_rename_27 : decode cL_rename 27 = .ok (.iconst 0, 1) := by decide +kernel
theorem dL_rename_28 : decode cL_rename 28 = .ok (.ireturn, 1) := by decide +kernel
theorem dL_turn_0 : decode cL_turn 0 = .ok (.aload 4, 2) := by decide +kernel
theorem dL_turn_2 : decode cL_turn 2 = .ok (.iconst 0, 1) := by decide +kernel
theorem dL_turn_3 : decode cL_turn 3 = .ok (.aload_n 0, 1) := by decide +kernel
theorem dL_turn_4 : decode cL_turn 4 = .ok (.iload_n 1, 1) := by decide +kernel
theorem dL_turn_5 : decode cL_turn 5 = .ok (.iload_n 2, 1) := by decide +kernel
theorem dL_turn_6 : decode cL_turn 6 = .ok (.iload_n 3, 1) := by decide +kernel
theorem dL_turn_7 : decode cL_turn 7 = .ok (.invokevirtual 27, 3) := by decide +kernel
theorem dL_turn_10 : decode cL_turn 10 = .ok (.i2l, 1) := by decide +kernel
theorem dL_turn_11 : decode cL_turn 11 = .ok (.lastore, 1) := by decide +kernel
theorem dL_turn_12 : decode cL_turn 12 = .ok (.goto 15, 3) := by decide +kernel
theorem dL_turn_15 : decode cL_turn 15 = .ok (.astore 5, 2) := by decide +kernel
theorem dL_turn_17 : decode cL_turn 17 = .ok (.iconst 1, 1) := by decide +kernel
theorem dL_turn_18 : decode cL_turn 18 = .ok (.ireturn, 1) := by decide +kernel
theorem dL_turn_19 : decode cL_turn 19 = .ok (.astore 5, 2) := by decide +kernel
theorem dL_turn_21 : decode cL_turn 21 = .ok (.iconst 2, 1) := by decide +kernel
theorem dL_turn_22 : decode cL_turn 22 = .ok (.ireturn, 1) := by decide +kernel
theorem dL_turn_23 : decode cL_turn 23 = .ok (.astore 5, 2) := by decide +kernel
theorem dL_turn_25 : decode cL_turn 25 = .ok (.iconst 3, 1) := by decide +kernel
theorem dL_turn_26 : decode cL_turn 26 = .ok (.ireturn, 1) := by decide +kernel
theorem dL_turn_27 : decode cL_turn 27 = .ok (.iconst 0, 1) := by decide +kernel
theorem dL_turn_28 : decode cL_turn 28 = .ok (.ireturn, 1) := by decide +kernel
theorem dL_split_0 : decode cL_split 0 = .ok (.aload 6, 2) := by decide +kernel
theorem dL_split_2 : decode cL_split 2 = .ok (.iconst 0, 1) := by decide +kernel
theorem dL_split_3 : decode cL_split 3 = .ok (.aload_n 0, 1) := by decide +kernel
theorem dL_split_4 : decode cL_split 4 = .ok (.iload_n 1, 1) := by decide +kernel
theorem dL_split_5 : decode cL_split 5 = .ok (.iload_n 2, 1) := by decide +kernel
theorem dL_split_6 : decode cL_split 6 = .ok (.iload_n 3, 1) := by decide +kernel
theorem dL_split_7 : decode cL_split 7 = .ok (.iload 4, 2) := by decide +kernel
theorem dL_split_9 : decode cL_split 9 = .ok (.iload 5, 2) := by decide +kernel
theorem dL_split_11 : decode cL_split 11 = .ok (.invokevirtual 30, 3) := by decide +kernel
theorem dL_split_14 : decode cL_split 14 = .ok (.i2l, 1) := by decide +kernel
theorem dL_split_15 : decode cL_split 15 = .ok (.lastore, 1) := by decide +kernel
theorem dL_split_16 : decode cL_split 16 = .ok (.goto 15, 3) := by decide +kernel
theorem dL_split_19 : decode cL_split 19 = .ok (.astore 7, 2) := by decide +kernel
theorem dL_split_21 : decode cL_split 21 = .ok (.iconst 1, 1) := by decide +kernel
theorem dL_split_22 : decode cL_split 22 = .ok (.ireturn, 1) := by decide +kernel
theorem dL_split_23 : decode cL_split 23 = .ok (.astore 7, 2) := by decide +kernel
theorem dL_split_25 : decode cL_split 25 = .ok (.iconst 2, 1) := by decide +kernel
theorem dL_split_26 : decode cL_split 26 = .ok (.ireturn, 1) := by decide +kernel
theorem dL_split_27 : decode cL_split 27 = .ok (.astore 7, 2) := by decide +kernel
theorem dL_split_29 : decode cL_split 29 = .ok (.iconst 3, 1) := by decide +kernel
theorem dL_split_30 : decode cL_split 30 = .ok (.ireturn, 1) := by decide +kernel
theorem dL_split_31 : decode cL_split 31 = .ok (.iconst 0, 1) := by decide +kernel
theorem dL_split_32 : decode cL_split 32 = .ok (.ireturn, 1) := by decide +kernel
theorem dL_join_0 : decode cL_join 0 = .ok (.aload 6, 2) := by decide +kernel
theorem dL_join_2 : decode cL_join 2 = .ok (.iconst 0, 1) := by decide +kernel
theorem dL_join_3 : decode cL_join 3 = .ok (.aload_n 0, 1) := by decide +kernel
theorem dL_join_4 : decode cL_join 4 = .ok (.iload_n 1, 1) := by decide +kernel
theorem dL_join_5 : decode cL_join 5 = .ok (.iload_n 2, 1) := by decide +kernel
theorem dL_join_6 : decode cL_join 6 = .ok (.iload_n 3, 1) := by decide +kernel
theorem dL_join_7 : decode cL_join 7 = .ok (.iload 4, 2) := by decide +kernel
theorem dL_join_9 : decode cL_join 9 = .ok (.iload 5, 2) := by decide +kernel
theorem dL_join_11 : decode cL_join 11 = .ok (.invokevirtual 34, 3) := by decide +kernel
theorem dL_join_14 : decode cL_join 14 = .ok (.i2l, 1) := by decide +kernel
theorem dL_join_15 : decode cL_join 15 = .ok (.lastore, 1) := by decide +kernel
theorem dL_join_16 : decode cL_join 16 = .ok (.goto 15, 3) := by decide +kernel
theorem dL_join_19 : decode cL_join 19 = .ok (.astore 7, 2) := by decide +kernel
theorem dL_join_21 : decode cL_join 21 = .ok (.iconst 1, 1) := by decide +kernel
theorem dL_join_22 : decode cL_join 22 = .ok (.ireturn, 1) := by decide +kernel
theorem dL_join_23 : decode cL_join 23 = .ok (.astore 7, 2) := by decide +kernel
theorem dL_join_25 : decode cL_join 25 = .ok (.iconst 2, 1) := by decide +kernel
theorem dL_join_26 : decode cL_join 26 = .ok (.ireturn, 1) := by decide +kernel
theorem dL_join_27 : decode cL_join 27 = .ok (.astore 7, 2) := by decide +kernel
theorem dL_join_29 : decode cL_join 29 = .ok (.iconst 3, 1) := by decide +kernel
theorem dL_join_30 : decode cL_join 30 = .ok (.ireturn, 1) := by decide +kernel
theorem dL_join_31 : decode cL_join 31 = .ok (.iconst 0, 1) := by decide +kernel
theorem dL_join_32 : decode cL_join 32 = .ok (.ireturn, 1) := by decide +kernel
theorem dL_toggleNeed_0 : decode cL_toggleNeed 0 = .ok (.aload_n 3, 1) := by decide +kernel
theorem dL_toggleNeed_1 : decode cL_toggleNeed 1 = .ok (.iconst 0, 1) := by decide +kernel
theorem dL_toggleNeed_2 : decode cL_toggleNeed 2 = .ok (.aload_n 0, 1) := by decide +kernel
theorem dL_toggleNeed_3 : decode cL_toggleNeed 3 = .ok (.iload_n 1, 1) := by decide +kernel
theorem dL_toggleNeed_4 : decode cL_toggleNeed 4 = .ok (.iload_n 2, 1) := by decide +kernel
theorem dL_toggleNeed_5 : decode cL_toggleNeed 5 = .ok (.invokevirtual 37, 3) := by decide +kernel
theorem dL_toggleNeed_8 : decode cL_toggleNeed 8 = .ok (.ifCond .eq 7, 3) := by decide +kernel
theorem dL_toggleNeed_11 : decode cL_toggleNeed 11 = .ok (.lconst 1, 1) := by decide +kernel
theorem dL_toggleNeed_12 : decode cL_toggleNeed 12 = .ok (.goto 4, 3) := by decide +kernel
theorem dL_toggleNeed_15 : decode cL_toggleNeed 15 = .ok (.lconst 0, 1) := by decide +kernel
theorem dL_toggleNeed_16 : decode cL_toggleNeed 16 = .ok (.lastore, 1) := by decide +kernel
theorem dL_toggleNeed_17 : decode cL_toggleNeed 17 = .ok (.goto 11, 3) := by decide +kernel
theorem dL_toggleNeed_20 : decode cL_toggleNeed 20 = .ok (.astore 4, 2) := by decide +kernel
theorem dL_toggleNeed_22 : decode cL_toggleNeed 22 = .ok (.iconst 1, 1) := by decide +kernel
theorem dL_toggleNeed_23 : decode cL_toggleNeed 23 = .ok (.ireturn, 1) := by decide +kernel
theorem dL_toggleNeed_24 : decode cL_toggleNeed 24 = .ok (.astore 4, 2) := by decide +kernel
theorem dL_toggleNeed_26 : decode cL_toggleNeed 26 = .ok (.iconst 2, 1) := by decide +kernel
theorem dL_toggleNeed_27 : decode cL_toggleNeed 27 = .ok (.ireturn, 1) := by decide +kernel
theorem dL_toggleNeed_28 : decode cL_toggleNeed 28 = .ok (.iconst 0, 1) := by decide +kernel
theorem dL_toggleNeed_29 : decode cL_toggleNeed 29 = .ok (.ireturn, 1) := by decide +kernel
theorem dL_drop_0 : decode cL_drop 0 = .ok (.aload_n 3, 1) := by decide +kernel
theorem dL_drop_1 : decode cL_drop 1 = .ok (.iconst 0, 1) := by decide +kernel
theorem dL_drop_2 : decode cL_drop 2 = .ok (.aload_n 0, 1) := by decide +kernel
theorem dL_drop_3 : decode cL_drop 3 = .ok (.iload_n 1, 1) := by decide +kernel
theorem dL_drop_4 : decode cL_drop 4 = .ok (.iload_n 2, 1) := by decide +kernel
theorem dL_drop_5 : decode cL_drop 5 = .ok (.invokevirtual 41, 3) := by decide +kernel
theorem dL_drop_8 : decode cL_drop 8 = .ok (.ifCond .eq 7, 3) := by decide +kernel
theorem dL_drop_11 : decode cL_drop 11 = .ok (.lconst 1, 1) := by decide +kernel
theorem dL_drop_12 : decode cL_drop 12 = .ok (.goto 4, 3) := by decide +kernel
theorem dL_drop_15 : decode cL_drop 15 = .ok (.lconst 0, 1) := by decide +kernel
theorem dL_drop_16 : decode cL_drop 16 = .ok (.lastore, 1) := by decide +kernel
theorem dL_drop_17 : decode cL_drop 17 = .ok (.goto 11, 3) := by decide +kernel
theorem dL_drop_20 : decode cL_drop 20 = .ok (.astore 4, 2) := by decide +kernel
theorem dL_drop_22 : decode cL_drop 22 = .ok (.iconst 1, 1) := by decide +kernel
theorem dL_drop_23 : decode cL_drop 23 = .ok (.ireturn, 1) := by decide +kernel
theorem dL_drop_24 : decode cL_drop 24 = .ok (.astore 4, 2) := by decide +kernel
theorem dL_drop_26 : decode cL_drop 26 = .ok (.iconst 2, 1) := by decide +kernel
theorem dL_drop_27 : decode cL_drop 27 = .ok (.ireturn, 1) := by decide +kernel
theorem dL_drop_28 : decode cL_drop 28 = .ok (.iconst 0, 1) := by decide +kernel
theorem dL_drop_29 : decode cL_drop 29 = .ok (.ireturn, 1) := by decide +kernel
theorem dL_head_0 : decode cL_head 0 = .ok (.aload_n 2, 1) := by decide +kernel
theorem dL_head_1 : decode cL_head 1 = .ok (.iconst 0, 1) := by decide +kernel
theorem dL_head_2 : decode cL_head 2 = .ok (.aload_n 0, 1) := by decide +kernel
theorem dL_head_3 : decode cL_head 3 = .ok (.iload_n 1, 1) := by decide +kernel
theorem dL_head_4 : decode cL_head 4 = .ok (.invokevirtual 44, 3) := by decide +kernel
theorem dL_head_7 : decode cL_head 7 = .ok (.i2l, 1) := by decide +kernel
theorem dL_head_8 : decode cL_head 8 = .ok (.lastore, 1) := by decide +kernel
theorem dL_head_9 : decode cL_head 9 = .ok (.goto 6, 3) := by decide +kernel
theorem dL_head_12 : decode cL_head 12 = .ok (.astore_n 3, 1) := by decide +kernel
theorem dL_head_13 : decode cL_head 13 = .ok (.iconst 1, 1) := by decide +kernel
theorem dL_head_14 : decode cL_head 14 = .ok (.ireturn, 1) := by decide +kernel
theorem dL_head_15 : decode cL_head 15 = .ok (.iconst 0, 1) := by decide +kernel
theorem dL_head_16 : decode cL_head 16 = .ok (.ireturn, 1) := by decide +kernel
theorem dL_field_0 : decode cL_field 0 = .ok (.aload 4, 2) := by decide +kernel
theorem dL_field_2 : decode cL_field 2 = .ok (.iconst 0, 1) := by decide +kernel
theorem dL_field_3 : decode cL_field 3 = .ok (.aload_n 0, 1) := by decide +kernel
theorem dL_field_4 : decode cL_field 4 = .ok (.iload_n 1, 1) := by decide +kernel
theorem dL_field_5 : decode cL_field 5 = .ok (.iload_n 2, 1) := by decide +kernel
theorem dL_field_6 : decode cL_field 6 = .ok (.iload_n 3, 1) := by decide +kernel
theorem dL_field_7 : decode cL_field 7 = .ok (.invokevirtual 48, 3) := by decide +kernel
theorem dL_field_10 : decode cL_field 10 = .ok (.i2l, 1) := by decide +kernel
theorem dL_field_11 : decode cL_field 11 = .ok (.lastore, 1) := by decide +kernel
theorem dL_field_12 : decode cL_field 12 = .ok (.goto 11, 3) := by decide +kernel
theorem dL_field_15 : decode cL_field 15 = .ok (.astore 5, 2) := by decide +kernel
theorem dL_field_17 : decode cL_field 17 = .ok (.iconst 1, 1) := by decide +kernel
theorem dL_field_18 : decode cL_field 18 = .ok (.ireturn, 1) := by decide +kernel
theorem dL_field_19 : decode cL_field 19 = .ok (.astore 5, 2) := by decide +kernel
theorem dL_field_21 : decode cL_field 21 = .ok (.iconst 2, 1) := by decide +kernel
theorem dL_field_22 : decode cL_field 22 = .ok (.ireturn, 1) := by decide +kernel
theorem dL_field_23 : decode cL_field 23 = .ok (.iconst 0, 1) := by decide +kernel
theorem dL_field_24 : decode cL_field 24 = .ok (.ireturn, 1) := by decide +kernel
theorem dL_text_0 : decode cL_text 0 = .ok (.aload 4, 2) := by decide +kernel
theorem dL_text_2 : decode cL_text 2 = .ok (.iconst 0, 1) := by decide +kernel
theorem dL_text_3 : decode cL_text 3 = .ok (.aload_n 0, 1) := by decide +kernel
theorem dL_text_4 : decode cL_text 4 = .ok (.iload_n 1, 1) := by decide +kernel
theorem dL_text_5 : decode cL_text 5 = .ok (.iload_n 2, 1) := by decide +kernel
theorem dL_text_6 : decode cL_text 6 = .ok (.iload_n 3, 1) := by decide +kernel
theorem dL_text_7 : decode cL_text 7 = .ok (.invokevirtual 51, 3) := by decide +kernel
theorem dL_text_10 : decode cL_text 10 = .ok (.i2l, 1) := by decide +kernel
theorem dL_text_11 : decode cL_text 11 = .ok (.lastore, 1) := by decide +kernel
theorem dL_text_12 : decode cL_text 12 = .ok (.goto 7, 3) := by decide +kernel
theorem dL_text_15 : decode cL_text 15 = .ok (.astore 5, 2) := by decide +kernel
theorem dL_text_17 : decode cL_text 17 = .ok (.iconst 1, 1) := by decide +kernel
theorem dL_text_18 : decode cL_text 18 = .ok (.ireturn, 1) := by decide +kernel
theorem dL_text_19 : decode cL_text 19 = .ok (.iconst 0, 1) := by decide +kernel
theorem dL_text_20 : decode cL_text 20 = .ok (.ireturn, 1) := by decide +kernel
theorem dL_form_0 : decode cL_form 0 = .ok (.aload_n 2, 1) := by decide +kernel
theorem dL_form_1 : decode cL_form 1 = .ok (.iconst 0, 1) := by decide +kernel
theorem dL_form_2 : decode cL_form 2 = .ok (.aload_n 0, 1) := by decide +kernel
theorem dL_form_3 : decode cL_form 3 = .ok (.iload_n 1, 1) := by decide +kernel
theorem dL_form_4 : decode cL_form 4 = .ok (.invokevirtual 55, 3) := by decide +kernel
theorem dL_form_7 : decode cL_form 7 = .ok (.i2l, 1) := by decide +kernel
theorem dL_form_8 : decode cL_form 8 = .ok (.lastore, 1) := by decide +kernel
theorem dL_form_9 : decode cL_form 9 = .ok (.goto 9, 3) := by decide +kernel
theorem dL_form_12 : decode cL_form 12 = .ok (.astore_n 3, 1) := by decide +kernel
theorem dL_form_13 : decode cL_form 13 = .ok (.iconst 1, 1) := by decide +kernel
theorem dL_form_14 : decode cL_form 14 = .ok (.ireturn, 1) := by decide +kernel
theorem dL_form_15 : decode cL_form 15 = .ok (.astore_n 3, 1) := by decide +kernel
theorem dL_form_16 : decode cL_form 16 = .ok (.iconst 2, 1) := by decide +kernel
theorem dL_form_17 : decode cL_form 17 = .ok (.ireturn, 1) := by decide +kernel
theorem dL_form_18 : decode cL_form 18 = .ok (.iconst 0, 1) := by decide +kernel
theorem dL_form_19 : decode cL_form 19 = .ok (.ireturn, 1) := by decide +kernel
theorem dL_take_0 : decode cL_take 0 = .ok (.aload 4, 2) := by decide +kernel
theorem dL_take_2 : decode cL_take 2 = .ok (.iconst 0, 1) := by decide +kernel
theorem dL_take_3 : decode cL_take 3 = .ok (.aload_n 0, 1) := by decide +kernel
theorem dL_take_4 : decode cL_take 4 = .ok (.iload_n 1, 1) := by decide +kernel
theorem dL_take_5 : decode cL_take 5 = .ok (.iload_n 2, 1) := by decide +kernel
theorem dL_take_6 : decode cL_take 6 = .ok (.iload_n 3, 1) := by decide +kernel
theorem dL_take_7 : decode cL_take 7 = .ok (.invokevirtual 58, 3) := by decide +kernel
theorem dL_take_10 : decode cL_take 10 = .ok (.i2l, 1) := by decide +kernel
theorem dL_take_11 : decode cL_take 11 = .ok (.lastore, 1) := by decide +kernel
theorem dL_take_12 : decode cL_take 12 = .ok (.goto 11, 3) := by decide +kernel
theorem dL_take_15 : decode cL_take 15 = .ok (.astore 5, 2) := by decide +kernel
theorem dL_take_17 : decode cL_take 17 = .ok (.iconst 1, 1) := by decide +kernel
theorem dL_take_18 : decode cL_take 18 = .ok (.ireturn, 1) := by decide +kernel
theorem dL_take_19 : decode cL_take 19 = .ok (.astore 5, 2) := by decide +kernel
theorem dL_take_21 : decode cL_take 21 = .ok (.iconst 2, 1) := by decide +kernel
theorem dL_take_22 : decode cL_take 22 = .ok (.ireturn, 1) := by decide +kernel
theorem dL_take_23 : decode cL_take 23 = .ok (.iconst 0, 1) := by decide +kernel
theorem dL_take_24 : decode cL_take 24 = .ok (.ireturn, 1) := by decide +kernel
theorem dL_letGo_0 : decode cL_letGo 0 = .ok (.aload_n 3, 1) := by decide +kernel
theorem dL_letGo_1 : decode cL_letGo 1 = .ok (.iconst 0, 1) := by decide +kernel
theorem dL_letGo_2 : decode cL_letGo 2 = .ok (.aload_n 0, 1) := by decide +kernel
theorem dL_letGo_3 : decode cL_letGo 3 = .ok (.iload_n 1, 1) := by decide +kernel
theorem dL_letGo_4 : decode cL_letGo 4 = .ok (.iload_n 2, 1) := by decide +kernel
theorem dL_letGo_5 : decode cL_letGo 5 = .ok (.invokevirtual 62, 3) := by decide +kernel
theorem dL_letGo_8 : decode cL_letGo 8 = .ok (.i2l, 1) := by decide +kernel
theorem dL_letGo_9 : decode cL_letGo 9 = .ok (.lastore, 1) := by decide +kernel
theorem dL_letGo_10 : decode cL_letGo 10 = .ok (.goto 7, 3) := by decide +kernel
theorem dL_letGo_13 : decode cL_letGo 13 = .ok (.astore 4, 2) := by decide +kernel
theorem dL_letGo_15 : decode cL_letGo 15 = .ok (.iconst 1, 1) := by decide +kernel
theorem dL_letGo_16 : decode cL_letGo 16 = .ok (.ireturn, 1) := by decide +kernel
theorem dL_letGo_17 : decode cL_letGo 17 = .ok (.iconst 0, 1) := by decide +kernel
theorem dL_letGo_18 : decode cL_letGo 18 = .ok (.ireturn, 1) := by decide +kernel
theorem dL_retire_0 : decode cL_retire 0 = .ok (.aload_n 2, 1) := by decide +kernel
theorem dL_retire_1 : decode cL_retire 1 = .ok (.iconst 0, 1) := by decide +kernel
theorem dL_retire_2 : decode cL_retire 2 = .ok (.aload_n 0, 1) := by decide +kernel
theorem dL_retire_3 : decode cL_retire 3 = .ok (.iload_n 1, 1) := by decide +kernel
theorem dL_retire_4 : decode cL_retire 4 = .ok (.invokevirtual 66, 3) := by decide +kernel
theorem dL_retire_7 : decode cL_retire 7 = .ok (.i2l, 1) := by decide +kernel
theorem dL_retire_8 : decode cL_retire 8 = .ok (.lastore, 1) := by decide +kernel
theorem dL_retire_9 : decode cL_retire 9 = .ok (.goto 9, 3) := by decide +kernel
theorem dL_retire_12 : decode cL_retire 12 = .ok (.astore_n 3, 1) := by decide +kernel
theorem dL_retire_13 : decode cL_retire 13 = .ok (.iconst 1, 1) := by decide +kernel
theorem dL_retire_14 : decode cL_retire 14 = .ok (.ireturn, 1) := by decide +kernel
theorem dL_retire_15 : decode cL_retire 15 = .ok (.astore_n 3, 1) := by decide +kernel
theorem dL_retire_16 : decode cL_retire 16 = .ok (.iconst 2, 1) := by decide +kernel
theorem dL_retire_17 : decode cL_retire 17 = .ok (.ireturn, 1) := by decide +kernel
theorem dL_retire_18 : decode cL_retire 18 = .ok (.iconst 0, 1) := by decide +kernel
theorem dL_retire_19 : decode cL_retire 19 = .ok (.ireturn, 1) := by decide +kernel
theorem dL_renew_0 : decode cL_renew 0 = .ok (.aload_n 2, 1) := by decide +kernel
theorem dL_renew_1 : decode cL_renew 1 = .ok (.iconst 0, 1) := by decide +kernel
theorem dL_renew_2 : decode cL_renew 2 = .ok (.aload_n 0, 1) := by decide +kernel
theorem dL_renew_3 : decode cL_renew 3 = .ok (.iload_n 1, 1) := by decide +kernel
theorem dL_renew_4 : decode cL_renew 4 = .ok (.invokevirtual 69, 3) := by decide +kernel
theorem dL_renew_7 : decode cL_renew 7 = .ok (.i2l, 1) := by decide +kernel
theorem dL_renew_8 : decode cL_renew 8 = .ok (.lastore, 1) := by decide +kernel
theorem dL_renew_9 : decode cL_renew 9 = .ok (.goto 9, 3) := by decide +kernel
theorem dL_renew_12 : decode cL_renew 12 = .ok (.astore_n 3, 1) := by decide +kernel
theorem dL_renew_13 : decode cL_renew 13 = .ok (.iconst 1, 1) := by decide +kernel
theorem dL_renew_14 : decode cL_renew 14 = .ok (.ireturn, 1) := by decide +kernel
theorem dL_renew_15 : decode cL_renew 15 = .ok (.astore_n 3, 1) := by decide +kernel
theorem dL_renew_16 : decode cL_renew 16 = .ok (.iconst 2, 1) := by decide +kernel
theorem dL_renew_17 : decode cL_renew 17 = .ok (.ireturn, 1) := by decide +kernel
theorem dL_renew_18 : decode cL_renew 18 = .ok (.iconst 0, 1) := by decide +kernel
theorem dL_renew_19 : decode cL_renew 19 = .ok (.ireturn, 1) := by decide +kernel
theorem dL_read_0 : decode cL_read 0 = .ok (.aload 4, 2) := by decide +kernel
theorem dL_read_2 : decode cL_read 2 = .ok (.iconst 0, 1) := by decide +kernel
theorem dL_read_3 : decode cL_read 3 = .ok (.aload_n 0, 1) := by decide +kernel
theorem dL_read_4 : decode cL_read 4 = .ok (.iload_n 1, 1) := by decide +kernel
theorem dL_read_5 : decode cL_read 5 = .ok (.iload_n 2, 1) := by decide +kernel
theorem dL_read_6 : decode cL_read 6 = .ok (.iload_n 3, 1) := by decide +kernel
theorem dL_read_7 : decode cL_read 7 = .ok (.invokevirtual 72, 3) := by decide +kernel
theorem dL_read_10 : decode cL_read 10 = .ok (.i2l, 1) := by decide +kernel
theorem dL_read_11 : decode cL_read 11 = .ok (.lastore, 1) := by decide +kernel
theorem dL_read_12 : decode cL_read 12 = .ok (.goto 11, 3) := by decide +kernel
theorem dL_read_15 : decode cL_read 15 = .ok (.astore 5, 2) := by decide +kernel
theorem dL_read_17 : decode cL_read 17 = .ok (.iconst 1, 1) := by decide +kernel
theorem dL_read_18 : decode cL_read 18 = .ok (.ireturn, 1) := by decide +kernel
theorem dL_read_19 : decode cL_read 19 = .ok (.astore 5, 2) := by decide +kernel
theorem dL_read_21 : decode cL_read 21 = .ok (.iconst 2, 1) := by decide +kernel
theorem dL_read_22 : decode cL_read 22 = .ok (.ireturn, 1) := by decide +kernel
theorem dL_read_23 : decode cL_read 23 = .ok (.iconst 0, 1) := by decide +kernel
theorem dL_read_24 : decode cL_read 24 = .ok (.ireturn, 1) := by decide +kernel
theorem dL_write_0 : decode cL_write 0 = .ok (.aload 5, 2) := by decide +kernel
theorem dL_write_2 : decode cL_write 2 = .ok (.iconst 0, 1) := by decide +kernel
theorem dL_write_3 : decode cL_write 3 = .ok (.aload_n 0, 1) := by decide +kernel
theorem dL_write_4 : decode cL_write 4 = .ok (.iload_n 1, 1) := by decide +kernel
theorem dL_write_5 : decode cL_write 5 = .ok (.iload_n 2, 1) := by decide +kernel
theorem dL_write_6 : decode cL_write 6 = .ok (.iload_n 3, 1) := by decide +kernel
theorem dL_write_7 : decode cL_write 7 = .ok (.iload 4, 2) := by decide +kernel
theorem dL_write_9 : decode cL_write 9 = .ok (.invokevirtual 75, 3) := by decide +kernel
theorem dL_write_12 : decode cL_write 12 = .ok (.i2l, 1) := by decide +kernel
theorem dL_write_13 : decode cL_write 13 = .ok (.lastore, 1) := by decide +kernel
theorem dL_write_14 : decode cL_write 14 = .ok (.goto 15, 3) := by decide +kernel
theorem dL_write_17 : decode cL_write 17 = .ok (.astore 6, 2) := by decide +kernel
theorem dL_write_19 : decode cL_write 19 = .ok (.iconst 1, 1) := by decide +kernel
theorem dL_write_20 : decode cL_write 20 = .ok (.ireturn, 1) := by decide +kernel
theorem dL_write_21 : decode cL_write 21 = .ok (.astore 6, 2) := by decide +kernel
theorem dL_write_23 : decode cL_write 23 = .ok (.iconst 2, 1) := by decide +kernel
theorem dL_write_24 : decode cL_write 24 = .ok (.ireturn, 1) := by decide +kernel
theorem dL_write_25 : decode cL_write 25 = .ok (.astore 6, 2) := by decide +kernel
theorem dL_write_27 : decode cL_write 27 = .ok (.iconst 3, 1) := by decide +kernel
theorem dL_write_28 : decode cL_write 28 = .ok (.ireturn, 1) := by decide +kernel
theorem dL_write_29 : decode cL_write 29 = .ok (.iconst 0, 1) := by decide +kernel
theorem dL_write_30 : decode cL_write 30 = .ok (.ireturn, 1) := by decide +kernel
theorem dL_row_0 : decode cL_row 0 = .ok (.aload_n 3, 1) := by decide +kernel
theorem dL_row_1 : decode cL_row 1 = .ok (.iconst 0, 1) := by decide +kernel
theorem dL_row_2 : decode cL_row 2 = .ok (.aload_n 0, 1) := by decide +kernel
theorem dL_row_3 : decode cL_row 3 = .ok (.iload_n 1, 1) := by decide +kernel
theorem dL_row_4 : decode cL_row 4 = .ok (.iload_n 2, 1) := by decide +kernel
theorem dL_row_5 : decode cL_row 5 = .ok (.invokevirtual 79, 3) := by decide +kernel
theorem dL_row_8 : decode cL_row 8 = .ok (.i2l, 1) := by decide +kernel
theorem dL_row_9 : decode cL_row 9 = .ok (.lastore, 1) := by decide +kernel
theorem dL_row_10 : decode cL_row 10 = .ok (.goto 11, 3) := by decide +kernel
theorem dL_row_13 : decode cL_row 13 = .ok (.astore 4, 2) := by decide +kernel
theorem dL_row_15 : decode cL_row 15 = .ok (.iconst 1, 1) := by decide +kernel
theorem dL_row_16 : decode cL_row 16 = .ok (.ireturn, 1) := by decide +kernel
theorem dL_row_17 : decode cL_row 17 = .ok (.astore 4, 2) := by decide +kernel
theorem dL_row_19 : decode cL_row 19 = .ok (.iconst 2, 1) := by decide +kernel
theorem dL_row_20 : decode cL_row 20 = .ok (.ireturn, 1) := by decide +kernel
theorem dL_row_21 : decode cL_row 21 = .ok (.iconst 0, 1) := by decide +kernel
theorem dL_row_22 : decode cL_row 22 = .ok (.ireturn, 1) := by decide +kernel
theorem dL_set_0 : decode cL_set 0 = .ok (.aload 4, 2) := by decide +kernel
theorem dL_set_2 : decode cL_set 2 = .ok (.iconst 0, 1) := by decide +kernel
theorem dL_set_3 : decode cL_set 3 = .ok (.aload_n 0, 1) := by decide +kernel
theorem dL_set_4 : decode cL_set 4 = .ok (.iload_n 1, 1) := by decide +kernel
theorem dL_set_5 : decode cL_set 5 = .ok (.iload_n 2, 1) := by decide +kernel
theorem dL_set_6 : decode cL_set 6 = .ok (.iload_n 3, 1) := by decide +kernel
theorem dL_set_7 : decode cL_set 7 = .ok (.invokevirtual 82, 3) := by decide +kernel
theorem dL_set_10 : decode cL_set 10 = .ok (.i2l, 1) := by decide +kernel
theorem dL_set_11 : decode cL_set 11 = .ok (.lastore, 1) := by decide +kernel
theorem dL_set_12 : decode cL_set 12 = .ok (.goto 11, 3) := by decide +kernel
theorem dL_set_15 : decode cL_set 15 = .ok (.astore 5, 2) := by decide +kernel
theorem dL_set_17 : decode cL_set 17 = .ok (.iconst 1, 1) := by decide +kernel
theorem dL_set_18 : decode cL_set 18 = .ok (.ireturn, 1) := by decide +kernel
theorem dL_set_19 : decode cL_set 19 = .ok (.astore 5, 2) := by decide +kernel
theorem dL_set_21 : decode cL_set 21 = .ok (.iconst 2, 1) := by decide +kernel
theorem dL_set_22 : decode cL_set 22 = .ok (.ireturn, 1) := by decide +kernel
theorem dL_set_23 : decode cL_set 23 = .ok (.iconst 0, 1) := by decide +kernel
theorem dL_set_24 : decode cL_set 24 = .ok (.ireturn, 1) := by decide +kernel
theorem dL_value_0 : decode cL_value 0 = .ok (.aload 4, 2) := by decide +kernel
theorem dL_value_2 : decode cL_value 2 = .ok (.iconst 0, 1) := by decide +kernel
theorem dL_value_3 : decode cL_value 3 = .ok (.aload_n 0, 1) := by decide +kernel
theorem dL_value_4 : decode cL_value 4 = .ok (.iload_n 1, 1) := by decide +kernel
theorem dL_value_5 : decode cL_value 5 = .ok (.iload_n 2, 1) := by decide +kernel
theorem dL_value_6 : decode cL_value 6 = .ok (.iload_n 3, 1) := by decide +kernel
theorem dL_value_7 : decode cL_value 7 = .ok (.invokevirtual 85, 3) := by decide +kernel
theorem dL_value_10 : decode cL_value 10 = .ok (.i2l, 1) := by decide +kernel
theorem dL_value_11 : decode cL_value 11 = .ok (.lastore, 1) := by decide +kernel
theorem dL_value_12 : decode cL_value 12 = .ok (.goto 7, 3) := by decide +kernel
theorem dL_value_15 : decode cL_value 15 = .ok (.astore 5, 2) := by decide +kernel
theorem dL_value_17 : decode cL_value 17 = .ok (.iconst 1, 1) := by decide +kernel
theorem dL_value_18 : decode cL_value 18 = .ok (.ireturn, 1) := by decide +kernel
theorem dL_value_19 : decode cL_value 19 = .ok (.iconst 0, 1) := by decide +kernel
theorem dL_value_20 : decode cL_value 20 = .ok (.ireturn, 1) := by decide +kernel
theorem dL_replayed_0 : decode cL_replayed 0 = .ok (.aload_n 3, 1) := by decide +kernel
theorem dL_replayed_1 : decode cL_replayed 1 = .ok (.iconst 0, 1) := by decide +kernel
theorem dL_replayed_2 : decode cL_replayed 2 = .ok (.aload_n 0, 1) := by decide +kernel
theorem dL_replayed_3 : decode cL_replayed 3 = .ok (.iload_n 1, 1) := by decide +kernel
theorem dL_replayed_4 : decode cL_replayed 4 = .ok (.iload_n 2, 1) := by decide +kernel
theorem dL_replayed_5 : decode cL_replayed 5 = .ok (.invokevirtual 88, 3) := by decide +kernel
theorem dL_replayed_8 : decode cL_replayed 8 = .ok (.i2l, 1) := by decide +kernel
theorem dL_replayed_9 : decode cL_replayed 9 = .ok (.lastore, 1) := by decide +kernel
theorem dL_replayed_10 : decode cL_replayed 10 = .ok (.goto 7, 3) := by decide +kernel
theorem dL_replayed_13 : decode cL_replayed 13 = .ok (.astore 4, 2) := by decide +kernel
theorem dL_replayed_15 : decode cL_replayed 15 = .ok (.iconst 1, 1) := by decide +kernel
theorem dL_replayed_16 : decode cL_replayed 16 = .ok (.ireturn, 1) := by decide +kernel
theorem dL_replayed_17 : decode cL_replayed 17 = .ok (.iconst 0, 1) := by decide +kernel
theorem dL_replayed_18 : decode cL_replayed 18 = .ok (.ireturn, 1) := by decide +kernel
theorem dL_standing_0 : decode cL_standing 0 = .ok (.aload_n 2, 1) := by decide +kernel
theorem dL_standing_1 : decode cL_standing 1 = .ok (.iconst 0, 1) := by decide +kernel
theorem dL_standing_2 : decode cL_standing 2 = .ok (.aload_n 0, 1) := by decide +kernel
theorem dL_standing_3 : decode cL_standing 3 = .ok (.iload_n 1, 1) := by decide +kernel
theorem dL_standing_4 : decode cL_standing 4 = .ok (.invokevirtual 91, 3) := by decide +kernel
theorem dL_standing_7 : decode cL_standing 7 = .ok (.i2l, 1) := by decide +kernel
theorem dL_standing_8 : decode cL_standing 8 = .ok (.lastore, 1) := by decide +kernel
theorem dL_standing_9 : decode cL_standing 9 = .ok (.goto 6, 3) := by decide +kernel
theorem dL_standing_12 : decode cL_standing 12 = .ok (.astore_n 3, 1) := by decide +kernel
theorem dL_standing_13 : decode cL_standing 13 = .ok (.iconst 1, 1) := by decide +kernel
theorem dL_standing_14 : decode cL_standing 14 = .ok (.ireturn, 1) := by decide +kernel
theorem dL_standing_15 : decode cL_standing 15 = .ok (.iconst 0, 1) := by decide +kernel
theorem dL_standing_16 : decode cL_standing 16 = .ok (.ireturn, 1) := by decide +kernel
theorem dL_mover_0 : decode cL_mover 0 = .ok (.aload_n 3, 1) := by decide +kernel
theorem dL_mover_1 : decode cL_mover 1 = .ok (.iconst 0, 1) := by decide +kernel
theorem dL_mover_2 : decode cL_mover 2 = .ok (.aload_n 0, 1) := by decide +kernel
theorem dL_mover_3 : decode cL_mover 3 = .ok (.iload_n 1, 1) := by decide +kernel
theorem dL_mover_4 : decode cL_mover 4 = .ok (.iload_n 2, 1) := by decide +kernel
theorem dL_mover_5 : decode cL_mover 5 = .ok (.invokevirtual 94, 3) := by decide +kernel
theorem dL_mover_8 : decode cL_mover 8 = .ok (.i2l, 1) := by decide +kernel
theorem dL_mover_9 : decode cL_mover 9 = .ok (.lastore, 1) := by decide +kernel
theorem dL_mover_10 : decode cL_mover 10 = .ok (.goto 11, 3) := by decide +kernel
theorem dL_mover_13 : decode cL_mover 13 = .ok (.astore 4, 2) := by decide +kernel
theorem dL_mover_15 : decode cL_mover 15 = .ok (.iconst 1, 1) := by decide +kernel
theorem dL_mover_16 : decode cL_mover 16 = .ok (.ireturn, 1) := by decide +kernel
theorem dL_mover_17 : decode cL_mover 17 = .ok (.astore 4, 2) := by decide +kernel
theorem dL_mover_19 : decode cL_mover 19 = .ok (.iconst 2, 1) := by decide +kernel
theorem dL_mover_20 : decode cL_mover 20 = .ok (.ireturn, 1) := by decide +kernel
theorem dL_mover_21 : decode cL_mover 21 = .ok (.iconst 0, 1) := by decide +kernel
theorem dL_mover_22 : decode cL_mover 22 = .ok (.ireturn, 1) := by decide +kernel
theorem dL_step_0 : decode cL_step 0 = .ok (.aload_n 2, 1) := by decide +kernel
theorem dL_step_1 : decode cL_step 1 = .ok (.iconst 0, 1) := by decide +kernel
theorem dL_step_2 : decode cL_step 2 = .ok (.aload_n 0, 1) := by decide +kernel
theorem dL_step_3 : decode cL_step 3 = .ok (.iload_n 1, 1) := by decide +kernel
theorem dL_step_4 : decode cL_step 4 = .ok (.invokevirtual 97, 3) := by decide +kernel
theorem dL_step_7 : decode cL_step 7 = .ok (.i2l, 1) := by decide +kernel
theorem dL_step_8 : decode cL_step 8 = .ok (.lastore, 1) := by decide +kernel
theorem dL_step_9 : decode cL_step 9 = .ok (.goto 9, 3) := by decide +kernel
theorem dL_step_12 : decode cL_step 12 = .ok (.astore_n 3, 1) := by decide +kernel
theorem dL_step_13 : decode cL_step 13 = .ok (.iconst 1, 1) := by decide +kernel
theorem dL_step_14 : decode cL_step 14 = .ok (.ireturn, 1) := by decide +kernel
theorem dL_step_15 : decode cL_step 15 = .ok (.astore_n 3, 1) := by decide +kernel
theorem dL_step_16 : decode cL_step 16 = .ok (.iconst 2, 1) := by decide +kernel
theorem dL_step_17 : decode cL_step 17 = .ok (.ireturn, 1) := by decide +kernel
theorem dL_step_18 : decode cL_step 18 = .ok (.iconst 0, 1) := by decide +kernel
theorem dL_step_19 : decode cL_step 19 = .ok (.ireturn, 1) := by decide +kernel
theorem dL_undo_0 : decode cL_undo 0 = .ok (.aload_n 2, 1) := by decide +kernel
theorem dL_undo_1 : decode cL_undo 1 = .ok (.iconst 0, 1) := by decide +kernel
theorem dL_undo_2 : decode cL_undo 2 = .ok (.aload_n 0, 1) := by decide +kernel
theorem dL_undo_3 : decode cL_undo 3 = .ok (.iload_n 1, 1) := by decide +kernel
theorem dL_undo_4 : decode cL_undo 4 = .ok (.invokevirtual 100, 3) := by decide +kernel
theorem dL_undo_7 : decode cL_undo 7 = .ok (.i2l, 1) := by decide +kernel
theorem dL_undo_8 : decode cL_undo 8 = .ok (.lastore, 1) := by decide +kernel
theorem dL_undo_9 : decode cL_undo 9 = .ok (.goto 9, 3) := by decide +kernel
theorem dL_undo_12 : decode cL_undo 12 = .ok (.astore_n 3, 1) := by decide +kernel
theorem dL_undo_13 : decode cL_undo 13 = .ok (.iconst 1, 1) := by decide +kernel
theorem dL_undo_14 : decode cL_undo 14 = .ok (.ireturn, 1) := by decide +kernel
theorem dL_undo_15 : decode cL_undo 15 = .ok (.astore_n 3, 1) := by decide +kernel
theorem dL_undo_16 : decode cL_undo 16 = .ok (.iconst 2, 1) := by decide +kernel
theorem dL_undo_17 : decode cL_undo 17 = .ok (.ireturn, 1) := by decide +kernel
theorem dL_undo_18 : decode cL_undo 18 = .ok (.iconst 0, 1) := by decide +kernel
theorem dL_undo_19 : decode cL_undo 19 = .ok (.ireturn, 1) := by decide +kernel
theorem dL_law_0 : decode cL_law 0 = .ok (.new 8, 3) := by decide +kernel
theorem dL_law_3 : decode cL_law 3 = .ok (.dup, 1) := by decide +kernel
theorem dL_law_4 : decode cL_law 4 = .ok (.invokespecial 103, 3) := by decide +kernel
theorem dL_law_7 : decode cL_law 7 = .ok (.astore_n 1, 1) := by decide +kernel
theorem dL_law_8 : decode cL_law 8 = .ok (.new 104, 3) := by decide +kernel
theorem dL_law_11 : decode cL_law 11 = .ok (.dup, 1) := by decide +kernel
theorem dL_law_12 : decode cL_law 12 = .ok (.invokespecial 106, 3) := by decide +kernel
theorem dL_law_15 : decode cL_law 15 = .ok (.astore_n 2, 1) := by decide +kernel
theorem dL_law_16 : decode cL_law 16 = .ok (.iconst 1, 1) := by decide +kernel
theorem dL_law_17 : decode cL_law 17 = .ok (.newarray .long, 2) := by decide +kernel
theorem dL_law_19 : decode cL_law 19 = .ok (.astore_n 3, 1) := by decide +kernel
theorem dL_law_20 : decode cL_law 20 = .ok (.iconst 0, 1) := by decide +kernel
theorem dL_law_21 : decode cL_law 21 = .ok (.istore 4, 2) := by decide +kernel
theorem dL_law_23 : decode cL_law 23 = .ok (.iload 4, 2) := by decide +kernel
theorem dL_law_25 : decode cL_law 25 = .ok (.aload_n 0, 1) := by decide +kernel
theorem dL_law_26 : decode cL_law 26 = .ok (.arraylength, 1) := by decide +kernel
theorem dL_law_27 : decode cL_law 27 = .ok (.bipush 6, 2) := by decide +kernel
theorem dL_law_29 : decode cL_law 29 = .ok (.isub, 1) := by decide +kernel
theorem dL_law_30 : decode cL_law 30 = .ok (.if_icmp .gt 2070, 3) := by decide +kernel
theorem dL_law_33 : decode cL_law 33 = .ok (.aload_n 0, 1) := by decide +kernel
theorem dL_law_34 : decode cL_law 34 = .ok (.iload 4, 2) := by decide +kernel
theorem dL_law_36 : decode cL_law 36 = .ok (.iaload, 1) := by decide +kernel
theorem dL_law_37 : decode cL_law 37 = .ok (.bipush 31, 2) := by decide +kernel
theorem dL_law_39 : decode cL_law 39 = .ok (.iand, 1) := by decide +kernel
theorem dL_law_40 : decode cL_law 40 = .ok (.tableswitch 2054 0 25 #[120, 164, 284, 364, 444, 548, 652, 727, 802, 858, 938, 1018, 1074, 1170, 1238, 1294, 1350, 1430, 1522, 1590, 1670, 1750, 1818, 1874, 1942, 1998], 120) := by decide +kernel
theorem dL_law_160 : decode cL_law 160 = .ok (.aload_n 1, 1) := by decide +kernel
theorem dL_law_161 : decode cL_law 161 = .ok (.aload_n 3, 1) := by decide +kernel
theorem dL_law_162 : decode cL_law 162 = .ok (.invokestatic 107, 3) := by decide +kernel
theorem dL_law_165 : decode cL_law 165 = .ok (.istore 5, 2) := by decide +kernel
theorem dL_law_167 : decode cL_law 167 = .ok (.aload_n 2, 1) := by decide +kernel
theorem dL_law_168 : decode cL_law 168 = .ok (.invokevirtual 112, 3) := by decide +kernel
theorem dL_law_171 : decode cL_law 171 = .ok (.istore 6, 2) := by decide +kernel
theorem dL_law_173 : decode cL_law 173 = .ok (.aload_n 2, 1) := by decide +kernel
theorem dL_law_174 : decode cL_law 174 = .ok (.invokevirtual 113, 3) := by decide +kernel
theorem dL_law_177 : decode cL_law 177 = .ok (.iload 5, 2) := by decide +kernel
theorem dL_law_179 : decode cL_law 179 = .ok (.if_icmp .eq 5, 3) := by decide +kernel
theorem dL_law_182 : decode cL_law 182 = .ok (.iconst 0, 1) := by decide +kernel
theorem dL_law_183 : decode cL_law 183 = .ok (.ireturn, 1) := by decide +kernel
theorem dL_law_184 : decode cL_law 184 = .ok (.iload 5, 2) := by decide +kernel
theorem dL_law_186 : decode cL_law 186 = .ok (.ifCond .ne 15, 3) := by decide +kernel
theorem dL_law_189 : decode cL_law 189 = .ok (.aload_n 3, 1) := by decide +kernel
theorem dL_law_190 : decode cL_law 190 = .ok (.iconst 0, 1) := by decide +kernel
theorem dL_law_191 : decode cL_law 191 = .ok (.laload, 1) := by decide +kernel
theorem dL_law_192 : decode cL_law 192 = .ok (.iload 6, 2) := by decide +kernel
theorem dL_law_194 : decode cL_law 194 = .ok (.i2l, 1) := by decide +kernel
theorem dL_law_195 : decode cL_law 195 = .ok (.lcmp, 1) := by decide +kernel
theorem dL_law_196 : decode cL_law 196 = .ok (.ifCond .eq 5, 3) := by decide +kernel
theorem dL_law_199 : decode cL_law 199 = .ok (.iconst 0, 1) := by decide +kernel
theorem dL_law_200 : decode cL_law 200 = .ok (.ireturn, 1) := by decide +kernel
theorem dL_law_201 : decode cL_law 201 = .ok (.goto 1893, 3) := by decide +kernel
theorem dL_law_204 : decode cL_law 204 = .ok (.aload_n 1, 1) := by decide +kernel
theorem dL_law_205 : decode cL_law 205 = .ok (.aload_n 0, 1) := by decide +kernel
theorem dL_law_206 : decode cL_law 206 = .ok (.iload 4, 2) := by decide +kernel
theorem dL_law_208 : decode cL_law 208 = .ok (.iconst 1, 1) := by decide +kernel
theorem dL_law_209 : decode cL_law 209 = .ok (.iadd, 1) := by decide +kernel
theorem dL_law_210 : decode cL_law 210 = .ok (.iaload, 1) := by decide +kernel
theorem dL_law_211 : decode cL_law 211 = .ok (.aload_n 0, 1) := by decide +kernel
theorem dL_law_212 : decode cL_law 212 = .ok (.iload 4, 2) := by decide +kernel
theorem dL_law_214 : decode cL_law 214 = .ok (.iconst 2, 1) := by decide +kernel
theorem dL_law_215 : decode cL_law 215 = .ok (.iadd, 1) := by decide +kernel
theorem dL_law_216 : decode cL_law 216 = .ok (.iaload, 1) := by decide +kernel
theorem dL_law_217 : decode cL_law 217 = .ok (.aload_n 0, 1) := by decide +kernel
theorem dL_law_218 : decode cL_law 218 = .ok (.iload 4, 2) := by decide +kernel
theorem dL_law_220 : decode cL_law 220 = .ok (.iconst 3, 1) := by decide +kernel
theorem dL_law_221 : decode cL_law 221 = .ok (.iadd, 1) := by decide +kernel
theorem dL_law_222 : decode cL_law 222 = .ok (.iaload, 1) := by decide +kernel
theorem dL_law_223 : decode cL_law 223 = .ok (.aload_n 0, 1) := by decide +kernel
theorem dL_law_224 : decode cL_law 224 = .ok (.iload 4, 2) := by decide +kernel
theorem dL_law_226 : decode cL_law 226 = .ok (.iconst 4, 1) := by decide +kernel
theorem dL_law_227 : decode cL_law 227 = .ok (.iadd, 1) := by decide +kernel
theorem dL_law_228 : decode cL_law 228 = .ok (.iaload, 1) := by decide +kernel
theorem dL_law_229 : decode cL_law 229 = .ok (.aload_n 0, 1) := by decide +kernel
theorem dL_law_230 : decode cL_law 230 = .ok (.iload 4, 2) := by decide +kernel
theorem dL_law_232 : decode cL_law 232 = .ok (.iconst 5, 1) := by decide +kernel
theorem dL_law_233 : decode cL_law 233 = .ok (.iadd, 1) := by decide +kernel
theorem dL_law_234 : decode cL_law 234 = .ok (.iaload, 1) := by decide +kernel
theorem dL_law_235 : decode cL_law 235 = .ok (.ifCond .eq 7, 3) := by decide +kernel
theorem dL_law_238 : decode cL_law 238 = .ok (.iconst 1, 1) := by decide +kernel
theorem dL_law_239 : decode cL_law 239 = .ok (.goto 4, 3) := by decide +kernel
theorem dL_law_242 : decode cL_law 242 = .ok (.iconst 0, 1) := by decide +kernel
theorem dL_law_243 : decode cL_law 243 = .ok (.aload_n 3, 1) := by decide +kernel
theorem dL_law_244 : decode cL_law 244 = .ok (.invokestatic 116, 3) := by decide +kernel
theorem dL_law_247 : decode cL_law 247 = .ok (.istore 5, 2) := by decide +kernel
theorem dL_law_249 : decode cL_law 249 = .ok (.aload_n 2, 1) := by decide +kernel
theorem dL_law_250 : decode cL_law 250 = .ok (.aload_n 0, 1) := by decide +kernel
theorem dL_law_251 : decode cL_law 251 = .ok (.iload 4, 2) := by decide +kernel
theorem dL_law_253 : decode cL_law 253 = .ok (.iconst 1, 1) := by decide +kernel
theorem dL_law_254 : decode cL_law 254 = .ok (.iadd, 1) := by decide +kernel
theorem dL_law_255 : decode cL_law 255 = .ok (.iaload, 1) := by decide +kernel
theorem dL_law_256 : decode cL_law 256 = .ok (.aload_n 0, 1) := by decide +kernel
theorem dL_law_257 : decode cL_law 257 = .ok (.iload 4, 2) := by decide +kernel
theorem dL_law_259 : decode cL_law 259 = .ok (.iconst 2, 1) := by decide +kernel
theorem dL_law_260 : decode cL_law 260 = .ok (.iadd, 1) := by decide +kernel
theorem dL_law_261 : decode cL_law 261 = .ok (.iaload, 1) := by decide +kernel
theorem dL_law_262 : decode cL_law 262 = .ok (.aload_n 0, 1) := by decide +kernel
theorem dL_law_263 : decode cL_law 263 = .ok (.iload 4, 2) := by decide +kernel
theorem dL_law_265 : decode cL_law 265 = .ok (.iconst 3, 1) := by decide +kernel
theorem dL_law_266 : decode cL_law 266 = .ok (.iadd, 1) := by decide +kernel
theorem dL_law_267 : decode cL_law 267 = .ok (.iaload, 1) := by decide +kernel
theorem dL_law_268 : decode cL_law 268 = .ok (.aload_n 0, 1) := by decide +kernel
theorem dL_law_269 : decode cL_law 269 = .ok (.iload 4, 2) := by decide +kernel
theorem dL_law_271 : decode cL_law 271 = .ok (.iconst 4, 1) := by decide +kernel
theorem dL_law_272 : decode cL_law 272 = .ok (.iadd, 1) := by decide +kernel
theorem dL_law_273 : decode cL_law 273 = .ok (.iaload, 1) := by decide +kernel
theorem dL_law_274 : decode cL_law 274 = .ok (.aload_n 0, 1) := by decide +kernel
theorem dL_law_275 : decode cL_law 275 = .ok (.iload 4, 2) := by decide +kernel
theorem dL_law_277 : decode cL_law 277 = .ok (.iconst 5, 1) := by decide +kernel
theorem dL_law_278 : decode cL_law 278 = .ok (.iadd, 1) := by decide +kernel
theorem dL_law_279 : decode cL_law 279 = .ok (.iaload, 1) := by decide +kernel
theorem dL_law_280 : decode cL_law 280 = .ok (.ifCond .eq 7, 3) := by decide +kernel
theorem dL_law_283 : decode cL_law 283 = .ok (.iconst 1, 1) := by decide +kernel
theorem dL_law_284 : decode cL_law 284 = .ok (.goto 4, 3) := by decide +kernel
theorem dL_law_287 : decode cL_law 287 = .ok (.iconst 0, 1) := by decide +kernel
theorem dL_law_288 : decode cL_law 288 = .ok (.invokevirtual 119, 3) := by decide +kernel
theorem dL_law_291 : decode cL_law 291 = .ok (.istore 6, 2) := by decide +kernel
theorem dL_law_293 : decode cL_law 293 = .ok (.aload_n 2, 1) := by decide +kernel
theorem dL_law_294 : decode cL_law 294 = .ok (.invokevirtual 113, 3) := by decide +kernel
theorem dL_law_297 : decode cL_law 297 = .ok (.iload 5, 2) := by decide +kernel
theorem dL_law_299 : decode cL_law 299 = .ok (.if_icmp .eq 5, 3) := by decide +kernel
theorem dL_law_302 : decode cL_law 302 = .ok (.iconst 0, 1) := by decide +kernel
theorem dL_law_303 : decode cL_law 303 = .ok (.ireturn, 1) := by decide +kernel
theorem dL_law_304 : decode cL_law 304 = .ok (.iload 5, 2) := by decide +kernel
theorem dL_law_306 : decode cL_law 306 = .ok (.ifCond .ne 15, 3) := by decide +kernel
theorem dL_law_309 : decode cL_law 309 = .ok (.aload_n 3, 1) := by decide +kernel
theorem dL_law_310 : decode cL_law 310 = .ok (.iconst 0, 1) := by decide +kernel
theorem dL_law_311 : decode cL_law 311 = .ok (.laload, 1) := by decide +kernel
theorem dL_law_312 : decode cL_law 312 = .ok (.iload 6, 2) := by decide +kernel
theorem dL_law_314 : decode cL_law 314 = .ok (.i2l, 1) := by decide +kernel
theorem dL_law_315 : decode cL_law 315 = .ok (.lcmp, 1) := by decide +kernel
theorem dL_law_316 : decode cL_law 316 = .ok (.ifCond .eq 5, 3) := by decide +kernel
theorem dL_law_319 : decode cL_law 319 = .ok (.iconst 0, 1) := by decide +kernel
theorem dL_law_320 : decode cL_law 320 = .ok (.ireturn, 1) := by decide +kernel
theorem dL_law_321 : decode cL_law 321 = .ok (.goto 1773, 3) := by decide +kernel
theorem dL_law_324 : decode cL_law 324 = .ok (.aload_n 1, 1) := by decide +kernel
theorem dL_law_325 : decode cL_law 325 = .ok (.aload_n 0, 1) := by decide +kernel
theorem dL_law_326 : decode cL_law 326 = .ok (.iload 4, 2) := by decide +kernel
theorem dL_law_328 : decode cL_law 328 = .ok (.iconst 1, 1) := by decide +kernel
theorem dL_law_329 : decode cL_law 329 = .ok (.iadd, 1) := by decide +kernel
theorem dL_law_330 : decode cL_law 330 = .ok (.iaload, 1) := by decide +kernel
theorem dL_law_331 : decode cL_law 331 = .ok (.aload_n 0, 1) := by decide +kernel
theorem dL_law_332 : decode cL_law 332 = .ok (.iload 4, 2) := by decide +kernel
theorem dL_law_334 : decode cL_law 334 = .ok (.iconst 2, 1) := by decide +kernel
theorem dL_law_335 : decode cL_law 335 = .ok (.iadd, 1) := by decide +kernel
theorem dL_law_336 : decode cL_law 336 = .ok (.iaload, 1) := by decide +kernel
theorem dL_law_337 : decode cL_law 337 = .ok (.aload_n 0, 1) := by decide +kernel
theorem dL_law_338 : decode cL_law 338 = .ok (.iload 4, 2) := by decide +kernel
theorem dL_law_340 : decode cL_law 340 = .ok (.iconst 3, 1) := by decide +kernel
theorem dL_law_341 : decode cL_law 341 = .ok (.iadd, 1) := by decide +kernel
theorem dL_law_342 : decode cL_law 342 = .ok (.iaload, 1) := by decide +kernel
theorem dL_law_343 : decode cL_law 343 = .ok (.aload_n 3, 1) := by decide +kernel
theorem dL_law_344 : decode cL_law 344 = .ok (.invokestatic 120, 3) := by decide +kernel
theorem dL_law_347 : decode cL_law 347 = .ok (.istore 5, 2) := by decide +kernel
theorem dL_law_349 : decode cL_law 349 = .ok (.aload_n 2, 1) := by decide +kernel
theorem dL_law_350 : decode cL_law 350 = .ok (.aload_n 0, 1) := by decide +kernel
theorem dL_law_351 : decode cL_law 351 = .ok (.iload 4, 2) := by decide +kernel
theorem dL_law_353 : decode cL_law 353 = .ok (.iconst 1, 1) := by decide +kernel
theorem dL_law_354 : decode cL_law 354 = .ok (.iadd, 1) := by decide +kernel
theorem dL_law_355 : decode cL_law 355 = .ok (.iaload, 1) := by decide +kernel
theorem dL_law_356 : decode cL_law 356 = .ok (.aload_n 0, 1) := by decide +kernel
theorem dL_law_357 : decode cL_law 357 = .ok (.iload 4, 2) := by decide +kernel
theorem dL_law_359 : decode cL_law 359 = .ok (.iconst 2, 1) := by decide +kernel
theorem dL_law_360 : decode cL_law 360 = .ok (.iadd, 1) := by decide +kernel
theorem dL_law_361 : decode cL_law 361 = .ok (.iaload, 1) := by decide +kernel
theorem dL_law_362 : decode cL_law 362 = .ok (.aload_n 0, 1) := by decide +kernel
theorem dL_law_363 : decode cL_law 363 = .ok (.iload 4, 2) := by decide +kernel
theorem dL_law_365 : decode cL_law 365 = .ok (.iconst 3, 1) := by decide +kernel
theorem dL_law_366 : decode cL_law 366 = .ok (.iadd, 1) := by decide +kernel
theorem dL_law_367 : decode cL_law 367 = .ok (.iaload, 1) := by decide +kernel
theorem dL_law_368 : decode cL_law 368 = .ok (.invokevirtual 123, 3) := by decide +kernel
theorem dL_law_371 : decode cL_law 371 = .ok (.istore 6, 2) := by decide +kernel
theorem dL_law_373 : decode cL_law 373 = .ok (.aload_n 2, 1) := by decide +kernel
theorem dL_law_374 : decode cL_law 374 = .ok (.invokevirtual 113, 3) := by decide +kernel
theorem dL_law_377 : decode cL_law 377 = .ok (.iload 5, 2) := by decide +kernel
theorem dL_law_379 : decode cL_law 379 = .ok (.if_icmp .eq 5, 3) := by decide +kernel
theorem dL_law_382 : decode cL_law 382 = .ok (.iconst 0, 1) := by decide +kernel
theorem dL_law_383 : decode cL_law 383 = .ok (.ireturn, 1) := by decide +kernel
theorem dL_law_384 : decode cL_law 384 = .ok (.iload 5, 2) := by decide +kernel
theorem dL_law_386 : decode cL_law 386 = .ok (.ifCond .ne 15, 3) := by decide +kernel
theorem dL_law_389 : decode cL_law 389 = .ok (.aload_n 3, 1) := by decide +kernel
theorem dL_law_390 : decode cL_law 390 = .ok (.iconst 0, 1) := by decide +kernel
theorem dL_law_391 : decode cL_law 391 = .ok (.laload, 1) := by decide +kernel
theorem dL_law_392 : decode cL_law 392 = .ok (.iload 6, 2) := by decide +kernel
theorem dL_law_394 : decode cL_law 394 = .ok (.i2l, 1) := by decide +kernel
theorem dL_law_395 : decode cL_law 395 = .ok (.lcmp, 1) := by decide +kernel
theorem dL_law_396 : decode cL_law 396 = .ok (.ifCond .eq 5, 3) := by decide +kernel
theorem dL_law_399 : decode cL_law 399 = .ok (.iconst 0, 1) := by decide +kernel
theorem dL_law_400 : decode cL_law 400 = .ok (.ireturn, 1) := by decide +kernel
theorem dL_law_401 : decode cL_law 401 = .ok (.goto 1693, 3) := by decide +kernel
theorem dL_law_404 : decode cL_law 404 = .ok (.aload_n 1, 1) := by decide +kernel
theorem dL_law_405 : decode cL_law 405 = .ok (.aload_n 0, 1) := by decide +kernel
theorem dL_law_406 : decode cL_law 406 = .ok (.iload 4, 2) := by decide +kernel
theorem dL_law_408 : decode cL_law 408 = .ok (.iconst 1, 1) := by decide +kernel
theorem dL_law_409 : decode cL_law 409 = .ok (.iadd, 1) := by decide +kernel
theorem dL_law_410 : decode cL_law 410 = .ok (.iaload, 1) := by decide +kernel
theorem dL_law_411 : decode cL_law 411 = .ok (.aload_n 0, 1) := by decide +kernel
theorem dL_law_412 : decode cL_law 412 = .ok (.iload 4, 2) := by decide +kernel
theorem dL_law_414 : decode cL_law 414 = .ok (.iconst 2, 1) := by decide +kernel
theorem dL_law_415 : decode cL_law 415 = .ok (.iadd, 1) := by decide +kernel
theorem dL_law_416 : decode cL_law 416 = .ok (.iaload, 1) := by decide +kernel
theorem dL_law_417 : decode cL_law 417 = .ok (.aload_n 0, 1) := by decide +kernel
theorem dL_law_418 : decode cL_law 418 = .ok (.iload 4, 2) := by decide +kernel
theorem dL_law_420 : decode cL_law 420 = .ok (.iconst 3, 1) := by decide +kernel
theorem dL_law_421 : decode cL_law 421 = .ok (.iadd, 1) := by decide +kernel
theorem dL_law_422 : decode cL_law 422 = .ok (.iaload, 1) := by decide +kernel
theorem dL_law_423 : decode cL_law 423 = .ok (.aload_n 3, 1) := by decide +kernel
theorem dL_law_424 : decode cL_law 424 = .ok (.invokestatic 124, 3) := by decide +kernel
theorem dL_law_427 : decode cL_law 427 = .ok (.istore 5, 2) := by decide +kernel
theorem dL_law_429 : decode cL_law 429 = .ok (.aload_n 2, 1) := by decide +kernel
theorem dL_law_430 : decode cL_law 430 = .ok (.aload_n 0, 1) := by decide +kernel
theorem dL_law_431 : decode cL_law 431 = .ok (.iload 4, 2) := by decide +kernel
theorem dL_law_433 : decode cL_law 433 = .ok (.iconst 1, 1) := by decide +kernel
theorem dL_law_434 : decode cL_law 434 = .ok (.iadd, 1) := by decide +kernel
theorem dL_law_435 : decode cL_law 435 = .ok (.iaload, 1) := by decide +kernel
theorem dL_law_436 : decode cL_law 436 = .ok (.aload_n 0, 1) := by decide +kernel
theorem dL_law_437 : decode cL_law 437 = .ok (.iload 4, 2) := by decide +kernel
theorem dL_law_439 : decode cL_law 439 = .ok (.iconst 2, 1) := by decide +kernel
theorem dL_law_440 : decode cL_law 440 = .ok (.iadd, 1) := by decide +kernel
theorem dL_law_441 : decode cL_law 441 = .ok (.iaload, 1) := by decide +kernel
theorem dL_law_442 : decode cL_law 442 = .ok (.aload_n 0, 1) := by decide +kernel
theorem dL_law_443 : decode cL_law 443 = .ok (.iload 4, 2) := by decide +kernel
theorem dL_law_445 : decode cL_law 445 = .ok (.iconst 3, 1) := by decide +kernel
theorem dL_law_446 : decode cL_law 446 = .ok (.iadd, 1) := by decide +kernel
theorem dL_law_447 : decode cL_law 447 = .ok (.iaload, 1) := by decide +kernel
theorem dL_law_448 : decode cL_law 448 = .ok (.invokevirtual 126, 3) := by decide +kernel
theorem dL_law_451 : decode cL_law 451 = .ok (.istore 6, 2) := by decide +kernel
theorem dL_law_453 : decode cL_law 453 = .ok (.aload_n 2, 1) := by decide +kernel
theorem dL_law_454 : decode cL_law 454 = .ok (.invokevirtual 113, 3) := by decide +kernel
theorem dL_law_457 : decode cL_law 457 = .ok (.iload 5, 2) := by decide +kernel
theorem dL_law_459 : decode cL_law 459 = .ok (.if_icmp .eq 5, 3) := by decide +kernel
theorem dL_law_462 : decode cL_law 462 = .ok (.iconst 0, 1) := by decide +kernel
theorem dL_law_463 : decode cL_law 463 = .ok (.ireturn, 1) := by decide +kernel
theorem dL_law_464 : decode cL_law 464 = .ok (.iload 5, 2) := by decide +kernel
theorem dL_law_466 : decode cL_law 466 = .ok (.ifCond .ne 15, 3) := by decide +kernel
theorem dL_law_469 : decode cL_law 469 = .ok (.aload_n 3, 1) := by decide +kernel
theorem dL_law_470 : decode cL_law 470 = .ok (.iconst 0, 1) := by decide +kernel
theorem dL_law_471 : decode cL_law 471 = .ok (.laload, 1) := by decide +kernel
theorem dL_law_472 : decode cL_law 472 = .ok (.iload 6, 2) := by decide +kernel
theorem dL_law_474 : decode cL_law 474 = .ok (.i2l, 1) := by decide +kernel
theorem dL_law_475 : decode cL_law 475 = .ok (.lcmp, 1) := by decide +kernel
theorem dL_law_476 : decode cL_law 476 = .ok (.ifCond .eq 5, 3) := by decide +kernel
theorem dL_law_479 : decode cL_law 479 = .ok (.iconst 0, 1) := by decide +kernel
theorem dL_law_480 : decode cL_law 480 = .ok (.ireturn, 1) := by decide +kernel
theorem dL_law_481 : decode cL_law 481 = .ok (.goto 1613, 3) := by decide +kernel
theorem dL_law_484 : decode cL_law 484 = .ok (.aload_n 1, 1) := by decide +kernel
theorem dL_law_485 : decode cL_law 485 = .ok (.aload_n 0, 1) := by decide +kernel
theorem dL_law_486 : decode cL_law 486 = .ok (.iload 4, 2) := by decide +kernel
theorem dL_law_488 : decode cL_law 488 = .ok (.iconst 1, 1) := by decide +kernel
theorem dL_law_489 : decode cL_law 489 = .ok (.iadd, 1) := by decide +kernel
theorem dL_law_490 : decode cL_law 490 = .ok (.iaload, 1) := by decide +kernel
theorem dL_law_491 : decode cL_law 491 = .ok (.aload_n 0, 1) := by decide +kernel
theorem dL_law_492 : decode cL_law 492 = .ok (.iload 4, 2) := by decide +kernel
theorem dL_law_494 : decode cL_law 494 = .ok (.iconst 2, 1) := by decide +kernel
theorem dL_law_495 : decode cL_law 495 = .ok (.iadd, 1) := by decide +kernel
theorem dL_law_496 : decode cL_law 496 = .ok (.iaload, 1) := by decide +kernel
theorem dL_law_497 : decode cL_law 497 = .ok (.aload_n 0, 1) := by decide +kernel
theorem dL_law_498 : decode cL_law 498 = .ok (.iload 4, 2) := by decide +kernel
theorem dL_law_500 : decode cL_law 500 = .ok (.iconst 3, 1) := by decide +kernel
theorem dL_law_501 : decode cL_law 501 = .ok (.iadd, 1) := by decide +kernel
theorem dL_law_502 : decode cL_law 502 = .ok (.iaload, 1) := by decide +kernel
theorem dL_law_503 : decode cL_law 503 = .ok (.aload_n 0, 1) := by decide +kernel
theorem dL_law_504 : decode cL_law 504 = .ok (.iload 4, 2) := by decide +kernel
theorem dL_law_506 : decode cL_law 506 = .ok (.iconst 4, 1) := by decide +kernel
theorem dL_law_507 : decode cL_law 507 = .ok (.iadd, 1) := by decide +kernel
theorem dL_law_508 : decode cL_law 508 = .ok (.iaload, 1) := by decide +kernel
theorem dL_law_509 : decode cL_law 509 = .ok (.aload_n 0, 1) := by decide +kernel
theorem dL_law_510 : decode cL_law 510 = .ok (.iload 4, 2) := by decide +kernel
theorem dL_law_512 : decode cL_law 512 = .ok (.iconst 5, 1) := by decide +kernel
theorem dL_law_513 : decode cL_law 513 = .ok (.iadd, 1) := by decide +kernel
theorem dL_law_514 : decode cL_law 514 = .ok (.iaload, 1) := by decide +kernel
theorem dL_law_515 : decode cL_law 515 = .ok (.aload_n 3, 1) := by decide +kernel
theorem dL_law_516 : decode cL_law 516 = .ok (.invokestatic 127, 3) := by decide +kernel
theorem dL_law_519 : decode cL_law 519 = .ok (.istore 5, 2) := by decide +kernel
theorem dL_law_521 : decode cL_law 521 = .ok (.aload_n 2, 1) := by decide +kernel
theorem dL_law_522 : decode cL_law 522 = .ok (.aload_n 0, 1) := by decide +kernel
theorem dL_law_523 : decode cL_law 523 = .ok (.iload 4, 2) := by decide +kernel
theorem dL_law_525 : decode cL_law 525 = .ok (.iconst 1, 1) := by decide +kernel
theorem dL_law_526 : decode cL_law 526 = .ok (.iadd, 1) := by decide +kernel
theorem dL_law_527 : decode cL_law 527 = .ok (.iaload, 1) := by decide +kernel
theorem dL_law_528 : decode cL_law 528 = .ok (.aload_n 0, 1) := by decide +kernel
theorem dL_law_529 : decode cL_law 529 = .ok (.iload 4, 2) := by decide +kernel
theorem dL_law_531 : decode cL_law 531 = .ok (.iconst 2, 1) := by decide +kernel
theorem dL_law_532 : decode cL_law 532 = .ok (.iadd, 1) := by decide +kernel
theorem dL_law_533 : decode cL_law 533 = .ok (.iaload, 1) := by decide +kernel
theorem dL_law_534 : decode cL_law 534 = .ok (.aload_n 0, 1) := by decide +kernel
theorem dL_law_535 : decode cL_law 535 = .ok (.iload 4, 2) := by decide +kernel
theorem dL_law_537 : decode cL_law 537 = .ok (.iconst 3, 1) := by decide +kernel
theorem dL_law_538 : decode cL_law 538 = .ok (.iadd, 1) := by decide +kernel
theorem dL_law_539 : decode cL_law 539 = .ok (.iaload, 1) := by decide +kernel
theorem dL_law_540 : decode cL_law 540 = .ok (.aload_n 0, 1) := by decide +kernel
theorem dL_law_541 : decode cL_law 541 = .ok (.iload 4, 2) := by decide +kernel
theorem dL_law_543 : decode cL_law 543 = .ok (.iconst 4, 1) := by decide +kernel
theorem dL_law_544 : decode cL_law 544 = .ok (.iadd, 1) := by decide +kernel
theorem dL_law_545 : decode cL_law 545 = .ok (.iaload, 1) := by decide +kernel
theorem dL_law_546 : decode cL_law 546 = .ok (.aload_n 0, 1) := by decide +kernel
theorem dL_law_547 : decode cL_law 547 = .ok (.iload 4, 2) := by decide +kernel
theorem dL_law_549 : decode cL_law 549 = .ok (.iconst 5, 1) := by decide +kernel
theorem dL_law_550 : decode cL_law 550 = .ok (.iadd, 1) := by decide +kernel
theorem dL_law_551 : decode cL_law 551 = .ok (.iaload, 1) := by decide +kernel
theorem dL_law_552 : decode cL_law 552 = .ok (.invokevirtual 130, 3) := by decide +kernel
theorem dL_law_555 : decode cL_law 555 = .ok (.istore 6, 2) := by decide +kernel
theorem dL_law_557 : decode cL_law 557 = .ok (.aload_n 2, 1) := by decide +kernel
theorem dL_law_558 : decode cL_law 558 = .ok (.invokevirtual 113, 3) := by decide +kernel
theorem dL_law_561 : decode cL_law 561 = .ok (.iload 5, 2) := by decide +kernel
theorem dL_law_563 : decode cL_law 563 = .ok (.if_icmp .eq 5, 3) := by decide +kernel
theorem dL_law_566 : decode cL_law 566 = .ok (.iconst 0, 1) := by decide +kernel
theorem dL_law_567 : decode cL_law 567 = .ok (.ireturn, 1) := by decide +kernel
theorem dL_law_568 : decode cL_law 568 = .ok (.iload 5, 2) := by decide +kernel
theorem dL_law_570 : decode cL_law 570 = .ok (.ifCond .ne 15, 3) := by decide +kernel
theorem dL_law_573 : decode cL_law 573 = .ok (.aload_n 3, 1) := by decide +kernel
theorem dL_law_574 : decode cL_law 574 = .ok (.iconst 0, 1) := by decide +kernel
theorem dL_law_575 : decode cL_law 575 = .ok (.laload, 1) := by decide +kernel
theorem dL_law_576 : decode cL_law 576 = .ok (.iload 6, 2) := by decide +kernel
theorem dL_law_578 : decode cL_law 578 = .ok (.i2l, 1) := by decide +kernel
theorem dL_law_579 : decode cL_law 579 = .ok (.lcmp, 1) := by decide +kernel
theorem dL_law_580 : decode cL_law 580 = .ok (.ifCond .eq 5, 3) := by decide +kernel
theorem dL_law_583 : decode cL_law 583 = .ok (.iconst 0, 1) := by decide +kernel
theorem dL_law_584 : decode cL_law 584 = .ok (.ireturn, 1) := by decide +kernel
theorem dL_law_585 : decode cL_law 585 = .ok (.goto 1509, 3) := by decide +kernel
theorem dL_law_588 : decode cL_law 588 = .ok (.aload_n 1, 1) := by decide +kernel
theorem dL_law_589 : decode cL_law 589 = .ok (.aload_n 0, 1) := by decide +kernel
theorem dL_law_590 : decode cL_law 590 = .ok (.iload 4, 2) := by decide +kernel
theorem dL_law_592 : decode cL_law 592 = .ok (.iconst 1, 1) := by decide +kernel
theorem dL_law_593 : decode cL_law 593 = .ok (.iadd, 1) := by decide +kernel
theorem dL_law_594 : decode cL_law 594 = .ok (.iaload, 1) := by decide +kernel
theorem dL_law_595 : decode cL_law 595 = .ok (.aload_n 0, 1) := by decide +kernel
theorem dL_law_596 : decode cL_law 596 = .ok (.iload 4, 2) := by decide +kernel
theorem dL_law_598 : decode cL_law 598 = .ok (.iconst 2, 1) := by decide +kernel
theorem dL_law_599 : decode cL_law 599 = .ok (.iadd, 1) := by decide +kernel
theorem dL_law_600 : decode cL_law 600 = .ok (.iaload, 1) := by decide +kernel
theorem dL_law_601 : decode cL_law 601 = .ok (.aload_n 0, 1) := by decide +kernel
theorem dL_law_602 : decode cL_law 602 = .ok (.iload 4, 2) := by decide +kernel
theorem dL_law_604 : decode cL_law 604 = .ok (.iconst 3, 1) := by decide +kernel
theorem dL_law_605 : decode cL_law 605 = .ok (.iadd, 1) := by decide +kernel
theorem dL_law_606 : decode cL_law 606 = .ok (.iaload, 1) := by decide +kernel
theorem dL_law_607 : decode cL_law 607 = .ok (.aload_n 0, 1) := by decide +kernel
theorem dL_law_608 : decode cL_law 608 = .ok (.iload 4, 2) := by decide +kernel
theorem dL_law_610 : decode cL_law 610 = .ok (.iconst 4, 1) := by decide +kernel
theorem dL_law_611 : decode cL_law 611 = .ok (.iadd, 1) := by decide +kernel
theorem dL_law_612 : decode cL_law 612 = .ok (.iaload, 1) := by decide +kernel
theorem dL_law_613 : decode cL_law 613 = .ok (.aload_n 0, 1) := by decide +kernel
theorem dL_law_614 : decode cL_law 614 = .ok (.iload 4, 2) := by decide +kernel
theorem dL_law_616 : decode cL_law 616 = .ok (.iconst 5, 1) := by decide +kernel
theorem dL_law_617 : decode cL_law 617 = .ok (.iadd, 1) := by decide +kernel
theorem dL_law_618 : decode cL_law 618 = .ok (.iaload, 1) := by decide +kernel
theorem dL_law_619 : decode cL_law 619 = .ok (.aload_n 3, 1) := by decide +kernel
theorem dL_law_620 : decode cL_law 620 = .ok (.invokestatic 131, 3) := by decide +kernel
theorem dL_law_623 : decode cL_law 623 = .ok (.istore 5, 2) := by decide +kernel
theorem dL_law_625 : decode cL_law 625 = .ok (.aload_n 2, 1) := by decide +kernel
theorem dL_law_626 : decode cL_law 626 = .ok (.aload_n 0, 1) := by decide +kernel
theorem dL_law_627 : decode cL_law 627 = .ok (.iload 4, 2) := by decide +kernel
theorem dL_law_629 : decode cL_law 629 = .ok (.iconst 1, 1) := by decide +kernel
theorem dL_law_630 : decode cL_law 630 = .ok (.iadd, 1) := by decide +kernel
theorem dL_law_631 : decode cL_law 631 = .ok (.iaload, 1) := by decide +kernel
theorem dL_law_632 : decode cL_law 632 = .ok (.aload_n 0, 1) := by decide +kernel
theorem dL_law_633 : decode cL_law 633 = .ok (.iload 4, 2) := by decide +kernel
theorem dL_law_635 : decode cL_law 635 = .ok (.iconst 2, 1) := by decide +kernel
theorem dL_law_636 : decode cL_law 636 = .ok (.iadd, 1) := by decide +kernel
theorem dL_law_637 : decode cL_law 637 = .ok (.iaload, 1) := by decide +kernel
theorem dL_law_638 : decode cL_law 638 = .ok (.aload_n 0, 1) := by decide +kernel
theorem dL_law_639 : decode cL_law 639 = .ok (.iload 4, 2) := by decide +kernel
theorem dL_law_641 : decode cL_law 641 = .ok (.iconst 3, 1) := by decide +kernel
theorem dL_law_642 : decode cL_law 642 = .ok (.iadd, 1) := by decide +kernel
theorem dL_law_643 : decode cL_law 643 = .ok (.iaload, 1) := by decide +kernel
theorem dL_law_644 : decode cL_law 644 = .ok (.aload_n 0, 1) := by decide +kernel
theorem dL_law_645 : decode cL_law 645 = .ok (.iload 4, 2) := by decide +kernel
theorem dL_law_647 : decode cL_law 647 = .ok (.iconst 4, 1) := by decide +kernel
theorem dL_law_648 : decode cL_law 648 = .ok (.iadd, 1) := by decide +kernel
theorem dL_law_649 : decode cL_law 649 = .ok (.iaload, 1) := by decide +kernel
theorem dL_law_650 : decode cL_law 650 = .ok (.aload_n 0, 1) := by decide +kernel
theorem dL_law_651 : decode cL_law 651 = .ok (.iload 4, 2) := by decide +kernel
theorem dL_law_653 : decode cL_law 653 = .ok (.iconst 5, 1) := by decide +kernel
theorem dL_law_654 : decode cL_law 654 = .ok (.iadd, 1) := by decide +kernel
theorem dL_law_655 : decode cL_law 655 = .ok (.iaload, 1) := by decide +kernel
theorem dL_law_656 : decode cL_law 656 = .ok (.invokevirtual 133, 3) := by decide +kernel
theorem dL_law_659 : decode cL_law 659 = .ok (.istore 6, 2) := by decide +kernel
theorem dL_law_661 : decode cL_law 661 = .ok (.aload_n 2, 1) := by decide +kernel
theorem dL_law_662 : decode cL_law 662 = .ok (.invokevirtual 113, 3) := by decide +kernel
theorem dL_law_665 : decode cL_law 665 = .ok (.iload 5, 2) := by decide +kernel
theorem dL_law_667 : decode cL_law 667 = .ok (.if_icmp .eq 5, 3) := by decide +kernel
theorem dL_law_670 : decode cL_law 670 = .ok (.iconst 0, 1) := by decide +kernel
theorem dL_law_671 : decode cL_law 671 = .ok (.ireturn, 1) := by decide +kernel
theorem dL_law_672 : decode cL_law 672 = .ok (.iload 5, 2) := by decide +kernel
theorem dL_law_674 : decode cL_law 674 = .ok (.ifCond .ne 15, 3) := by decide +kernel
theorem dL_law_677 : decode cL_law 677 = .ok (.aload_n 3, 1) := by decide +kernel
theorem dL_law_678 : decode cL_law 678 = .ok (.iconst 0, 1) := by decide +kernel
theorem dL_law_679 : decode cL_law 679 = .ok (.laload, 1) := by decide +kernel
theorem dL_law_680 : decode cL_law 680 = .ok (.iload 6, 2) := by decide +kernel
theorem dL_law_682 : decode cL_law 682 = .ok (.i2l, 1) := by decide +kernel
theorem dL_law_683 : decode cL_law 683 = .ok (.lcmp, 1) := by decide +kernel
theorem dL_law_684 : decode cL_law 684 = .ok (.ifCond .eq 5, 3) := by decide +kernel
theorem dL_law_687 : decode cL_law 687 = .ok (.iconst 0, 1) := by decide +kernel
theorem dL_law_688 : decode cL_law 688 = .ok (.ireturn, 1) := by decide +kernel
theorem dL_law_689 : decode cL_law 689 = .ok (.goto 1405, 3) := by decide +kernel
theorem dL_law_692 : decode cL_law 692 = .ok (.aload_n 1, 1) := by decide +kernel
theorem dL_law_693 : decode cL_law 693 = .ok (.aload_n 0, 1) := by decide +kernel
theorem dL_law_694 : decode cL_law 694 = .ok (.iload 4, 2) := by decide +kernel
theorem dL_law_696 : decode cL_law 696 = .ok (.iconst 1, 1) := by decide +kernel
theorem dL_law_697 : decode cL_law 697 = .ok (.iadd, 1) := by decide +kernel
theorem dL_law_698 : decode cL_law 698 = .ok (.iaload, 1) := by decide +kernel
theorem dL_law_699 : decode cL_law 699 = .ok (.aload_n 0, 1) := by decide +kernel
theorem dL_law_700 : decode cL_law 700 = .ok (.iload 4, 2) := by decide +kernel
theorem dL_law_702 : decode cL_law 702 = .ok (.iconst 2, 1) := by decide +kernel
theorem dL_law_703 : decode cL_law 703 = .ok (.iadd, 1) := by decide +kernel
theorem dL_law_704 : decode cL_law 704 = .ok (.iaload, 1) := by decide +kernel
theorem dL_law_705 : decode cL_law 705 = .ok (.aload_n 3, 1) := by decide +kernel
theorem dL_law_706 : decode cL_law 706 = .ok (.invokestatic 134, 3) := by decide +kernel
theorem dL_law_709 : decode cL_law 709 = .ok (.istore 5, 2) := by decide +kernel
theorem dL_law_711 : decode cL_law 711 = .ok (.aload_n 2, 1) := by decide +kernel
theorem dL_law_712 : decode cL_law 712 = .ok (.aload_n 0, 1) := by decide +kernel
theorem dL_law_713 : decode cL_law 713 = .ok (.iload 4, 2) := by decide +kernel
theorem dL_law_715 : decode cL_law 715 = .ok (.iconst 1, 1) := by decide +kernel
theorem dL_law_716 : decode cL_law 716 = .ok (.iadd, 1) := by decide +kernel
theorem dL_law_717 : decode cL_law 717 = .ok (.iaload, 1) := by decide +kernel
theorem dL_law_718 : decode cL_law 718 = .ok (.aload_n 0, 1) := by decide +kernel
theorem dL_law_719 : decode cL_law 719 = .ok (.iload 4, 2) := by decide +kernel
theorem dL_law_721 : decode cL_law 721 = .ok (.iconst 2, 1) := by decide +kernel
theorem dL_law_722 : decode cL_law 722 = .ok (.iadd, 1) := by decide +kernel
theorem dL_law_723 : decode cL_law 723 = .ok (.iaload, 1) := by decide +kernel
theorem dL_law_724 : decode cL_law 724 = .ok (.invokevirtual 137, 3) := by decide +kernel
theorem dL_law_727 : decode cL_law 727 = .ok (.istore 6, 2) := by decide +kernel
theorem dL_law_729 : decode cL_law 729 = .ok (.aload_n 2, 1) := by decide +kernel
theorem dL_law_730 : decode cL_law 730 = .ok (.invokevirtual 113, 3) := by decide +kernel
theorem dL_law_733 : decode cL_law 733 = .ok (.iload 5, 2) := by decide +kernel
theorem dL_law_735 : decode cL_law 735 = .ok (.if_icmp .eq 5, 3) := by decide +kernel
theorem dL_law_738 : decode cL_law 738 = .ok (.iconst 0, 1) := by decide +kernel
theorem dL_law_739 : decode cL_law 739 = .ok (.ireturn, 1) := by decide +kernel
theorem dL_law_740 : decode cL_law 740 = .ok (.iload 5, 2) := by decide +kernel
theorem dL_law_742 : decode cL_law 742 = .ok (.ifCond .ne 22, 3) := by decide +kernel
theorem dL_law_745 : decode cL_law 745 = .ok (.aload_n 3, 1) := by decide +kernel
theorem dL_law_746 : decode cL_law 746 = .ok (.iconst 0, 1) := by decide +kernel
theorem dL_law_747 : decode cL_law 747 = .ok (.laload, 1) := by decide +kernel
theorem dL_law_748 : decode cL_law 748 = .ok (.iload 6, 2) := by decide +kernel
theorem dL_law_750 : decode cL_law 750 = .ok (.ifCond .eq 7, 3) := by decide +kernel
theorem dL_law_753 : decode cL_law 753 = .ok (.lconst 1, 1) := by decide +kernel
theorem dL_law_754 : decode cL_law 754 = .ok (.goto 4, 3) := by decide +kernel
theorem dL_law_757 : decode cL_law 757 = .ok (.lconst 0, 1) := by decide +kernel
theorem dL_law_758 : decode cL_law 758 = .ok (.lcmp, 1) := by decide +kernel
theorem dL_law_759 : decode cL_law 759 = .ok (.ifCond .eq 5, 3) := by decide +kernel
theorem dL_law_762 : decode cL_law 762 = .ok (.iconst 0, 1) := by decide +kernel
theorem dL_law_763 : decode cL_law 763 = .ok (.ireturn, 1) := by decide +kernel
theorem dL_law_764 : decode cL_law 764 = .ok (.goto 1330, 3) := by decide +kernel
theorem dL_law_767 : decode cL_law 767 = .ok (.aload_n 1, 1) := by decide +kernel
theorem dL_law_768 : decode cL_law 768 = .ok (.aload_n 0, 1) := by decide +kernel
theorem dL_law_769 : decode cL_law 769 = .ok (.iload 4, 2) := by decide +kernel
theorem dL_law_771 : decode cL_law 771 = .ok (.iconst 1, 1) := by decide +kernel
theorem dL_law_772 : decode cL_law 772 = .ok (.iadd, 1) := by decide +kernel
theorem dL_law_773 : decode cL_law 773 = .ok (.iaload, 1) := by decide +kernel
theorem dL_law_774 : decode cL_law 774 = .ok (.aload_n 0, 1) := by decide +kernel
theorem dL_law_775 : decode cL_law 775 = .ok (.iload 4, 2) := by decide +kernel
theorem dL_law_777 : decode cL_law 777 = .ok (.iconst 2, 1) := by decide +kernel
theorem dL_law_778 : decode cL_law 778 = .ok (.iadd, 1) := by decide +kernel
theorem dL_law_779 : decode cL_law 779 = .ok (.iaload, 1) := by decide +kernel
theorem dL_law_780 : decode cL_law 780 = .ok (.aload_n 3, 1) := by decide +kernel
theorem dL_law_781 : decode cL_law 781 = .ok (.invokestatic 138, 3) := by decide +kernel
theorem dL_law_784 : decode cL_law 784 = .ok (.istore 5, 2) := by decide +kernel
theorem dL_law_786 : decode cL_law 786 = .ok (.aload_n 2, 1) := by decide +kernel
theorem dL_law_787 : decode cL_law 787 = .ok (.aload_n 0, 1) := by decide +kernel
theorem dL_law_788 : decode cL_law 788 = .ok (.iload 4, 2) := by decide +kernel
theorem dL_law_790 : decode cL_law 790 = .ok (.iconst 1, 1) := by decide +kernel
theorem dL_law_791 : decode cL_law 791 = .ok (.iadd, 1) := by decide +kernel
theorem dL_law_792 : decode cL_law 792 = .ok (.iaload, 1) := by decide +kernel
theorem dL_law_793 : decode cL_law 793 = .ok (.aload_n 0, 1) := by decide +kernel
theorem dL_law_794 : decode cL_law 794 = .ok (.iload 4, 2) := by decide +kernel
theorem dL_law_796 : decode cL_law 796 = .ok (.iconst 2, 1) := by decide +kernel
theorem dL_law_797 : decode cL_law 797 = .ok (.iadd, 1) := by decide +kernel
theorem dL_law_798 : decode cL_law 798 = .ok (.iaload, 1) := by decide +kernel
theorem dL_law_799 : decode cL_law 799 = .ok (.invokevirtual 140, 3) := by decide +kernel
theorem dL_law_802 : decode cL_law 802 = .ok (.istore 6, 2) := by decide +kernel
theorem dL_law_804 : decode cL_law 804 = .ok (.aload_n 2, 1) := by decide +kernel
theorem dL_law_805 : decode cL_law 805 = .ok (.invokevirtual 113, 3) := by decide +kernel
theorem dL_law_808 : decode cL_law 808 = .ok (.iload 5, 2) := by decide +kernel
theorem dL_law_810 : decode cL_law 810 = .ok (.if_icmp .eq 5, 3) := by decide +kernel
theorem dL_law_813 : decode cL_law 813 = .ok (.iconst 0, 1) := by decide +kernel
theorem dL_law_814 : decode cL_law 814 = .ok (.ireturn, 1) := by decide +kernel
theorem dL_law_815 : decode cL_law 815 = .ok (.iload 5, 2) := by decide +kernel
theorem dL_law_817 : decode cL_law 817 = .ok (.ifCond .ne 22, 3) := by decide +kernel
theorem dL_law_820 : decode cL_law 820 = .ok (.aload_n 3, 1) := by decide +kernel
theorem dL_law_821 : decode cL_law 821 = .ok (.iconst 0, 1) := by decide +kernel
theorem dL_law_822 : decode cL_law 822 = .ok (.laload, 1) := by decide +kernel
theorem dL_law_823 : decode cL_law 823 = .ok (.iload 6, 2) := by decide +kernel
theorem dL_law_825 : decode cL_law 825 = .ok (.ifCond .eq 7, 3) := by decide +kernel
theorem dL_law_828 : decode cL_law 828 = .ok (.lconst 1, 1) := by decide +kernel
theorem dL_law_829 : decode cL_law 829 = .ok (.goto 4, 3) := by decide +kernel
theorem dL_law_832 : decode cL_law 832 = .ok (.lconst 0, 1) := by decide +kernel
theorem dL_law_833 : decode cL_law 833 = .ok (.lcmp, 1) := by decide +kernel
theorem dL_law_834 : decode cL_law 834 = .ok (.ifCond .eq 5, 3) := by decide +kernel
theorem dL_law_837 : decode cL_law 837 = .ok (.iconst 0, 1) := by decide +kernel
theorem dL_law_838 : decode cL_law 838 = .ok (.ireturn, 1) := by decide +kernel
theorem dL_law_839 : decode cL_law 839 = .ok (.goto 1255, 3) := by decide +kernel
theorem dL_law_842 : decode cL_law 842 = .ok (.aload_n 1, 1) := by decide +kernel
theorem dL_law_843 : decode cL_law 843 = .ok (.aload_n 0, 1) := by decide +kernel
theorem dL_law_844 : decode cL_law 844 = .ok (.iload 4, 2) := by decide +kernel
theorem dL_law_846 : decode cL_law 846 = .ok (.iconst 1, 1) := by decide +kernel
theorem dL_law_847 : decode cL_law 847 = .ok (.iadd, 1) := by decide +kernel
theorem dL_law_848 : decode cL_law 848 = .ok (.iaload, 1) := by decide +kernel
theorem dL_law_849 : decode cL_law 849 = .ok (.aload_n 3, 1) := by decide +kernel
theorem dL_law_850 : decode cL_law 850 = .ok (.invokestatic 141, 3) := by decide +kernel
theorem dL_law_853 : decode cL_law 853 = .ok (.istore 5, 2) := by decide +kernel
theorem dL_law_855 : decode cL_law 855 = .ok (.aload_n 2, 1) := by decide +kernel
theorem dL_law_856 : decode cL_law 856 = .ok (.aload_n 0, 1) := by decide +kernel
theorem dL_law_857 : decode cL_law 857 = .ok (.iload 4, 2) := by decide +kernel
theorem dL_law_859 : decode cL_law 859 = .ok (.iconst 1, 1) := by decide +kernel
theorem dL_law_860 : decode cL_law 860 = .ok (.iadd, 1) := by decide +kernel
theorem dL_law_861 : decode cL_law 861 = .ok (.iaload, 1) := by decide +kernel
theorem dL_law_862 : decode cL_law 862 = .ok (.invokevirtual 144, 3) := by decide +kernel
theorem dL_law_865 : decode cL_law 865 = .ok (.istore 6, 2) := by decide +kernel
theorem dL_law_867 : decode cL_law 867 = .ok (.aload_n 2, 1) := by decide +kernel
theorem dL_law_868 : decode cL_law 868 = .ok (.invokevirtual 113, 3) := by decide +kernel
theorem dL_law_871 : decode cL_law 871 = .ok (.iload 5, 2) := by decide +kernel
theorem dL_law_873 : decode cL_law 873 = .ok (.if_icmp .eq 5, 3) := by decide +kernel
theorem dL_law_876 : decode cL_law 876 = .ok (.iconst 0, 1) := by decide +kernel
theorem dL_law_877 : decode cL_law 877 = .ok (.ireturn, 1) := by decide +kernel
theorem dL_law_878 : decode cL_law 878 = .ok (.iload 5, 2) := by decide +kernel
theorem dL_law_880 : decode cL_law 880 = .ok (.ifCond .ne 15, 3) := by decide +kernel
theorem dL_law_883 : decode cL_law 883 = .ok (.aload_n 3, 1) := by decide +kernel
theorem dL_law_884 : decode cL_law 884 = .ok (.iconst 0, 1) := by decide +kernel
theorem dL_law_885 : decode cL_law 885 = .ok (.laload, 1) := by decide +kernel
theorem dL_law_886 : decode cL_law 886 = .ok (.iload 6, 2) := by decide +kernel
theorem dL_law_888 : decode cL_law 888 = .ok (.i2l, 1) := by decide +kernel
theorem dL_law_889 : decode cL_law 889 = .ok (.lcmp, 1) := by decide +kernel
theorem dL_law_890 : decode cL_law 890 = .ok (.ifCond .eq 5, 3) := by decide +kernel
theorem dL_law_893 : decode cL_law 893 = .ok (.iconst 0, 1) := by decide +kernel
theorem dL_law_894 : decode cL_law 894 = .ok (.ireturn, 1) := by decide +kernel
theorem dL_law_895 : decode cL_law 895 = .ok (.goto 1199, 3) := by decide +kernel
theorem dL_law_898 : decode cL_law 898 = .ok (.aload_n 1, 1) := by decide +kernel
theorem dL_law_899 : decode cL_law 899 = .ok (.aload_n 0, 1) := by decide +kernel
theorem dL_law_900 : decode cL_law 900 = .ok (.iload 4, 2) := by decide +kernel
theorem dL_law_902 : decode cL_law 902 = .ok (.iconst 1, 1) := by decide +kernel
theorem dL_law_903 : decode cL_law 903 = .ok (.iadd, 1) := by decide +kernel
theorem dL_law_904 : decode cL_law 904 = .ok (.iaload, 1) := by decide +kernel
theorem dL_law_905 : decode cL_law 905 = .ok (.aload_n 0, 1) := by decide +kernel
theorem dL_law_906 : decode cL_law 906 = .ok (.iload 4, 2) := by decide +kernel
theorem dL_law_908 : decode cL_law 908 = .ok (.iconst 2, 1) := by decide +kernel
theorem dL_law_909 : decode cL_law 909 = .ok (.iadd, 1) := by decide +kernel
theorem dL_law_910 : decode cL_law 910 = .ok (.iaload, 1) := by decide +kernel
theorem dL_law_911 : decode cL_law 911 = .ok (.aload_n 0, 1) := by decide +kernel
theorem dL_law_912 : decode cL_law 912 = .ok (.iload 4, 2) := by decide +kernel
theorem dL_law_914 : decode cL_law 914 = .ok (.iconst 3, 1) := by decide +kernel
theorem dL_law_915 : decode cL_law 915 = .ok (.iadd, 1) := by decide +kernel
theorem dL_law_916 : decode cL_law 916 = .ok (.iaload, 1) := by decide +kernel
theorem dL_law_917 : decode cL_law 917 = .ok (.aload_n 3, 1) := by decide +kernel
theorem dL_law_918 : decode cL_law 918 = .ok (.invokestatic 145, 3) := by decide +kernel
theorem dL_law_921 : decode cL_law 921 = .ok (.istore 5, 2) := by decide +kernel
theorem dL_law_923 : decode cL_law 923 = .ok (.aload_n 2, 1) := by decide +kernel
theorem dL_law_924 : decode cL_law 924 = .ok (.aload_n 0, 1) := by decide +kernel
theorem dL_law_925 : decode cL_law 925 = .ok (.iload 4, 2) := by decide +kernel
theorem dL_law_927 : decode cL_law 927 = .ok (.iconst 1, 1) := by decide +kernel
theorem dL_law_928 : decode cL_law 928 = .ok (.iadd, 1) := by decide +kernel
theorem dL_law_929 : decode cL_law 929 = .ok (.iaload, 1) := by decide +kernel
theorem dL_law_930 : decode cL_law 930 = .ok (.aload_n 0, 1) := by decide +kernel
theorem dL_law_931 : decode cL_law 931 = .ok (.iload 4, 2) := by decide +kernel
theorem dL_law_933 : decode cL_law 933 = .ok (.iconst 2, 1) := by decide +kernel
theorem dL_law_934 : decode cL_law 934 = .ok (.iadd, 1) := by decide +kernel
theorem dL_law_935 : decode cL_law 935 = .ok (.iaload, 1) := by decide +kernel
theorem dL_law_936 : decode cL_law 936 = .ok (.aload_n 0, 1) := by decide +kernel
theorem dL_law_937 : decode cL_law 937 = .ok (.iload 4, 2) := by decide +kernel
theorem dL_law_939 : decode cL_law 939 = .ok (.iconst 3, 1) := by decide +kernel
theorem dL_law_940 : decode cL_law 940 = .ok (.iadd, 1) := by decide +kernel
theorem dL_law_941 : decode cL_law 941 = .ok (.iaload, 1) := by decide +kernel
theorem dL_law_942 : decode cL_law 942 = .ok (.invokevirtual 147, 3) := by decide +kernel
theorem dL_law_945 : decode cL_law 945 = .ok (.istore 6, 2) := by decide +kernel
theorem dL_law_947 : decode cL_law 947 = .ok (.aload_n 2, 1) := by decide +kernel
theorem dL_law_948 : decode cL_law 948 = .ok (.invokevirtual 113, 3) := by decide +kernel
theorem dL_law_951 : decode cL_law 951 = .ok (.iload 5, 2) := by decide +kernel
theorem dL_law_953 : decode cL_law 953 = .ok (.if_icmp .eq 5, 3) := by decide +kernel
theorem dL_law_956 : decode cL_law 956 = .ok (.iconst 0, 1) := by decide +kernel
theorem dL_law_957 : decode cL_law 957 = .ok (.ireturn, 1) := by decide +kernel
theorem dL_law_958 : decode cL_law 958 = .ok (.iload 5, 2) := by decide +kernel
theorem dL_law_960 : decode cL_law 960 = .ok (.ifCond .ne 15, 3) := by decide +kernel
theorem dL_law_963 : decode cL_law 963 = .ok (.aload_n 3, 1) := by decide +kernel
theorem dL_law_964 : decode cL_law 964 = .ok (.iconst 0, 1) := by decide +kernel
theorem dL_law_965 : decode cL_law 965 = .ok (.laload, 1) := by decide +kernel
theorem dL_law_966 : decode cL_law 966 = .ok (.iload 6, 2) := by decide +kernel
theorem dL_law_968 : decode cL_law 968 = .ok (.i2l, 1) := by decide +kernel
theorem dL_law_969 : decode cL_law 969 = .ok (.lcmp, 1) := by decide +kernel
theorem dL_law_970 : decode cL_law 970 = .ok (.ifCond .eq 5, 3) := by decide +kernel
theorem dL_law_973 : decode cL_law 973 = .ok (.iconst 0, 1) := by decide +kernel
theorem dL_law_974 : decode cL_law 974 = .ok (.ireturn, 1) := by decide +kernel
theorem dL_law_975 : decode cL_law 975 = .ok (.goto 1119, 3) := by decide +kernel
theorem dL_law_978 : decode cL_law 978 = .ok (.aload_n 1, 1) := by decide +kernel
theorem dL_law_979 : decode cL_law 979 = .ok (.aload_n 0, 1) := by decide +kernel
theorem dL_law_980 : decode cL_law 980 = .ok (.iload 4, 2) := by decide +kernel
theorem dL_law_982 : decode cL_law 982 = .ok (.iconst 1, 1) := by decide +kernel
theorem dL_law_983 : decode cL_law 983 = .ok (.iadd, 1) := by decide +kernel
theorem dL_law_984 : decode cL_law 984 = .ok (.iaload, 1) := by decide +kernel
theorem dL_law_985 : decode cL_law 985 = .ok (.aload_n 0, 1) := by decide +kernel
theorem dL_law_986 : decode cL_law 986 = .ok (.iload 4, 2) := by decide +kernel
theorem dL_law_988 : decode cL_law 988 = .ok (.iconst 2, 1) := by decide +kernel
theorem dL_law_989 : decode cL_law 989 = .ok (.iadd, 1) := by decide +kernel
theorem dL_law_990 : decode cL_law 990 = .ok (.iaload, 1) := by decide +kernel
theorem dL_law_991 : decode cL_law 991 = .ok (.aload_n 0, 1) := by decide +kernel
theorem dL_law_992 : decode cL_law 992 = .ok (.iload 4, 2) := by decide +kernel
theorem dL_law_994 : decode cL_law 994 = .ok (.iconst 3, 1) := by decide +kernel
theorem dL_law_995 : decode cL_law 995 = .ok (.iadd, 1) := by decide +kernel
theorem dL_law_996 : decode cL_law 996 = .ok (.iaload, 1) := by decide +kernel
theorem dL_law_997 : decode cL_law 997 = .ok (.aload_n 3, 1) := by decide +kernel
theorem dL_law_998 : decode cL_law 998 = .ok (.invokestatic 148, 3) := by decide +kernel
theorem dL_law_1001 : decode cL_law 1001 = .ok (.istore 5, 2) := by decide +kernel
theorem dL_law_1003 : decode cL_law 1003 = .ok (.aload_n 2, 1) := by decide +kernel
theorem dL_law_1004 : decode cL_law 1004 = .ok (.aload_n 0, 1) := by decide +kernel
theorem dL_law_1005 : decode cL_law 1005 = .ok (.iload 4, 2) := by decide +kernel
theorem dL_law_1007 : decode cL_law 1007 = .ok (.iconst 1, 1) := by decide +kernel
theorem dL_law_1008 : decode cL_law 1008 = .ok (.iadd, 1) := by decide +kernel
theorem dL_law_1009 : decode cL_law 1009 = .ok (.iaload, 1) := by decide +kernel
theorem dL_law_1010 : decode cL_law 1010 = .ok (.aload_n 0, 1) := by decide +kernel
theorem dL_law_1011 : decode cL_law 1011 = .ok (.iload 4, 2) := by decide +kernel
theorem dL_law_1013 : decode cL_law 1013 = .ok (.iconst 2, 1) := by decide +kernel
theorem dL_law_1014 : decode cL_law 1014 = .ok (.iadd, 1) := by decide +kernel
theorem dL_law_1015 : decode cL_law 1015 = .ok (.iaload, 1) := by decide +kernel
theorem dL_law_1016 : decode cL_law 1016 = .ok (.aload_n 0, 1) := by decide +kernel
theorem dL_law_1017 : decode cL_law 1017 = .ok (.iload 4, 2) := by decide +kernel
theorem dL_law_1019 : decode cL_law 1019 = .ok (.iconst 3, 1) := by decide +kernel
theorem dL_law_1020 : decode cL_law 1020 = .ok (.iadd, 1) := by decide +kernel
theorem dL_law_1021 : decode cL_law 1021 = .ok (.iaload, 1) := by decide +kernel
theorem dL_law_1022 : decode cL_law 1022 = .ok (.invokevirtual 150, 3) := by decide +kernel
theorem dL_law_1025 : decode cL_law 1025 = .ok (.istore 6, 2) := by decide +kernel
theorem dL_law_1027 : decode cL_law 1027 = .ok (.aload_n 2, 1) := by decide +kernel
theorem dL_law_1028 : decode cL_law 1028 = .ok (.invokevirtual 113, 3) := by decide +kernel
theorem dL_law_1031 : decode cL_law 1031 = .ok (.iload 5, 2) := by decide +kernel
theorem dL_law_1033 : decode cL_law 1033 = .ok (.if_icmp .eq 5, 3) := by decide +kernel
theorem dL_law_1036 : decode cL_law 1036 = .ok (.iconst 0, 1) := by decide +kernel
theorem dL_law_1037 : decode cL_law 1037 = .ok (.ireturn, 1) := by decide +kernel
theorem dL_law_1038 : decode cL_law 1038 = .ok (.iload 5, 2) := by decide +kernel
theorem dL_law_1040 : decode cL_law 1040 = .ok (.ifCond .ne 15, 3) := by decide +kernel
theorem dL_law_1043 : decode cL_law 1043 = .ok (.aload_n 3, 1) := by decide +kernel
theorem dL_law_1044 : decode cL_law 1044 = .ok (.iconst 0, 1) := by decide +kernel
theorem dL_law_1045 : decode cL_law 1045 = .ok (.laload, 1) := by decide +kernel
theorem dL_law_1046 : decode cL_law 1046 = .ok (.iload 6, 2) := by decide +kernel
theorem dL_law_1048 : decode cL_law 1048 = .ok (.i2l, 1) := by decide +kernel
theorem dL_law_1049 : decode cL_law 1049 = .ok (.lcmp, 1) := by decide +kernel
theorem dL_law_1050 : decode cL_law 1050 = .ok (.ifCond .eq 5, 3) := by decide +kernel
theorem dL_law_1053 : decode cL_law 1053 = .ok (.iconst 0, 1) := by decide +kernel
theorem dL_law_1054 : decode cL_law 1054 = .ok (.ireturn, 1) := by decide +kernel
theorem dL_law_1055 : decode cL_law 1055 = .ok (.goto 1039, 3) := by decide +kernel
theorem dL_law_1058 : decode cL_law 1058 = .ok (.aload_n 1, 1) := by decide +kernel
theorem dL_law_1059 : decode cL_law 1059 = .ok (.aload_n 0, 1) := by decide +kernel
theorem dL_law_1060 : decode cL_law 1060 = .ok (.iload 4, 2) := by decide +kernel
theorem dL_law_1062 : decode cL_law 1062 = .ok (.iconst 1, 1) := by decide +kernel
theorem dL_law_1063 : decode cL_law 1063 = .ok (.iadd, 1) := by decide +kernel
theorem dL_law_1064 : decode cL_law 1064 = .ok (.iaload, 1) := by decide +kernel
theorem dL_law_1065 : decode cL_law 1065 = .ok (.aload_n 3, 1) := by decide +kernel
theorem dL_law_1066 : decode cL_law 1066 = .ok (.invokestatic 151, 3) := by decide +kernel
theorem dL_law_1069 : decode cL_law 1069 = .ok (.istore 5, 2) := by decide +kernel
theorem dL_law_1071 : decode cL_law 1071 = .ok (.aload_n 2, 1) := by decide +kernel
theorem dL_law_1072 : decode cL_law 1072 = .ok (.aload_n 0, 1) := by decide +kernel
theorem dL_law_1073 : decode cL_law 1073 = .ok (.iload 4, 2) := by decide +kernel
theorem dL_law_1075 : decode cL_law 1075 = .ok (.iconst 1, 1) := by decide +kernel
theorem dL_law_1076 : decode cL_law 1076 = .ok (.iadd, 1) := by decide +kernel
theorem dL_law_1077 : decode cL_law 1077 = .ok (.iaload, 1) := by decide +kernel
theorem dL_law_1078 : decode cL_law 1078 = .ok (.invokevirtual 153, 3) := by decide +kernel
theorem dL_law_1081 : decode cL_law 1081 = .ok (.istore 6, 2) := by decide +kernel
theorem dL_law_1083 : decode cL_law 1083 = .ok (.aload_n 2, 1) := by decide +kernel
theorem dL_law_1084 : decode cL_law 1084 = .ok (.invokevirtual 113, 3) := by decide +kernel
theorem dL_law_1087 : decode cL_law 1087 = .ok (.iload 5, 2) := by decide +kernel
theorem dL_law_1089 : decode cL_law 1089 = .ok (.if_icmp .eq 5, 3) := by decide +kernel
theorem dL_law_1092 : decode cL_law 1092 = .ok (.iconst 0, 1) := by decide +kernel
theorem dL_law_1093 : decode cL_law 1093 = .ok (.ireturn, 1) := by decide +kernel
theorem dL_law_1094 : decode cL_law 1094 = .ok (.iload 5, 2) := by decide +kernel
theorem dL_law_1096 : decode cL_law 1096 = .ok (.ifCond .ne 15, 3) := by decide +kernel
theorem dL_law_1099 : decode cL_law 1099 = .ok (.aload_n 3, 1) := by decide +kernel
theorem dL_law_1100 : decode cL_law 1100 = .ok (.iconst 0, 1) := by decide +kernel
theorem dL_law_1101 : decode cL_law 1101 = .ok (.laload, 1) := by decide +kernel
theorem dL_law_1102 : decode cL_law 1102 = .ok (.iload 6, 2) := by decide +kernel
theorem dL_law_1104 : decode cL_law 1104 = .ok (.i2l, 1) := by decide +kernel
theorem dL_law_1105 : decode cL_law 1105 = .ok (.lcmp, 1) := by decide +kernel
theorem dL_law_1106 : decode cL_law 1106 = .ok (.ifCond .eq 5, 3) := by decide +kernel
theorem dL_law_1109 : decode cL_law 1109 = .ok (.iconst 0, 1) := by decide +kernel
theorem dL_law_1110 : decode cL_law 1110 = .ok (.ireturn, 1) := by decide +kernel
theorem dL_law_1111 : decode cL_law 1111 = .ok (.goto 983, 3) := by decide +kernel
theorem dL_law_1114 : decode cL_law 1114 = .ok (.aload_n 1, 1) := by decide +kernel
theorem dL_law_1115 : decode cL_law 1115 = .ok (.aload_n 0, 1) := by decide +kernel
theorem dL_law_1116 : decode cL_law 1116 = .ok (.iload 4, 2) := by decide +kernel
theorem dL_law_1118 : decode cL_law 1118 = .ok (.iconst 1, 1) := by decide +kernel
theorem dL_law_1119 : decode cL_law 1119 = .ok (.iadd, 1) := by decide +kernel
theorem dL_law_1120 : decode cL_law 1120 = .ok (.iaload, 1) := by decide +kernel
theorem dL_law_1121 : decode cL_law 1121 = .ok (.aload_n 0, 1) := by decide +kernel
theorem dL_law_1122 : decode cL_law 1122 = .ok (.iload 4, 2) := by decide +kernel
theorem dL_law_1124 : decode cL_law 1124 = .ok (.iconst 2, 1) := by decide +kernel
theorem dL_law_1125 : decode cL_law 1125 = .ok (.iadd, 1) := by decide +kernel
theorem dL_law_1126 : decode cL_law 1126 = .ok (.iaload, 1) := by decide +kernel
theorem dL_law_1127 : decode cL_law 1127 = .ok (.aload_n 0, 1) := by decide +kernel
theorem dL_law_1128 : decode cL_law 1128 = .ok (.iload 4, 2) := by decide +kernel
theorem dL_law_1130 : decode cL_law 1130 = .ok (.iconst 3, 1) := by decide +kernel
theorem dL_law_1131 : decode cL_law 1131 = .ok (.iadd, 1) := by decide +kernel
theorem dL_law_1132 : decode cL_law 1132 = .ok (.iaload, 1) := by decide +kernel
theorem dL_law_1133 : decode cL_law 1133 = .ok (.ifCond .eq 7, 3) := by decide +kernel
theorem dL_law_1136 : decode cL_law 1136 = .ok (.iconst 1, 1) := by decide +kernel
theorem dL_law_1137 : decode cL_law 1137 = .ok (.goto 4, 3) := by decide +kernel
theorem dL_law_1140 : decode cL_law 1140 = .ok (.iconst 0, 1) := by decide +kernel
theorem dL_law_1141 : decode cL_law 1141 = .ok (.aload_n 3, 1) := by decide +kernel
theorem dL_law_1142 : decode cL_law 1142 = .ok (.invokestatic 154, 3) := by decide +kernel
theorem dL_law_1145 : decode cL_law 1145 = .ok (.istore 5, 2) := by decide +kernel
theorem dL_law_1147 : decode cL_law 1147 = .ok (.aload_n 2, 1) := by decide +kernel
theorem dL_law_1148 : decode cL_law 1148 = .ok (.aload_n 0, 1) := by decide +kernel
theorem dL_law_1149 : decode cL_law 1149 = .ok (.iload 4, 2) := by decide +kernel
theorem dL_law_1151 : decode cL_law 1151 = .ok (.iconst 1, 1) := by decide +kernel
theorem dL_law_1152 : decode cL_law 1152 = .ok (.iadd, 1) := by decide +kernel
theorem dL_law_1153 : decode cL_law 1153 = .ok (.iaload, 1) := by decide +kernel
theorem dL_law_1154 : decode cL_law 1154 = .ok (.aload_n 0, 1) := by decide +kernel
theorem dL_law_1155 : decode cL_law 1155 = .ok (.iload 4, 2) := by decide +kernel
theorem dL_law_1157 : decode cL_law 1157 = .ok (.iconst 2, 1) := by decide +kernel
theorem dL_law_1158 : decode cL_law 1158 = .ok (.iadd, 1) := by decide +kernel
theorem dL_law_1159 : decode cL_law 1159 = .ok (.iaload, 1) := by decide +kernel
theorem dL_law_1160 : decode cL_law 1160 = .ok (.aload_n 0, 1) := by decide +kernel
theorem dL_law_1161 : decode cL_law 1161 = .ok (.iload 4, 2) := by decide +kernel
theorem dL_law_1163 : decode cL_law 1163 = .ok (.iconst 3, 1) := by decide +kernel
theorem dL_law_1164 : decode cL_law 1164 = .ok (.iadd, 1) := by decide +kernel
theorem dL_law_1165 : decode cL_law 1165 = .ok (.iaload, 1) := by decide +kernel
theorem dL_law_1166 : decode cL_law 1166 = .ok (.ifCond .eq 7, 3) := by decide +kernel
theorem dL_law_1169 : decode cL_law 1169 = .ok (.iconst 1, 1) := by decide +kernel
theorem dL_law_1170 : decode cL_law 1170 = .ok (.goto 4, 3) := by decide +kernel
theorem dL_law_1173 : decode cL_law 1173 = .ok (.iconst 0, 1) := by decide +kernel
theorem dL_law_1174 : decode cL_law 1174 = .ok (.invokevirtual 157, 3) := by decide +kernel
theorem dL_law_1177 : decode cL_law 1177 = .ok (.istore 6, 2) := by decide +kernel
theorem dL_law_1179 : decode cL_law 1179 = .ok (.aload_n 2, 1) := by decide +kernel
theorem dL_law_1180 : decode cL_law 1180 = .ok (.invokevirtual 113, 3) := by decide +kernel
theorem dL_law_1183 : decode cL_law 1183 = .ok (.iload 5, 2) := by decide +kernel
theorem dL_law_1185 : decode cL_law 1185 = .ok (.if_icmp .eq 5, 3) := by decide +kernel
theorem dL_law_1188 : decode cL_law 1188 = .ok (.iconst 0, 1) := by decide +kernel
theorem dL_law_1189 : decode cL_law 1189 = .ok (.ireturn, 1) := by decide +kernel
theorem dL_law_1190 : decode cL_law 1190 = .ok (.iload 5, 2) := by decide +kernel
theorem dL_law_1192 : decode cL_law 1192 = .ok (.ifCond .ne 15, 3) := by decide +kernel
theorem dL_law_1195 : decode cL_law 1195 = .ok (.aload_n 3, 1) := by decide +kernel
theorem dL_law_1196 : decode cL_law 1196 = .ok (.iconst 0, 1) := by decide +kernel
theorem dL_law_1197 : decode cL_law 1197 = .ok (.laload, 1) := by decide +kernel
theorem dL_law_1198 : decode cL_law 1198 = .ok (.iload 6, 2) := by decide +kernel
theorem dL_law_1200 : decode cL_law 1200 = .ok (.i2l, 1) := by decide +kernel
theorem dL_law_1201 : decode cL_law 1201 = .ok (.lcmp, 1) := by decide +kernel
theorem dL_law_1202 : decode cL_law 1202 = .ok (.ifCond .eq 5, 3) := by decide +kernel
theorem dL_law_1205 : decode cL_law 1205 = .ok (.iconst 0, 1) := by decide +kernel
theorem dL_law_1206 : decode cL_law 1206 = .ok (.ireturn, 1) := by decide +kernel
theorem dL_law_1207 : decode cL_law 1207 = .ok (.goto 887, 3) := by decide +kernel
theorem dL_law_1210 : decode cL_law 1210 = .ok (.aload_n 1, 1) := by decide +kernel
theorem dL_law_1211 : decode cL_law 1211 = .ok (.aload_n 0, 1) := by decide +kernel
theorem dL_law_1212 : decode cL_law 1212 = .ok (.iload 4, 2) := by decide +kernel
theorem dL_law_1214 : decode cL_law 1214 = .ok (.iconst 1, 1) := by decide +kernel
theorem dL_law_1215 : decode cL_law 1215 = .ok (.iadd, 1) := by decide +kernel
theorem dL_law_1216 : decode cL_law 1216 = .ok (.iaload, 1) := by decide +kernel
theorem dL_law_1217 : decode cL_law 1217 = .ok (.aload_n 0, 1) := by decide +kernel
theorem dL_law_1218 : decode cL_law 1218 = .ok (.iload 4, 2) := by decide +kernel
theorem dL_law_1220 : decode cL_law 1220 = .ok (.iconst 2, 1) := by decide +kernel
theorem dL_law_1221 : decode cL_law 1221 = .ok (.iadd, 1) := by decide +kernel
theorem dL_law_1222 : decode cL_law 1222 = .ok (.iaload, 1) := by decide +kernel
theorem dL_law_1223 : decode cL_law 1223 = .ok (.aload_n 3, 1) := by decide +kernel
theorem dL_law_1224 : decode cL_law 1224 = .ok (.invokestatic 158, 3) := by decide +kernel
theorem dL_law_1227 : decode cL_law 1227 = .ok (.istore 5, 2) := by decide +kernel
theorem dL_law_1229 : decode cL_law 1229 = .ok (.aload_n 2, 1) := by decide +kernel
theorem dL_law_1230 : decode cL_law 1230 = .ok (.aload_n 0, 1) := by decide +kernel
theorem dL_law_1231 : decode cL_law 1231 = .ok (.iload 4, 2) := by decide +kernel
theorem dL_law_1233 : decode cL_law 1233 = .ok (.iconst 1, 1) := by decide +kernel
theorem dL_law_1234 : decode cL_law 1234 = .ok (.iadd, 1) := by decide +kernel
theorem dL_law_1235 : decode cL_law 1235 = .ok (.iaload, 1) := by decide +kernel
theorem dL_law_1236 : decode cL_law 1236 = .ok (.aload_n 0, 1) := by decide +kernel
theorem dL_law_1237 : decode cL_law 1237 = .ok (.iload 4, 2) := by decide +kernel
theorem dL_law_1239 : decode cL_law 1239 = .ok (.iconst 2, 1) := by decide +kernel
theorem dL_law_1240 : decode cL_law 1240 = .ok (.iadd, 1) := by decide +kernel
theorem dL_law_1241 : decode cL_law 1241 = .ok (.iaload, 1) := by decide +kernel
theorem dL_law_1242 : decode cL_law 1242 = .ok (.invokevirtual 160, 3) := by decide +kernel
theorem dL_law_1245 : decode cL_law 1245 = .ok (.istore 6, 2) := by decide +kernel
theorem dL_law_1247 : decode cL_law 1247 = .ok (.aload_n 2, 1) := by decide +kernel
theorem dL_law_1248 : decode cL_law 1248 = .ok (.invokevirtual 113, 3) := by decide +kernel
theorem dL_law_1251 : decode cL_law 1251 = .ok (.iload 5, 2) := by decide +kernel
theorem dL_law_1253 : decode cL_law 1253 = .ok (.if_icmp .eq 5, 3) := by decide +kernel
theorem dL_law_1256 : decode cL_law 1256 = .ok (.iconst 0, 1) := by decide +kernel
theorem dL_law_1257 : decode cL_law 1257 = .ok (.ireturn, 1) := by decide +kernel
theorem dL_law_1258 : decode cL_law 1258 = .ok (.iload 5, 2) := by decide +kernel
theorem dL_law_1260 : decode cL_law 1260 = .ok (.ifCond .ne 15, 3) := by decide +kernel
theorem dL_law_1263 : decode cL_law 1263 = .ok (.aload_n 3, 1) := by decide +kernel
theorem dL_law_1264 : decode cL_law 1264 = .ok (.iconst 0, 1) := by decide +kernel
theorem dL_law_1265 : decode cL_law 1265 = .ok (.laload, 1) := by decide +kernel
theorem dL_law_1266 : decode cL_law 1266 = .ok (.iload 6, 2) := by decide +kernel
theorem dL_law_1268 : decode cL_law 1268 = .ok (.i2l, 1) := by decide +kernel
theorem dL_law_1269 : decode cL_law 1269 = .ok (.lcmp, 1) := by decide +kernel
theorem dL_law_1270 : decode cL_law 1270 = .ok (.ifCond .eq 5, 3) := by decide +kernel
theorem dL_law_1273 : decode cL_law 1273 = .ok (.iconst 0, 1) := by decide +kernel
theorem dL_law_1274 : decode cL_law 1274 = .ok (.ireturn, 1) := by decide +kernel
theorem dL_law_1275 : decode cL_law 1275 = .ok (.goto 819, 3) := by decide +kernel
theorem dL_law_1278 : decode cL_law 1278 = .ok (.aload_n 1, 1) := by decide +kernel
theorem dL_law_1279 : decode cL_law 1279 = .ok (.aload_n 0, 1) := by decide +kernel
theorem dL_law_1280 : decode cL_law 1280 = .ok (.iload 4, 2) := by decide +kernel
theorem dL_law_1282 : decode cL_law 1282 = .ok (.iconst 1, 1) := by decide +kernel
theorem dL_law_1283 : decode cL_law 1283 = .ok (.iadd, 1) := by decide +kernel
theorem dL_law_1284 : decode cL_law 1284 = .ok (.iaload, 1) := by decide +kernel
theorem dL_law_1285 : decode cL_law 1285 = .ok (.aload_n 3, 1) := by decide +kernel
theorem dL_law_1286 : decode cL_law 1286 = .ok (.invokestatic 161, 3) := by decide +kernel
theorem dL_law_1289 : decode cL_law 1289 = .ok (.istore 5, 2) := by decide +kernel
theorem dL_law_1291 : decode cL_law 1291 = .ok (.aload_n 2, 1) := by decide +kernel
theorem dL_law_1292 : decode cL_law 1292 = .ok (.aload_n 0, 1) := by decide +kernel
theorem dL_law_1293 : decode cL_law 1293 = .ok (.iload 4, 2) := by decide +kernel
theorem dL_law_1295 : decode cL_law 1295 = .ok (.iconst 1, 1) := by decide +kernel
theorem dL_law_1296 : decode cL_law 1296 = .ok (.iadd, 1) := by decide +kernel
theorem dL_law_1297 : decode cL_law 1297 = .ok (.iaload, 1) := by decide +kernel
theorem dL_law_1298 : decode cL_law 1298 = .ok (.invokevirtual 163, 3) := by decide +kernel
theorem dL_law_1301 : decode cL_law 1301 = .ok (.istore 6, 2) := by decide +kernel
theorem dL_law_1303 : decode cL_law 1303 = .ok (.aload_n 2, 1) := by decide +kernel
theorem dL_law_1304 : decode cL_law 1304 = .ok (.invokevirtual 113, 3) := by decide +kernel
theorem dL_law_1307 : decode cL_law 1307 = .ok (.iload 5, 2) := by decide +kernel
theorem dL_law_1309 : decode cL_law 1309 = .ok (.if_icmp .eq 5, 3) := by decide +kernel
theorem dL_law_1312 : decode cL_law 1312 = .ok (.iconst 0, 1) := by decide +kernel
theorem dL_law_1313 : decode cL_law 1313 = .ok (.ireturn, 1) := by decide +kernel
theorem dL_law_1314 : decode cL_law 1314 = .ok (.iload 5, 2) := by decide +kernel
theorem dL_law_1316 : decode cL_law 1316 = .ok (.ifCond .ne 15, 3) := by decide +kernel
theorem dL_law_1319 : decode cL_law 1319 = .ok (.aload_n 3, 1) := by decide +kernel
theorem dL_law_1320 : decode cL_law 1320 = .ok (.iconst 0, 1) := by decide +kernel
theorem dL_law_1321 : decode cL_law 1321 = .ok (.laload, 1) := by decide +kernel
theorem dL_law_1322 : decode cL_law 1322 = .ok (.iload 6, 2) := by decide +kernel
theorem dL_law_1324 : decode cL_law 1324 = .ok (.i2l, 1) := by decide +kernel
theorem dL_law_1325 : decode cL_law 1325 = .ok (.lcmp, 1) := by decide +kernel
theorem dL_law_1326 : decode cL_law 1326 = .ok (.ifCond .eq 5, 3) := by decide +kernel
theorem dL_law_1329 : decode cL_law 1329 = .ok (.iconst 0, 1) := by decide +kernel
theorem dL_law_1330 : decode cL_law 1330 = .ok (.ireturn, 1) := by decide +kernel
theorem dL_law_1331 : decode cL_law 1331 = .ok (.goto 763, 3) := by decide +kernel
theorem dL_law_1334 : decode cL_law 1334 = .ok (.aload_n 1, 1) := by decide +kernel
theorem dL_law_1335 : decode cL_law 1335 = .ok (.aload_n 0, 1) := by decide +kernel
theorem dL_law_1336 : decode cL_law 1336 = .ok (.iload 4, 2) := by decide +kernel
theorem dL_law_1338 : decode cL_law 1338 = .ok (.iconst 1, 1) := by decide +kernel
theorem dL_law_1339 : decode cL_law 1339 = .ok (.iadd, 1) := by decide +kernel
theorem dL_law_1340 : decode cL_law 1340 = .ok (.iaload, 1) := by decide +kernel
theorem dL_law_1341 : decode cL_law 1341 = .ok (.aload_n 3, 1) := by decide +kernel
theorem dL_law_1342 : decode cL_law 1342 = .ok (.invokestatic 164, 3) := by decide +kernel
theorem dL_law_1345 : decode cL_law 1345 = .ok (.istore 5, 2) := by decide +kernel
theorem dL_law_1347 : decode cL_law 1347 = .ok (.aload_n 2, 1) := by decide +kernel
theorem dL_law_1348 : decode cL_law 1348 = .ok (.aload_n 0, 1) := by decide +kernel
theorem dL_law_1349 : decode cL_law 1349 = .ok (.iload 4, 2) := by decide +kernel
theorem dL_law_1351 : decode cL_law 1351 = .ok (.iconst 1, 1) := by decide +kernel
theorem dL_law_1352 : decode cL_law 1352 = .ok (.iadd, 1) := by decide +kernel
theorem dL_law_1353 : decode cL_law 1353 = .ok (.iaload, 1) := by decide +kernel
theorem dL_law_1354 : decode cL_law 1354 = .ok (.invokevirtual 166, 3) := by decide +kernel
theorem dL_law_1357 : decode cL_law 1357 = .ok (.istore 6, 2) := by decide +kernel
theorem dL_law_1359 : decode cL_law 1359 = .ok (.aload_n 2, 1) := by decide +kernel
theorem dL_law_1360 : decode cL_law 1360 = .ok (.invokevirtual 113, 3) := by decide +kernel
theorem dL_law_1363 : decode cL_law 1363 = .ok (.iload 5, 2) := by decide +kernel
theorem dL_law_1365 : decode cL_law 1365 = .ok (.if_icmp .eq 5, 3) := by decide +kernel
theorem dL_law_1368 : decode cL_law 1368 = .ok (.iconst 0, 1) := by decide +kernel
theorem dL_law_1369 : decode cL_law 1369 = .ok (.ireturn, 1) := by decide +kernel
theorem dL_law_1370 : decode cL_law 1370 = .ok (.iload 5, 2) := by decide +kernel
theorem dL_law_1372 : decode cL_law 1372 = .ok (.ifCond .ne 15, 3) := by decide +kernel
theorem dL_law_1375 : decode cL_law 1375 = .ok (.aload_n 3, 1) := by decide +kernel
theorem dL_law_1376 : decode cL_law 1376 = .ok (.iconst 0, 1) := by decide +kernel
theorem dL_law_1377 : decode cL_law 1377 = .ok (.laload, 1) := by decide +kernel
theorem dL_law_1378 : decode cL_law 1378 = .ok (.iload 6, 2) := by decide +kernel
theorem dL_law_1380 : decode cL_law 1380 = .ok (.i2l, 1) := by decide +kernel
theorem dL_law_1381 : decode cL_law 1381 = .ok (.lcmp, 1) := by decide +kernel
theorem dL_law_1382 : decode cL_law 1382 = .ok (.ifCond .eq 5, 3) := by decide +kernel
theorem dL_law_1385 : decode cL_law 1385 = .ok (.iconst 0, 1) := by decide +kernel
theorem dL_law_1386 : decode cL_law 1386 = .ok (.ireturn, 1) := by decide +kernel
theorem dL_law_1387 : decode cL_law 1387 = .ok (.goto 707, 3) := by decide +kernel
theorem dL_law_1390 : decode cL_law 1390 = .ok (.aload_n 1, 1) := by decide +kernel
theorem dL_law_1391 : decode cL_law 1391 = .ok (.aload_n 0, 1) := by decide +kernel
theorem dL_law_1392 : decode cL_law 1392 = .ok (.iload 4, 2) := by decide +kernel
theorem dL_law_1394 : decode cL_law 1394 = .ok (.iconst 1, 1) := by decide +kernel
theorem dL_law_1395 : decode cL_law 1395 = .ok (.iadd, 1) := by decide +kernel
theorem dL_law_1396 : decode cL_law 1396 = .ok (.iaload, 1) := by decide +kernel
theorem dL_law_1397 : decode cL_law 1397 = .ok (.aload_n 0, 1) := by decide +kernel
theorem dL_law_1398 : decode cL_law 1398 = .ok (.iload 4, 2) := by decide +kernel
theorem dL_law_1400 : decode cL_law 1400 = .ok (.iconst 2, 1) := by decide +kernel
theorem dL_law_1401 : decode cL_law 1401 = .ok (.iadd, 1) := by decide +kernel
theorem dL_law_1402 : decode cL_law 1402 = .ok (.iaload, 1) := by decide +kernel
theorem dL_law_1403 : decode cL_law 1403 = .ok (.aload_n 0, 1) := by decide +kernel
theorem dL_law_1404 : decode cL_law 1404 = .ok (.iload 4, 2) := by decide +kernel
theorem dL_law_1406 : decode cL_law 1406 = .ok (.iconst 3, 1) := by decide +kernel
theorem dL_law_1407 : decode cL_law 1407 = .ok (.iadd, 1) := by decide +kernel
theorem dL_law_1408 : decode cL_law 1408 = .ok (.iaload, 1) := by decide +kernel
theorem dL_law_1409 : decode cL_law 1409 = .ok (.aload_n 3, 1) := by decide +kernel
theorem dL_law_1410 : decode cL_law 1410 = .ok (.invokestatic 167, 3) := by decide +kernel
theorem dL_law_1413 : decode cL_law 1413 = .ok (.istore 5, 2) := by decide +kernel
theorem dL_law_1415 : decode cL_law 1415 = .ok (.aload_n 2, 1) := by decide +kernel
theorem dL_law_1416 : decode cL_law 1416 = .ok (.aload_n 0, 1) := by decide +kernel
theorem dL_law_1417 : decode cL_law 1417 = .ok (.iload 4, 2) := by decide +kernel
theorem dL_law_1419 : decode cL_law 1419 = .ok (.iconst 1, 1) := by decide +kernel
theorem dL_law_1420 : decode cL_law 1420 = .ok (.iadd, 1) := by decide +kernel
theorem dL_law_1421 : decode cL_law 1421 = .ok (.iaload, 1) := by decide +kernel
theorem dL_law_1422 : decode cL_law 1422 = .ok (.aload_n 0, 1) := by decide +kernel
theorem dL_law_1423 : decode cL_law 1423 = .ok (.iload 4, 2) := by decide +kernel
theorem dL_law_1425 : decode cL_law 1425 = .ok (.iconst 2, 1) := by decide +kernel
theorem dL_law_1426 : decode cL_law 1426 = .ok (.iadd, 1) := by decide +kernel
theorem dL_law_1427 : decode cL_law 1427 = .ok (.iaload, 1) := by decide +kernel
theorem dL_law_1428 : decode cL_law 1428 = .ok (.aload_n 0, 1) := by decide +kernel
theorem dL_law_1429 : decode cL_law 1429 = .ok (.iload 4, 2) := by decide +kernel
theorem dL_law_1431 : decode cL_law 1431 = .ok (.iconst 3, 1) := by decide +kernel
theorem dL_law_1432 : decode cL_law 1432 = .ok (.iadd, 1) := by decide +kernel
theorem dL_law_1433 : decode cL_law 1433 = .ok (.iaload, 1) := by decide +kernel
theorem dL_law_1434 : decode cL_law 1434 = .ok (.invokevirtual 169, 3) := by decide +kernel
theorem dL_law_1437 : decode cL_law 1437 = .ok (.istore 6, 2) := by decide +kernel
theorem dL_law_1439 : decode cL_law 1439 = .ok (.aload_n 2, 1) := by decide +kernel
theorem dL_law_1440 : decode cL_law 1440 = .ok (.invokevirtual 113, 3) := by decide +kernel
theorem dL_law_1443 : decode cL_law 1443 = .ok (.iload 5, 2) := by decide +kernel
theorem dL_law_1445 : decode cL_law 1445 = .ok (.if_icmp .eq 5, 3) := by decide +kernel
theorem dL_law_1448 : decode cL_law 1448 = .ok (.iconst 0, 1) := by decide +kernel
theorem dL_law_1449 : decode cL_law 1449 = .ok (.ireturn, 1) := by decide +kernel
theorem dL_law_1450 : decode cL_law 1450 = .ok (.iload 5, 2) := by decide +kernel
theorem dL_law_1452 : decode cL_law 1452 = .ok (.ifCond .ne 15, 3) := by decide +kernel
theorem dL_law_1455 : decode cL_law 1455 = .ok (.aload_n 3, 1) := by decide +kernel
theorem dL_law_1456 : decode cL_law 1456 = .ok (.iconst 0, 1) := by decide +kernel
theorem dL_law_1457 : decode cL_law 1457 = .ok (.laload, 1) := by decide +kernel
theorem dL_law_1458 : decode cL_law 1458 = .ok (.iload 6, 2) := by decide +kernel
theorem dL_law_1460 : decode cL_law 1460 = .ok (.i2l, 1) := by decide +kernel
theorem dL_law_1461 : decode cL_law 1461 = .ok (.lcmp, 1) := by decide +kernel
theorem dL_law_1462 : decode cL_law 1462 = .ok (.ifCond .eq 5, 3) := by decide +kernel
theorem dL_law_1465 : decode cL_law 1465 = .ok (.iconst 0, 1) := by decide +kernel
theorem dL_law_1466 : decode cL_law 1466 = .ok (.ireturn, 1) := by decide +kernel
theorem dL_law_1467 : decode cL_law 1467 = .ok (.goto 627, 3) := by decide +kernel
theorem dL_law_1470 : decode cL_law 1470 = .ok (.aload_n 1, 1) := by decide +kernel
theorem dL_law_1471 : decode cL_law 1471 = .ok (.aload_n 0, 1) := by decide +kernel
theorem dL_law_1472 : decode cL_law 1472 = .ok (.iload 4, 2) := by decide +kernel
theorem dL_law_1474 : decode cL_law 1474 = .ok (.iconst 1, 1) := by decide +kernel
theorem dL_law_1475 : decode cL_law 1475 = .ok (.iadd, 1) := by decide +kernel
theorem dL_law_1476 : decode cL_law 1476 = .ok (.iaload, 1) := by decide +kernel
theorem dL_law_1477 : decode cL_law 1477 = .ok (.aload_n 0, 1) := by decide +kernel
theorem dL_law_1478 : decode cL_law 1478 = .ok (.iload 4, 2) := by decide +kernel
theorem dL_law_1480 : decode cL_law 1480 = .ok (.iconst 2, 1) := by decide +kernel
theorem dL_law_1481 : decode cL_law 1481 = .ok (.iadd, 1) := by decide +kernel
theorem dL_law_1482 : decode cL_law 1482 = .ok (.iaload, 1) := by decide +kernel
theorem dL_law_1483 : decode cL_law 1483 = .ok (.aload_n 0, 1) := by decide +kernel
theorem dL_law_1484 : decode cL_law 1484 = .ok (.iload 4, 2) := by decide +kernel
theorem dL_law_1486 : decode cL_law 1486 = .ok (.iconst 3, 1) := by decide +kernel
theorem dL_law_1487 : decode cL_law 1487 = .ok (.iadd, 1) := by decide +kernel
theorem dL_law_1488 : decode cL_law 1488 = .ok (.iaload, 1) := by decide +kernel
theorem dL_law_1489 : decode cL_law 1489 = .ok (.aload_n 0, 1) := by decide +kernel
theorem dL_law_1490 : decode cL_law 1490 = .ok (.iload 4, 2) := by decide +kernel
theorem dL_law_1492 : decode cL_law 1492 = .ok (.iconst 4, 1) := by decide +kernel
theorem dL_law_1493 : decode cL_law 1493 = .ok (.iadd, 1) := by decide +kernel
theorem dL_law_1494 : decode cL_law 1494 = .ok (.iaload, 1) := by decide +kernel
theorem dL_law_1495 : decode cL_law 1495 = .ok (.aload_n 3, 1) := by decide +kernel
theorem dL_law_1496 : decode cL_law 1496 = .ok (.invokestatic 170, 3) := by decide +kernel
theorem dL_law_1499 : decode cL_law 1499 = .ok (.istore 5, 2) := by decide +kernel
theorem dL_law_1501 : decode cL_law 1501 = .ok (.aload_n 2, 1) := by decide +kernel
theorem dL_law_1502 : decode cL_law 1502 = .ok (.aload_n 0, 1) := by decide +kernel
theorem dL_law_1503 : decode cL_law 1503 = .ok (.iload 4, 2) := by decide +kernel
theorem dL_law_1505 : decode cL_law 1505 = .ok (.iconst 1, 1) := by decide +kernel
theorem dL_law_1506 : decode cL_law 1506 = .ok (.iadd, 1) := by decide +kernel
theorem dL_law_1507 : decode cL_law 1507 = .ok (.iaload, 1) := by decide +kernel
theorem dL_law_1508 : decode cL_law 1508 = .ok (.aload_n 0, 1) := by decide +kernel
theorem dL_law_1509 : decode cL_law 1509 = .ok (.iload 4, 2) := by decide +kernel
theorem dL_law_1511 : decode cL_law 1511 = .ok (.iconst 2, 1) := by decide +kernel
theorem dL_law_1512 : decode cL_law 1512 = .ok (.iadd, 1) := by decide +kernel
theorem dL_law_1513 : decode cL_law 1513 = .ok (.iaload, 1) := by decide +kernel
theorem dL_law_1514 : decode cL_law 1514 = .ok (.aload_n 0, 1) := by decide +kernel
theorem dL_law_1515 : decode cL_law 1515 = .ok (.iload 4, 2) := by decide +kernel
theorem dL_law_1517 : decode cL_law 1517 = .ok (.iconst 3, 1) := by decide +kernel
theorem dL_law_1518 : decode cL_law 1518 = .ok (.iadd, 1) := by decide +kernel
theorem dL_law_1519 : decode cL_law 1519 = .ok (.iaload, 1) := by decide +kernel
theorem dL_law_1520 : decode cL_law 1520 = .ok (.aload_n 0, 1) := by decide +kernel
theorem dL_law_1521 : decode cL_law 1521 = .ok (.iload 4, 2) := by decide +kernel
theorem dL_law_1523 : decode cL_law 1523 = .ok (.iconst 4, 1) := by decide +kernel
theorem dL_law_1524 : decode cL_law 1524 = .ok (.iadd, 1) := by decide +kernel
theorem dL_law_1525 : decode cL_law 1525 = .ok (.iaload, 1) := by decide +kernel
theorem dL_law_1526 : decode cL_law 1526 = .ok (.invokevirtual 173, 3) := by decide +kernel
theorem dL_law_1529 : decode cL_law 1529 = .ok (.istore 6, 2) := by decide +kernel
theorem dL_law_1531 : decode cL_law 1531 = .ok (.aload_n 2, 1) := by decide +kernel
theorem dL_law_1532 : decode cL_law 1532 = .ok (.invokevirtual 113, 3) := by decide +kernel
theorem dL_law_1535 : decode cL_law 1535 = .ok (.iload 5, 2) := by decide +kernel
theorem dL_law_1537 : decode cL_law 1537 = .ok (.if_icmp .eq 5, 3) := by decide +kernel
theorem dL_law_1540 : decode cL_law 1540 = .ok (.iconst 0, 1) := by decide +kernel
theorem dL_law_1541 : decode cL_law 1541 = .ok (.ireturn, 1) := by decide +kernel
theorem dL_law_1542 : decode cL_law 1542 = .ok (.iload 5, 2) := by decide +kernel
theorem dL_law_1544 : decode cL_law 1544 = .ok (.ifCond .ne 15, 3) := by decide +kernel
theorem dL_law_1547 : decode cL_law 1547 = .ok (.aload_n 3, 1) := by decide +kernel
theorem dL_law_1548 : decode cL_law 1548 = .ok (.iconst 0, 1) := by decide +kernel
theorem dL_law_1549 : decode cL_law 1549 = .ok (.laload, 1) := by decide +kernel
theorem dL_law_1550 : decode cL_law 1550 = .ok (.iload 6, 2) := by decide +kernel
theorem dL_law_1552 : decode cL_law 1552 = .ok (.i2l, 1) := by decide +kernel
theorem dL_law_1553 : decode cL_law 1553 = .ok (.lcmp, 1) := by decide +kernel
theorem dL_law_1554 : decode cL_law 1554 = .ok (.ifCond .eq 5, 3) := by decide +kernel
theorem dL_law_1557 : decode cL_law 1557 = .ok (.iconst 0, 1) := by decide +kernel
theorem dL_law_1558 : decode cL_law 1558 = .ok (.ireturn, 1) := by decide +kernel
theorem dL_law_1559 : decode cL_law 1559 = .ok (.goto 535, 3) := by decide +kernel
theorem dL_law_1562 : decode cL_law 1562 = .ok (.aload_n 1, 1) := by decide +kernel
theorem dL_law_1563 : decode cL_law 1563 = .ok (.aload_n 0, 1) := by decide +kernel
theorem dL_law_1564 : decode cL_law 1564 = .ok (.iload 4, 2) := by decide +kernel
theorem dL_law_1566 : decode cL_law 1566 = .ok (.iconst 1, 1) := by decide +kernel
theorem dL_law_1567 : decode cL_law 1567 = .ok (.iadd, 1) := by decide +kernel
theorem dL_law_1568 : decode cL_law 1568 = .ok (.iaload, 1) := by decide +kernel
theorem dL_law_1569 : decode cL_law 1569 = .ok (.aload_n 0, 1) := by decide +kernel
theorem dL_law_1570 : decode cL_law 1570 = .ok (.iload 4, 2) := by decide +kernel
theorem dL_law_1572 : decode cL_law 1572 = .ok (.iconst 2, 1) := by decide +kernel
theorem dL_law_1573 : decode cL_law 1573 = .ok (.iadd, 1) := by decide +kernel
theorem dL_law_1574 : decode cL_law 1574 = .ok (.iaload, 1) := by decide +kernel
theorem dL_law_1575 : decode cL_law 1575 = .ok (.aload_n 3, 1) := by decide +kernel
theorem dL_law_1576 : decode cL_law 1576 = .ok (.invokestatic 174, 3) := by decide +kernel
theorem dL_law_1579 : decode cL_law 1579 = .ok (.istore 5, 2) := by decide +kernel
theorem dL_law_1581 : decode cL_law 1581 = .ok (.aload_n 2, 1) := by decide +kernel
theorem dL_law_1582 : decode cL_law 1582 = .ok (.aload_n 0, 1) := by decide +kernel
theorem dL_law_1583 : decode cL_law 1583 = .ok (.iload 4, 2) := by decide +kernel
theorem dL_law_1585 : decode cL_law 1585 = .ok (.iconst 1, 1) := by decide +kernel
theorem dL_law_1586 : decode cL_law 1586 = .ok (.iadd, 1) := by decide +kernel
theorem dL_law_1587 : decode cL_law 1587 = .ok (.iaload, 1) := by decide +kernel
theorem dL_law_1588 : decode cL_law 1588 = .ok (.aload_n 0, 1) := by decide +kernel
theorem dL_law_1589 : decode cL_law 1589 = .ok (.iload 4, 2) := by decide +kernel
theorem dL_law_1591 : decode cL_law 1591 = .ok (.iconst 2, 1) := by decide +kernel
theorem dL_law_1592 : decode cL_law 1592 = .ok (.iadd, 1) := by decide +kernel
theorem dL_law_1593 : decode cL_law 1593 = .ok (.iaload, 1) := by decide +kernel
theorem dL_law_1594 : decode cL_law 1594 = .ok (.invokevirtual 176, 3) := by decide +kernel
theorem dL_law_1597 : decode cL_law 1597 = .ok (.istore 6, 2) := by decide +kernel
theorem dL_law_1599 : decode cL_law 1599 = .ok (.aload_n 2, 1) := by decide +kernel
theorem dL_law_1600 : decode cL_law 1600 = .ok (.invokevirtual 113, 3) := by decide +kernel
theorem dL_law_1603 : decode cL_law 1603 = .ok (.iload 5, 2) := by decide +kernel
theorem dL_law_1605 : decode cL_law 1605 = .ok (.if_icmp .eq 5, 3) := by decide +kernel
theorem dL_law_1608 : decode cL_law 1608 = .ok (.iconst 0, 1) := by decide +kernel
theorem dL_law_1609 : decode cL_law 1609 = .ok (.ireturn, 1) := by decide +kernel
theorem dL_law_1610 : decode cL_law 1610 = .ok (.iload 5, 2) := by decide +kernel
theorem dL_law_1612 : decode cL_law 1612 = .ok (.ifCond .ne 15, 3) := by decide +kernel
theorem dL_law_1615 : decode cL_law 1615 = .ok (.aload_n 3, 1) := by decide +kernel
theorem dL_law_1616 : decode cL_law 1616 = .ok (.iconst 0, 1) := by decide +kernel
theorem dL_law_1617 : decode cL_law 1617 = .ok (.laload, 1) := by decide +kernel
theorem dL_law_1618 : decode cL_law 1618 = .ok (.iload 6, 2) := by decide +kernel
theorem dL_law_1620 : decode cL_law 1620 = .ok (.i2l, 1) := by decide +kernel
theorem dL_law_1621 : decode cL_law 1621 = .ok (.lcmp, 1) := by decide +kernel
theorem dL_law_1622 : decode cL_law 1622 = .ok (.ifCond .eq 5, 3) := by decide +kernel
theorem dL_law_1625 : decode cL_law 1625 = .ok (.iconst 0, 1) := by decide +kernel
theorem dL_law_1626 : decode cL_law 1626 = .ok (.ireturn, 1) := by decide +kernel
theorem dL_law_1627 : decode cL_law 1627 = .ok (.goto 467, 3) := by decide +kernel
theorem dL_law_1630 : decode cL_law 1630 = .ok (.aload_n 1, 1) := by decide +kernel
theorem dL_law_1631 : decode cL_law 1631 = .ok (.aload_n 0, 1) := by decide +kernel
theorem dL_law_1632 : decode cL_law 1632 = .ok (.iload 4, 2) := by decide +kernel
theorem dL_law_1634 : decode cL_law 1634 = .ok (.iconst 1, 1) := by decide +kernel
theorem dL_law_1635 : decode cL_law 1635 = .ok (.iadd, 1) := by decide +kernel
theorem dL_law_1636 : decode cL_law 1636 = .ok (.iaload, 1) := by decide +kernel
theorem dL_law_1637 : decode cL_law 1637 = .ok (.aload_n 0, 1) := by decide +kernel
theorem dL_law_1638 : decode cL_law 1638 = .ok (.iload 4, 2) := by decide +kernel
theorem dL_law_1640 : decode cL_law 1640 = .ok (.iconst 2, 1) := by decide +kernel
theorem dL_law_1641 : decode cL_law 1641 = .ok (.iadd, 1) := by decide +kernel
theorem dL_law_1642 : decode cL_law 1642 = .ok (.iaload, 1) := by decide +kernel
theorem dL_law_1643 : decode cL_law 1643 = .ok (.aload_n 0, 1) := by decide +kernel
theorem dL_law_1644 : decode cL_law 1644 = .ok (.iload 4, 2) := by decide +kernel
theorem dL_law_1646 : decode cL_law 1646 = .ok (.iconst 3, 1) := by decide +kernel
theorem dL_law_1647 : decode cL_law 1647 = .ok (.iadd, 1) := by decide +kernel
theorem dL_law_1648 : decode cL_law 1648 = .ok (.iaload, 1) := by decide +kernel
theorem dL_law_1649 : decode cL_law 1649 = .ok (.aload_n 3, 1) := by decide +kernel
theorem dL_law_1650 : decode cL_law 1650 = .ok (.invokestatic 177, 3) := by decide +kernel
theorem dL_law_1653 : decode cL_law 1653 = .ok (.istore 5, 2) := by decide +kernel
theorem dL_law_1655 : decode cL_law 1655 = .ok (.aload_n 2, 1) := by decide +kernel
theorem dL_law_1656 : decode cL_law 1656 = .ok (.aload_n 0, 1) := by decide +kernel
theorem dL_law_1657 : decode cL_law 1657 = .ok (.iload 4, 2) := by decide +kernel
theorem dL_law_1659 : decode cL_law 1659 = .ok (.iconst 1, 1) := by decide +kernel
theorem dL_law_1660 : decode cL_law 1660 = .ok (.iadd, 1) := by decide +kernel
theorem dL_law_1661 : decode cL_law 1661 = .ok (.iaload, 1) := by decide +kernel
theorem dL_law_1662 : decode cL_law 1662 = .ok (.aload_n 0, 1) := by decide +kernel
theorem dL_law_1663 : decode cL_law 1663 = .ok (.iload 4, 2) := by decide +kernel
theorem dL_law_1665 : decode cL_law 1665 = .ok (.iconst 2, 1) := by decide +kernel
theorem dL_law_1666 : decode cL_law 1666 = .ok (.iadd, 1) := by decide +kernel
theorem dL_law_1667 : decode cL_law 1667 = .ok (.iaload, 1) := by decide +kernel
theorem dL_law_1668 : decode cL_law 1668 = .ok (.aload_n 0, 1) := by decide +kernel
theorem dL_law_1669 : decode cL_law 1669 = .ok (.iload 4, 2) := by decide +kernel
theorem dL_law_1671 : decode cL_law 1671 = .ok (.iconst 3, 1) := by decide +kernel
theorem dL_law_1672 : decode cL_law 1672 = .ok (.iadd, 1) := by decide +kernel
theorem dL_law_1673 : decode cL_law 1673 = .ok (.iaload, 1) := by decide +kernel
theorem dL_law_1674 : decode cL_law 1674 = .ok (.invokevirtual 179, 3) := by decide +kernel
theorem dL_law_1677 : decode cL_law 1677 = .ok (.istore 6, 2) := by decide +kernel
theorem dL_law_1679 : decode cL_law 1679 = .ok (.aload_n 2, 1) := by decide +kernel
theorem dL_law_1680 : decode cL_law 1680 = .ok (.invokevirtual 113, 3) := by decide +kernel
theorem dL_law_1683 : decode cL_law 1683 = .ok (.iload 5, 2) := by decide +kernel
theorem dL_law_1685 : decode cL_law 1685 = .ok (.if_icmp .eq 5, 3) := by decide +kernel
theorem dL_law_1688 : decode cL_law 1688 = .ok (.iconst 0, 1) := by decide +kernel
theorem dL_law_1689 : decode cL_law 1689 = .ok (.ireturn, 1) := by decide +kernel
theorem dL_law_1690 : decode cL_law 1690 = .ok (.iload 5, 2) := by decide +kernel
theorem dL_law_1692 : decode cL_law 1692 = .ok (.ifCond .ne 15, 3) := by decide +kernel
theorem dL_law_1695 : decode cL_law 1695 = .ok (.aload_n 3, 1) := by decide +kernel
theorem dL_law_1696 : decode cL_law 1696 = .ok (.iconst 0, 1) := by decide +kernel
theorem dL_law_1697 : decode cL_law 1697 = .ok (.laload, 1) := by decide +kernel
theorem dL_law_1698 : decode cL_law 1698 = .ok (.iload 6, 2) := by decide +kernel
theorem dL_law_1700 : decode cL_law 1700 = .ok (.i2l, 1) := by decide +kernel
theorem dL_law_1701 : decode cL_law 1701 = .ok (.lcmp, 1) := by decide +kernel
theorem dL_law_1702 : decode cL_law 1702 = .ok (.ifCond .eq 5, 3) := by decide +kernel
theorem dL_law_1705 : decode cL_law 1705 = .ok (.iconst 0, 1) := by decide +kernel
theorem dL_law_1706 : decode cL_law 1706 = .ok (.ireturn, 1) := by decide +kernel
theorem dL_law_1707 : decode cL_law 1707 = .ok (.goto 387, 3) := by decide +kernel
theorem dL_law_1710 : decode cL_law 1710 = .ok (.aload_n 1, 1) := by decide +kernel
theorem dL_law_1711 : decode cL_law 1711 = .ok (.aload_n 0, 1) := by decide +kernel
theorem dL_law_1712 : decode cL_law 1712 = .ok (.iload 4, 2) := by decide +kernel
theorem dL_law_1714 : decode cL_law 1714 = .ok (.iconst 1, 1) := by decide +kernel
theorem dL_law_1715 : decode cL_law 1715 = .ok (.iadd, 1) := by decide +kernel
theorem dL_law_1716 : decode cL_law 1716 = .ok (.iaload, 1) := by decide +kernel
theorem dL_law_1717 : decode cL_law 1717 = .ok (.aload_n 0, 1) := by decide +kernel
theorem dL_law_1718 : decode cL_law 1718 = .ok (.iload 4, 2) := by decide +kernel
theorem dL_law_1720 : decode cL_law 1720 = .ok (.iconst 2, 1) := by decide +kernel
theorem dL_law_1721 : decode cL_law 1721 = .ok (.iadd, 1) := by decide +kernel
theorem dL_law_1722 : decode cL_law 1722 = .ok (.iaload, 1) := by decide +kernel
theorem dL_law_1723 : decode cL_law 1723 = .ok (.aload_n 0, 1) := by decide +kernel
theorem dL_law_1724 : decode cL_law 1724 = .ok (.iload 4, 2) := by decide +kernel
theorem dL_law_1726 : decode cL_law 1726 = .ok (.iconst 3, 1) := by decide +kernel
theorem dL_law_1727 : decode cL_law 1727 = .ok (.iadd, 1) := by decide +kernel
theorem dL_law_1728 : decode cL_law 1728 = .ok (.iaload, 1) := by decide +kernel
theorem dL_law_1729 : decode cL_law 1729 = .ok (.aload_n 3, 1) := by decide +kernel
theorem dL_law_1730 : decode cL_law 1730 = .ok (.invokestatic 180, 3) := by decide +kernel
theorem dL_law_1733 : decode cL_law 1733 = .ok (.istore 5, 2) := by decide +kernel
theorem dL_law_1735 : decode cL_law 1735 = .ok (.aload_n 2, 1) := by decide +kernel
theorem dL_law_1736 : decode cL_law 1736 = .ok (.aload_n 0, 1) := by decide +kernel
theorem dL_law_1737 : decode cL_law 1737 = .ok (.iload 4, 2) := by decide +kernel
theorem dL_law_1739 : decode cL_law 1739 = .ok (.iconst 1, 1) := by decide +kernel
theorem dL_law_1740 : decode cL_law 1740 = .ok (.iadd, 1) := by decide +kernel
theorem dL_law_1741 : decode cL_law 1741 = .ok (.iaload, 1) := by decide +kernel
theorem dL_law_1742 : decode cL_law 1742 = .ok (.aload_n 0, 1) := by decide +kernel
theorem dL_law_1743 : decode cL_law 1743 = .ok (.iload 4, 2) := by decide +kernel
theorem dL_law_1745 : decode cL_law 1745 = .ok (.iconst 2, 1) := by decide +kernel
theorem dL_law_1746 : decode cL_law 1746 = .ok (.iadd, 1) := by decide +kernel
theorem dL_law_1747 : decode cL_law 1747 = .ok (.iaload, 1) := by decide +kernel
theorem dL_law_1748 : decode cL_law 1748 = .ok (.aload_n 0, 1) := by decide +kernel
theorem dL_law_1749 : decode cL_law 1749 = .ok (.iload 4, 2) := by decide +kernel
theorem dL_law_1751 : decode cL_law 1751 = .ok (.iconst 3, 1) := by decide +kernel
theorem dL_law_1752 : decode cL_law 1752 = .ok (.iadd, 1) := by decide +kernel
theorem dL_law_1753 : decode cL_law 1753 = .ok (.iaload, 1) := by decide +kernel
theorem dL_law_1754 : decode cL_law 1754 = .ok (.invokevirtual 182, 3) := by decide +kernel
theorem dL_law_1757 : decode cL_law 1757 = .ok (.istore 6, 2) := by decide +kernel
theorem dL_law_1759 : decode cL_law 1759 = .ok (.aload_n 2, 1) := by decide +kernel
theorem dL_law_1760 : decode cL_law 1760 = .ok (.invokevirtual 113, 3) := by decide +kernel
theorem dL_law_1763 : decode cL_law 1763 = .ok (.iload 5, 2) := by decide +kernel
theorem dL_law_1765 : decode cL_law 1765 = .ok (.if_icmp .eq 5, 3) := by decide +kernel
theorem dL_law_1768 : decode cL_law 1768 = .ok (.iconst 0, 1) := by decide +kernel
theorem dL_law_1769 : decode cL_law 1769 = .ok (.ireturn, 1) := by decide +kernel
theorem dL_law_1770 : decode cL_law 1770 = .ok (.iload 5, 2) := by decide +kernel
theorem dL_law_1772 : decode cL_law 1772 = .ok (.ifCond .ne 15, 3) := by decide +kernel
theorem dL_law_1775 : decode cL_law 1775 = .ok (.aload_n 3, 1) := by decide +kernel
theorem dL_law_1776 : decode cL_law 1776 = .ok (.iconst 0, 1) := by decide +kernel
theorem dL_law_1777 : decode cL_law 1777 = .ok (.laload, 1) := by decide +kernel
theorem dL_law_1778 : decode cL_law 1778 = .ok (.iload 6, 2) := by decide +kernel
theorem dL_law_1780 : decode cL_law 1780 = .ok (.i2l, 1) := by decide +kernel
theorem dL_law_1781 : decode cL_law 1781 = .ok (.lcmp, 1) := by decide +kernel
theorem dL_law_1782 : decode cL_law 1782 = .ok (.ifCond .eq 5, 3) := by decide +kernel
theorem dL_law_1785 : decode cL_law 1785 = .ok (.iconst 0, 1) := by decide +kernel
theorem dL_law_1786 : decode cL_law 1786 = .ok (.ireturn, 1) := by decide +kernel
theorem dL_law_1787 : decode cL_law 1787 = .ok (.goto 307, 3) := by decide +kernel
theorem dL_law_1790 : decode cL_law 1790 = .ok (.aload_n 1, 1) := by decide +kernel
theorem dL_law_1791 : decode cL_law 1791 = .ok (.aload_n 0, 1) := by decide +kernel
theorem dL_law_1792 : decode cL_law 1792 = .ok (.iload 4, 2) := by decide +kernel
theorem dL_law_1794 : decode cL_law 1794 = .ok (.iconst 1, 1) := by decide +kernel
theorem dL_law_1795 : decode cL_law 1795 = .ok (.iadd, 1) := by decide +kernel
theorem dL_law_1796 : decode cL_law 1796 = .ok (.iaload, 1) := by decide +kernel
theorem dL_law_1797 : decode cL_law 1797 = .ok (.aload_n 0, 1) := by decide +kernel
theorem dL_law_1798 : decode cL_law 1798 = .ok (.iload 4, 2) := by decide +kernel
theorem dL_law_1800 : decode cL_law 1800 = .ok (.iconst 2, 1) := by decide +kernel
theorem dL_law_1801 : decode cL_law 1801 = .ok (.iadd, 1) := by decide +kernel
theorem dL_law_1802 : decode cL_law 1802 = .ok (.iaload, 1) := by decide +kernel
theorem dL_law_1803 : decode cL_law 1803 = .ok (.aload_n 3, 1) := by decide +kernel
theorem dL_law_1804 : decode cL_law 1804 = .ok (.invokestatic 183, 3) := by decide +kernel
theorem dL_law_1807 : decode cL_law 1807 = .ok (.istore 5, 2) := by decide +kernel
theorem dL_law_1809 : decode cL_law 1809 = .ok (.aload_n 2, 1) := by decide +kernel
theorem dL_law_1810 : decode cL_law 1810 = .ok (.aload_n 0, 1) := by decide +kernel
theorem dL_law_1811 : decode cL_law 1811 = .ok (.iload 4, 2) := by decide +kernel
theorem dL_law_1813 : decode cL_law 1813 = .ok (.iconst 1, 1) := by decide +kernel
theorem dL_law_1814 : decode cL_law 1814 = .ok (.iadd, 1) := by decide +kernel
theorem dL_law_1815 : decode cL_law 1815 = .ok (.iaload, 1) := by decide +kernel
theorem dL_law_1816 : decode cL_law 1816 = .ok (.aload_n 0, 1) := by decide +kernel
theorem dL_law_1817 : decode cL_law 1817 = .ok (.iload 4, 2) := by decide +kernel
theorem dL_law_1819 : decode cL_law 1819 = .ok (.iconst 2, 1) := by decide +kernel
theorem dL_law_1820 : decode cL_law 1820 = .ok (.iadd, 1) := by decide +kernel
theorem dL_law_1821 : decode cL_law 1821 = .ok (.iaload, 1) := by decide +kernel
theorem dL_law_1822 : decode cL_law 1822 = .ok (.invokevirtual 185, 3) := by decide +kernel
theorem dL_law_1825 : decode cL_law 1825 = .ok (.istore 6, 2) := by decide +kernel
theorem dL_law_1827 : decode cL_law 1827 = .ok (.aload_n 2, 1) := by decide +kernel
theorem dL_law_1828 : decode cL_law 1828 = .ok (.invokevirtual 113, 3) := by decide +kernel
theorem dL_law_1831 : decode cL_law 1831 = .ok (.iload 5, 2) := by decide +kernel
theorem dL_law_1833 : decode cL_law 1833 = .ok (.if_icmp .eq 5, 3) := by decide +kernel
theorem dL_law_1836 : decode cL_law 1836 = .ok (.iconst 0, 1) := by decide +kernel
theorem dL_law_1837 : decode cL_law 1837 = .ok (.ireturn, 1) := by decide +kernel
theorem dL_law_1838 : decode cL_law 1838 = .ok (.iload 5, 2) := by decide +kernel
theorem dL_law_1840 : decode cL_law 1840 = .ok (.ifCond .ne 15, 3) := by decide +kernel
theorem dL_law_1843 : decode cL_law 1843 = .ok (.aload_n 3, 1) := by decide +kernel
theorem dL_law_1844 : decode cL_law 1844 = .ok (.iconst 0, 1) := by decide +kernel
theorem dL_law_1845 : decode cL_law 1845 = .ok (.laload, 1) := by decide +kernel
theorem dL_law_1846 : decode cL_law 1846 = .ok (.iload 6, 2) := by decide +kernel
theorem dL_law_1848 : decode cL_law 1848 = .ok (.i2l, 1) := by decide +kernel
theorem dL_law_1849 : decode cL_law 1849 = .ok (.lcmp, 1) := by decide +kernel
theorem dL_law_1850 : decode cL_law 1850 = .ok (.ifCond .eq 5, 3) := by decide +kernel
theorem dL_law_1853 : decode cL_law 1853 = .ok (.iconst 0, 1) := by decide +kernel
theorem dL_law_1854 : decode cL_law 1854 = .ok (.ireturn, 1) := by decide +kernel
theorem dL_law_1855 : decode cL_law 1855 = .ok (.goto 239, 3) := by decide +kernel
theorem dL_law_1858 : decode cL_law 1858 = .ok (.aload_n 1, 1) := by decide +kernel
theorem dL_law_1859 : decode cL_law 1859 = .ok (.aload_n 0, 1) := by decide +kernel
theorem dL_law_1860 : decode cL_law 1860 = .ok (.iload 4, 2) := by decide +kernel
theorem dL_law_1862 : decode cL_law 1862 = .ok (.iconst 1, 1) := by decide +kernel
theorem dL_law_1863 : decode cL_law 1863 = .ok (.iadd, 1) := by decide +kernel
theorem dL_law_1864 : decode cL_law 1864 = .ok (.iaload, 1) := by decide +kernel
theorem dL_law_1865 : decode cL_law 1865 = .ok (.aload_n 3, 1) := by decide +kernel
theorem dL_law_1866 : decode cL_law 1866 = .ok (.invokestatic 186, 3) := by decide +kernel
theorem dL_law_1869 : decode cL_law 1869 = .ok (.istore 5, 2) := by decide +kernel
theorem dL_law_1871 : decode cL_law 1871 = .ok (.aload_n 2, 1) := by decide +kernel
theorem dL_law_1872 : decode cL_law 1872 = .ok (.aload_n 0, 1) := by decide +kernel
theorem dL_law_1873 : decode cL_law 1873 = .ok (.iload 4, 2) := by decide +kernel
theorem dL_law_1875 : decode cL_law 1875 = .ok (.iconst 1, 1) := by decide +kernel
theorem dL_law_1876 : decode cL_law 1876 = .ok (.iadd, 1) := by decide +kernel
theorem dL_law_1877 : decode cL_law 1877 = .ok (.iaload, 1) := by decide +kernel
theorem dL_law_1878 : decode cL_law 1878 = .ok (.invokevirtual 188, 3) := by decide +kernel
theorem dL_law_1881 : decode cL_law 1881 = .ok (.istore 6, 2) := by decide +kernel
theorem dL_law_1883 : decode cL_law 1883 = .ok (.aload_n 2, 1) := by decide +kernel
theorem dL_law_1884 : decode cL_law 1884 = .ok (.invokevirtual 113, 3) := by decide +kernel
theorem dL_law_1887 : decode cL_law 1887 = .ok (.iload 5, 2) := by decide +kernel
theorem dL_law_1889 : decode cL_law 1889 = .ok (.if_icmp .eq 5, 3) := by decide +kernel
theorem dL_law_1892 : decode cL_law 1892 = .ok (.iconst 0, 1) := by decide +kernel
theorem dL_law_1893 : decode cL_law 1893 = .ok (.ireturn, 1) := by decide +kernel
theorem dL_law_1894 : decode cL_law 1894 = .ok (.iload 5, 2) := by decide +kernel
theorem dL_law_1896 : decode cL_law 1896 = .ok (.ifCond .ne 15, 3) := by decide +kernel
theorem dL_law_1899 : decode cL_law 1899 = .ok (.aload_n 3, 1) := by decide +kernel
theorem dL_law_1900 : decode cL_law 1900 = .ok (.iconst 0, 1) := by decide +kernel
theorem dL_law_1901 : decode cL_law 1901 = .ok (.laload, 1) := by decide +kernel
theorem dL_law_1902 : decode cL_law 1902 = .ok (.iload 6, 2) := by decide +kernel
theorem dL_law_1904 : decode cL_law 1904 = .ok (.i2l, 1) := by decide +kernel
theorem dL_law_1905 : decode cL_law 1905 = .ok (.lcmp, 1) := by decide +kernel
theorem dL_law_1906 : decode cL_law 1906 = .ok (.ifCond .eq 5, 3) := by decide +kernel
theorem dL_law_1909 : decode cL_law 1909 = .ok (.iconst 0, 1) := by decide +kernel
theorem dL_law_1910 : decode cL_law 1910 = .ok (.ireturn, 1) := by decide +kernel
theorem dL_law_1911 : decode cL_law 1911 = .ok (.goto 183, 3) := by decide +kernel
theorem dL_law_1914 : decode cL_law 1914 = .ok (.aload_n 1, 1) := by decide +kernel
theorem dL_law_1915 : decode cL_law 1915 = .ok (.aload_n 0, 1) := by decide +kernel
theorem dL_law_1916 : decode cL_law 1916 = .ok (.iload 4, 2) := by decide +kernel
theorem dL_law_1918 : decode cL_law 1918 = .ok (.iconst 1, 1) := by decide +kernel
theorem dL_law_1919 : decode cL_law 1919 = .ok (.iadd, 1) := by decide +kernel
theorem dL_law_1920 : decode cL_law 1920 = .ok (.iaload, 1) := by decide +kernel
theorem dL_law_1921 : decode cL_law 1921 = .ok (.aload_n 0, 1) := by decide +kernel
theorem dL_law_1922 : decode cL_law 1922 = .ok (.iload 4, 2) := by decide +kernel
theorem dL_law_1924 : decode cL_law 1924 = .ok (.iconst 2, 1) := by decide +kernel
theorem dL_law_1925 : decode cL_law 1925 = .ok (.iadd, 1) := by decide +kernel
theorem dL_law_1926 : decode cL_law 1926 = .ok (.iaload, 1) := by decide +kernel
theorem dL_law_1927 : decode cL_law 1927 = .ok (.aload_n 3, 1) := by decide +kernel
theorem dL_law_1928 : decode cL_law 1928 = .ok (.invokestatic 189, 3) := by decide +kernel
theorem dL_law_1931 : decode cL_law 1931 = .ok (.istore 5, 2) := by decide +kernel
theorem dL_law_1933 : decode cL_law 1933 = .ok (.aload_n 2, 1) := by decide +kernel
theorem dL_law_1934 : decode cL_law 1934 = .ok (.aload_n 0, 1) := by decide +kernel
theorem dL_law_1935 : decode cL_law 1935 = .ok (.iload 4, 2) := by decide +kernel
theorem dL_law_1937 : decode cL_law 1937 = .ok (.iconst 1, 1) := by decide +kernel
theorem dL_law_1938 : decode cL_law 1938 = .ok (.iadd, 1) := by decide +kernel
theorem dL_law_1939 : decode cL_law 1939 = .ok (.iaload, 1) := by decide +kernel
theorem dL_law_1940 : decode cL_law 1940 = .ok (.aload_n 0, 1) := by decide +kernel
theorem dL_law_1941 : decode cL_law 1941 = .ok (.iload 4, 2) := by decide +kernel
theorem dL_law_1943 : decode cL_law 1943 = .ok (.iconst 2, 1) := by decide +kernel
theorem dL_law_1944 : decode cL_law 1944 = .ok (.iadd, 1) := by decide +kernel
theorem dL_law_1945 : decode cL_law 1945 = .ok (.iaload, 1) := by decide +kernel
theorem dL_law_1946 : decode cL_law 1946 = .ok (.invokevirtual 191, 3) := by decide +kernel
theorem dL_law_1949 : decode cL_law 1949 = .ok (.istore 6, 2) := by decide +kernel
theorem dL_law_1951 : decode cL_law 1951 = .ok (.aload_n 2, 1) := by decide +kernel
theorem dL_law_1952 : decode cL_law 1952 = .ok (.invokevirtual 113, 3) := by decide +kernel
theorem dL_law_1955 : decode cL_law 1955 = .ok (.iload 5, 2) := by decide +kernel
theorem dL_law_1957 : decode cL_law 1957 = .ok (.if_icmp .eq 5, 3) := by decide +kernel
theorem dL_law_1960 : decode cL_law 1960 = .ok (.iconst 0, 1) := by decide +kernel
theorem dL_law_1961 : decode cL_law 1961 = .ok (.ireturn, 1) := by decide +kernel
theorem dL_law_1962 : decode cL_law 1962 = .ok (.iload 5, 2) := by decide +kernel
theorem dL_law_1964 : decode cL_law 1964 = .ok (.ifCond .ne 15, 3) := by decide +kernel
theorem dL_law_1967 : decode cL_law 1967 = .ok (.aload_n 3, 1) := by decide +kernel
theorem dL_law_1968 : decode cL_law 1968 = .ok (.iconst 0, 1) := by decide +kernel
theorem dL_law_1969 : decode cL_law 1969 = .ok (.laload, 1) := by decide +kernel
theorem dL_law_1970 : decode cL_law 1970 = .ok (.iload 6, 2) := by decide +kernel
theorem dL_law_1972 : decode cL_law 1972 = .ok (.i2l, 1) := by decide +kernel
theorem dL_law_1973 : decode cL_law 1973 = .ok (.lcmp, 1) := by decide +kernel
theorem dL_law_1974 : decode cL_law 1974 = .ok (.ifCond .eq 5, 3) := by decide +kernel
theorem dL_law_1977 : decode cL_law 1977 = .ok (.iconst 0, 1) := by decide +kernel
theorem dL_law_1978 : decode cL_law 1978 = .ok (.ireturn, 1) := by decide +kernel
theorem dL_law_1979 : decode cL_law 1979 = .ok (.goto 115, 3) := by decide +kernel
theorem dL_law_1982 : decode cL_law 1982 = .ok (.aload_n 1, 1) := by decide +kernel
theorem dL_law_1983 : decode cL_law 1983 = .ok (.aload_n 0, 1) := by decide +kernel
theorem dL_law_1984 : decode cL_law 1984 = .ok (.iload 4, 2) := by decide +kernel
theorem dL_law_1986 : decode cL_law 1986 = .ok (.iconst 1, 1) := by decide +kernel
theorem dL_law_1987 : decode cL_law 1987 = .ok (.iadd, 1) := by decide +kernel
theorem dL_law_1988 : decode cL_law 1988 = .ok (.iaload, 1) := by decide +kernel
theorem dL_law_1989 : decode cL_law 1989 = .ok (.aload_n 3, 1) := by decide +kernel
theorem dL_law_1990 : decode cL_law 1990 = .ok (.invokestatic 192, 3) := by decide +kernel
theorem dL_law_1993 : decode cL_law 1993 = .ok (.istore 5, 2) := by decide +kernel
theorem dL_law_1995 : decode cL_law 1995 = .ok (.aload_n 2, 1) := by decide +kernel
theorem dL_law_1996 : decode cL_law 1996 = .ok (.aload_n 0, 1) := by decide +kernel
theorem dL_law_1997 : decode cL_law 1997 = .ok (.iload 4, 2) := by decide +kernel
theorem dL_law_1999 : decode cL_law 1999 = .ok (.iconst 1, 1) := by decide +kernel
theorem dL_law_2000 : decode cL_law 2000 = .ok (.iadd, 1) := by decide +kernel
theorem dL_law_2001 : decode cL_law 2001 = .ok (.iaload, 1) := by decide +kernel
theorem dL_law_2002 : decode cL_law 2002 = .ok (.invokevirtual 194, 3) := by decide +kernel
theorem dL_law_2005 : decode cL_law 2005 = .ok (.istore 6, 2) := by decide +kernel
theorem dL_law_2007 : decode cL_law 2007 = .ok (.aload_n 2, 1) := by decide +kernel
theorem dL_law_2008 : decode cL_law 2008 = .ok (.invokevirtual 113, 3) := by decide +kernel
theorem dL_law_2011 : decode cL_law 2011 = .ok (.iload 5, 2) := by decide +kernel
theorem dL_law_2013 : decode cL_law 2013 = .ok (.if_icmp .eq 5, 3) := by decide +kernel
theorem dL_law_2016 : decode cL_law 2016 = .ok (.iconst 0, 1) := by decide +kernel
theorem dL_law_2017 : decode cL_law 2017 = .ok (.ireturn, 1) := by decide +kernel
theorem dL_law_2018 : decode cL_law 2018 = .ok (.iload 5, 2) := by decide +kernel
theorem dL_law_2020 : decode cL_law 2020 = .ok (.ifCond .ne 15, 3) := by decide +kernel
theorem dL_law_2023 : decode cL_law 2023 = .ok (.aload_n 3, 1) := by decide +kernel
theorem dL_law_2024 : decode cL_law 2024 = .ok (.iconst 0, 1) := by decide +kernel
theorem dL_law_2025 : decode cL_law 2025 = .ok (.laload, 1) := by decide +kernel
theorem dL_law_2026 : decode cL_law 2026 = .ok (.iload 6, 2) := by decide +kernel
theorem dL_law_2028 : decode cL_law 2028 = .ok (.i2l, 1) := by decide +kernel
theorem dL_law_2029 : decode cL_law 2029 = .ok (.lcmp, 1) := by decide +kernel
theorem dL_law_2030 : decode cL_law 2030 = .ok (.ifCond .eq 5, 3) := by decide +kernel
theorem dL_law_2033 : decode cL_law 2033 = .ok (.iconst 0, 1) := by decide +kernel
theorem dL_law_2034 : decode cL_law 2034 = .ok (.ireturn, 1) := by decide +kernel
theorem dL_law_2035 : decode cL_law 2035 = .ok (.goto 59, 3) := by decide +kernel
theorem dL_law_2038 : decode cL_law 2038 = .ok (.aload_n 1, 1) := by decide +kernel
theorem dL_law_2039 : decode cL_law 2039 = .ok (.aload_n 0, 1) := by decide +kernel
theorem dL_law_2040 : decode cL_law 2040 = .ok (.iload 4, 2) := by decide +kernel
theorem dL_law_2042 : decode cL_law 2042 = .ok (.iconst 1, 1) := by decide +kernel
theorem dL_law_2043 : decode cL_law 2043 = .ok (.iadd, 1) := by decide +kernel
theorem dL_law_2044 : decode cL_law 2044 = .ok (.iaload, 1) := by decide +kernel
theorem dL_law_2045 : decode cL_law 2045 = .ok (.aload_n 3, 1) := by decide +kernel
theorem dL_law_2046 : decode cL_law 2046 = .ok (.invokestatic 195, 3) := by decide +kernel
theorem dL_law_2049 : decode cL_law 2049 = .ok (.istore 5, 2) := by decide +kernel
theorem dL_law_2051 : decode cL_law 2051 = .ok (.aload_n 2, 1) := by decide +kernel
theorem dL_law_2052 : decode cL_law 2052 = .ok (.aload_n 0, 1) := by decide +kernel
theorem dL_law_2053 : decode cL_law 2053 = .ok (.iload 4, 2) := by decide +kernel
theorem dL_law_2055 : decode cL_law 2055 = .ok (.iconst 1, 1) := by decide +kernel
theorem dL_law_2056 : decode cL_law 2056 = .ok (.iadd, 1) := by decide +kernel
theorem dL_law_2057 : decode cL_law 2057 = .ok (.iaload, 1) := by decide +kernel
theorem dL_law_2058 : decode cL_law 2058 = .ok (.invokevirtual 197, 3) := by decide +kernel
theorem dL_law_2061 : decode cL_law 2061 = .ok (.istore 6, 2) := by decide +kernel
theorem dL_law_2063 : decode cL_law 2063 = .ok (.aload_n 2, 1) := by decide +kernel
theorem dL_law_2064 : decode cL_law 2064 = .ok (.invokevirtual 113, 3) := by decide +kernel
theorem dL_law_2067 : decode cL_law 2067 = .ok (.iload 5, 2) := by decide +kernel
theorem dL_law_2069 : decode cL_law 2069 = .ok (.if_icmp .eq 5, 3) := by decide +kernel
theorem dL_law_2072 : decode cL_law 2072 = .ok (.iconst 0, 1) := by decide +kernel
theorem dL_law_2073 : decode cL_law 2073 = .ok (.ireturn, 1) := by decide +kernel
theorem dL_law_2074 : decode cL_law 2074 = .ok (.iload 5, 2) := by decide +kernel
theorem dL_law_2076 : decode cL_law 2076 = .ok (.ifCond .ne 15, 3) := by decide +kernel
theorem dL_law_2079 : decode cL_law 2079 = .ok (.aload_n 3, 1) := by decide +kernel
theorem dL_law_2080 : decode cL_law 2080 = .ok (.iconst 0, 1) := by decide +kernel
theorem dL_law_2081 : decode cL_law 2081 = .ok (.laload, 1) := by decide +kernel
theorem dL_law_2082 : decode cL_law 2082 = .ok (.iload 6, 2) := by decide +kernel
theorem dL_law_2084 : decode cL_law 2084 = .ok (.i2l, 1) := by decide +kernel
theorem dL_law_2085 : decode cL_law 2085 = .ok (.lcmp, 1) := by decide +kernel
theorem dL_law_2086 : decode cL_law 2086 = .ok (.ifCond .eq 5, 3) := by decide +kernel
theorem dL_law_2089 : decode cL_law 2089 = .ok (.iconst 0, 1) := by decide +kernel
theorem dL_law_2090 : decode cL_law 2090 = .ok (.ireturn, 1) := by decide +kernel
theorem dL_law_2091 : decode cL_law 2091 = .ok (.goto 3, 3) := by decide +kernel
theorem dL_law_2094 : decode cL_law 2094 = .ok (.iinc 4 6, 3) := by decide +kernel
theorem dL_law_2097 : decode cL_law 2097 = .ok (.goto (-2074), 3) := by decide +kernel
theorem dL_law_2100 : decode cL_law 2100 = .ok (.iconst 1, 1) := by decide +kernel
theorem dL_law_2101 : decode cL_law 2101 = .ok (.ireturn, 1) := by decide +kernel
