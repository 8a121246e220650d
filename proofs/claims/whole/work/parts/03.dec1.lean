theorem dX8_atHead_10 : decode cX8_atHead 10 = .ok (.aload_n 0, 1) := by decide +kernel
theorem dX8_atHead_11 : decode cX8_atHead 11 = .ok (.getfield 7, 3) := by decide +kernel
theorem dX8_atHead_14 : decode cX8_atHead 14 = .ok (.iload_n 1, 1) := by decide +kernel
theorem dX8_atHead_15 : decode cX8_atHead 15 = .ok (.iaload, 1) := by decide +kernel
theorem dX8_atHead_16 : decode cX8_atHead 16 = .ok (.iload_n 2, 1) := by decide +kernel
theorem dX8_atHead_17 : decode cX8_atHead 17 = .ok (.invokevirtual 159, 3) := by decide +kernel
theorem dX8_atHead_20 : decode cX8_atHead 20 = .ok (.goto 4, 3) := by decide +kernel
theorem dX8_atHead_23 : decode cX8_atHead 23 = .ok (.iconst (-1), 1) := by decide +kernel
theorem dX8_atHead_24 : decode cX8_atHead 24 = .ok (.ireturn, 1) := by decide +kernel
theorem dX8_isLast_0 : decode cX8_isLast 0 = .ok (.aload_n 0, 1) := by decide +kernel
theorem dX8_isLast_1 : decode cX8_isLast 1 = .ok (.getfield 7, 3) := by decide +kernel
theorem dX8_isLast_4 : decode cX8_isLast 4 = .ok (.iload_n 1, 1) := by decide +kernel
theorem dX8_isLast_5 : decode cX8_isLast 5 = .ok (.iaload, 1) := by decide +kernel
theorem dX8_isLast_6 : decode cX8_isLast 6 = .ok (.bipush 23, 2) := by decide +kernel
theorem dX8_isLast_8 : decode cX8_isLast 8 = .ok (.if_icmp .ne 7, 3) := by decide +kernel
theorem dX8_isLast_11 : decode cX8_isLast 11 = .ok (.iconst 1, 1) := by decide +kernel
theorem dX8_isLast_12 : decode cX8_isLast 12 = .ok (.goto 4, 3) := by decide +kernel
theorem dX8_isLast_15 : decode cX8_isLast 15 = .ok (.iconst 0, 1) := by decide +kernel
theorem dX8_isLast_16 : decode cX8_isLast 16 = .ok (.ireturn, 1) := by decide +kernel
theorem dX8_schema_0 : decode cX8_schema 0 = .ok (.aload_n 0, 1) := by decide +kernel
theorem dX8_schema_1 : decode cX8_schema 1 = .ok (.aload_n 0, 1) := by decide +kernel
theorem dX8_schema_2 : decode cX8_schema 2 = .ok (.getfield 141, 3) := by decide +kernel
theorem dX8_schema_5 : decode cX8_schema 5 = .ok (.iconst 4, 1) := by decide +kernel
theorem dX8_schema_6 : decode cX8_schema 6 = .ok (.if_icmp .ne 7, 3) := by decide +kernel
theorem dX8_schema_9 : decode cX8_schema 9 = .ok (.iconst 1, 1) := by decide +kernel
theorem dX8_schema_10 : decode cX8_schema 10 = .ok (.goto 4, 3) := by decide +kernel
theorem dX8_schema_13 : decode cX8_schema 13 = .ok (.iconst 0, 1) := by decide +kernel
theorem dX8_schema_14 : decode cX8_schema 14 = .ok (.invokevirtual 162, 3) := by decide +kernel
theorem dX8_schema_17 : decode cX8_schema 17 = .ok (.ifCond .eq 5, 3) := by decide +kernel
theorem dX8_schema_20 : decode cX8_schema 20 = .ok (.iconst 0, 1) := by decide +kernel
theorem dX8_schema_21 : decode cX8_schema 21 = .ok (.ireturn, 1) := by decide +kernel
theorem dX8_schema_22 : decode cX8_schema 22 = .ok (.aload_n 0, 1) := by decide +kernel
theorem dX8_schema_23 : decode cX8_schema 23 = .ok (.dup, 1) := by decide +kernel
theorem dX8_schema_24 : decode cX8_schema 24 = .ok (.getfield 141, 3) := by decide +kernel
theorem dX8_schema_27 : decode cX8_schema 27 = .ok (.iconst 1, 1) := by decide +kernel
theorem dX8_schema_28 : decode cX8_schema 28 = .ok (.iadd, 1) := by decide +kernel
theorem dX8_schema_29 : decode cX8_schema 29 = .ok (.putfield 141, 3) := by decide +kernel
theorem dX8_schema_32 : decode cX8_schema 32 = .ok (.aload_n 0, 1) := by decide +kernel
theorem dX8_schema_33 : decode cX8_schema 33 = .ok (.getfield 141, 3) := by decide +kernel
theorem dX8_schema_36 : decode cX8_schema 36 = .ok (.iconst 1, 1) := by decide +kernel
theorem dX8_schema_37 : decode cX8_schema 37 = .ok (.isub, 1) := by decide +kernel
theorem dX8_schema_38 : decode cX8_schema 38 = .ok (.ireturn, 1) := by decide +kernel
theorem dX8_begins_0 : decode cX8_begins 0 = .ok (.aload_n 0, 1) := by decide +kernel
theorem dX8_begins_1 : decode cX8_begins 1 = .ok (.getfield 7, 3) := by decide +kernel
theorem dX8_begins_4 : decode cX8_begins 4 = .ok (.iload_n 1, 1) := by decide +kernel
theorem dX8_begins_5 : decode cX8_begins 5 = .ok (.iaload, 1) := by decide +kernel
theorem dX8_begins_6 : decode cX8_begins 6 = .ok (.iconst 1, 1) := by decide +kernel
theorem dX8_begins_7 : decode cX8_begins 7 = .ok (.iadd, 1) := by decide +kernel
theorem dX8_begins_8 : decode cX8_begins 8 = .ok (.istore_n 3, 1) := by decide +kernel
theorem dX8_begins_9 : decode cX8_begins 9 = .ok (.iconst 0, 1) := by decide +kernel
theorem dX8_begins_10 : decode cX8_begins 10 = .ok (.istore 4, 2) := by decide +kernel
theorem dX8_begins_12 : decode cX8_begins 12 = .ok (.iload 4, 2) := by decide +kernel
theorem dX8_begins_14 : decode cX8_begins 14 = .ok (.aload_n 0, 1) := by decide +kernel
theorem dX8_begins_15 : decode cX8_begins 15 = .ok (.getfield 13, 3) := by decide +kernel
theorem dX8_begins_18 : decode cX8_begins 18 = .ok (.iload_n 1, 1) := by decide +kernel
theorem dX8_begins_19 : decode cX8_begins 19 = .ok (.iaload, 1) := by decide +kernel
theorem dX8_begins_20 : decode cX8_begins 20 = .ok (.if_icmp .ge 61, 3) := by decide +kernel
theorem dX8_begins_23 : decode cX8_begins 23 = .ok (.aload_n 0, 1) := by decide +kernel
theorem dX8_begins_24 : decode cX8_begins 24 = .ok (.getfield 22, 3) := by decide +kernel
theorem dX8_begins_27 : decode cX8_begins 27 = .ok (.iload_n 1, 1) := by decide +kernel
theorem dX8_begins_28 : decode cX8_begins 28 = .ok (.iload_n 3, 1) := by decide +kernel
theorem dX8_begins_29 : decode cX8_begins 29 = .ok (.iload 4, 2) := by decide +kernel
theorem dX8_begins_31 : decode cX8_begins 31 = .ok (.invokestatic 152, 3) := by decide +kernel
theorem dX8_begins_34 : decode cX8_begins 34 = .ok (.aload_n 0, 1) := by decide +kernel
theorem dX8_begins_35 : decode cX8_begins 35 = .ok (.getfield 22, 3) := by decide +kernel
theorem dX8_begins_38 : decode cX8_begins 38 = .ok (.iload_n 1, 1) := by decide +kernel
theorem dX8_begins_39 : decode cX8_begins 39 = .ok (.iload_n 3, 1) := by decide +kernel
theorem dX8_begins_40 : decode cX8_begins 40 = .ok (.iconst 1, 1) := by decide +kernel
theorem dX8_begins_41 : decode cX8_begins 41 = .ok (.isub, 1) := by decide +kernel
theorem dX8_begins_42 : decode cX8_begins 42 = .ok (.iload 4, 2) := by decide +kernel
theorem dX8_begins_44 : decode cX8_begins 44 = .ok (.invokestatic 152, 3) := by decide +kernel
theorem dX8_begins_47 : decode cX8_begins 47 = .ok (.iaload, 1) := by decide +kernel
theorem dX8_begins_48 : decode cX8_begins 48 = .ok (.iastore, 1) := by decide +kernel
theorem dX8_begins_49 : decode cX8_begins 49 = .ok (.aload_n 0, 1) := by decide +kernel
theorem dX8_begins_50 : decode cX8_begins 50 = .ok (.getfield 25, 3) := by decide +kernel
theorem dX8_begins_53 : decode cX8_begins 53 = .ok (.iload_n 1, 1) := by decide +kernel
theorem dX8_begins_54 : decode cX8_begins 54 = .ok (.iload_n 3, 1) := by decide +kernel
theorem dX8_begins_55 : decode cX8_begins 55 = .ok (.iload 4, 2) := by decide +kernel
theorem dX8_begins_57 : decode cX8_begins 57 = .ok (.invokestatic 152, 3) := by decide +kernel
theorem dX8_begins_60 : decode cX8_begins 60 = .ok (.aload_n 0, 1) := by decide +kernel
theorem dX8_begins_61 : decode cX8_begins 61 = .ok (.getfield 25, 3) := by decide +kernel
theorem dX8_begins_64 : decode cX8_begins 64 = .ok (.iload_n 1, 1) := by decide +kernel
theorem dX8_begins_65 : decode cX8_begins 65 = .ok (.iload_n 3, 1) := by decide +kernel
theorem dX8_begins_66 : decode cX8_begins 66 = .ok (.iconst 1, 1) := by decide +kernel
theorem dX8_begins_67 : decode cX8_begins 67 = .ok (.isub, 1) := by decide +kernel
theorem dX8_begins_68 : decode cX8_begins 68 = .ok (.iload 4, 2) := by decide +kernel
theorem dX8_begins_70 : decode cX8_begins 70 = .ok (.invokestatic 152, 3) := by decide +kernel
theorem dX8_begins_73 : decode cX8_begins 73 = .ok (.baload, 1) := by decide +kernel
theorem dX8_begins_74 : decode cX8_begins 74 = .ok (.bastore, 1) := by decide +kernel
theorem dX8_begins_75 : decode cX8_begins 75 = .ok (.iinc 4 1, 3) := by decide +kernel
theorem dX8_begins_78 : decode cX8_begins 78 = .ok (.goto (-66), 3) := by decide +kernel
theorem dX8_begins_81 : decode cX8_begins 81 = .ok (.aload_n 0, 1) := by decide +kernel
theorem dX8_begins_82 : decode cX8_begins 82 = .ok (.getfield 7, 3) := by decide +kernel
theorem dX8_begins_85 : decode cX8_begins 85 = .ok (.iload_n 1, 1) := by decide +kernel
theorem dX8_begins_86 : decode cX8_begins 86 = .ok (.iload_n 3, 1) := by decide +kernel
theorem dX8_begins_87 : decode cX8_begins 87 = .ok (.iastore, 1) := by decide +kernel
theorem dX8_begins_88 : decode cX8_begins 88 = .ok (.bipush 24, 2) := by decide +kernel
theorem dX8_begins_90 : decode cX8_begins 90 = .ok (.iload_n 1, 1) := by decide +kernel
theorem dX8_begins_91 : decode cX8_begins 91 = .ok (.imul, 1) := by decide +kernel
theorem dX8_begins_92 : decode cX8_begins 92 = .ok (.iload_n 3, 1) := by decide +kernel
theorem dX8_begins_93 : decode cX8_begins 93 = .ok (.iadd, 1) := by decide +kernel
theorem dX8_begins_94 : decode cX8_begins 94 = .ok (.istore 4, 2) := by decide +kernel
theorem dX8_begins_96 : decode cX8_begins 96 = .ok (.aload_n 0, 1) := by decide +kernel
theorem dX8_begins_97 : decode cX8_begins 97 = .ok (.getfield 29, 3) := by decide +kernel
theorem dX8_begins_100 : decode cX8_begins 100 = .ok (.iload 4, 2) := by decide +kernel
theorem dX8_begins_102 : decode cX8_begins 102 = .ok (.iload_n 2, 1) := by decide +kernel
theorem dX8_begins_103 : decode cX8_begins 103 = .ok (.iastore, 1) := by decide +kernel
theorem dX8_begins_104 : decode cX8_begins 104 = .ok (.aload_n 0, 1) := by decide +kernel
theorem dX8_begins_105 : decode cX8_begins 105 = .ok (.getfield 32, 3) := by decide +kernel
theorem dX8_begins_108 : decode cX8_begins 108 = .ok (.iconst 2, 1) := by decide +kernel
theorem dX8_begins_109 : decode cX8_begins 109 = .ok (.iload 4, 2) := by decide +kernel
theorem dX8_begins_111 : decode cX8_begins 111 = .ok (.imul, 1) := by decide +kernel
theorem dX8_begins_112 : decode cX8_begins 112 = .ok (.iconst (-1), 1) := by decide +kernel
theorem dX8_begins_113 : decode cX8_begins 113 = .ok (.iastore, 1) := by decide +kernel
theorem dX8_begins_114 : decode cX8_begins 114 = .ok (.aload_n 0, 1) := by decide +kernel
theorem dX8_begins_115 : decode cX8_begins 115 = .ok (.getfield 32, 3) := by decide +kernel
theorem dX8_begins_118 : decode cX8_begins 118 = .ok (.iconst 2, 1) := by decide +kernel
theorem dX8_begins_119 : decode cX8_begins 119 = .ok (.iload 4, 2) := by decide +kernel
theorem dX8_begins_121 : decode cX8_begins 121 = .ok (.imul, 1) := by decide +kernel
theorem dX8_begins_122 : decode cX8_begins 122 = .ok (.iconst 1, 1) := by decide +kernel
theorem dX8_begins_123 : decode cX8_begins 123 = .ok (.iadd, 1) := by decide +kernel
theorem dX8_begins_124 : decode cX8_begins 124 = .ok (.iconst (-1), 1) := by decide +kernel
theorem dX8_begins_125 : decode cX8_begins 125 = .ok (.iastore, 1) := by decide +kernel
theorem dX8_begins_126 : decode cX8_begins 126 = .ok (.aload_n 0, 1) := by decide +kernel
theorem dX8_begins_127 : decode cX8_begins 127 = .ok (.getfield 35, 3) := by decide +kernel
theorem dX8_begins_130 : decode cX8_begins 130 = .ok (.iconst 2, 1) := by decide +kernel
theorem dX8_begins_131 : decode cX8_begins 131 = .ok (.iload 4, 2) := by decide +kernel
theorem dX8_begins_133 : decode cX8_begins 133 = .ok (.imul, 1) := by decide +kernel
theorem dX8_begins_134 : decode cX8_begins 134 = .ok (.iconst (-1), 1) := by decide +kernel
theorem dX8_begins_135 : decode cX8_begins 135 = .ok (.iastore, 1) := by decide +kernel
theorem dX8_begins_136 : decode cX8_begins 136 = .ok (.aload_n 0, 1) := by decide +kernel
theorem dX8_begins_137 : decode cX8_begins 137 = .ok (.getfield 35, 3) := by decide +kernel
theorem dX8_begins_140 : decode cX8_begins 140 = .ok (.iconst 2, 1) := by decide +kernel
theorem dX8_begins_141 : decode cX8_begins 141 = .ok (.iload 4, 2) := by decide +kernel
theorem dX8_begins_143 : decode cX8_begins 143 = .ok (.imul, 1) := by decide +kernel
theorem dX8_begins_144 : decode cX8_begins 144 = .ok (.iconst 1, 1) := by decide +kernel
theorem dX8_begins_145 : decode cX8_begins 145 = .ok (.iadd, 1) := by decide +kernel
theorem dX8_begins_146 : decode cX8_begins 146 = .ok (.iconst (-1), 1) := by decide +kernel
theorem dX8_begins_147 : decode cX8_begins 147 = .ok (.iastore, 1) := by decide +kernel
theorem dX8_begins_148 : decode cX8_begins 148 = .ok (.iload 4, 2) := by decide +kernel
theorem dX8_begins_150 : decode cX8_begins 150 = .ok (.ireturn, 1) := by decide +kernel
theorem dX8_makes_0 : decode cX8_makes 0 = .ok (.aload_n 0, 1) := by decide +kernel
theorem dX8_makes_1 : decode cX8_makes 1 = .ok (.getfield 13, 3) := by decide +kernel
theorem dX8_makes_4 : decode cX8_makes 4 = .ok (.iload_n 1, 1) := by decide +kernel
theorem dX8_makes_5 : decode cX8_makes 5 = .ok (.iaload, 1) := by decide +kernel
theorem dX8_makes_6 : decode cX8_makes 6 = .ok (.istore 6, 2) := by decide +kernel
theorem dX8_makes_8 : decode cX8_makes 8 = .ok (.aload_n 0, 1) := by decide +kernel
theorem dX8_makes_9 : decode cX8_makes 9 = .ok (.getfield 16, 3) := by decide +kernel
theorem dX8_makes_12 : decode cX8_makes 12 = .ok (.bipush 48, 2) := by decide +kernel
theorem dX8_makes_14 : decode cX8_makes 14 = .ok (.iload_n 1, 1) := by decide +kernel
theorem dX8_makes_15 : decode cX8_makes 15 = .ok (.imul, 1) := by decide +kernel
theorem dX8_makes_16 : decode cX8_makes 16 = .ok (.iload 6, 2) := by decide +kernel
theorem dX8_makes_18 : decode cX8_makes 18 = .ok (.iadd, 1) := by decide +kernel
theorem dX8_makes_19 : decode cX8_makes 19 = .ok (.iload_n 3, 1) := by decide +kernel
theorem dX8_makes_20 : decode cX8_makes 20 = .ok (.iastore, 1) := by decide +kernel
theorem dX8_makes_21 : decode cX8_makes 21 = .ok (.aload_n 0, 1) := by decide +kernel
theorem dX8_makes_22 : decode cX8_makes 22 = .ok (.getfield 19, 3) := by decide +kernel
theorem dX8_makes_25 : decode cX8_makes 25 = .ok (.bipush 48, 2) := by decide +kernel
theorem dX8_makes_27 : decode cX8_makes 27 = .ok (.iload_n 1, 1) := by decide +kernel
theorem dX8_makes_28 : decode cX8_makes 28 = .ok (.imul, 1) := by decide +kernel
theorem dX8_makes_29 : decode cX8_makes 29 = .ok (.iload 6, 2) := by decide +kernel
theorem dX8_makes_31 : decode cX8_makes 31 = .ok (.iadd, 1) := by decide +kernel
theorem dX8_makes_32 : decode cX8_makes 32 = .ok (.iload 4, 2) := by decide +kernel
theorem dX8_makes_34 : decode cX8_makes 34 = .ok (.iastore, 1) := by decide +kernel
theorem dX8_makes_35 : decode cX8_makes 35 = .ok (.aload_n 0, 1) := by decide +kernel
theorem dX8_makes_36 : decode cX8_makes 36 = .ok (.getfield 22, 3) := by decide +kernel
theorem dX8_makes_39 : decode cX8_makes 39 = .ok (.iload_n 1, 1) := by decide +kernel
theorem dX8_makes_40 : decode cX8_makes 40 = .ok (.aload_n 0, 1) := by decide +kernel
theorem dX8_makes_41 : decode cX8_makes 41 = .ok (.getfield 7, 3) := by decide +kernel
theorem dX8_makes_44 : decode cX8_makes 44 = .ok (.iload_n 1, 1) := by decide +kernel
theorem dX8_makes_45 : decode cX8_makes 45 = .ok (.iaload, 1) := by decide +kernel
theorem dX8_makes_46 : decode cX8_makes 46 = .ok (.iload 6, 2) := by decide +kernel
theorem dX8_makes_48 : decode cX8_makes 48 = .ok (.invokestatic 152, 3) := by decide +kernel
theorem dX8_makes_51 : decode cX8_makes 51 = .ok (.iload_n 2, 1) := by decide +kernel
theorem dX8_makes_52 : decode cX8_makes 52 = .ok (.iastore, 1) := by decide +kernel
theorem dX8_makes_53 : decode cX8_makes 53 = .ok (.aload_n 0, 1) := by decide +kernel
theorem dX8_makes_54 : decode cX8_makes 54 = .ok (.getfield 25, 3) := by decide +kernel
theorem dX8_makes_57 : decode cX8_makes 57 = .ok (.iload_n 1, 1) := by decide +kernel
theorem dX8_makes_58 : decode cX8_makes 58 = .ok (.aload_n 0, 1) := by decide +kernel
theorem dX8_makes_59 : decode cX8_makes 59 = .ok (.getfield 7, 3) := by decide +kernel
theorem dX8_makes_62 : decode cX8_makes 62 = .ok (.iload_n 1, 1) := by decide +kernel
theorem dX8_makes_63 : decode cX8_makes 63 = .ok (.iaload, 1) := by decide +kernel
theorem dX8_makes_64 : decode cX8_makes 64 = .ok (.iload 6, 2) := by decide +kernel
theorem dX8_makes_66 : decode cX8_makes 66 = .ok (.invokestatic 152, 3) := by decide +kernel
theorem dX8_makes_69 : decode cX8_makes 69 = .ok (.iload 5, 2) := by decide +kernel
theorem dX8_makes_71 : decode cX8_makes 71 = .ok (.bastore, 1) := by decide +kernel
theorem dX8_makes_72 : decode cX8_makes 72 = .ok (.aload_n 0, 1) := by decide +kernel
theorem dX8_makes_73 : decode cX8_makes 73 = .ok (.getfield 13, 3) := by decide +kernel
theorem dX8_makes_76 : decode cX8_makes 76 = .ok (.iload_n 1, 1) := by decide +kernel
theorem dX8_makes_77 : decode cX8_makes 77 = .ok (.dup2, 1) := by decide +kernel
theorem dX8_makes_78 : decode cX8_makes 78 = .ok (.iaload, 1) := by decide +kernel
theorem dX8_makes_79 : decode cX8_makes 79 = .ok (.iconst 1, 1) := by decide +kernel
theorem dX8_makes_80 : decode cX8_makes 80 = .ok (.iadd, 1) := by decide +kernel
theorem dX8_makes_81 : decode cX8_makes 81 = .ok (.iastore, 1) := by decide +kernel
theorem dX8_makes_82 : decode cX8_makes 82 = .ok (.iload 6, 2) := by decide +kernel
theorem dX8_makes_84 : decode cX8_makes 84 = .ok (.ireturn, 1) := by decide +kernel
theorem dX8_ends_0 : decode cX8_ends 0 = .ok (.aload_n 0, 1) := by decide +kernel
theorem dX8_ends_1 : decode cX8_ends 1 = .ok (.getfield 22, 3) := by decide +kernel
theorem dX8_ends_4 : decode cX8_ends 4 = .ok (.iload_n 1, 1) := by decide +kernel
theorem dX8_ends_5 : decode cX8_ends 5 = .ok (.aload_n 0, 1) := by decide +kernel
theorem dX8_ends_6 : decode cX8_ends 6 = .ok (.getfield 7, 3) := by decide +kernel
theorem dX8_ends_9 : decode cX8_ends 9 = .ok (.iload_n 1, 1) := by decide +kernel
theorem dX8_ends_10 : decode cX8_ends 10 = .ok (.iaload, 1) := by decide +kernel
theorem dX8_ends_11 : decode cX8_ends 11 = .ok (.iload_n 2, 1) := by decide +kernel
theorem dX8_ends_12 : decode cX8_ends 12 = .ok (.invokestatic 152, 3) := by decide +kernel
theorem dX8_ends_15 : decode cX8_ends 15 = .ok (.iconst (-1), 1) := by decide +kernel
theorem dX8_ends_16 : decode cX8_ends 16 = .ok (.iastore, 1) := by decide +kernel
theorem dX8_ends_17 : decode cX8_ends 17 = .ok (.return_, 1) := by decide +kernel
theorem dX8_add_0 : decode cX8_add 0 = .ok (.aload_n 0, 1) := by decide +kernel
theorem dX8_add_1 : decode cX8_add 1 = .ok (.iload_n 1, 1) := by decide +kernel
theorem dX8_add_2 : decode cX8_add 2 = .ok (.invokevirtual 156, 3) := by decide +kernel
theorem dX8_add_5 : decode cX8_add 5 = .ok (.istore 6, 2) := by decide +kernel
theorem dX8_add_7 : decode cX8_add 7 = .ok (.iload_n 2, 1) := by decide +kernel
theorem dX8_add_8 : decode cX8_add 8 = .ok (.invokestatic 148, 3) := by decide +kernel
theorem dX8_add_11 : decode cX8_add 11 = .ok (.ifCond .eq 29, 3) := by decide +kernel
theorem dX8_add_14 : decode cX8_add 14 = .ok (.iload_n 3, 1) := by decide +kernel
theorem dX8_add_15 : decode cX8_add 15 = .ok (.iconst 0, 1) := by decide +kernel
theorem dX8_add_16 : decode cX8_add 16 = .ok (.iconst 2, 1) := by decide +kernel
theorem dX8_add_17 : decode cX8_add 17 = .ok (.invokestatic 144, 3) := by decide +kernel
theorem dX8_add_20 : decode cX8_add 20 = .ok (.ifCond .eq 20, 3) := by decide +kernel
theorem dX8_add_23 : decode cX8_add 23 = .ok (.iload 4, 2) := by decide +kernel
theorem dX8_add_25 : decode cX8_add 25 = .ok (.iconst 0, 1) := by decide +kernel
theorem dX8_add_26 : decode cX8_add 26 = .ok (.iload_n 3, 1) := by decide +kernel
theorem dX8_add_27 : decode cX8_add 27 = .ok (.invokestatic 165, 3) := by decide +kernel
theorem dX8_add_30 : decode cX8_add 30 = .ok (.invokestatic 144, 3) := by decide +kernel
theorem dX8_add_33 : decode cX8_add 33 = .ok (.ifCond .eq 7, 3) := by decide +kernel
theorem dX8_add_36 : decode cX8_add 36 = .ok (.iconst 1, 1) := by decide +kernel
theorem dX8_add_37 : decode cX8_add 37 = .ok (.goto 4, 3) := by decide +kernel
theorem dX8_add_40 : decode cX8_add 40 = .ok (.iconst 0, 1) := by decide +kernel
theorem dX8_add_41 : decode cX8_add 41 = .ok (.istore 7, 2) := by decide +kernel
theorem dX8_add_43 : decode cX8_add 43 = .ok (.aload_n 0, 1) := by decide +kernel
theorem dX8_add_44 : decode cX8_add 44 = .ok (.iload 6, 2) := by decide +kernel
theorem dX8_add_46 : decode cX8_add 46 = .ok (.ifCond .ne 7, 3) := by decide +kernel
theorem dX8_add_49 : decode cX8_add 49 = .ok (.iconst 1, 1) := by decide +kernel
theorem dX8_add_50 : decode cX8_add 50 = .ok (.goto 35, 3) := by decide +kernel
theorem dX8_add_53 : decode cX8_add 53 = .ok (.iload 7, 2) := by decide +kernel
theorem dX8_add_55 : decode cX8_add 55 = .ok (.ifCond .ne 7, 3) := by decide +kernel
theorem dX8_add_58 : decode cX8_add 58 = .ok (.iconst 2, 1) := by decide +kernel
theorem dX8_add_59 : decode cX8_add 59 = .ok (.goto 26, 3) := by decide +kernel
theorem dX8_add_62 : decode cX8_add 62 = .ok (.aload_n 0, 1) := by decide +kernel
theorem dX8_add_63 : decode cX8_add 63 = .ok (.iload_n 1, 1) := by decide +kernel
theorem dX8_add_64 : decode cX8_add 64 = .ok (.iload_n 2, 1) := by decide +kernel
theorem dX8_add_65 : decode cX8_add 65 = .ok (.invokevirtual 169, 3) := by decide +kernel
theorem dX8_add_68 : decode cX8_add 68 = .ok (.iconst (-1), 1) := by decide +kernel
theorem dX8_add_69 : decode cX8_add 69 = .ok (.if_icmp .ne 11, 3) := by decide +kernel
theorem dX8_add_72 : decode cX8_add 72 = .ok (.aload_n 0, 1) := by decide +kernel
theorem dX8_add_73 : decode cX8_add 73 = .ok (.iload_n 1, 1) := by decide +kernel
theorem dX8_add_74 : decode cX8_add 74 = .ok (.invokevirtual 173, 3) := by decide +kernel
theorem dX8_add_77 : decode cX8_add 77 = .ok (.ifCond .eq 7, 3) := by decide +kernel
theorem dX8_add_80 : decode cX8_add 80 = .ok (.iconst 3, 1) := by decide +kernel
theorem dX8_add_81 : decode cX8_add 81 = .ok (.goto 4, 3) := by decide +kernel
theorem dX8_add_84 : decode cX8_add 84 = .ok (.iconst 0, 1) := by decide +kernel
theorem dX8_add_85 : decode cX8_add 85 = .ok (.invokevirtual 162, 3) := by decide +kernel
theorem dX8_add_88 : decode cX8_add 88 = .ok (.ifCond .eq 5, 3) := by decide +kernel
theorem dX8_add_91 : decode cX8_add 91 = .ok (.iconst 0, 1) := by decide +kernel
theorem dX8_add_92 : decode cX8_add 92 = .ok (.ireturn, 1) := by decide +kernel
theorem dX8_add_93 : decode cX8_add 93 = .ok (.aload_n 0, 1) := by decide +kernel
theorem dX8_add_94 : decode cX8_add 94 = .ok (.iload_n 1, 1) := by decide +kernel
theorem dX8_add_95 : decode cX8_add 95 = .ok (.iconst 0, 1) := by decide +kernel
theorem dX8_add_96 : decode cX8_add 96 = .ok (.invokevirtual 176, 3) := by decide +kernel
theorem dX8_add_99 : decode cX8_add 99 = .ok (.istore 8, 2) := by decide +kernel
theorem dX8_add_101 : decode cX8_add 101 = .ok (.aload_n 0, 1) := by decide +kernel
theorem dX8_add_102 : decode cX8_add 102 = .ok (.getfield 35, 3) := by decide +kernel
theorem dX8_add_105 : decode cX8_add 105 = .ok (.iconst 2, 1) := by decide +kernel
theorem dX8_add_106 : decode cX8_add 106 = .ok (.iload 8, 2) := by decide +kernel
theorem dX8_add_108 : decode cX8_add 108 = .ok (.imul, 1) := by decide +kernel
theorem dX8_add_109 : decode cX8_add 109 = .ok (.aload_n 0, 1) := by decide +kernel
theorem dX8_add_110 : decode cX8_add 110 = .ok (.iload_n 1, 1) := by decide +kernel
theorem dX8_add_111 : decode cX8_add 111 = .ok (.iload_n 2, 1) := by decide +kernel
theorem dX8_add_112 : decode cX8_add 112 = .ok (.iload_n 3, 1) := by decide +kernel
theorem dX8_add_113 : decode cX8_add 113 = .ok (.iload 4, 2) := by decide +kernel
theorem dX8_add_115 : decode cX8_add 115 = .ok (.iload 5, 2) := by decide +kernel
theorem dX8_add_117 : decode cX8_add 117 = .ok (.invokevirtual 179, 3) := by decide +kernel
theorem dX8_add_120 : decode cX8_add 120 = .ok (.iastore, 1) := by decide +kernel
theorem dX8_add_121 : decode cX8_add 121 = .ok (.aload_n 0, 1) := by decide +kernel
theorem dX8_add_122 : decode cX8_add 122 = .ok (.getfield 35, 3) := by decide +kernel
theorem dX8_add_125 : decode cX8_add 125 = .ok (.iconst 2, 1) := by decide +kernel
theorem dX8_add_126 : decode cX8_add 126 = .ok (.iload 8, 2) := by decide +kernel
theorem dX8_add_128 : decode cX8_add 128 = .ok (.imul, 1) := by decide +kernel
theorem dX8_add_129 : decode cX8_add 129 = .ok (.iaload, 1) := by decide +kernel
theorem dX8_add_130 : decode cX8_add 130 = .ok (.ireturn, 1) := by decide +kernel
theorem dX8_rename_0 : decode cX8_rename 0 = .ok (.aload_n 0, 1) := by decide +kernel
theorem dX8_rename_1 : decode cX8_rename 1 = .ok (.iload_n 1, 1) := by decide +kernel
theorem dX8_rename_2 : decode cX8_rename 2 = .ok (.iload_n 2, 1) := by decide +kernel
theorem dX8_rename_3 : decode cX8_rename 3 = .ok (.invokevirtual 169, 3) := by decide +kernel
theorem dX8_rename_6 : decode cX8_rename 6 = .ok (.istore 4, 2) := by decide +kernel
theorem dX8_rename_8 : decode cX8_rename 8 = .ok (.aload_n 0, 1) := by decide +kernel
theorem dX8_rename_9 : decode cX8_rename 9 = .ok (.iload 4, 2) := by decide +kernel
theorem dX8_rename_11 : decode cX8_rename 11 = .ok (.iconst (-1), 1) := by decide +kernel
theorem dX8_rename_12 : decode cX8_rename 12 = .ok (.if_icmp .ne 7, 3) := by decide +kernel
theorem dX8_rename_15 : decode cX8_rename 15 = .ok (.iconst 1, 1) := by decide +kernel
theorem dX8_rename_16 : decode cX8_rename 16 = .ok (.goto 37, 3) := by decide +kernel
theorem dX8_rename_19 : decode cX8_rename 19 = .ok (.iload_n 3, 1) := by decide +kernel
theorem dX8_rename_20 : decode cX8_rename 20 = .ok (.invokestatic 148, 3) := by decide +kernel
theorem dX8_rename_23 : decode cX8_rename 23 = .ok (.ifCond .ne 7, 3) := by decide +kernel
theorem dX8_rename_26 : decode cX8_rename 26 = .ok (.iconst 2, 1) := by decide +kernel
theorem dX8_rename_27 : decode cX8_rename 27 = .ok (.goto 26, 3) := by decide +kernel
theorem dX8_rename_30 : decode cX8_rename 30 = .ok (.aload_n 0, 1) := by decide +kernel
theorem dX8_rename_31 : decode cX8_rename 31 = .ok (.iload_n 1, 1) := by decide +kernel
theorem dX8_rename_32 : decode cX8_rename 32 = .ok (.iload_n 3, 1) := by decide +kernel
theorem dX8_rename_33 : decode cX8_rename 33 = .ok (.invokevirtual 169, 3) := by decide +kernel
theorem dX8_rename_36 : decode cX8_rename 36 = .ok (.iconst (-1), 1) := by decide +kernel
theorem dX8_rename_37 : decode cX8_rename 37 = .ok (.if_icmp .ne 11, 3) := by decide +kernel
theorem dX8_rename_40 : decode cX8_rename 40 = .ok (.aload_n 0, 1) := by decide +kernel
theorem dX8_rename_41 : decode cX8_rename 41 = .ok (.iload_n 1, 1) := by decide +kernel
theorem dX8_rename_42 : decode cX8_rename 42 = .ok (.invokevirtual 173, 3) := by decide +kernel
theorem dX8_rename_45 : decode cX8_rename 45 = .ok (.ifCond .eq 7, 3) := by decide +kernel
theorem dX8_rename_48 : decode cX8_rename 48 = .ok (.iconst 3, 1) := by decide +kernel
theorem dX8_rename_49 : decode cX8_rename 49 = .ok (.goto 4, 3) := by decide +kernel
theorem dX8_rename_52 : decode cX8_rename 52 = .ok (.iconst 0, 1) := by decide +kernel
theorem dX8_rename_53 : decode cX8_rename 53 = .ok (.invokevirtual 162, 3) := by decide +kernel
theorem dX8_rename_56 : decode cX8_rename 56 = .ok (.ifCond .eq 5, 3) := by decide +kernel
theorem dX8_rename_59 : decode cX8_rename 59 = .ok (.iconst 0, 1) := by decide +kernel
theorem dX8_rename_60 : decode cX8_rename 60 = .ok (.ireturn, 1) := by decide +kernel
theorem dX8_rename_61 : decode cX8_rename 61 = .ok (.aload_n 0, 1) := by decide +kernel
theorem dX8_rename_62 : decode cX8_rename 62 = .ok (.iload_n 1, 1) := by decide +kernel
theorem dX8_rename_63 : decode cX8_rename 63 = .ok (.iconst 1, 1) := by decide +kernel
theorem dX8_rename_64 : decode cX8_rename 64 = .ok (.invokevirtual 176, 3) := by decide +kernel
theorem dX8_rename_67 : decode cX8_rename 67 = .ok (.istore 5, 2) := by decide +kernel
theorem dX8_rename_69 : decode cX8_rename 69 = .ok (.aload_n 0, 1) := by decide +kernel
theorem dX8_rename_70 : decode cX8_rename 70 = .ok (.getfield 32, 3) := by decide +kernel
theorem dX8_rename_73 : decode cX8_rename 73 = .ok (.iconst 2, 1) := by decide +kernel
theorem dX8_rename_74 : decode cX8_rename 74 = .ok (.iload 5, 2) := by decide +kernel
theorem dX8_rename_76 : decode cX8_rename 76 = .ok (.imul, 1) := by decide +kernel
theorem dX8_rename_77 : decode cX8_rename 77 = .ok (.iload 4, 2) := by decide +kernel
theorem dX8_rename_79 : decode cX8_rename 79 = .ok (.iastore, 1) := by decide +kernel
theorem dX8_rename_80 : decode cX8_rename 80 = .ok (.aload_n 0, 1) := by decide +kernel
theorem dX8_rename_81 : decode cX8_rename 81 = .ok (.getfield 35, 3) := by decide +kernel
theorem dX8_rename_84 : decode cX8_rename 84 = .ok (.iconst 2, 1) := by decide +kernel
theorem dX8_rename_85 : decode cX8_rename 85 = .ok (.iload 5, 2) := by decide +kernel
theorem dX8_rename_87 : decode cX8_rename 87 = .ok (.imul, 1) := by decide +kernel
theorem dX8_rename_88 : decode cX8_rename 88 = .ok (.iload 4, 2) := by decide +kernel
theorem dX8_rename_90 : decode cX8_rename 90 = .ok (.iastore, 1) := by decide +kernel
theorem dX8_rename_91 : decode cX8_rename 91 = .ok (.aload_n 0, 1) := by decide +kernel
theorem dX8_rename_92 : decode cX8_rename 92 = .ok (.getfield 22, 3) := by decide +kernel
theorem dX8_rename_95 : decode cX8_rename 95 = .ok (.iload_n 1, 1) := by decide +kernel
theorem dX8_rename_96 : decode cX8_rename 96 = .ok (.aload_n 0, 1) := by decide +kernel
theorem dX8_rename_97 : decode cX8_rename 97 = .ok (.getfield 7, 3) := by decide +kernel
theorem dX8_rename_100 : decode cX8_rename 100 = .ok (.iload_n 1, 1) := by decide +kernel
theorem dX8_rename_101 : decode cX8_rename 101 = .ok (.iaload, 1) := by decide +kernel
theorem dX8_rename_102 : decode cX8_rename 102 = .ok (.iload 4, 2) := by decide +kernel
theorem dX8_rename_104 : decode cX8_rename 104 = .ok (.invokestatic 152, 3) := by decide +kernel
theorem dX8_rename_107 : decode cX8_rename 107 = .ok (.iload_n 3, 1) := by decide +kernel
theorem dX8_rename_108 : decode cX8_rename 108 = .ok (.iastore, 1) := by decide +kernel
theorem dX8_rename_109 : decode cX8_rename 109 = .ok (.aload_n 0, 1) := by decide +kernel
theorem dX8_rename_110 : decode cX8_rename 110 = .ok (.getfield 7, 3) := by decide +kernel
theorem dX8_rename_113 : decode cX8_rename 113 = .ok (.iload_n 1, 1) := by decide +kernel
theorem dX8_rename_114 : decode cX8_rename 114 = .ok (.iaload, 1) := by decide +kernel
theorem dX8_rename_115 : decode cX8_rename 115 = .ok (.ireturn, 1) := by decide +kernel
theorem dX8_isWaiting_0 : decode cX8_isWaiting 0 = .ok (.iconst 0, 1) := by decide +kernel
theorem dX8_isWaiting_1 : decode cX8_isWaiting 1 = .ok (.istore_n 3, 1) := by decide +kernel
theorem dX8_isWaiting_2 : decode cX8_isWaiting 2 = .ok (.iconst 0, 1) := by decide +kernel
theorem dX8_isWaiting_3 : decode cX8_isWaiting 3 = .ok (.istore 4, 2) := by decide +kernel
theorem dX8_isWaiting_5 : decode cX8_isWaiting 5 = .ok (.iload 4, 2) := by decide +kernel
theorem dX8_isWaiting_7 : decode cX8_isWaiting 7 = .ok (.aload_n 0, 1) := by decide +kernel
theorem dX8_isWaiting_8 : decode cX8_isWaiting 8 = .ok (.getfield 41, 3) := by decide +kernel
theorem dX8_isWaiting_11 : decode cX8_isWaiting 11 = .ok (.iload_n 1, 1) := by decide +kernel
theorem dX8_isWaiting_12 : decode cX8_isWaiting 12 = .ok (.iaload, 1) := by decide +kernel
theorem dX8_isWaiting_13 : decode cX8_isWaiting 13 = .ok (.if_icmp .ge 35, 3) := by decide +kernel
theorem dX8_isWaiting_16 : decode cX8_isWaiting 16 = .ok (.iload_n 3, 1) := by decide +kernel
theorem dX8_isWaiting_17 : decode cX8_isWaiting 17 = .ok (.ifCond .ne 19, 3) := by decide +kernel
theorem dX8_isWaiting_20 : decode cX8_isWaiting 20 = .ok (.aload_n 0, 1) := by decide +kernel
theorem dX8_isWaiting_21 : decode cX8_isWaiting 21 = .ok (.getfield 44, 3) := by decide +kernel
theorem dX8_isWaiting_24 : decode cX8_isWaiting 24 = .ok (.bipush 48, 2) := by decide +kernel
theorem dX8_isWaiting_26 : decode cX8_isWaiting 26 = .ok (.iload_n 1, 1) := by decide +kernel
theorem dX8_isWaiting_27 : decode cX8_isWaiting 27 = .ok (.imul, 1) := by decide +kernel
theorem dX8_isWaiting_28 : decode cX8_isWaiting 28 = .ok (.iload 4, 2) := by decide +kernel
theorem dX8_isWaiting_30 : decode cX8_isWaiting 30 = .ok (.iadd, 1) := by decide +kernel
theorem dX8_isWaiting_31 : decode cX8_isWaiting 31 = .ok (.iaload, 1) := by decide +kernel
theorem dX8_isWaiting_32 : decode cX8_isWaiting 32 = .ok (.iload_n 2, 1) := by decide +kernel
theorem dX8_isWaiting_33 : decode cX8_isWaiting 33 = .ok (.if_icmp .ne 7, 3) := by decide +kernel
theorem dX8_isWaiting_36 : decode cX8_isWaiting 36 = .ok (.iconst 1, 1) := by decide +kernel
theorem dX8_isWaiting_37 : decode cX8_isWaiting 37 = .ok (.goto 4, 3) := by decide +kernel
theorem dX8_isWaiting_40 : decode cX8_isWaiting 40 = .ok (.iconst 0, 1) := by decide +kernel
theorem dX8_isWaiting_41 : decode cX8_isWaiting 41 = .ok (.istore_n 3, 1) := by decide +kernel
theorem dX8_isWaiting_42 : decode cX8_isWaiting 42 = .ok (.iinc 4 1, 3) := by decide +kernel
theorem dX8_isWaiting_45 : decode cX8_isWaiting 45 = .ok (.goto (-40), 3) := by decide +kernel
theorem dX8_isWaiting_48 : decode cX8_isWaiting 48 = .ok (.iload_n 3, 1) := by decide +kernel
theorem dX8_isWaiting_49 : decode cX8_isWaiting 49 = .ok (.ireturn, 1) := by decide +kernel
theorem dX8_turned_0 : decode cX8_turned 0 = .ok (.iload_n 0, 1) := by decide +kernel
theorem dX8_turned_1 : decode cX8_turned 1 = .ok (.iconst (-1), 1) := by decide +kernel
theorem dX8_turned_2 : decode cX8_turned 2 = .ok (.if_icmp .eq 8, 3) := by decide +kernel
theorem dX8_turned_5 : decode cX8_turned 5 = .ok (.iload_n 1, 1) := by decide +kernel
theorem dX8_turned_6 : decode cX8_turned 6 = .ok (.iload_n 2, 1) := by decide +kernel
theorem dX8_turned_7 : decode cX8_turned 7 = .ok (.if_icmp .ne 5, 3) := by decide +kernel
theorem dX8_turned_10 : decode cX8_turned 10 = .ok (.iload_n 0, 1) := by decide +kernel
theorem dX8_turned_11 : decode cX8_turned 11 = .ok (.ireturn, 1) := by decide +kernel
theorem dX8_turned_12 : decode cX8_turned 12 = .ok (.iload_n 1, 1) := by decide +kernel
theorem dX8_turned_13 : decode cX8_turned 13 = .ok (.iconst 1, 1) := by decide +kernel
theorem dX8_turned_14 : decode cX8_turned 14 = .ok (.if_icmp .ne 7, 3) := by decide +kernel
theorem dX8_turned_17 : decode cX8_turned 17 = .ok (.iload_n 0, 1) := by decide +kernel
theorem dX8_turned_18 : decode cX8_turned 18 = .ok (.goto 35, 3) := by decide +kernel
theorem dX8_turned_21 : decode cX8_turned 21 = .ok (.iload_n 2, 1) := by decide +kernel
theorem dX8_turned_22 : decode cX8_turned 22 = .ok (.iconst 1, 1) := by decide +kernel
theorem dX8_turned_23 : decode cX8_turned 23 = .ok (.if_icmp .ne 15, 3) := by decide +kernel
theorem dX8_turned_26 : decode cX8_turned 26 = .ok (.iload_n 0, 1) := by decide +kernel
theorem dX8_turned_27 : decode cX8_turned 27 = .ok (.ifCond .le 7, 3) := by decide +kernel
theorem dX8_turned_30 : decode cX8_turned 30 = .ok (.iconst 1, 1) := by decide +kernel
theorem dX8_turned_31 : decode cX8_turned 31 = .ok (.goto 22, 3) := by decide +kernel
theorem dX8_turned_34 : decode cX8_turned 34 = .ok (.iconst 0, 1) := by decide +kernel
theorem dX8_turned_35 : decode cX8_turned 35 = .ok (.goto 18, 3) := by decide +kernel
theorem dX8_turned_38 : decode cX8_turned 38 = .ok (.iload_n 1, 1) := by decide +kernel
theorem dX8_turned_39 : decode cX8_turned 39 = .ok (.ifCond .ne 10, 3) := by decide +kernel
theorem dX8_turned_42 : decode cX8_turned 42 = .ok (.iload_n 0, 1) := by decide +kernel
theorem dX8_turned_43 : decode cX8_turned 43 = .ok (.bipush 10, 2) := by decide +kernel
theorem dX8_turned_45 : decode cX8_turned 45 = .ok (.idiv, 1) := by decide +kernel
theorem dX8_turned_46 : decode cX8_turned 46 = .ok (.goto 7, 3) := by decide +kernel
theorem dX8_turned_49 : decode cX8_turned 49 = .ok (.bipush 10, 2) := by decide +kernel
theorem dX8_turned_51 : decode cX8_turned 51 = .ok (.iload_n 0, 1) := by decide +kernel
theorem dX8_turned_52 : decode cX8_turned 52 = .ok (.imul, 1) := by decide +kernel
theorem dX8_turned_53 : decode cX8_turned 53 = .ok (.ireturn, 1) := by decide +kernel
theorem dX8_turn_0 : decode cX8_turn 0 = .ok (.aload_n 0, 1) := by decide +kernel
theorem dX8_turn_1 : decode cX8_turn 1 = .ok (.iload_n 1, 1) := by decide +kernel
theorem dX8_turn_2 : decode cX8_turn 2 = .ok (.iload_n 2, 1) := by decide +kernel
theorem dX8_turn_3 : decode cX8_turn 3 = .ok (.invokevirtual 169, 3) := by decide +kernel
theorem dX8_turn_6 : decode cX8_turn 6 = .ok (.istore 4, 2) := by decide +kernel
theorem dX8_turn_8 : decode cX8_turn 8 = .ok (.iload 4, 2) := by decide +kernel
theorem dX8_turn_10 : decode cX8_turn 10 = .ok (.iconst (-1), 1) := by decide +kernel
theorem dX8_turn_11 : decode cX8_turn 11 = .ok (.if_icmp .eq 41, 3) := by decide +kernel
theorem dX8_turn_14 : decode cX8_turn 14 = .ok (.aload_n 0, 1) := by decide +kernel
theorem dX8_turn_15 : decode cX8_turn 15 = .ok (.getfield 16, 3) := by decide +kernel
theorem dX8_turn_18 : decode cX8_turn 18 = .ok (.bipush 48, 2) := by decide +kernel
theorem dX8_turn_20 : decode cX8_turn 20 = .ok (.iload_n 1, 1) := by decide +kernel
theorem dX8_turn_21 : decode cX8_turn 21 = .ok (.imul, 1) := by decide +kernel
theorem dX8_turn_22 : decode cX8_turn 22 = .ok (.iload 4, 2) := by decide +kernel
theorem dX8_turn_24 : decode cX8_turn 24 = .ok (.iadd, 1) := by decide +kernel
theorem dX8_turn_25 : decode cX8_turn 25 = .ok (.iaload, 1) := by decide +kernel
theorem dX8_turn_26 : decode cX8_turn 26 = .ok (.iload_n 3, 1) := by decide +kernel
theorem dX8_turn_27 : decode cX8_turn 27 = .ok (.if_icmp .eq 25, 3) := by decide +kernel
theorem dX8_turn_30 : decode cX8_turn 30 = .ok (.aload_n 0, 1) := by decide +kernel
theorem dX8_turn_31 : decode cX8_turn 31 = .ok (.iload_n 1, 1) := by decide +kernel
theorem dX8_turn_32 : decode cX8_turn 32 = .ok (.iload 4, 2) := by decide +kernel
theorem dX8_turn_34 : decode cX8_turn 34 = .ok (.invokevirtual 183, 3) := by decide +kernel
theorem dX8_turn_37 : decode cX8_turn 37 = .ok (.ifCond .ne 15, 3) := by decide +kernel
theorem dX8_turn_40 : decode cX8_turn 40 = .ok (.aload_n 0, 1) := by decide +kernel
theorem dX8_turn_41 : decode cX8_turn 41 = .ok (.iload_n 1, 1) := by decide +kernel
theorem dX8_turn_42 : decode cX8_turn 42 = .ok (.invokevirtual 173, 3) := by decide +kernel
theorem dX8_turn_45 : decode cX8_turn 45 = .ok (.ifCond .ne 7, 3) := by decide +kernel
theorem dX8_turn_48 : decode cX8_turn 48 = .ok (.iconst 1, 1) := by decide +kernel
theorem dX8_turn_49 : decode cX8_turn 49 = .ok (.goto 4, 3) := by decide +kernel
theorem dX8_turn_52 : decode cX8_turn 52 = .ok (.iconst 0, 1) := by decide +kernel
theorem dX8_turn_53 : decode cX8_turn 53 = .ok (.istore 5, 2) := by decide +kernel
theorem dX8_turn_55 : decode cX8_turn 55 = .ok (.aload_n 0, 1) := by decide +kernel
theorem dX8_turn_56 : decode cX8_turn 56 = .ok (.iload 4, 2) := by decide +kernel
theorem dX8_turn_58 : decode cX8_turn 58 = .ok (.iconst (-1), 1) := by decide +kernel
theorem dX8_turn_59 : decode cX8_turn 59 = .ok (.if_icmp .ne 7, 3) := by decide +kernel
theorem dX8_turn_62 : decode cX8_turn 62 = .ok (.iconst 1, 1) := by decide +kernel
theorem dX8_turn_63 : decode cX8_turn 63 = .ok (.goto 26, 3) := by decide +kernel
theorem dX8_turn_66 : decode cX8_turn 66 = .ok (.iload_n 3, 1) := by decide +kernel
theorem dX8_turn_67 : decode cX8_turn 67 = .ok (.iconst 0, 1) := by decide +kernel
theorem dX8_turn_68 : decode cX8_turn 68 = .ok (.iconst 2, 1) := by decide +kernel
theorem dX8_turn_69 : decode cX8_turn 69 = .ok (.invokestatic 144, 3) := by decide +kernel
theorem dX8_turn_72 : decode cX8_turn 72 = .ok (.ifCond .ne 7, 3) := by decide +kernel
theorem dX8_turn_75 : decode cX8_turn 75 = .ok (.iconst 2, 1) := by decide +kernel
theorem dX8_turn_76 : decode cX8_turn 76 = .ok (.goto 13, 3) := by decide +kernel
theorem dX8_turn_79 : decode cX8_turn 79 = .ok (.iload 5, 2) := by decide +kernel
theorem dX8_turn_81 : decode cX8_turn 81 = .ok (.ifCond .eq 7, 3) := by decide +kernel
theorem dX8_turn_84 : decode cX8_turn 84 = .ok (.iconst 0, 1) := by decide +kernel
theorem dX8_turn_85 : decode cX8_turn 85 = .ok (.goto 4, 3) := by decide +kernel
theorem dX8_turn_88 : decode cX8_turn 88 = .ok (.iconst 3, 1) := by decide +kernel
theorem dX8_turn_89 : decode cX8_turn 89 = .ok (.invokevirtual 162, 3) := by decide +kernel
theorem dX8_turn_92 : decode cX8_turn 92 = .ok (.ifCond .eq 5, 3) := by decide +kernel
theorem dX8_turn_95 : decode cX8_turn 95 = .ok (.iconst 0, 1) := by decide +kernel
theorem dX8_turn_96 : decode cX8_turn 96 = .ok (.ireturn, 1) := by decide +kernel
theorem dX8_turn_97 : decode cX8_turn 97 = .ok (.bipush 48, 2) := by decide +kernel
theorem dX8_turn_99 : decode cX8_turn 99 = .ok (.iload_n 1, 1) := by decide +kernel
theorem dX8_turn_100 : decode cX8_turn 100 = .ok (.imul, 1) := by decide +kernel
theorem dX8_turn_101 : decode cX8_turn 101 = .ok (.iload 4, 2) := by decide +kernel
theorem dX8_turn_103 : decode cX8_turn 103 = .ok (.iadd, 1) := by decide +kernel
theorem dX8_turn_104 : decode cX8_turn 104 = .ok (.istore 6, 2) := by decide +kernel
theorem dX8_turn_106 : decode cX8_turn 106 = .ok (.aload_n 0, 1) := by decide +kernel
theorem dX8_turn_107 : decode cX8_turn 107 = .ok (.getfield 25, 3) := by decide +kernel
theorem dX8_turn_110 : decode cX8_turn 110 = .ok (.iload_n 1, 1) := by decide +kernel
theorem dX8_turn_111 : decode cX8_turn 111 = .ok (.aload_n 0, 1) := by decide +kernel
theorem dX8_turn_112 : decode cX8_turn 112 = .ok (.getfield 7, 3) := by decide +kernel
theorem dX8_turn_115 : decode cX8_turn 115 = .ok (.iload_n 1, 1) := by decide +kernel
theorem dX8_turn_116 : decode cX8_turn 116 = .ok (.iaload, 1) := by decide +kernel
theorem dX8_turn_117 : decode cX8_turn 117 = .ok (.iload 4, 2) := by decide +kernel
theorem dX8_turn_119 : decode cX8_turn 119 = .ok (.invokestatic 152, 3) := by decide +kernel
theorem dX8_turn_122 : decode cX8_turn 122 = .ok (.baload, 1) := by decide +kernel
theorem dX8_turn_123 : decode cX8_turn 123 = .ok (.istore 7, 2) := by decide +kernel
theorem dX8_turn_125 : decode cX8_turn 125 = .ok (.aload_n 0, 1) := by decide +kernel
theorem dX8_turn_126 : decode cX8_turn 126 = .ok (.iload_n 1, 1) := by decide +kernel
theorem dX8_turn_127 : decode cX8_turn 127 = .ok (.iconst 2, 1) := by decide +kernel
theorem dX8_turn_128 : decode cX8_turn 128 = .ok (.invokevirtual 176, 3) := by decide +kernel
theorem dX8_turn_131 : decode cX8_turn 131 = .ok (.istore 8, 2) := by decide +kernel
theorem dX8_turn_133 : decode cX8_turn 133 = .ok (.aload_n 0, 1) := by decide +kernel
theorem dX8_turn_134 : decode cX8_turn 134 = .ok (.iload_n 1, 1) := by decide +kernel
theorem dX8_turn_135 : decode cX8_turn 135 = .ok (.iload 4, 2) := by decide +kernel
theorem dX8_turn_137 : decode cX8_turn 137 = .ok (.invokevirtual 187, 3) := by decide +kernel
theorem dX8_turn_140 : decode cX8_turn 140 = .ok (.aload_n 0, 1) := by decide +kernel
theorem dX8_turn_141 : decode cX8_turn 141 = .ok (.getfield 32, 3) := by decide +kernel
theorem dX8_turn_144 : decode cX8_turn 144 = .ok (.iconst 2, 1) := by decide +kernel
theorem dX8_turn_145 : decode cX8_turn 145 = .ok (.iload 8, 2) := by decide +kernel
theorem dX8_turn_147 : decode cX8_turn 147 = .ok (.imul, 1) := by decide +kernel
theorem dX8_turn_148 : decode cX8_turn 148 = .ok (.iload 4, 2) := by decide +kernel
theorem dX8_turn_150 : decode cX8_turn 150 = .ok (.iastore, 1) := by decide +kernel
theorem dX8_turn_151 : decode cX8_turn 151 = .ok (.aload_n 0, 1) := by decide +kernel
theorem dX8_turn_152 : decode cX8_turn 152 = .ok (.getfield 35, 3) := by decide +kernel
theorem dX8_turn_155 : decode cX8_turn 155 = .ok (.iconst 2, 1) := by decide +kernel
theorem dX8_turn_156 : decode cX8_turn 156 = .ok (.iload 8, 2) := by decide +kernel
theorem dX8_turn_158 : decode cX8_turn 158 = .ok (.imul, 1) := by decide +kernel
theorem dX8_turn_159 : decode cX8_turn 159 = .ok (.aload_n 0, 1) := by decide +kernel
theorem dX8_turn_160 : decode cX8_turn 160 = .ok (.iload_n 1, 1) := by decide +kernel
theorem dX8_turn_161 : decode cX8_turn 161 = .ok (.iload_n 2, 1) := by decide +kernel
theorem dX8_turn_162 : decode cX8_turn 162 = .ok (.iload_n 3, 1) := by decide +kernel
theorem dX8_turn_163 : decode cX8_turn 163 = .ok (.aload_n 0, 1) := by decide +kernel
theorem dX8_turn_164 : decode cX8_turn 164 = .ok (.getfield 19, 3) := by decide +kernel
theorem dX8_turn_167 : decode cX8_turn 167 = .ok (.iload 6, 2) := by decide +kernel
theorem dX8_turn_169 : decode cX8_turn 169 = .ok (.iaload, 1) := by decide +kernel
theorem dX8_turn_170 : decode cX8_turn 170 = .ok (.aload_n 0, 1) := by decide +kernel
theorem dX8_turn_171 : decode cX8_turn 171 = .ok (.getfield 16, 3) := by decide +kernel
theorem dX8_turn_174 : decode cX8_turn 174 = .ok (.iload 6, 2) := by decide +kernel
theorem dX8_turn_176 : decode cX8_turn 176 = .ok (.iaload, 1) := by decide +kernel
theorem dX8_turn_177 : decode cX8_turn 177 = .ok (.iload_n 3, 1) := by decide +kernel
theorem dX8_turn_178 : decode cX8_turn 178 = .ok (.invokestatic 191, 3) := by decide +kernel
theorem dX8_turn_181 : decode cX8_turn 181 = .ok (.iload 7, 2) := by decide +kernel
theorem dX8_turn_183 : decode cX8_turn 183 = .ok (.invokevirtual 179, 3) := by decide +kernel
theorem dX8_turn_186 : decode cX8_turn 186 = .ok (.iastore, 1) := by decide +kernel
theorem dX8_turn_187 : decode cX8_turn 187 = .ok (.aload_n 0, 1) := by decide +kernel
theorem dX8_turn_188 : decode cX8_turn 188 = .ok (.getfield 35, 3) := by decide +kernel
theorem dX8_turn_191 : decode cX8_turn 191 = .ok (.iconst 2, 1) := by decide +kernel
theorem dX8_turn_192 : decode cX8_turn 192 = .ok (.iload 8, 2) := by decide +kernel
theorem dX8_turn_194 : decode cX8_turn 194 = .ok (.imul, 1) := by decide +kernel
theorem dX8_turn_195 : decode cX8_turn 195 = .ok (.iaload, 1) := by decide +kernel
theorem dX8_turn_196 : decode cX8_turn 196 = .ok (.ireturn, 1) := by decide +kernel
theorem dX8_isFree_0 : decode cX8_isFree 0 = .ok (.aload_n 0, 1) := by decide +kernel
theorem dX8_isFree_1 : decode cX8_isFree 1 = .ok (.getfield 16, 3) := by decide +kernel
theorem dX8_isFree_4 : decode cX8_isFree 4 = .ok (.bipush 48, 2) := by decide +kernel
theorem dX8_isFree_6 : decode cX8_isFree 6 = .ok (.iload_n 1, 1) := by decide +kernel
theorem dX8_isFree_7 : decode cX8_isFree 7 = .ok (.imul, 1) := by decide +kernel
theorem dX8_isFree_8 : decode cX8_isFree 8 = .ok (.iload_n 2, 1) := by decide +kernel
theorem dX8_isFree_9 : decode cX8_isFree 9 = .ok (.iadd, 1) := by decide +kernel
theorem dX8_isFree_10 : decode cX8_isFree 10 = .ok (.iaload, 1) := by decide +kernel
theorem dX8_isFree_11 : decode cX8_isFree 11 = .ok (.ifCond .ne 24, 3) := by decide +kernel
theorem dX8_isFree_14 : decode cX8_isFree 14 = .ok (.aload_n 0, 1) := by decide +kernel
theorem dX8_isFree_15 : decode cX8_isFree 15 = .ok (.iload_n 1, 1) := by decide +kernel
theorem dX8_isFree_16 : decode cX8_isFree 16 = .ok (.iload_n 2, 1) := by decide +kernel
theorem dX8_isFree_17 : decode cX8_isFree 17 = .ok (.invokevirtual 183, 3) := by decide +kernel
theorem dX8_isFree_20 : decode cX8_isFree 20 = .ok (.ifCond .ne 15, 3) := by decide +kernel
theorem dX8_isFree_23 : decode cX8_isFree 23 = .ok (.aload_n 0, 1) := by decide +kernel
theorem dX8_isFree_24 : decode cX8_isFree 24 = .ok (.iload_n 1, 1) := by decide +kernel
theorem dX8_isFree_25 : decode cX8_isFree 25 = .ok (.invokevirtual 173, 3) := by decide +kernel
theorem dX8_isFree_28 : decode cX8_isFree 28 = .ok (.ifCond .ne 7, 3) := by decide +kernel
theorem dX8_isFree_31 : decode cX8_isFree 31 = .ok (.iconst 1, 1) := by decide +kernel
theorem dX8_isFree_32 : decode cX8_isFree 32 = .ok (.goto 4, 3) := by decide +kernel
theorem dX8_isFree_35 : decode cX8_isFree 35 = .ok (.iconst 0, 1) := by decide +kernel
theorem dX8_isFree_36 : decode cX8_isFree 36 = .ok (.ireturn, 1) := by decide +kernel
theorem dX8_isOther_0 : decode cX8_isOther 0 = .ok (.iload_n 1, 1) := by decide +kernel
theorem dX8_isOther_1 : decode cX8_isOther 1 = .ok (.iconst (-1), 1) := by decide +kernel
theorem dX8_isOther_2 : decode cX8_isOther 2 = .ok (.if_icmp .eq 12, 3) := by decide +kernel
theorem dX8_isOther_5 : decode cX8_isOther 5 = .ok (.iload_n 1, 1) := by decide +kernel
theorem dX8_isOther_6 : decode cX8_isOther 6 = .ok (.iload_n 2, 1) := by decide +kernel
theorem dX8_isOther_7 : decode cX8_isOther 7 = .ok (.if_icmp .eq 7, 3) := by decide +kernel
theorem dX8_isOther_10 : decode cX8_isOther 10 = .ok (.iconst 1, 1) := by decide +kernel
theorem dX8_isOther_11 : decode cX8_isOther 11 = .ok (.goto 4, 3) := by decide +kernel
theorem dX8_isOther_14 : decode cX8_isOther 14 = .ok (.iconst 0, 1) := by decide +kernel
theorem dX8_isOther_15 : decode cX8_isOther 15 = .ok (.ireturn, 1) := by decide +kernel
theorem dX8_split_0 : decode cX8_split 0 = .ok (.aload_n 0, 1) := by decide +kernel
theorem dX8_split_1 : decode cX8_split 1 = .ok (.iload_n 1, 1) := by decide +kernel
theorem dX8_split_2 : decode cX8_split 2 = .ok (.iload_n 2, 1) := by decide +kernel
theorem dX8_split_3 : decode cX8_split 3 = .ok (.invokevirtual 169, 3) := by decide +kernel
theorem dX8_split_6 : decode cX8_split 6 = .ok (.istore 6, 2) := by decide +kernel
theorem dX8_split_8 : decode cX8_split 8 = .ok (.iload_n 3, 1) := by decide +kernel
theorem dX8_split_9 : decode cX8_split 9 = .ok (.invokestatic 148, 3) := by decide +kernel
theorem dX8_split_12 : decode cX8_split 12 = .ok (.ifCond .eq 32, 3) := by decide +kernel
theorem dX8_split_15 : decode cX8_split 15 = .ok (.iload 4, 2) := by decide +kernel
theorem dX8_split_17 : decode cX8_split 17 = .ok (.invokestatic 148, 3) := by decide +kernel
theorem dX8_split_20 : decode cX8_split 20 = .ok (.ifCond .eq 24, 3) := by decide +kernel
theorem dX8_split_23 : decode cX8_split 23 = .ok (.iload_n 3, 1) := by decide +kernel
theorem dX8_split_24 : decode cX8_split 24 = .ok (.iload 4, 2) := by decide +kernel
theorem dX8_split_26 : decode cX8_split 26 = .ok (.if_icmp .eq 18, 3) := by decide +kernel
theorem dX8_split_29 : decode cX8_split 29 = .ok (.iload 5, 2) := by decide +kernel
theorem dX8_split_31 : decode cX8_split 31 = .ok (.iconst 2, 1) := by decide +kernel
theorem dX8_split_32 : decode cX8_split 32 = .ok (.bipush 100, 2) := by decide +kernel
theorem dX8_split_34 : decode cX8_split 34 = .ok (.invokestatic 144, 3) := by decide +kernel
theorem dX8_split_37 : decode cX8_split 37 = .ok (.ifCond .eq 7, 3) := by decide +kernel
theorem dX8_split_40 : decode cX8_split 40 = .ok (.iconst 1, 1) := by decide +kernel
theorem dX8_split_41 : decode cX8_split 41 = .ok (.goto 4, 3) := by decide +kernel
theorem dX8_split_44 : decode cX8_split 44 = .ok (.iconst 0, 1) := by decide +kernel
theorem dX8_split_45 : decode cX8_split 45 = .ok (.istore 7, 2) := by decide +kernel
theorem dX8_split_47 : decode cX8_split 47 = .ok (.iload 6, 2) := by decide +kernel
theorem dX8_split_49 : decode cX8_split 49 = .ok (.iconst (-1), 1) := by decide +kernel
theorem dX8_split_50 : decode cX8_split 50 = .ok (.if_icmp .eq 53, 3) := by decide +kernel
theorem dX8_split_53 : decode cX8_split 53 = .ok (.iload 7, 2) := by decide +kernel
theorem dX8_split_55 : decode cX8_split 55 = .ok (.ifCond .eq 48, 3) := by decide +kernel
theorem dX8_split_58 : decode cX8_split 58 = .ok (.aload_n 0, 1) := by decide +kernel
theorem dX8_split_59 : decode cX8_split 59 = .ok (.iload_n 1, 1) := by decide +kernel
theorem dX8_split_60 : decode cX8_split 60 = .ok (.iload 6, 2) := by decide +kernel
theorem dX8_split_62 : decode cX8_split 62 = .ok (.invokevirtual 194, 3) := by decide +kernel
theorem dX8_split_65 : decode cX8_split 65 = .ok (.ifCond .eq 38, 3) := by decide +kernel
theorem dX8_split_68 : decode cX8_split 68 = .ok (.aload_n 0, 1) := by decide +kernel
theorem dX8_split_69 : decode cX8_split 69 = .ok (.aload_n 0, 1) := by decide +kernel
theorem dX8_split_70 : decode cX8_split 70 = .ok (.iload_n 1, 1) := by decide +kernel
theorem dX8_split_71 : decode cX8_split 71 = .ok (.iload_n 3, 1) := by decide +kernel
theorem dX8_split_72 : decode cX8_split 72 = .ok (.invokevirtual 169, 3) := by decide +kernel
theorem dX8_split_75 : decode cX8_split 75 = .ok (.iload 6, 2) := by decide +kernel
theorem dX8_split_77 : decode cX8_split 77 = .ok (.invokevirtual 197, 3) := by decide +kernel
theorem dX8_split_80 : decode cX8_split 80 = .ok (.ifCond .ne 23, 3) := by decide +kernel
theorem dX8_split_83 : decode cX8_split 83 = .ok (.aload_n 0, 1) := by decide +kernel
theorem dX8_split_84 : decode cX8_split 84 = .ok (.aload_n 0, 1) := by decide +kernel
theorem dX8_split_85 : decode cX8_split 85 = .ok (.iload_n 1, 1) := by decide +kernel
theorem dX8_split_86 : decode cX8_split 86 = .ok (.iload 4, 2) := by decide +kernel
theorem dX8_split_88 : decode cX8_split 88 = .ok (.invokevirtual 169, 3) := by decide +kernel
theorem dX8_split_91 : decode cX8_split 91 = .ok (.iload 6, 2) := by decide +kernel
theorem dX8_split_93 : decode cX8_split 93 = .ok (.invokevirtual 197, 3) := by decide +kernel
theorem dX8_split_96 : decode cX8_split 96 = .ok (.ifCond .ne 7, 3) := by decide +kernel
theorem dX8_split_99 : decode cX8_split 99 = .ok (.iconst 1, 1) := by decide +kernel
theorem dX8_split_100 : decode cX8_split 100 = .ok (.goto 4, 3) := by decide +kernel
theorem dX8_split_103 : decode cX8_split 103 = .ok (.iconst 0, 1) := by decide +kernel
theorem dX8_split_104 : decode cX8_split 104 = .ok (.istore 8, 2) := by decide +kernel
theorem dX8_split_106 : decode cX8_split 106 = .ok (.aload_n 0, 1) := by decide +kernel
theorem dX8_split_107 : decode cX8_split 107 = .ok (.iload 6, 2) := by decide +kernel
theorem dX8_split_109 : decode cX8_split 109 = .ok (.iconst (-1), 1) := by decide +kernel
theorem dX8_split_110 : decode cX8_split 110 = .ok (.if_icmp .ne 7, 3) := by decide +kernel
theorem dX8_split_113 : decode cX8_split 113 = .ok (.iconst 1, 1) := by decide +kernel
theorem dX8_split_114 : decode cX8_split 114 = .ok (.goto 22, 3) := by decide +kernel
theorem dX8_split_117 : decode cX8_split 117 = .ok (.iload 7, 2) := by decide +kernel
theorem dX8_split_119 : decode cX8_split 119 = .ok (.ifCond .ne 7, 3) := by decide +kernel
theorem dX8_split_122 : decode cX8_split 122 = .ok (.iconst 2, 1) := by decide +kernel
theorem dX8_split_123 : decode cX8_split 123 = .ok (.goto 13, 3) := by decide +kernel
theorem dX8_split_126 : decode cX8_split 126 = .ok (.iload 8, 2) := by decide +kernel
theorem dX8_split_128 : decode cX8_split 128 = .ok (.ifCond .eq 7, 3) := by decide +kernel
theorem dX8_split_131 : decode cX8_split 131 = .ok (.iconst 0, 1) := by decide +kernel
theorem dX8_split_132 : decode cX8_split 132 = .ok (.goto 4, 3) := by decide +kernel
theorem dX8_split_135 : decode cX8_split 135 = .ok (.iconst 3, 1) := by decide +kernel
theorem dX8_split_136 : decode cX8_split 136 = .ok (.invokevirtual 162, 3) := by decide +kernel
theorem dX8_split_139 : decode cX8_split 139 = .ok (.ifCond .eq 5, 3) := by decide +kernel
theorem dX8_split_142 : decode cX8_split 142 = .ok (.iconst 0, 1) := by decide +kernel
theorem dX8_split_143 : decode cX8_split 143 = .ok (.ireturn, 1) := by decide +kernel
theorem dX8_split_144 : decode cX8_split 144 = .ok (.aload_n 0, 1) := by decide +kernel
theorem dX8_split_145 : decode cX8_split 145 = .ok (.getfield 19, 3) := by decide +kernel
theorem dX8_split_148 : decode cX8_split 148 = .ok (.bipush 48, 2) := by decide +kernel
theorem dX8_split_150 : decode cX8_split 150 = .ok (.iload_n 1, 1) := by decide +kernel
theorem dX8_split_151 : decode cX8_split 151 = .ok (.imul, 1) := by decide +kernel
theorem dX8_split_152 : decode cX8_split 152 = .ok (.iload 6, 2) := by decide +kernel
theorem dX8_split_154 : decode cX8_split 154 = .ok (.iadd, 1) := by decide +kernel
theorem dX8_split_155 : decode cX8_split 155 = .ok (.iaload, 1) := by decide +kernel
theorem dX8_split_156 : decode cX8_split 156 = .ok (.istore 9, 2) := by decide +kernel
theorem dX8_split_158 : decode cX8_split 158 = .ok (.aload_n 0, 1) := by decide +kernel
theorem dX8_split_159 : decode cX8_split 159 = .ok (.getfield 25, 3) := by decide +kernel
theorem dX8_split_162 : decode cX8_split 162 = .ok (.iload_n 1, 1) := by decide +kernel
theorem dX8_split_163 : decode cX8_split 163 = .ok (.aload_n 0, 1) := by decide +kernel
theorem dX8_split_164 : decode cX8_split 164 = .ok (.getfield 7, 3) := by decide +kernel
theorem dX8_split_167 : decode cX8_split 167 = .ok (.iload_n 1, 1) := by decide +kernel
theorem dX8_split_168 : decode cX8_split 168 = .ok (.iaload, 1) := by decide +kernel
theorem dX8_split_169 : decode cX8_split 169 = .ok (.iload 6, 2) := by decide +kernel
theorem dX8_split_171 : decode cX8_split 171 = .ok (.invokestatic 152, 3) := by decide +kernel
theorem dX8_split_174 : decode cX8_split 174 = .ok (.baload, 1) := by decide +kernel
theorem dX8_split_175 : decode cX8_split 175 = .ok (.istore 10, 2) := by decide +kernel
theorem dX8_split_177 : decode cX8_split 177 = .ok (.aload_n 0, 1) := by decide +kernel
theorem dX8_split_178 : decode cX8_split 178 = .ok (.iload_n 1, 1) := by decide +kernel
theorem dX8_split_179 : decode cX8_split 179 = .ok (.iconst 3, 1) := by decide +kernel
theorem dX8_split_180 : decode cX8_split 180 = .ok (.invokevirtual 176, 3) := by decide +kernel
theorem dX8_split_183 : decode cX8_split 183 = .ok (.istore 11, 2) := by decide +kernel
theorem dX8_split_185 : decode cX8_split 185 = .ok (.aload_n 0, 1) := by decide +kernel
theorem dX8_split_186 : decode cX8_split 186 = .ok (.iload_n 1, 1) := by decide +kernel
theorem dX8_split_187 : decode cX8_split 187 = .ok (.iload 6, 2) := by decide +kernel
theorem dX8_split_189 : decode cX8_split 189 = .ok (.invokevirtual 187, 3) := by decide +kernel
theorem dX8_split_192 : decode cX8_split 192 = .ok (.aload_n 0, 1) := by decide +kernel
theorem dX8_split_193 : decode cX8_split 193 = .ok (.getfield 38, 3) := by decide +kernel
theorem dX8_split_196 : decode cX8_split 196 = .ok (.iload 11, 2) := by decide +kernel
theorem dX8_split_198 : decode cX8_split 198 = .ok (.iload 5, 2) := by decide +kernel
theorem dX8_split_200 : decode cX8_split 200 = .ok (.iastore, 1) := by decide +kernel
theorem dX8_split_201 : decode cX8_split 201 = .ok (.aload_n 0, 1) := by decide +kernel
theorem dX8_split_202 : decode cX8_split 202 = .ok (.getfield 32, 3) := by decide +kernel
theorem dX8_split_205 : decode cX8_split 205 = .ok (.iconst 2, 1) := by decide +kernel
theorem dX8_split_206 : decode cX8_split 206 = .ok (.iload 11, 2) := by decide +kernel
theorem dX8_split_208 : decode cX8_split 208 = .ok (.imul, 1) := by decide +kernel
theorem dX8_split_209 : decode cX8_split 209 = .ok (.iload 6, 2) := by decide +kernel
theorem dX8_split_211 : decode cX8_split 211 = .ok (.iastore, 1) := by decide +kernel
theorem dX8_split_212 : decode cX8_split 212 = .ok (.aload_n 0, 1) := by decide +kernel
theorem dX8_split_213 : decode cX8_split 213 = .ok (.getfield 35, 3) := by decide +kernel
theorem dX8_split_216 : decode cX8_split 216 = .ok (.iconst 2, 1) := by decide +kernel
theorem dX8_split_217 : decode cX8_split 217 = .ok (.iload 11, 2) := by decide +kernel
theorem dX8_split_219 : decode cX8_split 219 = .ok (.imul, 1) := by decide +kernel
theorem dX8_split_220 : decode cX8_split 220 = .ok (.aload_n 0, 1) := by decide +kernel
theorem dX8_split_221 : decode cX8_split 221 = .ok (.iload_n 1, 1) := by decide +kernel
theorem dX8_split_222 : decode cX8_split 222 = .ok (.iload_n 3, 1) := by decide +kernel
theorem dX8_split_223 : decode cX8_split 223 = .ok (.iconst 0, 1) := by decide +kernel
theorem dX8_split_224 : decode cX8_split 224 = .ok (.iload 9, 2) := by decide +kernel
theorem dX8_split_226 : decode cX8_split 226 = .ok (.iload 5, 2) := by decide +kernel
theorem dX8_split_228 : decode cX8_split 228 = .ok (.idiv, 1) := by decide +kernel
theorem dX8_split_229 : decode cX8_split 229 = .ok (.iload 10, 2) := by decide +kernel
theorem dX8_split_231 : decode cX8_split 231 = .ok (.invokevirtual 179, 3) := by decide +kernel
theorem dX8_split_234 : decode cX8_split 234 = .ok (.iastore, 1) := by decide +kernel
theorem dX8_split_235 : decode cX8_split 235 = .ok (.aload_n 0, 1) := by decide +kernel
theorem dX8_split_236 : decode cX8_split 236 = .ok (.getfield 35, 3) := by decide +kernel
theorem dX8_split_239 : decode cX8_split 239 = .ok (.iconst 2, 1) := by decide +kernel
theorem dX8_split_240 : decode cX8_split 240 = .ok (.iload 11, 2) := by decide +kernel
theorem dX8_split_242 : decode cX8_split 242 = .ok (.imul, 1) := by decide +kernel
theorem dX8_split_243 : decode cX8_split 243 = .ok (.iconst 1, 1) := by decide +kernel
theorem dX8_split_244 : decode cX8_split 244 = .ok (.iadd, 1) := by decide +kernel
theorem dX8_split_245 : decode cX8_split 245 = .ok (.aload_n 0, 1) := by decide +kernel
theorem dX8_split_246 : decode cX8_split 246 = .ok (.iload_n 1, 1) := by decide +kernel
theorem dX8_split_247 : decode cX8_split 247 = .ok (.iload 4, 2) := by decide +kernel
theorem dX8_split_249 : decode cX8_split 249 = .ok (.iconst 0, 1) := by decide +kernel
theorem dX8_split_250 : decode cX8_split 250 = .ok (.iload 9, 2) := by decide +kernel
theorem dX8_split_252 : decode cX8_split 252 = .ok (.iload 5, 2) := by decide +kernel
theorem dX8_split_254 : decode cX8_split 254 = .ok (.irem, 1) := by decide +kernel
theorem dX8_split_255 : decode cX8_split 255 = .ok (.iload 10, 2) := by decide +kernel
theorem dX8_split_257 : decode cX8_split 257 = .ok (.invokevirtual 179, 3) := by decide +kernel
theorem dX8_split_260 : decode cX8_split 260 = .ok (.iastore, 1) := by decide +kernel
theorem dX8_split_261 : decode cX8_split 261 = .ok (.aload_n 0, 1) := by decide +kernel
theorem dX8_split_262 : decode cX8_split 262 = .ok (.getfield 35, 3) := by decide +kernel
theorem dX8_split_265 : decode cX8_split 265 = .ok (.iconst 2, 1) := by decide +kernel
theorem dX8_split_266 : decode cX8_split 266 = .ok (.iload 11, 2) := by decide +kernel
theorem dX8_split_268 : decode cX8_split 268 = .ok (.imul, 1) := by decide +kernel
theorem dX8_split_269 : decode cX8_split 269 = .ok (.iaload, 1) := by decide +kernel
theorem dX8_split_270 : decode cX8_split 270 = .ok (.ireturn, 1) := by decide +kernel
theorem dX8_joined_0 : decode cX8_joined 0 = .ok (.iload_n 2, 1) := by decide +kernel
theorem dX8_joined_1 : decode cX8_joined 1 = .ok (.iload_n 0, 1) := by decide +kernel
theorem dX8_joined_2 : decode cX8_joined 2 = .ok (.imul, 1) := by decide +kernel
theorem dX8_joined_3 : decode cX8_joined 3 = .ok (.iload_n 1, 1) := by decide +kernel
theorem dX8_joined_4 : decode cX8_joined 4 = .ok (.iadd, 1) := by decide +kernel
theorem dX8_joined_5 : decode cX8_joined 5 = .ok (.istore_n 3, 1) := by decide +kernel
theorem dX8_joined_6 : decode cX8_joined 6 = .ok (.iload_n 0, 1) := by decide +kernel
theorem dX8_joined_7 : decode cX8_joined 7 = .ok (.iconst (-1), 1) := by decide +kernel
theorem dX8_joined_8 : decode cX8_joined 8 = .ok (.if_icmp .eq 8, 3) := by decide +kernel
theorem dX8_joined_11 : decode cX8_joined 11 = .ok (.iload_n 1, 1) := by decide +kernel
theorem dX8_joined_12 : decode cX8_joined 12 = .ok (.iconst (-1), 1) := by decide +kernel
theorem dX8_joined_13 : decode cX8_joined 13 = .ok (.if_icmp .ne 7, 3) := by decide +kernel
theorem dX8_joined_16 : decode cX8_joined 16 = .ok (.iconst (-1), 1) := by decide +kernel
theorem dX8_joined_17 : decode cX8_joined 17 = .ok (.goto 17, 3) := by decide +kernel
theorem dX8_joined_20 : decode cX8_joined 20 = .ok (.iload_n 3, 1) := by decide +kernel
theorem dX8_joined_21 : decode cX8_joined 21 = .ok (.sipush 9999, 3) := by decide +kernel
theorem dX8_joined_24 : decode cX8_joined 24 = .ok (.if_icmp .le 9, 3) := by decide +kernel
theorem dX8_joined_27 : decode cX8_joined 27 = .ok (.sipush 9999, 3) := by decide +kernel
theorem dX8_joined_30 : decode cX8_joined 30 = .ok (.goto 4, 3) := by decide +kernel
theorem dX8_joined_33 : decode cX8_joined 33 = .ok (.iload_n 3, 1) := by decide +kernel
theorem dX8_joined_34 : decode cX8_joined 34 = .ok (.ireturn, 1) := by decide +kernel
theorem dX8_join_0 : decode cX8_join 0 = .ok (.aload_n 0, 1) := by decide +kernel
theorem dX8_join_1 : decode cX8_join 1 = .ok (.iload_n 1, 1) := by decide +kernel
theorem dX8_join_2 : decode cX8_join 2 = .ok (.iload_n 2, 1) := by decide +kernel
theorem dX8_join_3 : decode cX8_join 3 = .ok (.invokevirtual 169, 3) := by decide +kernel
theorem dX8_join_6 : decode cX8_join 6 = .ok (.istore 6, 2) := by decide +kernel
theorem dX8_join_8 : decode cX8_join 8 = .ok (.aload_n 0, 1) := by decide +kernel
theorem dX8_join_9 : decode cX8_join 9 = .ok (.iload_n 1, 1) := by decide +kernel
theorem dX8_join_10 : decode cX8_join 10 = .ok (.iload_n 3, 1) := by decide +kernel
theorem dX8_join_11 : decode cX8_join 11 = .ok (.invokevirtual 169, 3) := by decide +kernel
theorem dX8_join_14 : decode cX8_join 14 = .ok (.istore 7, 2) := by decide +kernel
theorem dX8_join_16 : decode cX8_join 16 = .ok (.iload 6, 2) := by decide +kernel
theorem dX8_join_18 : decode cX8_join 18 = .ok (.iconst (-1), 1) := by decide +kernel
theorem dX8_join_19 : decode cX8_join 19 = .ok (.if_icmp .eq 13, 3) := by decide +kernel
theorem dX8_join_22 : decode cX8_join 22 = .ok (.iload 7, 2) := by decide +kernel
theorem dX8_join_24 : decode cX8_join 24 = .ok (.iconst (-1), 1) := by decide +kernel
theorem dX8_join_25 : decode cX8_join 25 = .ok (.if_icmp .eq 7, 3) := by decide +kernel
theorem dX8_join_28 : decode cX8_join 28 = .ok (.iconst 1, 1) := by decide +kernel
theorem dX8_join_29 : decode cX8_join 29 = .ok (.goto 4, 3) := by decide +kernel
theorem dX8_join_32 : decode cX8_join 32 = .ok (.iconst 0, 1) := by decide +kernel
theorem dX8_join_33 : decode cX8_join 33 = .ok (.istore 8, 2) := by decide +kernel
theorem dX8_join_35 : decode cX8_join 35 = .ok (.iload 4, 2) := by decide +kernel
theorem dX8_join_37 : decode cX8_join 37 = .ok (.invokestatic 148, 3) := by decide +kernel
theorem dX8_join_40 : decode cX8_join 40 = .ok (.ifCond .eq 25, 3) := by decide +kernel
theorem dX8_join_43 : decode cX8_join 43 = .ok (.iload 5, 2) := by decide +kernel
theorem dX8_join_45 : decode cX8_join 45 = .ok (.iconst 2, 1) := by decide +kernel
theorem dX8_join_46 : decode cX8_join 46 = .ok (.bipush 100, 2) := by decide +kernel
theorem dX8_join_48 : decode cX8_join 48 = .ok (.invokestatic 144, 3) := by decide +kernel
theorem dX8_join_51 : decode cX8_join 51 = .ok (.ifCond .eq 14, 3) := by decide +kernel
theorem dX8_join_54 : decode cX8_join 54 = .ok (.iload 6, 2) := by decide +kernel
theorem dX8_join_56 : decode cX8_join 56 = .ok (.iload 7, 2) := by decide +kernel
theorem dX8_join_58 : decode cX8_join 58 = .ok (.if_icmp .eq 7, 3) := by decide +kernel
theorem dX8_join_61 : decode cX8_join 61 = .ok (.iconst 1, 1) := by decide +kernel
theorem dX8_join_62 : decode cX8_join 62 = .ok (.goto 4, 3) := by decide +kernel
theorem dX8_join_65 : decode cX8_join 65 = .ok (.iconst 0, 1) := by decide +kernel
theorem dX8_join_66 : decode cX8_join 66 = .ok (.istore 9, 2) := by decide +kernel
theorem dX8_join_68 : decode cX8_join 68 = .ok (.iload 8, 2) := by decide +kernel
theorem dX8_join_70 : decode cX8_join 70 = .ok (.ifCond .eq 64, 3) := by decide +kernel
theorem dX8_join_73 : decode cX8_join 73 = .ok (.iload 9, 2) := by decide +kernel
theorem dX8_join_75 : decode cX8_join 75 = .ok (.ifCond .eq 59, 3) := by decide +kernel
theorem dX8_join_78 : decode cX8_join 78 = .ok (.aload_n 0, 1) := by decide +kernel
theorem dX8_join_79 : decode cX8_join 79 = .ok (.iload_n 1, 1) := by decide +kernel
theorem dX8_join_80 : decode cX8_join 80 = .ok (.iload 6, 2) := by decide +kernel
theorem dX8_join_82 : decode cX8_join 82 = .ok (.invokevirtual 194, 3) := by decide +kernel
theorem dX8_join_85 : decode cX8_join 85 = .ok (.ifCond .eq 49, 3) := by decide +kernel
theorem dX8_join_88 : decode cX8_join 88 = .ok (.aload_n 0, 1) := by decide +kernel
theorem dX8_join_89 : decode cX8_join 89 = .ok (.iload_n 1, 1) := by decide +kernel
theorem dX8_join_90 : decode cX8_join 90 = .ok (.iload 7, 2) := by decide +kernel
theorem dX8_join_92 : decode cX8_join 92 = .ok (.invokevirtual 194, 3) := by decide +kernel
theorem dX8_join_95 : decode cX8_join 95 = .ok (.ifCond .eq 39, 3) := by decide +kernel
theorem dX8_join_98 : decode cX8_join 98 = .ok (.aload_n 0, 1) := by decide +kernel
theorem dX8_join_99 : decode cX8_join 99 = .ok (.aload_n 0, 1) := by decide +kernel
theorem dX8_join_100 : decode cX8_join 100 = .ok (.iload_n 1, 1) := by decide +kernel
theorem dX8_join_101 : decode cX8_join 101 = .ok (.iload 4, 2) := by decide +kernel
theorem dX8_join_103 : decode cX8_join 103 = .ok (.invokevirtual 169, 3) := by decide +kernel
theorem dX8_join_106 : decode cX8_join 106 = .ok (.iload 6, 2) := by decide +kernel
theorem dX8_join_108 : decode cX8_join 108 = .ok (.invokevirtual 197, 3) := by decide +kernel
theorem dX8_join_111 : decode cX8_join 111 = .ok (.ifCond .eq 19, 3) := by decide +kernel
theorem dX8_join_114 : decode cX8_join 114 = .ok (.aload_n 0, 1) := by decide +kernel
theorem dX8_join_115 : decode cX8_join 115 = .ok (.aload_n 0, 1) := by decide +kernel
theorem dX8_join_116 : decode cX8_join 116 = .ok (.iload_n 1, 1) := by decide +kernel
theorem dX8_join_117 : decode cX8_join 117 = .ok (.iload 4, 2) := by decide +kernel
theorem dX8_join_119 : decode cX8_join 119 = .ok (.invokevirtual 169, 3) := by decide +kernel
theorem dX8_join_122 : decode cX8_join 122 = .ok (.iload 7, 2) := by decide +kernel
theorem dX8_join_124 : decode cX8_join 124 = .ok (.invokevirtual 197, 3) := by decide +kernel
theorem dX8_join_127 : decode cX8_join 127 = .ok (.ifCond .ne 7, 3) := by decide +kernel
theorem dX8_join_130 : decode cX8_join 130 = .ok (.iconst 1, 1) := by decide +kernel
theorem dX8_join_131 : decode cX8_join 131 = .ok (.goto 4, 3) := by decide +kernel
theorem dX8_join_134 : decode cX8_join 134 = .ok (.iconst 0, 1) := by decide +kernel
theorem dX8_join_135 : decode cX8_join 135 = .ok (.istore 10, 2) := by decide +kernel
theorem dX8_join_137 : decode cX8_join 137 = .ok (.aload_n 0, 1) := by decide +kernel
theorem dX8_join_138 : decode cX8_join 138 = .ok (.iload 8, 2) := by decide +kernel
theorem dX8_join_140 : decode cX8_join 140 = .ok (.ifCond .ne 7, 3) := by decide +kernel
theorem dX8_join_143 : decode cX8_join 143 = .ok (.iconst 1, 1) := by decide +kernel
theorem dX8_join_144 : decode cX8_join 144 = .ok (.goto 22, 3) := by decide +kernel
theorem dX8_join_147 : decode cX8_join 147 = .ok (.iload 9, 2) := by decide +kernel
theorem dX8_join_149 : decode cX8_join 149 = .ok (.ifCond .ne 7, 3) := by decide +kernel
theorem dX8_join_152 : decode cX8_join 152 = .ok (.iconst 2, 1) := by decide +kernel
theorem dX8_join_153 : decode cX8_join 153 = .ok (.goto 13, 3) := by decide +kernel
theorem dX8_join_156 : decode cX8_join 156 = .ok (.iload 10, 2) := by decide +kernel
theorem dX8_join_158 : decode cX8_join 158 = .ok (.ifCond .eq 7, 3) := by decide +kernel
theorem dX8_join_161 : decode cX8_join 161 = .ok (.iconst 0, 1) := by decide +kernel
theorem dX8_join_162 : decode cX8_join 162 = .ok (.goto 4, 3) := by decide +kernel
theorem dX8_join_165 : decode cX8_join 165 = .ok (.iconst 3, 1) := by decide +kernel
theorem dX8_join_166 : decode cX8_join 166 = .ok (.invokevirtual 162, 3) := by decide +kernel
theorem dX8_join_169 : decode cX8_join 169 = .ok (.ifCond .eq 5, 3) := by decide +kernel
theorem dX8_join_172 : decode cX8_join 172 = .ok (.iconst 0, 1) := by decide +kernel
theorem dX8_join_173 : decode cX8_join 173 = .ok (.ireturn, 1) := by decide +kernel
theorem dX8_join_174 : decode cX8_join 174 = .ok (.aload_n 0, 1) := by decide +kernel
theorem dX8_join_175 : decode cX8_join 175 = .ok (.getfield 19, 3) := by decide +kernel
theorem dX8_join_178 : decode cX8_join 178 = .ok (.bipush 48, 2) := by decide +kernel
theorem dX8_join_180 : decode cX8_join 180 = .ok (.iload_n 1, 1) := by decide +kernel
theorem dX8_join_181 : decode cX8_join 181 = .ok (.imul, 1) := by decide +kernel
theorem dX8_join_182 : decode cX8_join 182 = .ok (.iload 6, 2) := by decide +kernel
theorem dX8_join_184 : decode cX8_join 184 = .ok (.iadd, 1) := by decide +kernel
theorem dX8_join_185 : decode cX8_join 185 = .ok (.iaload, 1) := by decide +kernel
theorem dX8_join_186 : decode cX8_join 186 = .ok (.aload_n 0, 1) := by decide +kernel
theorem dX8_join_187 : decode cX8_join 187 = .ok (.getfield 19, 3) := by decide +kernel
theorem dX8_join_190 : decode cX8_join 190 = .ok (.bipush 48, 2) := by decide +kernel
theorem dX8_join_192 : decode cX8_join 192 = .ok (.iload_n 1, 1) := by decide +kernel
theorem dX8_join_193 : decode cX8_join 193 = .ok (.imul, 1) := by decide +kernel
theorem dX8_join_194 : decode cX8_join 194 = .ok (.iload 7, 2) := by decide +kernel
theorem dX8_join_196 : decode cX8_join 196 = .ok (.iadd, 1) := by decide +kernel
theorem dX8_join_197 : decode cX8_join 197 = .ok (.iaload, 1) := by decide +kernel
theorem dX8_join_198 : decode cX8_join 198 = .ok (.iload 5, 2) := by decide +kernel
theorem dX8_join_200 : decode cX8_join 200 = .ok (.invokestatic 200, 3) := by decide +kernel
theorem dX8_join_203 : decode cX8_join 203 = .ok (.istore 11, 2) := by decide +kernel
theorem dX8_join_205 : decode cX8_join 205 = .ok (.aload_n 0, 1) := by decide +kernel
theorem dX8_join_206 : decode cX8_join 206 = .ok (.getfield 25, 3) := by decide +kernel
theorem dX8_join_209 : decode cX8_join 209 = .ok (.iload_n 1, 1) := by decide +kernel
theorem dX8_join_210 : decode cX8_join 210 = .ok (.aload_n 0, 1) := by decide +kernel
theorem dX8_join_211 : decode cX8_join 211 = .ok (.getfield 7, 3) := by decide +kernel
theorem dX8_join_214 : decode cX8_join 214 = .ok (.iload_n 1, 1) := by decide +kernel
theorem dX8_join_215 : decode cX8_join 215 = .ok (.iaload, 1) := by decide +kernel
theorem dX8_join_216 : decode cX8_join 216 = .ok (.iload 6, 2) := by decide +kernel
theorem dX8_join_218 : decode cX8_join 218 = .ok (.invokestatic 152, 3) := by decide +kernel
theorem dX8_join_221 : decode cX8_join 221 = .ok (.baload, 1) := by decide +kernel
theorem dX8_join_222 : decode cX8_join 222 = .ok (.ifCond .ne 23, 3) := by decide +kernel
theorem dX8_join_225 : decode cX8_join 225 = .ok (.aload_n 0, 1) := by decide +kernel
theorem dX8_join_226 : decode cX8_join 226 = .ok (.getfield 25, 3) := by decide +kernel
theorem dX8_join_229 : decode cX8_join 229 = .ok (.iload_n 1, 1) := by decide +kernel
theorem dX8_join_230 : decode cX8_join 230 = .ok (.aload_n 0, 1) := by decide +kernel
theorem dX8_join_231 : decode cX8_join 231 = .ok (.getfield 7, 3) := by decide +kernel
theorem dX8_join_234 : decode cX8_join 234 = .ok (.iload_n 1, 1) := by decide +kernel
theorem dX8_join_235 : decode cX8_join 235 = .ok (.iaload, 1) := by decide +kernel
theorem dX8_join_236 : decode cX8_join 236 = .ok (.iload 7, 2) := by decide +kernel
theorem dX8_join_238 : decode cX8_join 238 = .ok (.invokestatic 152, 3) := by decide +kernel
theorem dX8_join_241 : decode cX8_join 241 = .ok (.baload, 1) := by decide +kernel
theorem dX8_join_242 : decode cX8_join 242 = .ok (.ifCond .eq 7, 3) := by decide +kernel
theorem dX8_join_245 : decode cX8_join 245 = .ok (.iconst 1, 1) := by decide +kernel
theorem dX8_join_246 : decode cX8_join 246 = .ok (.goto 4, 3) := by decide +kernel
theorem dX8_join_249 : decode cX8_join 249 = .ok (.iconst 0, 1) := by decide +kernel
theorem dX8_join_250 : decode cX8_join 250 = .ok (.istore 12, 2) := by decide +kernel
theorem dX8_join_252 : decode cX8_join 252 = .ok (.aload_n 0, 1) := by decide +kernel
theorem dX8_join_253 : decode cX8_join 253 = .ok (.iload_n 1, 1) := by decide +kernel
theorem dX8_join_254 : decode cX8_join 254 = .ok (.iconst 4, 1) := by decide +kernel
theorem dX8_join_255 : decode cX8_join 255 = .ok (.invokevirtual 176, 3) := by decide +kernel
theorem dX8_join_258 : decode cX8_join 258 = .ok (.istore 13, 2) := by decide +kernel
theorem dX8_join_260 : decode cX8_join 260 = .ok (.aload_n 0, 1) := by decide +kernel
theorem dX8_join_261 : decode cX8_join 261 = .ok (.iload_n 1, 1) := by decide +kernel
theorem dX8_join_262 : decode cX8_join 262 = .ok (.iload 6, 2) := by decide +kernel
theorem dX8_join_264 : decode cX8_join 264 = .ok (.invokevirtual 187, 3) := by decide +kernel
theorem dX8_join_267 : decode cX8_join 267 = .ok (.aload_n 0, 1) := by decide +kernel
theorem dX8_join_268 : decode cX8_join 268 = .ok (.iload_n 1, 1) := by decide +kernel
theorem dX8_join_269 : decode cX8_join 269 = .ok (.iload 7, 2) := by decide +kernel
theorem dX8_join_271 : decode cX8_join 271 = .ok (.invokevirtual 187, 3) := by decide +kernel
theorem dX8_join_274 : decode cX8_join 274 = .ok (.aload_n 0, 1) := by decide +kernel
theorem dX8_join_275 : decode cX8_join 275 = .ok (.getfield 38, 3) := by decide +kernel
theorem dX8_join_278 : decode cX8_join 278 = .ok (.iload 13, 2) := by decide +kernel
theorem dX8_join_280 : decode cX8_join 280 = .ok (.iload 5, 2) := by decide +kernel
theorem dX8_join_282 : decode cX8_join 282 = .ok (.iastore, 1) := by decide +kernel
theorem dX8_join_283 : decode cX8_join 283 = .ok (.aload_n 0, 1) := by decide +kernel
theorem dX8_join_284 : decode cX8_join 284 = .ok (.getfield 32, 3) := by decide +kernel
theorem dX8_join_287 : decode cX8_join 287 = .ok (.iconst 2, 1) := by decide +kernel
theorem dX8_join_288 : decode cX8_join 288 = .ok (.iload 13, 2) := by decide +kernel
theorem dX8_join_290 : decode cX8_join 290 = .ok (.imul, 1) := by decide +kernel
theorem dX8_join_291 : decode cX8_join 291 = .ok (.iload 6, 2) := by decide +kernel
theorem dX8_join_293 : decode cX8_join 293 = .ok (.iastore, 1) := by decide +kernel
theorem dX8_join_294 : decode cX8_join 294 = .ok (.aload_n 0, 1) := by decide +kernel
theorem dX8_join_295 : decode cX8_join 295 = .ok (.getfield 32, 3) := by decide +kernel
theorem dX8_join_298 : decode cX8_join 298 = .ok (.iconst 2, 1) := by decide +kernel
theorem dX8_join_299 : decode cX8_join 299 = .ok (.iload 13, 2) := by decide +kernel
theorem dX8_join_301 : decode cX8_join 301 = .ok (.imul, 1) := by decide +kernel
theorem dX8_join_302 : decode cX8_join 302 = .ok (.iconst 1, 1) := by decide +kernel
theorem dX8_join_303 : decode cX8_join 303 = .ok (.iadd, 1) := by decide +kernel
theorem dX8_join_304 : decode cX8_join 304 = .ok (.iload 7, 2) := by decide +kernel
theorem dX8_join_306 : decode cX8_join 306 = .ok (.iastore, 1) := by decide +kernel
theorem dX8_join_307 : decode cX8_join 307 = .ok (.aload_n 0, 1) := by decide +kernel
theorem dX8_join_308 : decode cX8_join 308 = .ok (.getfield 35, 3) := by decide +kernel
theorem dX8_join_311 : decode cX8_join 311 = .ok (.iconst 2, 1) := by decide +kernel
theorem dX8_join_312 : decode cX8_join 312 = .ok (.iload 13, 2) := by decide +kernel
theorem dX8_join_314 : decode cX8_join 314 = .ok (.imul, 1) := by decide +kernel
theorem dX8_join_315 : decode cX8_join 315 = .ok (.aload_n 0, 1) := by decide +kernel
theorem dX8_join_316 : decode cX8_join 316 = .ok (.iload_n 1, 1) := by decide +kernel
theorem dX8_join_317 : decode cX8_join 317 = .ok (.iload 4, 2) := by decide +kernel
theorem dX8_join_319 : decode cX8_join 319 = .ok (.iconst 0, 1) := by decide +kernel
theorem dX8_join_320 : decode cX8_join 320 = .ok (.iload 11, 2) := by decide +kernel
theorem dX8_join_322 : decode cX8_join 322 = .ok (.iload 12, 2) := by decide +kernel
theorem dX8_join_324 : decode cX8_join 324 = .ok (.invokevirtual 179, 3) := by decide +kernel
theorem dX8_join_327 : decode cX8_join 327 = .ok (.iastore, 1) := by decide +kernel
theorem dX8_join_328 : decode cX8_join 328 = .ok (.aload_n 0, 1) := by decide +kernel
theorem dX8_join_329 : decode cX8_join 329 = .ok (.getfield 35, 3) := by decide +kernel
theorem dX8_join_332 : decode cX8_join 332 = .ok (.iconst 2, 1) := by decide +kernel
theorem dX8_join_333 : decode cX8_join 333 = .ok (.iload 13, 2) := by decide +kernel
theorem dX8_join_335 : decode cX8_join 335 = .ok (.imul, 1) := by decide +kernel
theorem dX8_join_336 : decode cX8_join 336 = .ok (.iaload, 1) := by decide +kernel
theorem dX8_join_337 : decode cX8_join 337 = .ok (.ireturn, 1) := by decide +kernel
theorem dX8_toggleNeed_0 : decode cX8_toggleNeed 0 = .ok (.aload_n 0, 1) := by decide +kernel
theorem dX8_toggleNeed_1 : decode cX8_toggleNeed 1 = .ok (.iload_n 1, 1) := by decide +kernel
theorem dX8_toggleNeed_2 : decode cX8_toggleNeed 2 = .ok (.iload_n 2, 1) := by decide +kernel
theorem dX8_toggleNeed_3 : decode cX8_toggleNeed 3 = .ok (.invokevirtual 169, 3) := by decide +kernel
theorem dX8_toggleNeed_6 : decode cX8_toggleNeed 6 = .ok (.istore_n 3, 1) := by decide +kernel
theorem dX8_toggleNeed_7 : decode cX8_toggleNeed 7 = .ok (.aload_n 0, 1) := by decide +kernel
theorem dX8_toggleNeed_8 : decode cX8_toggleNeed 8 = .ok (.iload_n 3, 1) := by decide +kernel
theorem dX8_toggleNeed_9 : decode cX8_toggleNeed 9 = .ok (.iconst (-1), 1) := by decide +kernel
theorem dX8_toggleNeed_10 : decode cX8_toggleNeed 10 = .ok (.if_icmp .ne 7, 3) := by decide +kernel
theorem dX8_toggleNeed_13 : decode cX8_toggleNeed 13 = .ok (.iconst 1, 1) := by decide +kernel
theorem dX8_toggleNeed_14 : decode cX8_toggleNeed 14 = .ok (.goto 16, 3) := by decide +kernel
theorem dX8_toggleNeed_17 : decode cX8_toggleNeed 17 = .ok (.aload_n 0, 1) := by decide +kernel
theorem dX8_toggleNeed_18 : decode cX8_toggleNeed 18 = .ok (.iload_n 1, 1) := by decide +kernel
theorem dX8_toggleNeed_19 : decode cX8_toggleNeed 19 = .ok (.invokevirtual 173, 3) := by decide +kernel
theorem dX8_toggleNeed_22 : decode cX8_toggleNeed 22 = .ok (.ifCond .eq 7, 3) := by decide +kernel
theorem dX8_toggleNeed_25 : decode cX8_toggleNeed 25 = .ok (.iconst 2, 1) := by decide +kernel
theorem dX8_toggleNeed_26 : decode cX8_toggleNeed 26 = .ok (.goto 4, 3) := by decide +kernel
theorem dX8_toggleNeed_29 : decode cX8_toggleNeed 29 = .ok (.iconst 0, 1) := by decide +kernel
theorem dX8_toggleNeed_30 : decode cX8_toggleNeed 30 = .ok (.invokevirtual 162, 3) := by decide +kernel
theorem dX8_toggleNeed_33 : decode cX8_toggleNeed 33 = .ok (.ifCond .eq 5, 3) := by decide +kernel
theorem dX8_toggleNeed_36 : decode cX8_toggleNeed 36 = .ok (.iconst 0, 1) := by decide +kernel
theorem dX8_toggleNeed_37 : decode cX8_toggleNeed 37 = .ok (.ireturn, 1) := by decide +kernel
theorem dX8_toggleNeed_38 : decode cX8_toggleNeed 38 = .ok (.aload_n 0, 1) := by decide +kernel
theorem dX8_toggleNeed_39 : decode cX8_toggleNeed 39 = .ok (.iload_n 1, 1) := by decide +kernel
theorem dX8_toggleNeed_40 : decode cX8_toggleNeed 40 = .ok (.bipush 6, 2) := by decide +kernel
theorem dX8_toggleNeed_42 : decode cX8_toggleNeed 42 = .ok (.invokevirtual 176, 3) := by decide +kernel
theorem dX8_toggleNeed_45 : decode cX8_toggleNeed 45 = .ok (.istore 4, 2) := by decide +kernel
theorem dX8_toggleNeed_47 : decode cX8_toggleNeed 47 = .ok (.aload_n 0, 1) := by decide +kernel
theorem dX8_toggleNeed_48 : decode cX8_toggleNeed 48 = .ok (.getfield 32, 3) := by decide +kernel
theorem dX8_toggleNeed_51 : decode cX8_toggleNeed 51 = .ok (.iconst 2, 1) := by decide +kernel
theorem dX8_toggleNeed_52 : decode cX8_toggleNeed 52 = .ok (.iload 4, 2) := by decide +kernel
theorem dX8_toggleNeed_54 : decode cX8_toggleNeed 54 = .ok (.imul, 1) := by decide +kernel
theorem dX8_toggleNeed_55 : decode cX8_toggleNeed 55 = .ok (.iload_n 3, 1) := by decide +kernel
theorem dX8_toggleNeed_56 : decode cX8_toggleNeed 56 = .ok (.iastore, 1) := by decide +kernel
theorem dX8_toggleNeed_57 : decode cX8_toggleNeed 57 = .ok (.aload_n 0, 1) := by decide +kernel
theorem dX8_toggleNeed_58 : decode cX8_toggleNeed 58 = .ok (.getfield 35, 3) := by decide +kernel
theorem dX8_toggleNeed_61 : decode cX8_toggleNeed 61 = .ok (.iconst 2, 1) := by decide +kernel
theorem dX8_toggleNeed_62 : decode cX8_toggleNeed 62 = .ok (.iload 4, 2) := by decide +kernel
theorem dX8_toggleNeed_64 : decode cX8_toggleNeed 64 = .ok (.imul, 1) := by decide +kernel
theorem dX8_toggleNeed_65 : decode cX8_toggleNeed 65 = .ok (.iload_n 3, 1) := by decide +kernel
theorem dX8_toggleNeed_66 : decode cX8_toggleNeed 66 = .ok (.iastore, 1) := by decide +kernel
theorem dX8_toggleNeed_67 : decode cX8_toggleNeed 67 = .ok (.iload_n 1, 1) := by decide +kernel
theorem dX8_toggleNeed_68 : decode cX8_toggleNeed 68 = .ok (.aload_n 0, 1) := by decide +kernel
theorem dX8_toggleNeed_69 : decode cX8_toggleNeed 69 = .ok (.getfield 7, 3) := by decide +kernel
theorem dX8_toggleNeed_72 : decode cX8_toggleNeed 72 = .ok (.iload_n 1, 1) := by decide +kernel
theorem dX8_toggleNeed_73 : decode cX8_toggleNeed 73 = .ok (.iaload, 1) := by decide +kernel
theorem dX8_toggleNeed_74 : decode cX8_toggleNeed 74 = .ok (.iload_n 3, 1) := by decide +kernel
theorem dX8_toggleNeed_75 : decode cX8_toggleNeed 75 = .ok (.invokestatic 152, 3) := by decide +kernel
theorem dX8_toggleNeed_78 : decode cX8_toggleNeed 78 = .ok (.istore 5, 2) := by decide +kernel
theorem dX8_toggleNeed_80 : decode cX8_toggleNeed 80 = .ok (.aload_n 0, 1) := by decide +kernel
theorem dX8_toggleNeed_81 : decode cX8_toggleNeed 81 = .ok (.getfield 25, 3) := by decide +kernel
theorem dX8_toggleNeed_84 : decode cX8_toggleNeed 84 = .ok (.iload 5, 2) := by decide +kernel
theorem dX8_toggleNeed_86 : decode cX8_toggleNeed 86 = .ok (.aload_n 0, 1) := by decide +kernel
theorem dX8_toggleNeed_87 : decode cX8_toggleNeed 87 = .ok (.getfield 25, 3) := by decide +kernel
theorem dX8_toggleNeed_90 : decode cX8_toggleNeed 90 = .ok (.iload 5, 2) := by decide +kernel
theorem dX8_toggleNeed_92 : decode cX8_toggleNeed 92 = .ok (.baload, 1) := by decide +kernel
theorem dX8_toggleNeed_93 : decode cX8_toggleNeed 93 = .ok (.ifCond .ne 7, 3) := by decide +kernel
theorem dX8_toggleNeed_96 : decode cX8_toggleNeed 96 = .ok (.iconst 1, 1) := by decide +kernel
theorem dX8_toggleNeed_97 : decode cX8_toggleNeed 97 = .ok (.goto 4, 3) := by decide +kernel
theorem dX8_toggleNeed_100 : decode cX8_toggleNeed 100 = .ok (.iconst 0, 1) := by decide +kernel
theorem dX8_toggleNeed_101 : decode cX8_toggleNeed 101 = .ok (.bastore, 1) := by decide +kernel
theorem dX8_toggleNeed_102 : decode cX8_toggleNeed 102 = .ok (.aload_n 0, 1) := by decide +kernel
theorem dX8_toggleNeed_103 : decode cX8_toggleNeed 103 = .ok (.getfield 25, 3) := by decide +kernel
theorem dX8_toggleNeed_106 : decode cX8_toggleNeed 106 = .ok (.iload 5, 2) := by decide +kernel
theorem dX8_toggleNeed_108 : decode cX8_toggleNeed 108 = .ok (.baload, 1) := by decide +kernel
theorem dX8_toggleNeed_109 : decode cX8_toggleNeed 109 = .ok (.ireturn, 1) := by decide +kernel
theorem dX8_traces_0 : decode cX8_traces 0 = .ok (.iconst 0, 1) := by decide +kernel
theorem dX8_traces_1 : decode cX8_traces 1 = .ok (.istore 4, 2) := by decide +kernel
theorem dX8_traces_3 : decode cX8_traces 3 = .ok (.iload 4, 2) := by decide +kernel
theorem dX8_traces_5 : decode cX8_traces 5 = .ok (.bipush 48, 2) := by decide +kernel
theorem dX8_traces_7 : decode cX8_traces 7 = .ok (.if_icmp .ge 27, 3) := by decide +kernel
theorem dX8_traces_10 : decode cX8_traces 10 = .ok (.aload_n 0, 1) := by decide +kernel
theorem dX8_traces_11 : decode cX8_traces 11 = .ok (.getfield 131, 3) := by decide +kernel
theorem dX8_traces_14 : decode cX8_traces 14 = .ok (.iload 4, 2) := by decide +kernel
theorem dX8_traces_16 : decode cX8_traces 16 = .ok (.iload 4, 2) := by decide +kernel
theorem dX8_traces_18 : decode cX8_traces 18 = .ok (.iload_n 3, 1) := by decide +kernel
theorem dX8_traces_19 : decode cX8_traces 19 = .ok (.if_icmp .ne 7, 3) := by decide +kernel
theorem dX8_traces_22 : decode cX8_traces 22 = .ok (.iconst 1, 1) := by decide +kernel
theorem dX8_traces_23 : decode cX8_traces 23 = .ok (.goto 4, 3) := by decide +kernel
theorem dX8_traces_26 : decode cX8_traces 26 = .ok (.iconst 0, 1) := by decide +kernel
theorem dX8_traces_27 : decode cX8_traces 27 = .ok (.bastore, 1) := by decide +kernel
theorem dX8_traces_28 : decode cX8_traces 28 = .ok (.iinc 4 1, 3) := by decide +kernel
theorem dX8_traces_31 : decode cX8_traces 31 = .ok (.goto (-28), 3) := by decide +kernel
theorem dX8_traces_34 : decode cX8_traces 34 = .ok (.aload_n 0, 1) := by decide +kernel
theorem dX8_traces_35 : decode cX8_traces 35 = .ok (.iload_n 1, 1) := by decide +kernel
theorem dX8_traces_36 : decode cX8_traces 36 = .ok (.iload_n 2, 1) := by decide +kernel
theorem dX8_traces_37 : decode cX8_traces 37 = .ok (.invokevirtual 203, 3) := by decide +kernel
theorem dX8_traces_40 : decode cX8_traces 40 = .ok (.return_, 1) := by decide +kernel
theorem dX8_follows_0 : decode cX8_follows 0 = .ok (.iload_n 2, 1) := by decide +kernel
theorem dX8_follows_1 : decode cX8_follows 1 = .ok (.iconst 1, 1) := by decide +kernel
theorem dX8_follows_2 : decode cX8_follows 2 = .ok (.iadd, 1) := by decide +kernel
theorem dX8_follows_3 : decode cX8_follows 3 = .ok (.istore_n 3, 1) := by decide +kernel
theorem dX8_follows_4 : decode cX8_follows 4 = .ok (.iload_n 3, 1) := by decide +kernel
theorem dX8_follows_5 : decode cX8_follows 5 = .ok (.aload_n 0, 1) := by decide +kernel
theorem dX8_follows_6 : decode cX8_follows 6 = .ok (.getfield 7, 3) := by decide +kernel
theorem dX8_follows_9 : decode cX8_follows 9 = .ok (.iload_n 1, 1) := by decide +kernel
theorem dX8_follows_10 : decode cX8_follows 10 = .ok (.iaload, 1) := by decide +kernel
theorem dX8_follows_11 : decode cX8_follows 11 = .ok (.if_icmp .gt 167, 3) := by decide +kernel
theorem dX8_follows_14 : decode cX8_follows 14 = .ok (.bipush 24, 2) := by decide +kernel
theorem dX8_follows_16 : decode cX8_follows 16 = .ok (.iload_n 1, 1) := by decide +kernel
theorem dX8_follows_17 : decode cX8_follows 17 = .ok (.imul, 1) := by decide +kernel
theorem dX8_follows_18 : decode cX8_follows 18 = .ok (.iload_n 3, 1) := by decide +kernel
theorem dX8_follows_19 : decode cX8_follows 19 = .ok (.iadd, 1) := by decide +kernel
theorem dX8_follows_20 : decode cX8_follows 20 = .ok (.istore 4, 2) := by decide +kernel
theorem dX8_follows_22 : decode cX8_follows 22 = .ok (.aload_n 0, 1) := by decide +kernel
theorem dX8_follows_23 : decode cX8_follows 23 = .ok (.getfield 29, 3) := by decide +kernel
theorem dX8_follows_26 : decode cX8_follows 26 = .ok (.iload 4, 2) := by decide +kernel
theorem dX8_follows_28 : decode cX8_follows 28 = .ok (.iaload, 1) := by decide +kernel
theorem dX8_follows_29 : decode cX8_follows 29 = .ok (.iconst 2, 1) := by decide +kernel
theorem dX8_follows_30 : decode cX8_follows 30 = .ok (.if_icmp .lt 142, 3) := by decide +kernel
theorem dX8_follows_33 : decode cX8_follows 33 = .ok (.aload_n 0, 1) := by decide +kernel
theorem dX8_follows_34 : decode cX8_follows 34 = .ok (.getfield 29, 3) := by decide +kernel
theorem dX8_follows_37 : decode cX8_follows 37 = .ok (.iload 4, 2) := by decide +kernel
theorem dX8_follows_39 : decode cX8_follows 39 = .ok (.iaload, 1) := by decide +kernel
theorem dX8_follows_40 : decode cX8_follows 40 = .ok (.iconst 5, 1) := by decide +kernel
theorem dX8_follows_41 : decode cX8_follows 41 = .ok (.if_icmp .gt 131, 3) := by decide +kernel
theorem dX8_follows_44 : decode cX8_follows 44 = .ok (.iconst 0, 1) := by decide +kernel
theorem dX8_follows_45 : decode cX8_follows 45 = .ok (.istore 5, 2) := by decide +kernel
theorem dX8_follows_47 : decode cX8_follows 47 = .ok (.iconst 0, 1) := by decide +kernel
theorem dX8_follows_48 : decode cX8_follows 48 = .ok (.istore 6, 2) := by decide +kernel
theorem dX8_follows_50 : decode cX8_follows 50 = .ok (.iload 6, 2) := by decide +kernel
theorem dX8_follows_52 : decode cX8_follows 52 = .ok (.iconst 2, 1) := by decide +kernel
theorem dX8_follows_53 : decode cX8_follows 53 = .ok (.if_icmp .ge 65, 3) := by decide +kernel
theorem dX8_follows_56 : decode cX8_follows 56 = .ok (.aload_n 0, 1) := by decide +kernel
theorem dX8_follows_57 : decode cX8_follows 57 = .ok (.getfield 32, 3) := by decide +kernel
theorem dX8_follows_60 : decode cX8_follows 60 = .ok (.iconst 2, 1) := by decide +kernel
theorem dX8_follows_61 : decode cX8_follows 61 = .ok (.iload 4, 2) := by decide +kernel
theorem dX8_follows_63 : decode cX8_follows 63 = .ok (.imul, 1) := by decide +kernel
theorem dX8_follows_64 : decode cX8_follows 64 = .ok (.iload 6, 2) := by decide +kernel
theorem dX8_follows_66 : decode cX8_follows 66 = .ok (.iadd, 1) := by decide +kernel
theorem dX8_follows_67 : decode cX8_follows 67 = .ok (.iaload, 1) := by decide +kernel
theorem dX8_follows_68 : decode cX8_follows 68 = .ok (.istore 7, 2) := by decide +kernel
theorem dX8_follows_70 : decode cX8_follows 70 = .ok (.iload 5, 2) := by decide +kernel
theorem dX8_follows_72 : decode cX8_follows 72 = .ok (.ifCond .ne 19, 3) := by decide +kernel
theorem dX8_follows_75 : decode cX8_follows 75 = .ok (.iload 7, 2) := by decide +kernel
theorem dX8_follows_77 : decode cX8_follows 77 = .ok (.iconst (-1), 1) := by decide +kernel
theorem dX8_follows_78 : decode cX8_follows 78 = .ok (.if_icmp .eq 17, 3) := by decide +kernel
theorem dX8_follows_81 : decode cX8_follows 81 = .ok (.aload_n 0, 1) := by decide +kernel
theorem dX8_follows_82 : decode cX8_follows 82 = .ok (.getfield 131, 3) := by decide +kernel
theorem dX8_follows_85 : decode cX8_follows 85 = .ok (.iload 7, 2) := by decide +kernel
theorem dX8_follows_87 : decode cX8_follows 87 = .ok (.baload, 1) := by decide +kernel
theorem dX8_follows_88 : decode cX8_follows 88 = .ok (.ifCond .eq 7, 3) := by decide +kernel
theorem dX8_follows_91 : decode cX8_follows 91 = .ok (.iconst 1, 1) := by decide +kernel
theorem dX8_follows_92 : decode cX8_follows 92 = .ok (.goto 4, 3) := by decide +kernel
theorem dX8_follows_95 : decode cX8_follows 95 = .ok (.iconst 0, 1) := by decide +kernel
theorem dX8_follows_96 : decode cX8_follows 96 = .ok (.istore 5, 2) := by decide +kernel
theorem dX8_follows_98 : decode cX8_follows 98 = .ok (.iload 7, 2) := by decide +kernel
theorem dX8_follows_100 : decode cX8_follows 100 = .ok (.iconst (-1), 1) := by decide +kernel
theorem dX8_follows_101 : decode cX8_follows 101 = .ok (.if_icmp .eq 11, 3) := by decide +kernel
theorem dX8_follows_104 : decode cX8_follows 104 = .ok (.aload_n 0, 1) := by decide +kernel
theorem dX8_follows_105 : decode cX8_follows 105 = .ok (.getfield 131, 3) := by decide +kernel
theorem dX8_follows_108 : decode cX8_follows 108 = .ok (.iload 7, 2) := by decide +kernel
theorem dX8_follows_110 : decode cX8_follows 110 = .ok (.iconst 0, 1) := by decide +kernel
theorem dX8_follows_111 : decode cX8_follows 111 = .ok (.bastore, 1) := by decide +kernel
theorem dX8_follows_112 : decode cX8_follows 112 = .ok (.iinc 6 1, 3) := by decide +kernel
theorem dX8_follows_115 : decode cX8_follows 115 = .ok (.goto (-65), 3) := by decide +kernel
theorem dX8_follows_118 : decode cX8_follows 118 = .ok (.iconst 0, 1) := by decide +kernel
theorem dX8_follows_119 : decode cX8_follows 119 = .ok (.istore 6, 2) := by decide +kernel
theorem dX8_follows_121 : decode cX8_follows 121 = .ok (.iload 6, 2) := by decide +kernel
theorem dX8_follows_123 : decode cX8_follows 123 = .ok (.iconst 2, 1) := by decide +kernel
theorem dX8_follows_124 : decode cX8_follows 124 = .ok (.if_icmp .ge 48, 3) := by decide +kernel
theorem dX8_follows_127 : decode cX8_follows 127 = .ok (.iload 5, 2) := by decide +kernel
theorem dX8_follows_129 : decode cX8_follows 129 = .ok (.ifCond .eq 43, 3) := by decide +kernel
theorem dX8_follows_132 : decode cX8_follows 132 = .ok (.aload_n 0, 1) := by decide +kernel
theorem dX8_follows_133 : decode cX8_follows 133 = .ok (.getfield 35, 3) := by decide +kernel
theorem dX8_follows_136 : decode cX8_follows 136 = .ok (.iconst 2, 1) := by decide +kernel
theorem dX8_follows_137 : decode cX8_follows 137 = .ok (.iload 4, 2) := by decide +kernel
theorem dX8_follows_139 : decode cX8_follows 139 = .ok (.imul, 1) := by decide +kernel
theorem dX8_follows_140 : decode cX8_follows 140 = .ok (.iload 6, 2) := by decide +kernel
theorem dX8_follows_142 : decode cX8_follows 142 = .ok (.iadd, 1) := by decide +kernel
theorem dX8_follows_143 : decode cX8_follows 143 = .ok (.iaload, 1) := by decide +kernel
theorem dX8_follows_144 : decode cX8_follows 144 = .ok (.iconst (-1), 1) := by decide +kernel
theorem dX8_follows_145 : decode cX8_follows 145 = .ok (.if_icmp .eq 21, 3) := by decide +kernel
theorem dX8_follows_148 : decode cX8_follows 148 = .ok (.aload_n 0, 1) := by decide +kernel
theorem dX8_follows_149 : decode cX8_follows 149 = .ok (.getfield 131, 3) := by decide +kernel
theorem dX8_follows_152 : decode cX8_follows 152 = .ok (.aload_n 0, 1) := by decide +kernel
theorem dX8_follows_153 : decode cX8_follows 153 = .ok (.getfield 35, 3) := by decide +kernel
theorem dX8_follows_156 : decode cX8_follows 156 = .ok (.iconst 2, 1) := by decide +kernel
theorem dX8_follows_157 : decode cX8_follows 157 = .ok (.iload 4, 2) := by decide +kernel
theorem dX8_follows_159 : decode cX8_follows 159 = .ok (.imul, 1) := by decide +kernel
theorem dX8_follows_160 : decode cX8_follows 160 = .ok (.iload 6, 2) := by decide +kernel
theorem dX8_follows_162 : decode cX8_follows 162 = .ok (.iadd, 1) := by decide +kernel
theorem dX8_follows_163 : decode cX8_follows 163 = .ok (.iaload, 1) := by decide +kernel
theorem dX8_follows_164 : decode cX8_follows 164 = .ok (.iconst 1, 1) := by decide +kernel
theorem dX8_follows_165 : decode cX8_follows 165 = .ok (.bastore, 1) := by decide +kernel
theorem dX8_follows_166 : decode cX8_follows 166 = .ok (.iinc 6 1, 3) := by decide +kernel
theorem dX8_follows_169 : decode cX8_follows 169 = .ok (.goto (-48), 3) := by decide +kernel
theorem dX8_follows_172 : decode cX8_follows 172 = .ok (.iinc 3 1, 3) := by decide +kernel
theorem dX8_follows_175 : decode cX8_follows 175 = .ok (.goto (-171), 3) := by decide +kernel
theorem dX8_follows_178 : decode cX8_follows 178 = .ok (.return_, 1) := by decide +kernel
theorem dX8_tracesOf_0 : decode cX8_tracesOf 0 = .ok (.iconst 0, 1) := by decide +kernel
theorem dX8_tracesOf_1 : decode cX8_tracesOf 1 = .ok (.istore_n 3, 1) := by decide +kernel
theorem dX8_tracesOf_2 : decode cX8_tracesOf 2 = .ok (.iload_n 3, 1) := by decide +kernel
theorem dX8_tracesOf_3 : decode cX8_tracesOf 3 = .ok (.bipush 48, 2) := by decide +kernel
theorem dX8_tracesOf_5 : decode cX8_tracesOf 5 = .ok (.if_icmp .ge 52, 3) := by decide +kernel
theorem dX8_tracesOf_8 : decode cX8_tracesOf 8 = .ok (.aload_n 0, 1) := by decide +kernel
theorem dX8_tracesOf_9 : decode cX8_tracesOf 9 = .ok (.getfield 131, 3) := by decide +kernel
theorem dX8_tracesOf_12 : decode cX8_tracesOf 12 = .ok (.iload_n 3, 1) := by decide +kernel
theorem dX8_tracesOf_13 : decode cX8_tracesOf 13 = .ok (.aload_n 0, 1) := by decide +kernel
theorem dX8_tracesOf_14 : decode cX8_tracesOf 14 = .ok (.getfield 56, 3) := by decide +kernel
theorem dX8_tracesOf_17 : decode cX8_tracesOf 17 = .ok (.bipush 48, 2) := by decide +kernel
theorem dX8_tracesOf_19 : decode cX8_tracesOf 19 = .ok (.iload_n 1, 1) := by decide +kernel
theorem dX8_tracesOf_20 : decode cX8_tracesOf 20 = .ok (.imul, 1) := by decide +kernel
theorem dX8_tracesOf_21 : decode cX8_tracesOf 21 = .ok (.iload_n 3, 1) := by decide +kernel
theorem dX8_tracesOf_22 : decode cX8_tracesOf 22 = .ok (.iadd, 1) := by decide +kernel
theorem dX8_tracesOf_23 : decode cX8_tracesOf 23 = .ok (.baload, 1) := by decide +kernel
theorem dX8_tracesOf_24 : decode cX8_tracesOf 24 = .ok (.ifCond .eq 25, 3) := by decide +kernel
theorem dX8_tracesOf_27 : decode cX8_tracesOf 27 = .ok (.iload_n 2, 1) := by decide +kernel
theorem dX8_tracesOf_28 : decode cX8_tracesOf 28 = .ok (.ifCond .eq 17, 3) := by decide +kernel
theorem dX8_tracesOf_31 : decode cX8_tracesOf 31 = .ok (.aload_n 0, 1) := by decide +kernel
theorem dX8_tracesOf_32 : decode cX8_tracesOf 32 = .ok (.getfield 59, 3) := by decide +kernel
theorem dX8_tracesOf_35 : decode cX8_tracesOf 35 = .ok (.bipush 48, 2) := by decide +kernel
theorem dX8_tracesOf_37 : decode cX8_tracesOf 37 = .ok (.iload_n 1, 1) := by decide +kernel
theorem dX8_tracesOf_38 : decode cX8_tracesOf 38 = .ok (.imul, 1) := by decide +kernel
theorem dX8_tracesOf_39 : decode cX8_tracesOf 39 = .ok (.iload_n 3, 1) := by decide +kernel
theorem dX8_tracesOf_40 : decode cX8_tracesOf 40 = .ok (.iadd, 1) := by decide +kernel
theorem dX8_tracesOf_41 : decode cX8_tracesOf 41 = .ok (.baload, 1) := by decide +kernel
theorem dX8_tracesOf_42 : decode cX8_tracesOf 42 = .ok (.ifCond .eq 7, 3) := by decide +kernel
theorem dX8_tracesOf_45 : decode cX8_tracesOf 45 = .ok (.iconst 1, 1) := by decide +kernel
theorem dX8_tracesOf_46 : decode cX8_tracesOf 46 = .ok (.goto 4, 3) := by decide +kernel
theorem dX8_tracesOf_49 : decode cX8_tracesOf 49 = .ok (.iconst 0, 1) := by decide +kernel
theorem dX8_tracesOf_50 : decode cX8_tracesOf 50 = .ok (.bastore, 1) := by decide +kernel
theorem dX8_tracesOf_51 : decode cX8_tracesOf 51 = .ok (.iinc 3 1, 3) := by decide +kernel
theorem dX8_tracesOf_54 : decode cX8_tracesOf 54 = .ok (.goto (-52), 3) := by decide +kernel
theorem dX8_tracesOf_57 : decode cX8_tracesOf 57 = .ok (.aload_n 0, 1) := by decide +kernel
theorem dX8_tracesOf_58 : decode cX8_tracesOf 58 = .ok (.aload_n 0, 1) := by decide +kernel
theorem dX8_tracesOf_59 : decode cX8_tracesOf 59 = .ok (.getfield 47, 3) := by decide +kernel
theorem dX8_tracesOf_62 : decode cX8_tracesOf 62 = .ok (.iload_n 1, 1) := by decide +kernel
theorem dX8_tracesOf_63 : decode cX8_tracesOf 63 = .ok (.iaload, 1) := by decide +kernel
theorem dX8_tracesOf_64 : decode cX8_tracesOf 64 = .ok (.aload_n 0, 1) := by decide +kernel
theorem dX8_tracesOf_65 : decode cX8_tracesOf 65 = .ok (.getfield 50, 3) := by decide +kernel
theorem dX8_tracesOf_68 : decode cX8_tracesOf 68 = .ok (.iload_n 1, 1) := by decide +kernel
theorem dX8_tracesOf_69 : decode cX8_tracesOf 69 = .ok (.iaload, 1) := by decide +kernel
theorem dX8_tracesOf_70 : decode cX8_tracesOf 70 = .ok (.invokevirtual 203, 3) := by decide +kernel
theorem dX8_tracesOf_73 : decode cX8_tracesOf 73 = .ok (.return_, 1) := by decide +kernel
theorem dX8_isHeldUp_0 : decode cX8_isHeldUp 0 = .ok (.iconst 0, 1) := by decide +kernel
theorem dX8_isHeldUp_1 : decode cX8_isHeldUp 1 = .ok (.istore_n 3, 1) := by decide +kernel
theorem dX8_isHeldUp_2 : decode cX8_isHeldUp 2 = .ok (.iconst 0, 1) := by decide +kernel
theorem dX8_isHeldUp_3 : decode cX8_isHeldUp 3 = .ok (.istore 4, 2) := by decide +kernel
theorem dX8_isHeldUp_5 : decode cX8_isHeldUp 5 = .ok (.iload 4, 2) := by decide +kernel
theorem dX8_isHeldUp_7 : decode cX8_isHeldUp 7 = .ok (.aload_n 0, 1) := by decide +kernel
theorem dX8_isHeldUp_8 : decode cX8_isHeldUp 8 = .ok (.getfield 206, 3) := by decide +kernel
theorem dX8_isHeldUp_11 : decode cX8_isHeldUp 11 = .ok (.if_icmp .ge 56, 3) := by decide +kernel
theorem dX8_isHeldUp_14 : decode cX8_isHeldUp 14 = .ok (.aload_n 0, 1) := by decide +kernel
theorem dX8_isHeldUp_15 : decode cX8_isHeldUp 15 = .ok (.getfield 47, 3) := by decide +kernel
theorem dX8_isHeldUp_18 : decode cX8_isHeldUp 18 = .ok (.iload 4, 2) := by decide +kernel
theorem dX8_isHeldUp_20 : decode cX8_isHeldUp 20 = .ok (.iaload, 1) := by decide +kernel
theorem dX8_isHeldUp_21 : decode cX8_isHeldUp 21 = .ok (.iload_n 1, 1) := by decide +kernel
theorem dX8_isHeldUp_22 : decode cX8_isHeldUp 22 = .ok (.if_icmp .ne 39, 3) := by decide +kernel
theorem dX8_isHeldUp_25 : decode cX8_isHeldUp 25 = .ok (.aload_n 0, 1) := by decide +kernel
theorem dX8_isHeldUp_26 : decode cX8_isHeldUp 26 = .ok (.getfield 53, 3) := by decide +kernel
theorem dX8_isHeldUp_29 : decode cX8_isHeldUp 29 = .ok (.iload 4, 2) := by decide +kernel
theorem dX8_isHeldUp_31 : decode cX8_isHeldUp 31 = .ok (.baload, 1) := by decide +kernel
theorem dX8_isHeldUp_32 : decode cX8_isHeldUp 32 = .ok (.ifCond .ne 29, 3) := by decide +kernel
theorem dX8_isHeldUp_35 : decode cX8_isHeldUp 35 = .ok (.aload_n 0, 1) := by decide +kernel
theorem dX8_isHeldUp_36 : decode cX8_isHeldUp 36 = .ok (.iload 4, 2) := by decide +kernel
theorem dX8_isHeldUp_38 : decode cX8_isHeldUp 38 = .ok (.iconst 0, 1) := by decide +kernel
theorem dX8_isHeldUp_39 : decode cX8_isHeldUp 39 = .ok (.invokevirtual 209, 3) := by decide +kernel
theorem dX8_isHeldUp_42 : decode cX8_isHeldUp 42 = .ok (.iload_n 3, 1) := by decide +kernel
theorem dX8_isHeldUp_43 : decode cX8_isHeldUp 43 = .ok (.ifCond .ne 12, 3) := by decide +kernel
theorem dX8_isHeldUp_46 : decode cX8_isHeldUp 46 = .ok (.aload_n 0, 1) := by decide +kernel
theorem dX8_isHeldUp_47 : decode cX8_isHeldUp 47 = .ok (.getfield 131, 3) := by decide +kernel
theorem dX8_isHeldUp_50 : decode cX8_isHeldUp 50 = .ok (.iload_n 2, 1) := by decide +kernel
theorem dX8_isHeldUp_51 : decode cX8_isHeldUp 51 = .ok (.baload, 1) := by decide +kernel
theorem dX8_isHeldUp_52 : decode cX8_isHeldUp 52 = .ok (.ifCond .eq 7, 3) := by decide +kernel
theorem dX8_isHeldUp_55 : decode cX8_isHeldUp 55 = .ok (.iconst 1, 1) := by decide +kernel
theorem dX8_isHeldUp_56 : decode cX8_isHeldUp 56 = .ok (.goto 4, 3) := by decide +kernel
theorem dX8_isHeldUp_59 : decode cX8_isHeldUp 59 = .ok (.iconst 0, 1) := by decide +kernel
theorem dX8_isHeldUp_60 : decode cX8_isHeldUp 60 = .ok (.istore_n 3, 1) := by decide +kernel
theorem dX8_isHeldUp_61 : decode cX8_isHeldUp 61 = .ok (.iinc 4 1, 3) := by decide +kernel
theorem dX8_isHeldUp_64 : decode cX8_isHeldUp 64 = .ok (.goto (-59), 3) := by decide +kernel
theorem dX8_isHeldUp_67 : decode cX8_isHeldUp 67 = .ok (.iload_n 3, 1) := by decide +kernel
theorem dX8_isHeldUp_68 : decode cX8_isHeldUp 68 = .ok (.ireturn, 1) := by decide +kernel
theorem dX8_dropsOut_0 : decode cX8_dropsOut 0 = .ok (.aload_n 0, 1) := by decide +kernel
theorem dX8_dropsOut_1 : decode cX8_dropsOut 1 = .ok (.iload_n 1, 1) := by decide +kernel
theorem dX8_dropsOut_2 : decode cX8_dropsOut 2 = .ok (.iconst 5, 1) := by decide +kernel
theorem dX8_dropsOut_3 : decode cX8_dropsOut 3 = .ok (.invokevirtual 176, 3) := by decide +kernel
theorem dX8_dropsOut_6 : decode cX8_dropsOut 6 = .ok (.istore_n 3, 1) := by decide +kernel
theorem dX8_dropsOut_7 : decode cX8_dropsOut 7 = .ok (.aload_n 0, 1) := by decide +kernel
theorem dX8_dropsOut_8 : decode cX8_dropsOut 8 = .ok (.iload_n 1, 1) := by decide +kernel
theorem dX8_dropsOut_9 : decode cX8_dropsOut 9 = .ok (.iload_n 2, 1) := by decide +kernel
theorem dX8_dropsOut_10 : decode cX8_dropsOut 10 = .ok (.invokevirtual 187, 3) := by decide +kernel
theorem dX8_dropsOut_13 : decode cX8_dropsOut 13 = .ok (.aload_n 0, 1) := by decide +kernel
theorem dX8_dropsOut_14 : decode cX8_dropsOut 14 = .ok (.getfield 32, 3) := by decide +kernel
theorem dX8_dropsOut_17 : decode cX8_dropsOut 17 = .ok (.iconst 2, 1) := by decide +kernel
theorem dX8_dropsOut_18 : decode cX8_dropsOut 18 = .ok (.iload_n 3, 1) := by decide +kernel
theorem dX8_dropsOut_19 : decode cX8_dropsOut 19 = .ok (.imul, 1) := by decide +kernel
theorem dX8_dropsOut_20 : decode cX8_dropsOut 20 = .ok (.iload_n 2, 1) := by decide +kernel
theorem dX8_dropsOut_21 : decode cX8_dropsOut 21 = .ok (.iastore, 1) := by decide +kernel
theorem dX8_dropsOut_22 : decode cX8_dropsOut 22 = .ok (.return_, 1) := by decide +kernel
theorem dX8_drop_0 : decode cX8_drop 0 = .ok (.aload_n 0, 1) := by decide +kernel
theorem dX8_drop_1 : decode cX8_drop 1 = .ok (.iload_n 1, 1) := by decide +kernel
theorem dX8_drop_2 : decode cX8_drop 2 = .ok (.iload_n 2, 1) := by decide +kernel
theorem dX8_drop_3 : decode cX8_drop 3 = .ok (.invokevirtual 169, 3) := by decide +kernel
theorem dX8_drop_6 : decode cX8_drop 6 = .ok (.istore_n 3, 1) := by decide +kernel
theorem dX8_drop_7 : decode cX8_drop 7 = .ok (.aload_n 0, 1) := by decide +kernel
theorem dX8_drop_8 : decode cX8_drop 8 = .ok (.iload_n 3, 1) := by decide +kernel
theorem dX8_drop_9 : decode cX8_drop 9 = .ok (.iconst (-1), 1) := by decide +kernel
theorem dX8_drop_10 : decode cX8_drop 10 = .ok (.if_icmp .ne 7, 3) := by decide +kernel
theorem dX8_drop_13 : decode cX8_drop 13 = .ok (.iconst 1, 1) := by decide +kernel
theorem dX8_drop_14 : decode cX8_drop 14 = .ok (.goto 25, 3) := by decide +kernel
theorem dX8_drop_17 : decode cX8_drop 17 = .ok (.aload_n 0, 1) := by decide +kernel
theorem dX8_drop_18 : decode cX8_drop 18 = .ok (.iload_n 1, 1) := by decide +kernel
theorem dX8_drop_19 : decode cX8_drop 19 = .ok (.iload_n 3, 1) := by decide +kernel
theorem dX8_drop_20 : decode cX8_drop 20 = .ok (.invokevirtual 183, 3) := by decide +kernel
theorem dX8_drop_23 : decode cX8_drop 23 = .ok (.ifCond .ne 11, 3) := by decide +kernel
theorem dX8_drop_26 : decode cX8_drop 26 = .ok (.aload_n 0, 1) := by decide +kernel
theorem dX8_drop_27 : decode cX8_drop 27 = .ok (.iload_n 1, 1) := by decide +kernel
theorem dX8_drop_28 : decode cX8_drop 28 = .ok (.invokevirtual 173, 3) := by decide +kernel
theorem dX8_drop_31 : decode cX8_drop 31 = .ok (.ifCond .eq 7, 3) := by decide +kernel
theorem dX8_drop_34 : decode cX8_drop 34 = .ok (.iconst 2, 1) := by decide +kernel
theorem dX8_drop_35 : decode cX8_drop 35 = .ok (.goto 4, 3) := by decide +kernel
theorem dX8_drop_38 : decode cX8_drop 38 = .ok (.iconst 0, 1) := by decide +kernel
theorem dX8_drop_39 : decode cX8_drop 39 = .ok (.invokevirtual 162, 3) := by decide +kernel
theorem dX8_drop_42 : decode cX8_drop 42 = .ok (.ifCond .eq 5, 3) := by decide +kernel
theorem dX8_drop_45 : decode cX8_drop 45 = .ok (.iconst 0, 1) := by decide +kernel
theorem dX8_drop_46 : decode cX8_drop 46 = .ok (.ireturn, 1) := by decide +kernel
theorem dX8_drop_47 : decode cX8_drop 47 = .ok (.aload_n 0, 1) := by decide +kernel
theorem dX8_drop_48 : decode cX8_drop 48 = .ok (.iload_n 1, 1) := by decide +kernel
theorem dX8_drop_49 : decode cX8_drop 49 = .ok (.iload_n 3, 1) := by decide +kernel
theorem dX8_drop_50 : decode cX8_drop 50 = .ok (.invokevirtual 213, 3) := by decide +kernel
theorem dX8_drop_53 : decode cX8_drop 53 = .ok (.ifCond .ne 7, 3) := by decide +kernel
theorem dX8_drop_56 : decode cX8_drop 56 = .ok (.iconst 1, 1) := by decide +kernel
theorem dX8_drop_57 : decode cX8_drop 57 = .ok (.goto 4, 3) := by decide +kernel
theorem dX8_drop_60 : decode cX8_drop 60 = .ok (.iconst 0, 1) := by decide +kernel
theorem dX8_drop_61 : decode cX8_drop 61 = .ok (.istore 4, 2) := by decide +kernel
theorem dX8_drop_63 : decode cX8_drop 63 = .ok (.iload 4, 2) := by decide +kernel
theorem dX8_drop_65 : decode cX8_drop 65 = .ok (.ifCond .eq 12, 3) := by decide +kernel
theorem dX8_drop_68 : decode cX8_drop 68 = .ok (.aload_n 0, 1) := by decide +kernel
theorem dX8_drop_69 : decode cX8_drop 69 = .ok (.iload_n 1, 1) := by decide +kernel
theorem dX8_drop_70 : decode cX8_drop 70 = .ok (.iload_n 3, 1) := by decide +kernel
theorem dX8_drop_71 : decode cX8_drop 71 = .ok (.invokevirtual 216, 3) := by decide +kernel
theorem dX8_drop_74 : decode cX8_drop 74 = .ok (.goto 30, 3) := by decide +kernel
theorem dX8_drop_77 : decode cX8_drop 77 = .ok (.aload_n 0, 1) := by decide +kernel
theorem dX8_drop_78 : decode cX8_drop 78 = .ok (.getfield 44, 3) := by decide +kernel
theorem dX8_drop_81 : decode cX8_drop 81 = .ok (.bipush 48, 2) := by decide +kernel
theorem dX8_drop_83 : decode cX8_drop 83 = .ok (.iload_n 1, 1) := by decide +kernel
theorem dX8_drop_84 : decode cX8_drop 84 = .ok (.imul, 1) := by decide +kernel
theorem dX8_drop_85 : decode cX8_drop 85 = .ok (.aload_n 0, 1) := by decide +kernel
theorem dX8_drop_86 : decode cX8_drop 86 = .ok (.getfield 41, 3) := by decide +kernel
theorem dX8_drop_89 : decode cX8_drop 89 = .ok (.iload_n 1, 1) := by decide +kernel
theorem dX8_drop_90 : decode cX8_drop 90 = .ok (.iaload, 1) := by decide +kernel
theorem dX8_drop_91 : decode cX8_drop 91 = .ok (.iadd, 1) := by decide +kernel
theorem dX8_drop_92 : decode cX8_drop 92 = .ok (.iload_n 3, 1) := by decide +kernel
theorem dX8_drop_93 : decode cX8_drop 93 = .ok (.iastore, 1) := by decide +kernel
theorem dX8_drop_94 : decode cX8_drop 94 = .ok (.aload_n 0, 1) := by decide +kernel
theorem dX8_drop_95 : decode cX8_drop 95 = .ok (.getfield 41, 3) := by decide +kernel
theorem dX8_drop_98 : decode cX8_drop 98 = .ok (.iload_n 1, 1) := by decide +kernel
theorem dX8_drop_99 : decode cX8_drop 99 = .ok (.dup2, 1) := by decide +kernel
theorem dX8_drop_100 : decode cX8_drop 100 = .ok (.iaload, 1) := by decide +kernel
theorem dX8_drop_101 : decode cX8_drop 101 = .ok (.iconst 1, 1) := by decide +kernel
theorem dX8_drop_102 : decode cX8_drop 102 = .ok (.iadd, 1) := by decide +kernel
theorem dX8_drop_103 : decode cX8_drop 103 = .ok (.iastore, 1) := by decide +kernel
theorem dX8_drop_104 : decode cX8_drop 104 = .ok (.iload 4, 2) := by decide +kernel
theorem dX8_drop_106 : decode cX8_drop 106 = .ok (.ireturn, 1) := by decide +kernel
theorem dX8_looksAtDrops_0 : decode cX8_looksAtDrops 0 = .ok (.aload_n 0, 1) := by decide +kernel
theorem dX8_looksAtDrops_1 : decode cX8_looksAtDrops 1 = .ok (.getfield 41, 3) := by decide +kernel
theorem dX8_looksAtDrops_4 : decode cX8_looksAtDrops 4 = .ok (.iload_n 1, 1) := by decide +kernel
theorem dX8_looksAtDrops_5 : decode cX8_looksAtDrops 5 = .ok (.iaload, 1) := by decide +kernel
theorem dX8_looksAtDrops_6 : decode cX8_looksAtDrops 6 = .ok (.istore_n 2, 1) := by decide +kernel
theorem dX8_looksAtDrops_7 : decode cX8_looksAtDrops 7 = .ok (.iconst 0, 1) := by decide +kernel
theorem dX8_looksAtDrops_8 : decode cX8_looksAtDrops 8 = .ok (.istore_n 3, 1) := by decide +kernel
theorem dX8_looksAtDrops_9 : decode cX8_looksAtDrops 9 = .ok (.iconst 0, 1) := by decide +kernel
theorem dX8_looksAtDrops_10 : decode cX8_looksAtDrops 10 = .ok (.istore 4, 2) := by decide +kernel
theorem dX8_looksAtDrops_12 : decode cX8_looksAtDrops 12 = .ok (.iload 4, 2) := by decide +kernel
theorem dX8_looksAtDrops_14 : decode cX8_looksAtDrops 14 = .ok (.iload_n 2, 1) := by decide +kernel
theorem dX8_looksAtDrops_15 : decode cX8_looksAtDrops 15 = .ok (.if_icmp .ge 67, 3) := by decide +kernel
theorem dX8_looksAtDrops_18 : decode cX8_looksAtDrops 18 = .ok (.aload_n 0, 1) := by decide +kernel
theorem dX8_looksAtDrops_19 : decode cX8_looksAtDrops 19 = .ok (.getfield 44, 3) := by decide +kernel
theorem dX8_looksAtDrops_22 : decode cX8_looksAtDrops 22 = .ok (.bipush 48, 2) := by decide +kernel
theorem dX8_looksAtDrops_24 : decode cX8_looksAtDrops 24 = .ok (.iload_n 1, 1) := by decide +kernel
theorem dX8_looksAtDrops_25 : decode cX8_looksAtDrops 25 = .ok (.imul, 1) := by decide +kernel
theorem dX8_looksAtDrops_26 : decode cX8_looksAtDrops 26 = .ok (.iload 4, 2) := by decide +kernel
theorem dX8_looksAtDrops_28 : decode cX8_looksAtDrops 28 = .ok (.iadd, 1) := by decide +kernel
theorem dX8_looksAtDrops_29 : decode cX8_looksAtDrops 29 = .ok (.iaload, 1) := by decide +kernel
theorem dX8_looksAtDrops_30 : decode cX8_looksAtDrops 30 = .ok (.istore 5, 2) := by decide +kernel
theorem dX8_looksAtDrops_32 : decode cX8_looksAtDrops 32 = .ok (.aload_n 0, 1) := by decide +kernel
theorem dX8_looksAtDrops_33 : decode cX8_looksAtDrops 33 = .ok (.iload_n 1, 1) := by decide +kernel
theorem dX8_looksAtDrops_34 : decode cX8_looksAtDrops 34 = .ok (.invokevirtual 173, 3) := by decide +kernel
theorem dX8_looksAtDrops_37 : decode cX8_looksAtDrops 37 = .ok (.ifCond .ne 23, 3) := by decide +kernel
theorem dX8_looksAtDrops_40 : decode cX8_looksAtDrops 40 = .ok (.aload_n 0, 1) := by decide +kernel
theorem dX8_looksAtDrops_41 : decode cX8_looksAtDrops 41 = .ok (.iload_n 1, 1) := by decide +kernel
theorem dX8_looksAtDrops_42 : decode cX8_looksAtDrops 42 = .ok (.iload 5, 2) := by decide +kernel
theorem dX8_looksAtDrops_44 : decode cX8_looksAtDrops 44 = .ok (.invokevirtual 213, 3) := by decide +kernel
theorem dX8_looksAtDrops_47 : decode cX8_looksAtDrops 47 = .ok (.ifCond .ne 13, 3) := by decide +kernel
theorem dX8_looksAtDrops_50 : decode cX8_looksAtDrops 50 = .ok (.aload_n 0, 1) := by decide +kernel
theorem dX8_looksAtDrops_51 : decode cX8_looksAtDrops 51 = .ok (.iload_n 1, 1) := by decide +kernel
theorem dX8_looksAtDrops_52 : decode cX8_looksAtDrops 52 = .ok (.iload 5, 2) := by decide +kernel
theorem dX8_looksAtDrops_54 : decode cX8_looksAtDrops 54 = .ok (.invokevirtual 216, 3) := by decide +kernel
theorem dX8_looksAtDrops_57 : decode cX8_looksAtDrops 57 = .ok (.goto 19, 3) := by decide +kernel
theorem dX8_looksAtDrops_60 : decode cX8_looksAtDrops 60 = .ok (.aload_n 0, 1) := by decide +kernel
theorem dX8_looksAtDrops_61 : decode cX8_looksAtDrops 61 = .ok (.getfield 44, 3) := by decide +kernel
theorem dX8_looksAtDrops_64 : decode cX8_looksAtDrops 64 = .ok (.bipush 48, 2) := by decide +kernel
theorem dX8_looksAtDrops_66 : decode cX8_looksAtDrops 66 = .ok (.iload_n 1, 1) := by decide +kernel
theorem dX8_looksAtDrops_67 : decode cX8_looksAtDrops 67 = .ok (.imul, 1) := by decide +kernel
theorem dX8_looksAtDrops_68 : decode cX8_looksAtDrops 68 = .ok (.iload_n 3, 1) := by decide +kernel
theorem dX8_looksAtDrops_69 : decode cX8_looksAtDrops 69 = .ok (.iadd, 1) := by decide +kernel
theorem dX8_looksAtDrops_70 : decode cX8_looksAtDrops 70 = .ok (.iload 5, 2) := by decide +kernel
theorem dX8_looksAtDrops_72 : decode cX8_looksAtDrops 72 = .ok (.iastore, 1) := by decide +kernel
theorem dX8_looksAtDrops_73 : decode cX8_looksAtDrops 73 = .ok (.iinc 3 1, 3) := by decide +kernel
theorem dX8_looksAtDrops_76 : decode cX8_looksAtDrops 76 = .ok (.iinc 4 1, 3) := by decide +kernel
theorem dX8_looksAtDrops_79 : decode cX8_looksAtDrops 79 = .ok (.goto (-67), 3) := by decide +kernel
theorem dX8_looksAtDrops_82 : decode cX8_looksAtDrops 82 = .ok (.aload_n 0, 1) := by decide +kernel
theorem dX8_looksAtDrops_83 : decode cX8_looksAtDrops 83 = .ok (.getfield 41, 3) := by decide +kernel
theorem dX8_looksAtDrops_86 : decode cX8_looksAtDrops 86 = .ok (.iload_n 1, 1) := by decide +kernel
theorem dX8_looksAtDrops_87 : decode cX8_looksAtDrops 87 = .ok (.iload_n 3, 1) := by decide +kernel
theorem dX8_looksAtDrops_88 : decode cX8_looksAtDrops 88 = .ok (.iastore, 1) := by decide +kernel
theorem dX8_looksAtDrops_89 : decode cX8_looksAtDrops 89 = .ok (.iload_n 2, 1) := by decide +kernel
theorem dX8_looksAtDrops_90 : decode cX8_looksAtDrops 90 = .ok (.iload_n 3, 1) := by decide +kernel
theorem dX8_looksAtDrops_91 : decode cX8_looksAtDrops 91 = .ok (.isub, 1) := by decide +kernel
theorem dX8_looksAtDrops_92 : decode cX8_looksAtDrops 92 = .ok (.ireturn, 1) := by decide +kernel
theorem dX8_head_0 : decode cX8_head 0 = .ok (.aload_n 0, 1) := by decide +kernel
theorem dX8_head_1 : decode cX8_head 1 = .ok (.aload_n 0, 1) := by decide +kernel
theorem dX8_head_2 : decode cX8_head 2 = .ok (.iload_n 1, 1) := by decide +kernel
theorem dX8_head_3 : decode cX8_head 3 = .ok (.invokevirtual 156, 3) := by decide +kernel
theorem dX8_head_6 : decode cX8_head 6 = .ok (.ifCond .eq 7, 3) := by decide +kernel
theorem dX8_head_9 : decode cX8_head 9 = .ok (.iconst 0, 1) := by decide +kernel
theorem dX8_head_10 : decode cX8_head 10 = .ok (.goto 4, 3) := by decide +kernel
theorem dX8_head_13 : decode cX8_head 13 = .ok (.iconst 1, 1) := by decide +kernel
theorem dX8_head_14 : decode cX8_head 14 = .ok (.invokevirtual 162, 3) := by decide +kernel
theorem dX8_head_17 : decode cX8_head 17 = .ok (.ifCond .eq 7, 3) := by decide +kernel
theorem dX8_head_20 : decode cX8_head 20 = .ok (.iconst 0, 1) := by decide +kernel
theorem dX8_head_21 : decode cX8_head 21 = .ok (.goto 19, 3) := by decide +kernel
theorem dX8_head_24 : decode cX8_head 24 = .ok (.bipush 100, 2) := by decide +kernel
theorem dX8_head_26 : decode cX8_head 26 = .ok (.aload_n 0, 1) := by decide +kernel
theorem dX8_head_27 : decode cX8_head 27 = .ok (.getfield 7, 3) := by decide +kernel
theorem dX8_head_30 : decode cX8_head 30 = .ok (.iload_n 1, 1) := by decide +kernel
theorem dX8_head_31 : decode cX8_head 31 = .ok (.iaload, 1) := by decide +kernel
theorem dX8_head_32 : decode cX8_head 32 = .ok (.imul, 1) := by decide +kernel
theorem dX8_head_33 : decode cX8_head 33 = .ok (.aload_n 0, 1) := by decide +kernel
theorem dX8_head_34 : decode cX8_head 34 = .ok (.getfield 41, 3) := by decide +kernel
theorem dX8_head_37 : decode cX8_head 37 = .ok (.iload_n 1, 1) := by decide +kernel
theorem dX8_head_38 : decode cX8_head 38 = .ok (.iaload, 1) := by decide +kernel
theorem dX8_head_39 : decode cX8_head 39 = .ok (.iadd, 1) := by decide +kernel
theorem dX8_head_40 : decode cX8_head 40 = .ok (.ireturn, 1) := by decide +kernel
theorem dX8_isVersion_0 : decode cX8_isVersion 0 = .ok (.aload_n 0, 1) := by decide +kernel
theorem dX8_isVersion_1 : decode cX8_isVersion 1 = .ok (.iload_n 1, 1) := by decide +kernel
theorem dX8_isVersion_2 : decode cX8_isVersion 2 = .ok (.invokevirtual 156, 3) := by decide +kernel
theorem dX8_isVersion_5 : decode cX8_isVersion 5 = .ok (.ifCond .eq 21, 3) := by decide +kernel
theorem dX8_isVersion_8 : decode cX8_isVersion 8 = .ok (.iload_n 2, 1) := by decide +kernel
theorem dX8_isVersion_9 : decode cX8_isVersion 9 = .ok (.iconst 0, 1) := by decide +kernel
theorem dX8_isVersion_10 : decode cX8_isVersion 10 = .ok (.aload_n 0, 1) := by decide +kernel
theorem dX8_isVersion_11 : decode cX8_isVersion 11 = .ok (.getfield 7, 3) := by decide +kernel
theorem dX8_isVersion_14 : decode cX8_isVersion 14 = .ok (.iload_n 1, 1) := by decide +kernel
theorem dX8_isVersion_15 : decode cX8_isVersion 15 = .ok (.iaload, 1) := by decide +kernel
theorem dX8_isVersion_16 : decode cX8_isVersion 16 = .ok (.invokestatic 144, 3) := by decide +kernel
theorem dX8_isVersion_19 : decode cX8_isVersion 19 = .ok (.ifCond .eq 7, 3) := by decide +kernel
theorem dX8_isVersion_22 : decode cX8_isVersion 22 = .ok (.iconst 1, 1) := by decide +kernel
theorem dX8_isVersion_23 : decode cX8_isVersion 23 = .ok (.goto 4, 3) := by decide +kernel
theorem dX8_isVersion_26 : decode cX8_isVersion 26 = .ok (.iconst 0, 1) := by decide +kernel
theorem dX8_isVersion_27 : decode cX8_isVersion 27 = .ok (.ireturn, 1) := by decide +kernel
theorem dX8_field_0 : decode cX8_field 0 = .ok (.aload_n 0, 1) := by decide +kernel
theorem dX8_field_1 : decode cX8_field 1 = .ok (.iload_n 1, 1) := by decide +kernel
theorem dX8_field_2 : decode cX8_field 2 = .ok (.iload_n 2, 1) := by decide +kernel
theorem dX8_field_3 : decode cX8_field 3 = .ok (.invokevirtual 219, 3) := by decide +kernel
theorem dX8_field_6 : decode cX8_field 6 = .ok (.istore 4, 2) := by decide +kernel
theorem dX8_field_8 : decode cX8_field 8 = .ok (.aload_n 0, 1) := by decide +kernel
theorem dX8_field_9 : decode cX8_field 9 = .ok (.iload 4, 2) := by decide +kernel
theorem dX8_field_11 : decode cX8_field 11 = .ok (.ifCond .ne 7, 3) := by decide +kernel
theorem dX8_field_14 : decode cX8_field 14 = .ok (.iconst 1, 1) := by decide +kernel
theorem dX8_field_15 : decode cX8_field 15 = .ok (.goto 15, 3) := by decide +kernel
theorem dX8_field_18 : decode cX8_field 18 = .ok (.iload_n 3, 1) := by decide +kernel
theorem dX8_field_19 : decode cX8_field 19 = .ok (.invokestatic 148, 3) := by decide +kernel
theorem dX8_field_22 : decode cX8_field 22 = .ok (.ifCond .eq 7, 3) := by decide +kernel
theorem dX8_field_25 : decode cX8_field 25 = .ok (.iconst 0, 1) := by decide +kernel
theorem dX8_field_26 : decode cX8_field 26 = .ok (.goto 4, 3) := by decide +kernel
theorem dX8_field_29 : decode cX8_field 29 = .ok (.iconst 2, 1) := by decide +kernel
theorem dX8_field_30 : decode cX8_field 30 = .ok (.invokevirtual 162, 3) := by decide +kernel
theorem dX8_field_33 : decode cX8_field 33 = .ok (.ifCond .eq 5, 3) := by decide +kernel
theorem dX8_field_36 : decode cX8_field 36 = .ok (.iconst 0, 1) := by decide +kernel
theorem dX8_field_37 : decode cX8_field 37 = .ok (.ireturn, 1) := by decide +kernel
theorem dX8_field_38 : decode cX8_field 38 = .ok (.aload_n 0, 1) := by decide +kernel
theorem dX8_field_39 : decode cX8_field 39 = .ok (.iload_n 1, 1) := by decide +kernel
theorem dX8_field_40 : decode cX8_field 40 = .ok (.iload_n 2, 1) := by decide +kernel
theorem dX8_field_41 : decode cX8_field 41 = .ok (.iload_n 3, 1) := by decide +kernel
theorem dX8_field_42 : decode cX8_field 42 = .ok (.invokevirtual 159, 3) := by decide +kernel
theorem dX8_field_45 : decode cX8_field 45 = .ok (.istore 5, 2) := by decide +kernel
theorem dX8_field_47 : decode cX8_field 47 = .ok (.iload 5, 2) := by decide +kernel
theorem dX8_field_49 : decode cX8_field 49 = .ok (.iconst (-1), 1) := by decide +kernel
theorem dX8_field_50 : decode cX8_field 50 = .ok (.if_icmp .ne 7, 3) := by decide +kernel
theorem dX8_field_53 : decode cX8_field 53 = .ok (.iconst (-1), 1) := by decide +kernel
theorem dX8_field_54 : decode cX8_field 54 = .ok (.goto 42, 3) := by decide +kernel
theorem dX8_field_57 : decode cX8_field 57 = .ok (.bipush 10, 2) := by decide +kernel
theorem dX8_field_59 : decode cX8_field 59 = .ok (.iload 5, 2) := by decide +kernel
theorem dX8_field_61 : decode cX8_field 61 = .ok (.imul, 1) := by decide +kernel
theorem dX8_field_62 : decode cX8_field 62 = .ok (.aload_n 0, 1) := by decide +kernel
theorem dX8_field_63 : decode cX8_field 63 = .ok (.getfield 25, 3) := by decide +kernel
theorem dX8_field_66 : decode cX8_field 66 = .ok (.iload_n 1, 1) := by decide +kernel
theorem dX8_field_67 : decode cX8_field 67 = .ok (.iload_n 2, 1) := by decide +kernel
theorem dX8_field_68 : decode cX8_field 68 = .ok (.iload 5, 2) := by decide +kernel
theorem dX8_field_70 : decode cX8_field 70 = .ok (.invokestatic 152, 3) := by decide +kernel
theorem dX8_field_73 : decode cX8_field 73 = .ok (.baload, 1) := by decide +kernel
theorem dX8_field_74 : decode cX8_field 74 = .ok (.ifCond .eq 7, 3) := by decide +kernel
theorem dX8_field_77 : decode cX8_field 77 = .ok (.iconst 3, 1) := by decide +kernel
theorem dX8_field_78 : decode cX8_field 78 = .ok (.goto 4, 3) := by decide +kernel
theorem dX8_field_81 : decode cX8_field 81 = .ok (.iconst 0, 1) := by decide +kernel
theorem dX8_field_82 : decode cX8_field 82 = .ok (.iadd, 1) := by decide +kernel
theorem dX8_field_83 : decode cX8_field 83 = .ok (.aload_n 0, 1) := by decide +kernel
theorem dX8_field_84 : decode cX8_field 84 = .ok (.getfield 16, 3) := by decide +kernel
theorem dX8_field_87 : decode cX8_field 87 = .ok (.bipush 48, 2) := by decide +kernel
theorem dX8_field_89 : decode cX8_field 89 = .ok (.iload_n 1, 1) := by decide +kernel
theorem dX8_field_90 : decode cX8_field 90 = .ok (.imul, 1) := by decide +kernel
theorem dX8_field_91 : decode cX8_field 91 = .ok (.iload 5, 2) := by decide +kernel
theorem dX8_field_93 : decode cX8_field 93 = .ok (.iadd, 1) := by decide +kernel
theorem dX8_field_94 : decode cX8_field 94 = .ok (.iaload, 1) := by decide +kernel
theorem dX8_field_95 : decode cX8_field 95 = .ok (.iadd, 1) := by decide +kernel
theorem dX8_field_96 : decode cX8_field 96 = .ok (.ireturn, 1) := by decide +kernel
theorem dX8_letter_0 : decode cX8_letter 0 = .ok (.iload_n 0, 1) := by decide +kernel
theorem dX8_letter_1 : decode cX8_letter 1 = .ok (.tableswitch 296 0 5 #[39, 61, 118, 160, 212, 254], 39) := by decide +kernel
theorem dX8_letter_40 : decode cX8_letter 40 = .ok (.iload_n 1, 1) := by decide +kernel
theorem dX8_letter_41 : decode cX8_letter 41 = .ok (.ifCond .ne 8, 3) := by decide +kernel
theorem dX8_letter_44 : decode cX8_letter 44 = .ok (.bipush 97, 2) := by decide +kernel
theorem dX8_letter_46 : decode cX8_letter 46 = .ok (.goto 15, 3) := by decide +kernel
theorem dX8_letter_49 : decode cX8_letter 49 = .ok (.iload_n 1, 1) := by decide +kernel
theorem dX8_letter_50 : decode cX8_letter 50 = .ok (.iconst 3, 1) := by decide +kernel
theorem dX8_letter_51 : decode cX8_letter 51 = .ok (.if_icmp .ge 8, 3) := by decide +kernel
theorem dX8_letter_54 : decode cX8_letter 54 = .ok (.bipush 100, 2) := by decide +kernel
theorem dX8_letter_56 : decode cX8_letter 56 = .ok (.goto 5, 3) := by decide +kernel
theorem dX8_letter_59 : decode cX8_letter 59 = .ok (.bipush 32, 2) := by decide +kernel
theorem dX8_letter_61 : decode cX8_letter 61 = .ok (.ireturn, 1) := by decide +kernel
theorem dX8_letter_62 : decode cX8_letter 62 = .ok (.iload_n 1, 1) := by decide +kernel
theorem dX8_letter_63 : decode cX8_letter 63 = .ok (.ifCond .ne 8, 3) := by decide +kernel
theorem dX8_letter_66 : decode cX8_letter 66 = .ok (.bipush 114, 2) := by decide +kernel
theorem dX8_letter_68 : decode cX8_letter 68 = .ok (.goto 50, 3) := by decide +kernel
theorem dX8_letter_71 : decode cX8_letter 71 = .ok (.iload_n 1, 1) := by decide +kernel
theorem dX8_letter_72 : decode cX8_letter 72 = .ok (.iconst 1, 1) := by decide +kernel
theorem dX8_letter_73 : decode cX8_letter 73 = .ok (.if_icmp .eq 8, 3) := by decide +kernel
theorem dX8_letter_76 : decode cX8_letter 76 = .ok (.iload_n 1, 1) := by decide +kernel
theorem dX8_letter_77 : decode cX8_letter 77 = .ok (.iconst 5, 1) := by decide +kernel
theorem dX8_letter_78 : decode cX8_letter 78 = .ok (.if_icmp .ne 8, 3) := by decide +kernel
theorem dX8_letter_81 : decode cX8_letter 81 = .ok (.bipush 101, 2) := by decide +kernel
theorem dX8_letter_83 : decode cX8_letter 83 = .ok (.goto 35, 3) := by decide +kernel
theorem dX8_letter_86 : decode cX8_letter 86 = .ok (.iload_n 1, 1) := by decide +kernel
theorem dX8_letter_87 : decode cX8_letter 87 = .ok (.iconst 2, 1) := by decide +kernel
theorem dX8_letter_88 : decode cX8_letter 88 = .ok (.if_icmp .ne 8, 3) := by decide +kernel
theorem dX8_letter_91 : decode cX8_letter 91 = .ok (.bipush 110, 2) := by decide +kernel
theorem dX8_letter_93 : decode cX8_letter 93 = .ok (.goto 25, 3) := by decide +kernel
theorem dX8_letter_96 : decode cX8_letter 96 = .ok (.iload_n 1, 1) := by decide +kernel
theorem dX8_letter_97 : decode cX8_letter 97 = .ok (.iconst 3, 1) := by decide +kernel
theorem dX8_letter_98 : decode cX8_letter 98 = .ok (.if_icmp .ne 8, 3) := by decide +kernel
theorem dX8_letter_101 : decode cX8_letter 101 = .ok (.bipush 97, 2) := by decide +kernel
theorem dX8_letter_103 : decode cX8_letter 103 = .ok (.goto 15, 3) := by decide +kernel
theorem dX8_letter_106 : decode cX8_letter 106 = .ok (.iload_n 1, 1) := by decide +kernel
theorem dX8_letter_107 : decode cX8_letter 107 = .ok (.iconst 4, 1) := by decide +kernel
theorem dX8_letter_108 : decode cX8_letter 108 = .ok (.if_icmp .ne 8, 3) := by decide +kernel
theorem dX8_letter_111 : decode cX8_letter 111 = .ok (.bipush 109, 2) := by decide +kernel
theorem dX8_letter_113 : decode cX8_letter 113 = .ok (.goto 5, 3) := by decide +kernel
theorem dX8_letter_116 : decode cX8_letter 116 = .ok (.bipush 32, 2) := by decide +kernel
theorem dX8_letter_118 : decode cX8_letter 118 = .ok (.ireturn, 1) := by decide +kernel
theorem dX8_letter_119 : decode cX8_letter 119 = .ok (.iload_n 1, 1) := by decide +kernel
theorem dX8_letter_120 : decode cX8_letter 120 = .ok (.ifCond .ne 8, 3) := by decide +kernel
theorem dX8_letter_123 : decode cX8_letter 123 = .ok (.bipush 116, 2) := by decide +kernel
theorem dX8_letter_125 : decode cX8_letter 125 = .ok (.goto 35, 3) := by decide +kernel
theorem dX8_letter_128 : decode cX8_letter 128 = .ok (.iload_n 1, 1) := by decide +kernel
theorem dX8_letter_129 : decode cX8_letter 129 = .ok (.iconst 1, 1) := by decide +kernel
theorem dX8_letter_130 : decode cX8_letter 130 = .ok (.if_icmp .ne 8, 3) := by decide +kernel
theorem dX8_letter_133 : decode cX8_letter 133 = .ok (.bipush 117, 2) := by decide +kernel
theorem dX8_letter_135 : decode cX8_letter 135 = .ok (.goto 25, 3) := by decide +kernel
theorem dX8_letter_138 : decode cX8_letter 138 = .ok (.iload_n 1, 1) := by decide +kernel
theorem dX8_letter_139 : decode cX8_letter 139 = .ok (.iconst 2, 1) := by decide +kernel
theorem dX8_letter_140 : decode cX8_letter 140 = .ok (.if_icmp .ne 8, 3) := by decide +kernel
theorem dX8_letter_143 : decode cX8_letter 143 = .ok (.bipush 114, 2) := by decide +kernel
theorem dX8_letter_145 : decode cX8_letter 145 = .ok (.goto 15, 3) := by decide +kernel
theorem dX8_letter_148 : decode cX8_letter 148 = .ok (.iload_n 1, 1) := by decide +kernel
theorem dX8_letter_149 : decode cX8_letter 149 = .ok (.iconst 3, 1) := by decide +kernel
theorem dX8_letter_150 : decode cX8_letter 150 = .ok (.if_icmp .ne 8, 3) := by decide +kernel
theorem dX8_letter_153 : decode cX8_letter 153 = .ok (.bipush 110, 2) := by decide +kernel
theorem dX8_letter_155 : decode cX8_letter 155 = .ok (.goto 5, 3) := by decide +kernel
theorem dX8_letter_158 : decode cX8_letter 158 = .ok (.bipush 32, 2) := by decide +kernel
theorem dX8_letter_160 : decode cX8_letter 160 = .ok (.ireturn, 1) := by decide +kernel
theorem dX8_letter_161 : decode cX8_letter 161 = .ok (.iload_n 1, 1) := by decide +kernel
theorem dX8_letter_162 : decode cX8_letter 162 = .ok (.ifCond .ne 8, 3) := by decide +kernel
theorem dX8_letter_165 : decode cX8_letter 165 = .ok (.bipush 115, 2) := by decide +kernel
theorem dX8_letter_167 : decode cX8_letter 167 = .ok (.goto 45, 3) := by decide +kernel
theorem dX8_letter_170 : decode cX8_letter 170 = .ok (.iload_n 1, 1) := by decide +kernel
theorem dX8_letter_171 : decode cX8_letter 171 = .ok (.iconst 1, 1) := by decide +kernel
theorem dX8_letter_172 : decode cX8_letter 172 = .ok (.if_icmp .ne 8, 3) := by decide +kernel
theorem dX8_letter_175 : decode cX8_letter 175 = .ok (.bipush 112, 2) := by decide +kernel
theorem dX8_letter_177 : decode cX8_letter 177 = .ok (.goto 35, 3) := by decide +kernel
theorem dX8_letter_180 : decode cX8_letter 180 = .ok (.iload_n 1, 1) := by decide +kernel
theorem dX8_letter_181 : decode cX8_letter 181 = .ok (.iconst 2, 1) := by decide +kernel
theorem dX8_letter_182 : decode cX8_letter 182 = .ok (.if_icmp .ne 8, 3) := by decide +kernel
theorem dX8_letter_185 : decode cX8_letter 185 = .ok (.bipush 108, 2) := by decide +kernel
theorem dX8_letter_187 : decode cX8_letter 187 = .ok (.goto 25, 3) := by decide +kernel
theorem dX8_letter_190 : decode cX8_letter 190 = .ok (.iload_n 1, 1) := by decide +kernel
theorem dX8_letter_191 : decode cX8_letter 191 = .ok (.iconst 3, 1) := by decide +kernel
theorem dX8_letter_192 : decode cX8_letter 192 = .ok (.if_icmp .ne 8, 3) := by decide +kernel
theorem dX8_letter_195 : decode cX8_letter 195 = .ok (.bipush 105, 2) := by decide +kernel
theorem dX8_letter_197 : decode cX8_letter 197 = .ok (.goto 15, 3) := by decide +kernel
theorem dX8_letter_200 : decode cX8_letter 200 = .ok (.iload_n 1, 1) := by decide +kernel
theorem dX8_letter_201 : decode cX8_letter 201 = .ok (.iconst 4, 1) := by decide +kernel
theorem dX8_letter_202 : decode cX8_letter 202 = .ok (.if_icmp .ne 8, 3) := by decide +kernel
theorem dX8_letter_205 : decode cX8_letter 205 = .ok (.bipush 116, 2) := by decide +kernel
theorem dX8_letter_207 : decode cX8_letter 207 = .ok (.goto 5, 3) := by decide +kernel
theorem dX8_letter_210 : decode cX8_letter 210 = .ok (.bipush 32, 2) := by decide +kernel
theorem dX8_letter_212 : decode cX8_letter 212 = .ok (.ireturn, 1) := by decide +kernel
theorem dX8_letter_213 : decode cX8_letter 213 = .ok (.iload_n 1, 1) := by decide +kernel
theorem dX8_letter_214 : decode cX8_letter 214 = .ok (.ifCond .ne 8, 3) := by decide +kernel
theorem dX8_letter_217 : decode cX8_letter 217 = .ok (.bipush 106, 2) := by decide +kernel
theorem dX8_letter_219 : decode cX8_letter 219 = .ok (.goto 35, 3) := by decide +kernel
theorem dX8_letter_222 : decode cX8_letter 222 = .ok (.iload_n 1, 1) := by decide +kernel
theorem dX8_letter_223 : decode cX8_letter 223 = .ok (.iconst 1, 1) := by decide +kernel
theorem dX8_letter_224 : decode cX8_letter 224 = .ok (.if_icmp .ne 8, 3) := by decide +kernel
theorem dX8_letter_227 : decode cX8_letter 227 = .ok (.bipush 111, 2) := by decide +kernel
theorem dX8_letter_229 : decode cX8_letter 229 = .ok (.goto 25, 3) := by decide +kernel
theorem dX8_letter_232 : decode cX8_letter 232 = .ok (.iload_n 1, 1) := by decide +kernel
theorem dX8_letter_233 : decode cX8_letter 233 = .ok (.iconst 2, 1) := by decide +kernel
theorem dX8_letter_234 : decode cX8_letter 234 = .ok (.if_icmp .ne 8, 3) := by decide +kernel
theorem dX8_letter_237 : decode cX8_letter 237 = .ok (.bipush 105, 2) := by decide +kernel
theorem dX8_letter_239 : decode cX8_letter 239 = .ok (.goto 15, 3) := by decide +kernel
theorem dX8_letter_242 : decode cX8_letter 242 = .ok (.iload_n 1, 1) := by decide +kernel
theorem dX8_letter_243 : decode cX8_letter 243 = .ok (.iconst 3, 1) := by decide +kernel
theorem dX8_letter_244 : decode cX8_letter 244 = .ok (.if_icmp .ne 8, 3) := by decide +kernel
theorem dX8_letter_247 : decode cX8_letter 247 = .ok (.bipush 110, 2) := by decide +kernel
theorem dX8_letter_249 : decode cX8_letter 249 = .ok (.goto 5, 3) := by decide +kernel
theorem dX8_letter_252 : decode cX8_letter 252 = .ok (.bipush 32, 2) := by decide +kernel
theorem dX8_letter_254 : decode cX8_letter 254 = .ok (.ireturn, 1) := by decide +kernel
theorem dX8_letter_255 : decode cX8_letter 255 = .ok (.iload_n 1, 1) := by decide +kernel
theorem dX8_letter_256 : decode cX8_letter 256 = .ok (.ifCond .ne 8, 3) := by decide +kernel
theorem dX8_letter_259 : decode cX8_letter 259 = .ok (.bipush 100, 2) := by decide +kernel
theorem dX8_letter_261 : decode cX8_letter 261 = .ok (.goto 35, 3) := by decide +kernel
theorem dX8_letter_264 : decode cX8_letter 264 = .ok (.iload_n 1, 1) := by decide +kernel
theorem dX8_letter_265 : decode cX8_letter 265 = .ok (.iconst 1, 1) := by decide +kernel
theorem dX8_letter_266 : decode cX8_letter 266 = .ok (.if_icmp .ne 8, 3) := by decide +kernel
theorem dX8_letter_269 : decode cX8_letter 269 = .ok (.bipush 114, 2) := by decide +kernel
theorem dX8_letter_271 : decode cX8_letter 271 = .ok (.goto 25, 3) := by decide +kernel
theorem dX8_letter_274 : decode cX8_letter 274 = .ok (.iload_n 1, 1) := by decide +kernel
theorem dX8_letter_275 : decode cX8_letter 275 = .ok (.iconst 2, 1) := by decide +kernel
theorem dX8_letter_276 : decode cX8_letter 276 = .ok (.if_icmp .ne 8, 3) := by decide +kernel
theorem dX8_letter_279 : decode cX8_letter 279 = .ok (.bipush 111, 2) := by decide +kernel
theorem dX8_letter_281 : decode cX8_letter 281 = .ok (.goto 15, 3) := by decide +kernel
theorem dX8_letter_284 : decode cX8_letter 284 = .ok (.iload_n 1, 1) := by decide +kernel
theorem dX8_letter_285 : decode cX8_letter 285 = .ok (.iconst 3, 1) := by decide +kernel
theorem dX8_letter_286 : decode cX8_letter 286 = .ok (.if_icmp .ne 8, 3) := by decide +kernel
theorem dX8_letter_289 : decode cX8_letter 289 = .ok (.bipush 112, 2) := by decide +kernel
theorem dX8_letter_291 : decode cX8_letter 291 = .ok (.goto 5, 3) := by decide +kernel
theorem dX8_letter_294 : decode cX8_letter 294 = .ok (.bipush 32, 2) := by decide +kernel
theorem dX8_letter_296 : decode cX8_letter 296 = .ok (.ireturn, 1) := by decide +kernel
theorem dX8_letter_297 : decode cX8_letter 297 = .ok (.iload_n 1, 1) := by decide +kernel
theorem dX8_letter_298 : decode cX8_letter 298 = .ok (.ifCond .ne 8, 3) := by decide +kernel
theorem dX8_letter_301 : decode cX8_letter 301 = .ok (.bipush 110, 2) := by decide +kernel
theorem dX8_letter_303 : decode cX8_letter 303 = .ok (.goto 30, 3) := by decide +kernel
theorem dX8_letter_306 : decode cX8_letter 306 = .ok (.iload_n 1, 1) := by decide +kernel
theorem dX8_letter_307 : decode cX8_letter 307 = .ok (.iconst 1, 1) := by decide +kernel
theorem dX8_letter_308 : decode cX8_letter 308 = .ok (.if_icmp .eq 8, 3) := by decide +kernel
theorem dX8_letter_311 : decode cX8_letter 311 = .ok (.iload_n 1, 1) := by decide +kernel
theorem dX8_letter_312 : decode cX8_letter 312 = .ok (.iconst 2, 1) := by decide +kernel
theorem dX8_letter_313 : decode cX8_letter 313 = .ok (.if_icmp .ne 8, 3) := by decide +kernel
theorem dX8_letter_316 : decode cX8_letter 316 = .ok (.bipush 101, 2) := by decide +kernel
theorem dX8_letter_318 : decode cX8_letter 318 = .ok (.goto 15, 3) := by decide +kernel
theorem dX8_letter_321 : decode cX8_letter 321 = .ok (.iload_n 1, 1) := by decide +kernel
theorem dX8_letter_322 : decode cX8_letter 322 = .ok (.iconst 3, 1) := by decide +kernel
theorem dX8_letter_323 : decode cX8_letter 323 = .ok (.if_icmp .ne 8, 3) := by decide +kernel
theorem dX8_letter_326 : decode cX8_letter 326 = .ok (.bipush 100, 2) := by decide +kernel
theorem dX8_letter_328 : decode cX8_letter 328 = .ok (.goto 5, 3) := by decide +kernel
theorem dX8_letter_331 : decode cX8_letter 331 = .ok (.bipush 32, 2) := by decide +kernel
theorem dX8_letter_333 : decode cX8_letter 333 = .ok (.ireturn, 1) := by decide +kernel
theorem dX8_length_0 : decode cX8_length 0 = .ok (.iload_n 0, 1) := by decide +kernel
theorem dX8_length_1 : decode cX8_length 1 = .ok (.ifCond .ne 7, 3) := by decide +kernel
theorem dX8_length_4 : decode cX8_length 4 = .ok (.iconst 3, 1) := by decide +kernel
theorem dX8_length_5 : decode cX8_length 5 = .ok (.goto 23, 3) := by decide +kernel
theorem dX8_length_8 : decode cX8_length 8 = .ok (.iload_n 0, 1) := by decide +kernel
theorem dX8_length_9 : decode cX8_length 9 = .ok (.iconst 1, 1) := by decide +kernel
theorem dX8_length_10 : decode cX8_length 10 = .ok (.if_icmp .ne 8, 3) := by decide +kernel
theorem dX8_length_13 : decode cX8_length 13 = .ok (.bipush 6, 2) := by decide +kernel
theorem dX8_length_15 : decode cX8_length 15 = .ok (.goto 13, 3) := by decide +kernel
theorem dX8_length_18 : decode cX8_length 18 = .ok (.iload_n 0, 1) := by decide +kernel
theorem dX8_length_19 : decode cX8_length 19 = .ok (.iconst 3, 1) := by decide +kernel
theorem dX8_length_20 : decode cX8_length 20 = .ok (.if_icmp .ne 7, 3) := by decide +kernel
theorem dX8_length_23 : decode cX8_length 23 = .ok (.iconst 5, 1) := by decide +kernel
theorem dX8_length_24 : decode cX8_length 24 = .ok (.goto 4, 3) := by decide +kernel
theorem dX8_length_27 : decode cX8_length 27 = .ok (.iconst 4, 1) := by decide +kernel
theorem dX8_length_28 : decode cX8_length 28 = .ok (.ireturn, 1) := by decide +kernel
theorem dX8_sign_0 : decode cX8_sign 0 = .ok (.bipush 24, 2) := by decide +kernel
theorem dX8_sign_2 : decode cX8_sign 2 = .ok (.iload_n 1, 1) := by decide +kernel
theorem dX8_sign_3 : decode cX8_sign 3 = .ok (.imul, 1) := by decide +kernel
theorem dX8_sign_4 : decode cX8_sign 4 = .ok (.iload_n 2, 1) := by decide +kernel
theorem dX8_sign_5 : decode cX8_sign 5 = .ok (.iadd, 1) := by decide +kernel
theorem dX8_sign_6 : decode cX8_sign 6 = .ok (.istore 4, 2) := by decide +kernel
theorem dX8_sign_8 : decode cX8_sign 8 = .ok (.iload_n 3, 1) := by decide +kernel
theorem dX8_sign_9 : decode cX8_sign 9 = .ok (.aload_n 0, 1) := by decide +kernel
theorem dX8_sign_10 : decode cX8_sign 10 = .ok (.getfield 29, 3) := by decide +kernel
theorem dX8_sign_13 : decode cX8_sign 13 = .ok (.iload 4, 2) := by decide +kernel
theorem dX8_sign_15 : decode cX8_sign 15 = .ok (.iaload, 1) := by decide +kernel
theorem dX8_sign_16 : decode cX8_sign 16 = .ok (.invokestatic 222, 3) := by decide +kernel
theorem dX8_sign_19 : decode cX8_sign 19 = .ok (.isub, 1) := by decide +kernel
theorem dX8_sign_20 : decode cX8_sign 20 = .ok (.istore 5, 2) := by decide +kernel
theorem dX8_sign_22 : decode cX8_sign 22 = .ok (.iload_n 3, 1) := by decide +kernel
theorem dX8_sign_23 : decode cX8_sign 23 = .ok (.ifCond .lt 8, 3) := by decide +kernel
theorem dX8_sign_26 : decode cX8_sign 26 = .ok (.iload 5, 2) := by decide +kernel
theorem dX8_sign_28 : decode cX8_sign 28 = .ok (.ifCond .ge 23, 3) := by decide +kernel
theorem dX8_sign_31 : decode cX8_sign 31 = .ok (.iload_n 3, 1) := by decide +kernel
theorem dX8_sign_32 : decode cX8_sign 32 = .ok (.ifCond .ge 7, 3) := by decide +kernel
theorem dX8_sign_35 : decode cX8_sign 35 = .ok (.iconst 0, 1) := by decide +kernel
theorem dX8_sign_36 : decode cX8_sign 36 = .ok (.goto 14, 3) := by decide +kernel
theorem dX8_sign_39 : decode cX8_sign 39 = .ok (.aload_n 0, 1) := by decide +kernel
theorem dX8_sign_40 : decode cX8_sign 40 = .ok (.getfield 29, 3) := by decide +kernel
theorem dX8_sign_43 : decode cX8_sign 43 = .ok (.iload 4, 2) := by decide +kernel
theorem dX8_sign_45 : decode cX8_sign 45 = .ok (.iaload, 1) := by decide +kernel
theorem dX8_sign_46 : decode cX8_sign 46 = .ok (.iload_n 3, 1) := by decide +kernel
theorem dX8_sign_47 : decode cX8_sign 47 = .ok (.invokestatic 225, 3) := by decide +kernel
theorem dX8_sign_50 : decode cX8_sign 50 = .ok (.ireturn, 1) := by decide +kernel
theorem dX8_sign_51 : decode cX8_sign 51 = .ok (.aload_n 0, 1) := by decide +kernel
theorem dX8_sign_52 : decode cX8_sign 52 = .ok (.getfield 32, 3) := by decide +kernel
theorem dX8_sign_55 : decode cX8_sign 55 = .ok (.iconst 2, 1) := by decide +kernel
theorem dX8_sign_56 : decode cX8_sign 56 = .ok (.iload 4, 2) := by decide +kernel
theorem dX8_sign_58 : decode cX8_sign 58 = .ok (.imul, 1) := by decide +kernel
theorem dX8_sign_59 : decode cX8_sign 59 = .ok (.iaload, 1) := by decide +kernel
theorem dX8_sign_60 : decode cX8_sign 60 = .ok (.iconst (-1), 1) := by decide +kernel
theorem dX8_sign_61 : decode cX8_sign 61 = .ok (.if_icmp .ne 7, 3) := by decide +kernel
theorem dX8_sign_64 : decode cX8_sign 64 = .ok (.iconst 0, 1) := by decide +kernel
theorem dX8_sign_65 : decode cX8_sign 65 = .ok (.goto 4, 3) := by decide +kernel
theorem dX8_sign_68 : decode cX8_sign 68 = .ok (.iconst 1, 1) := by decide +kernel
theorem dX8_sign_69 : decode cX8_sign 69 = .ok (.aload_n 0, 1) := by decide +kernel
theorem dX8_sign_70 : decode cX8_sign 70 = .ok (.getfield 32, 3) := by decide +kernel
theorem dX8_sign_73 : decode cX8_sign 73 = .ok (.iconst 2, 1) := by decide +kernel
theorem dX8_sign_74 : decode cX8_sign 74 = .ok (.iload 4, 2) := by decide +kernel
theorem dX8_sign_76 : decode cX8_sign 76 = .ok (.imul, 1) := by decide +kernel
theorem dX8_sign_77 : decode cX8_sign 77 = .ok (.iconst 1, 1) := by decide +kernel
theorem dX8_sign_78 : decode cX8_sign 78 = .ok (.iadd, 1) := by decide +kernel
theorem dX8_sign_79 : decode cX8_sign 79 = .ok (.iaload, 1) := by decide +kernel
theorem dX8_sign_80 : decode cX8_sign 80 = .ok (.iconst (-1), 1) := by decide +kernel
theorem dX8_sign_81 : decode cX8_sign 81 = .ok (.if_icmp .ne 7, 3) := by decide +kernel
theorem dX8_sign_84 : decode cX8_sign 84 = .ok (.iconst 0, 1) := by decide +kernel
theorem dX8_sign_85 : decode cX8_sign 85 = .ok (.goto 4, 3) := by decide +kernel
theorem dX8_sign_88 : decode cX8_sign 88 = .ok (.iconst 1, 1) := by decide +kernel
theorem dX8_sign_89 : decode cX8_sign 89 = .ok (.iadd, 1) := by decide +kernel
theorem dX8_sign_90 : decode cX8_sign 90 = .ok (.istore 6, 2) := by decide +kernel
theorem dX8_sign_92 : decode cX8_sign 92 = .ok (.aload_n 0, 1) := by decide +kernel
theorem dX8_sign_93 : decode cX8_sign 93 = .ok (.getfield 35, 3) := by decide +kernel
theorem dX8_sign_96 : decode cX8_sign 96 = .ok (.iconst 2, 1) := by decide +kernel
theorem dX8_sign_97 : decode cX8_sign 97 = .ok (.iload 4, 2) := by decide +kernel
theorem dX8_sign_99 : decode cX8_sign 99 = .ok (.imul, 1) := by decide +kernel
theorem dX8_sign_100 : decode cX8_sign 100 = .ok (.iaload, 1) := by decide +kernel
theorem dX8_sign_101 : decode cX8_sign 101 = .ok (.iconst (-1), 1) := by decide +kernel
theorem dX8_sign_102 : decode cX8_sign 102 = .ok (.if_icmp .ne 7, 3) := by decide +kernel
theorem dX8_sign_105 : decode cX8_sign 105 = .ok (.iconst 0, 1) := by decide +kernel
theorem dX8_sign_106 : decode cX8_sign 106 = .ok (.goto 4, 3) := by decide +kernel
theorem dX8_sign_109 : decode cX8_sign 109 = .ok (.iconst 1, 1) := by decide +kernel
theorem dX8_sign_110 : decode cX8_sign 110 = .ok (.aload_n 0, 1) := by decide +kernel
theorem dX8_sign_111 : decode cX8_sign 111 = .ok (.getfield 35, 3) := by decide +kernel
theorem dX8_sign_114 : decode cX8_sign 114 = .ok (.iconst 2, 1) := by decide +kernel
theorem dX8_sign_115 : decode cX8_sign 115 = .ok (.iload 4, 2) := by decide +kernel
theorem dX8_sign_117 : decode cX8_sign 117 = .ok (.imul, 1) := by decide +kernel
theorem dX8_sign_118 : decode cX8_sign 118 = .ok (.iconst 1, 1) := by decide +kernel
theorem dX8_sign_119 : decode cX8_sign 119 = .ok (.iadd, 1) := by decide +kernel
theorem dX8_sign_120 : decode cX8_sign 120 = .ok (.iaload, 1) := by decide +kernel
theorem dX8_sign_121 : decode cX8_sign 121 = .ok (.iconst (-1), 1) := by decide +kernel
theorem dX8_sign_122 : decode cX8_sign 122 = .ok (.if_icmp .ne 7, 3) := by decide +kernel
theorem dX8_sign_125 : decode cX8_sign 125 = .ok (.iconst 0, 1) := by decide +kernel
theorem dX8_sign_126 : decode cX8_sign 126 = .ok (.goto 4, 3) := by decide +kernel
theorem dX8_sign_129 : decode cX8_sign 129 = .ok (.iconst 1, 1) := by decide +kernel
theorem dX8_sign_130 : decode cX8_sign 130 = .ok (.iadd, 1) := by decide +kernel
theorem dX8_sign_131 : decode cX8_sign 131 = .ok (.istore 7, 2) := by decide +kernel
theorem dX8_sign_133 : decode cX8_sign 133 = .ok (.iload 5, 2) := by decide +kernel
theorem dX8_sign_135 : decode cX8_sign 135 = .ok (.iconst 2, 1) := by decide +kernel
theorem dX8_sign_136 : decode cX8_sign 136 = .ok (.iload 6, 2) := by decide +kernel
theorem dX8_sign_138 : decode cX8_sign 138 = .ok (.imul, 1) := by decide +kernel
theorem dX8_sign_139 : decode cX8_sign 139 = .ok (.if_icmp .ge 45, 3) := by decide +kernel
theorem dX8_sign_142 : decode cX8_sign 142 = .ok (.iload 5, 2) := by decide +kernel
theorem dX8_sign_144 : decode cX8_sign 144 = .ok (.iconst 2, 1) := by decide +kernel
theorem dX8_sign_145 : decode cX8_sign 145 = .ok (.irem, 1) := by decide +kernel
theorem dX8_sign_146 : decode cX8_sign 146 = .ok (.ifCond .ne 8, 3) := by decide +kernel
theorem dX8_sign_149 : decode cX8_sign 149 = .ok (.bipush 32, 2) := by decide +kernel
theorem dX8_sign_151 : decode cX8_sign 151 = .ok (.goto 32, 3) := by decide +kernel
theorem dX8_sign_154 : decode cX8_sign 154 = .ok (.bipush 97, 2) := by decide +kernel
theorem dX8_sign_156 : decode cX8_sign 156 = .ok (.aload_n 0, 1) := by decide +kernel
theorem dX8_sign_157 : decode cX8_sign 157 = .ok (.getfield 22, 3) := by decide +kernel
theorem dX8_sign_160 : decode cX8_sign 160 = .ok (.iload_n 1, 1) := by decide +kernel
theorem dX8_sign_161 : decode cX8_sign 161 = .ok (.iload_n 2, 1) := by decide +kernel
theorem dX8_sign_162 : decode cX8_sign 162 = .ok (.iconst 1, 1) := by decide +kernel
theorem dX8_sign_163 : decode cX8_sign 163 = .ok (.isub, 1) := by decide +kernel
theorem dX8_sign_164 : decode cX8_sign 164 = .ok (.aload_n 0, 1) := by decide +kernel
theorem dX8_sign_165 : decode cX8_sign 165 = .ok (.getfield 32, 3) := by decide +kernel
theorem dX8_sign_168 : decode cX8_sign 168 = .ok (.iconst 2, 1) := by decide +kernel
theorem dX8_sign_169 : decode cX8_sign 169 = .ok (.iload 4, 2) := by decide +kernel
theorem dX8_sign_171 : decode cX8_sign 171 = .ok (.imul, 1) := by decide +kernel
theorem dX8_sign_172 : decode cX8_sign 172 = .ok (.iload 5, 2) := by decide +kernel
theorem dX8_sign_174 : decode cX8_sign 174 = .ok (.iconst 2, 1) := by decide +kernel
theorem dX8_sign_175 : decode cX8_sign 175 = .ok (.idiv, 1) := by decide +kernel
theorem dX8_sign_176 : decode cX8_sign 176 = .ok (.iadd, 1) := by decide +kernel
theorem dX8_sign_177 : decode cX8_sign 177 = .ok (.iaload, 1) := by decide +kernel
theorem dX8_sign_178 : decode cX8_sign 178 = .ok (.invokestatic 152, 3) := by decide +kernel
theorem dX8_sign_181 : decode cX8_sign 181 = .ok (.iaload, 1) := by decide +kernel
theorem dX8_sign_182 : decode cX8_sign 182 = .ok (.iadd, 1) := by decide +kernel
theorem dX8_sign_183 : decode cX8_sign 183 = .ok (.ireturn, 1) := by decide +kernel
theorem dX8_sign_184 : decode cX8_sign 184 = .ok (.iload 5, 2) := by decide +kernel
theorem dX8_sign_186 : decode cX8_sign 186 = .ok (.iconst 2, 1) := by decide +kernel
theorem dX8_sign_187 : decode cX8_sign 187 = .ok (.iload 6, 2) := by decide +kernel
theorem dX8_sign_189 : decode cX8_sign 189 = .ok (.imul, 1) := by decide +kernel
theorem dX8_sign_190 : decode cX8_sign 190 = .ok (.iconst 1, 1) := by decide +kernel
theorem dX8_sign_191 : decode cX8_sign 191 = .ok (.iadd, 1) := by decide +kernel
theorem dX8_sign_192 : decode cX8_sign 192 = .ok (.isub, 1) := by decide +kernel
theorem dX8_sign_193 : decode cX8_sign 193 = .ok (.istore 5, 2) := by decide +kernel
theorem dX8_sign_195 : decode cX8_sign 195 = .ok (.iload 5, 2) := by decide +kernel
theorem dX8_sign_197 : decode cX8_sign 197 = .ok (.ifCond .ge 6, 3) := by decide +kernel
theorem dX8_sign_200 : decode cX8_sign 200 = .ok (.bipush 62, 2) := by decide +kernel
theorem dX8_sign_202 : decode cX8_sign 202 = .ok (.ireturn, 1) := by decide +kernel
theorem dX8_sign_203 : decode cX8_sign 203 = .ok (.iload 5, 2) := by decide +kernel
theorem dX8_sign_205 : decode cX8_sign 205 = .ok (.iconst 2, 1) := by decide +kernel
theorem dX8_sign_206 : decode cX8_sign 206 = .ok (.iload 7, 2) := by decide +kernel
theorem dX8_sign_208 : decode cX8_sign 208 = .ok (.imul, 1) := by decide +kernel
theorem dX8_sign_209 : decode cX8_sign 209 = .ok (.if_icmp .ge 43, 3) := by decide +kernel
theorem dX8_sign_212 : decode cX8_sign 212 = .ok (.iload 5, 2) := by decide +kernel
theorem dX8_sign_214 : decode cX8_sign 214 = .ok (.iconst 2, 1) := by decide +kernel
theorem dX8_sign_215 : decode cX8_sign 215 = .ok (.irem, 1) := by decide +kernel
theorem dX8_sign_216 : decode cX8_sign 216 = .ok (.ifCond .ne 8, 3) := by decide +kernel
theorem dX8_sign_219 : decode cX8_sign 219 = .ok (.bipush 32, 2) := by decide +kernel
theorem dX8_sign_221 : decode cX8_sign 221 = .ok (.goto 30, 3) := by decide +kernel
theorem dX8_sign_224 : decode cX8_sign 224 = .ok (.bipush 97, 2) := by decide +kernel
theorem dX8_sign_226 : decode cX8_sign 226 = .ok (.aload_n 0, 1) := by decide +kernel
theorem dX8_sign_227 : decode cX8_sign 227 = .ok (.getfield 22, 3) := by decide +kernel
theorem dX8_sign_230 : decode cX8_sign 230 = .ok (.iload_n 1, 1) := by decide +kernel
theorem dX8_sign_231 : decode cX8_sign 231 = .ok (.iload_n 2, 1) := by decide +kernel
theorem dX8_sign_232 : decode cX8_sign 232 = .ok (.aload_n 0, 1) := by decide +kernel
theorem dX8_sign_233 : decode cX8_sign 233 = .ok (.getfield 35, 3) := by decide +kernel
theorem dX8_sign_236 : decode cX8_sign 236 = .ok (.iconst 2, 1) := by decide +kernel
theorem dX8_sign_237 : decode cX8_sign 237 = .ok (.iload 4, 2) := by decide +kernel
theorem dX8_sign_239 : decode cX8_sign 239 = .ok (.imul, 1) := by decide +kernel
theorem dX8_sign_240 : decode cX8_sign 240 = .ok (.iload 5, 2) := by decide +kernel
theorem dX8_sign_242 : decode cX8_sign 242 = .ok (.iconst 2, 1) := by decide +kernel
theorem dX8_sign_243 : decode cX8_sign 243 = .ok (.idiv, 1) := by decide +kernel
theorem dX8_sign_244 : decode cX8_sign 244 = .ok (.iadd, 1) := by decide +kernel
theorem dX8_sign_245 : decode cX8_sign 245 = .ok (.iaload, 1) := by decide +kernel
theorem dX8_sign_246 : decode cX8_sign 246 = .ok (.invokestatic 152, 3) := by decide +kernel
theorem dX8_sign_249 : decode cX8_sign 249 = .ok (.iaload, 1) := by decide +kernel
theorem dX8_sign_250 : decode cX8_sign 250 = .ok (.iadd, 1) := by decide +kernel
theorem dX8_sign_251 : decode cX8_sign 251 = .ok (.ireturn, 1) := by decide +kernel
theorem dX8_sign_252 : decode cX8_sign 252 = .ok (.iconst 0, 1) := by decide +kernel
theorem dX8_sign_253 : decode cX8_sign 253 = .ok (.ireturn, 1) := by decide +kernel
theorem dX8_text_0 : decode cX8_text 0 = .ok (.aload_n 0, 1) := by decide +kernel
theorem dX8_text_1 : decode cX8_text 1 = .ok (.iload_n 1, 1) := by decide +kernel
theorem dX8_text_2 : decode cX8_text 2 = .ok (.iload_n 2, 1) := by decide +kernel
theorem dX8_text_3 : decode cX8_text 3 = .ok (.invokevirtual 219, 3) := by decide +kernel
theorem dX8_text_6 : decode cX8_text 6 = .ok (.ifCond .eq 21, 3) := by decide +kernel
theorem dX8_text_9 : decode cX8_text 9 = .ok (.iload_n 2, 1) := by decide +kernel
theorem dX8_text_10 : decode cX8_text 10 = .ok (.ifCond .le 17, 3) := by decide +kernel
theorem dX8_text_13 : decode cX8_text 13 = .ok (.aload_n 0, 1) := by decide +kernel
theorem dX8_text_14 : decode cX8_text 14 = .ok (.iload_n 1, 1) := by decide +kernel
theorem dX8_text_15 : decode cX8_text 15 = .ok (.iload_n 2, 1) := by decide +kernel
theorem dX8_text_16 : decode cX8_text 16 = .ok (.iload_n 3, 1) := by decide +kernel
theorem dX8_text_17 : decode cX8_text 17 = .ok (.invokevirtual 229, 3) := by decide +kernel
theorem dX8_text_20 : decode cX8_text 20 = .ok (.ifCond .eq 7, 3) := by decide +kernel
theorem dX8_text_23 : decode cX8_text 23 = .ok (.iconst 1, 1) := by decide +kernel
theorem dX8_text_24 : decode cX8_text 24 = .ok (.goto 4, 3) := by decide +kernel
theorem dX8_text_27 : decode cX8_text 27 = .ok (.iconst 0, 1) := by decide +kernel
theorem dX8_text_28 : decode cX8_text 28 = .ok (.istore 4, 2) := by decide +kernel
theorem dX8_text_30 : decode cX8_text 30 = .ok (.aload_n 0, 1) := by decide +kernel
theorem dX8_text_31 : decode cX8_text 31 = .ok (.iload 4, 2) := by decide +kernel
theorem dX8_text_33 : decode cX8_text 33 = .ok (.ifCond .eq 7, 3) := by decide +kernel
theorem dX8_text_36 : decode cX8_text 36 = .ok (.iconst 0, 1) := by decide +kernel
theorem dX8_text_37 : decode cX8_text 37 = .ok (.goto 4, 3) := by decide +kernel
theorem dX8_text_40 : decode cX8_text 40 = .ok (.iconst 1, 1) := by decide +kernel
theorem dX8_text_41 : decode cX8_text 41 = .ok (.invokevirtual 162, 3) := by decide +kernel
theorem dX8_text_44 : decode cX8_text 44 = .ok (.ifCond .eq 8, 3) := by decide +kernel
theorem dX8_text_47 : decode cX8_text 47 = .ok (.bipush 32, 2) := by decide +kernel
theorem dX8_text_49 : decode cX8_text 49 = .ok (.goto 11, 3) := by decide +kernel
theorem dX8_text_52 : decode cX8_text 52 = .ok (.aload_n 0, 1) := by decide +kernel
theorem dX8_text_53 : decode cX8_text 53 = .ok (.iload_n 1, 1) := by decide +kernel
theorem dX8_text_54 : decode cX8_text 54 = .ok (.iload_n 2, 1) := by decide +kernel
theorem dX8_text_55 : decode cX8_text 55 = .ok (.iload_n 3, 1) := by decide +kernel
theorem dX8_text_56 : decode cX8_text 56 = .ok (.invokevirtual 229, 3) := by decide +kernel
theorem dX8_text_59 : decode cX8_text 59 = .ok (.i2c, 1) := by decide +kernel
theorem dX8_text_60 : decode cX8_text 60 = .ok (.ireturn, 1) := by decide +kernel
theorem dX8_form_0 : decode cX8_form 0 = .ok (.aload_n 0, 1) := by decide +kernel
theorem dX8_form_1 : decode cX8_form 1 = .ok (.iload_n 1, 1) := by decide +kernel
theorem dX8_form_2 : decode cX8_form 2 = .ok (.invokevirtual 156, 3) := by decide +kernel
theorem dX8_form_5 : decode cX8_form 5 = .ok (.istore_n 2, 1) := by decide +kernel
theorem dX8_form_6 : decode cX8_form 6 = .ok (.aload_n 0, 1) := by decide +kernel
theorem dX8_form_7 : decode cX8_form 7 = .ok (.iload_n 2, 1) := by decide +kernel
theorem dX8_form_8 : decode cX8_form 8 = .ok (.ifCond .ne 7, 3) := by decide +kernel
theorem dX8_form_11 : decode cX8_form 11 = .ok (.iconst 1, 1) := by decide +kernel
theorem dX8_form_12 : decode cX8_form 12 = .ok (.goto 17, 3) := by decide +kernel
theorem dX8_form_15 : decode cX8_form 15 = .ok (.aload_n 0, 1) := by decide +kernel
theorem dX8_form_16 : decode cX8_form 16 = .ok (.getfield 206, 3) := by decide +kernel
theorem dX8_form_19 : decode cX8_form 19 = .ok (.bipush 8, 2) := by decide +kernel
theorem dX8_form_21 : decode cX8_form 21 = .ok (.if_icmp .ne 7, 3) := by decide +kernel
theorem dX8_form_24 : decode cX8_form 24 = .ok (.iconst 2, 1) := by decide +kernel
theorem dX8_form_25 : decode cX8_form 25 = .ok (.goto 4, 3) := by decide +kernel
theorem dX8_form_28 : decode cX8_form 28 = .ok (.iconst 0, 1) := by decide +kernel
theorem dX8_form_29 : decode cX8_form 29 = .ok (.invokevirtual 162, 3) := by decide +kernel
theorem dX8_form_32 : decode cX8_form 32 = .ok (.ifCond .eq 5, 3) := by decide +kernel
theorem dX8_form_35 : decode cX8_form 35 = .ok (.iconst 0, 1) := by decide +kernel
theorem dX8_form_36 : decode cX8_form 36 = .ok (.ireturn, 1) := by decide +kernel
theorem dX8_form_37 : decode cX8_form 37 = .ok (.aload_n 0, 1) := by decide +kernel
theorem dX8_form_38 : decode cX8_form 38 = .ok (.getfield 47, 3) := by decide +kernel
theorem dX8_form_41 : decode cX8_form 41 = .ok (.aload_n 0, 1) := by decide +kernel
theorem dX8_form_42 : decode cX8_form 42 = .ok (.getfield 206, 3) := by decide +kernel
theorem dX8_form_45 : decode cX8_form 45 = .ok (.iload_n 1, 1) := by decide +kernel
theorem dX8_form_46 : decode cX8_form 46 = .ok (.iastore, 1) := by decide +kernel
theorem dX8_form_47 : decode cX8_form 47 = .ok (.aload_n 0, 1) := by decide +kernel
theorem dX8_form_48 : decode cX8_form 48 = .ok (.getfield 50, 3) := by decide +kernel
theorem dX8_form_51 : decode cX8_form 51 = .ok (.aload_n 0, 1) := by decide +kernel
theorem dX8_form_52 : decode cX8_form 52 = .ok (.getfield 206, 3) := by decide +kernel
theorem dX8_form_55 : decode cX8_form 55 = .ok (.aload_n 0, 1) := by decide +kernel
theorem dX8_form_56 : decode cX8_form 56 = .ok (.getfield 7, 3) := by decide +kernel
theorem dX8_form_59 : decode cX8_form 59 = .ok (.iload_n 1, 1) := by decide +kernel
theorem dX8_form_60 : decode cX8_form 60 = .ok (.iaload, 1) := by decide +kernel
theorem dX8_form_61 : decode cX8_form 61 = .ok (.iastore, 1) := by decide +kernel
theorem dX8_form_62 : decode cX8_form 62 = .ok (.aload_n 0, 1) := by decide +kernel
theorem dX8_form_63 : decode cX8_form 63 = .ok (.dup, 1) := by decide +kernel
theorem dX8_form_64 : decode cX8_form 64 = .ok (.getfield 206, 3) := by decide +kernel
theorem dX8_form_67 : decode cX8_form 67 = .ok (.iconst 1, 1) := by decide +kernel
theorem dX8_form_68 : decode cX8_form 68 = .ok (.iadd, 1) := by decide +kernel
theorem dX8_form_69 : decode cX8_form 69 = .ok (.putfield 206, 3) := by decide +kernel
theorem dX8_form_72 : decode cX8_form 72 = .ok (.aload_n 0, 1) := by decide +kernel
theorem dX8_form_73 : decode cX8_form 73 = .ok (.getfield 206, 3) := by decide +kernel
theorem dX8_form_76 : decode cX8_form 76 = .ok (.iconst 1, 1) := by decide +kernel
theorem dX8_form_77 : decode cX8_form 77 = .ok (.isub, 1) := by decide +kernel
theorem dX8_form_78 : decode cX8_form 78 = .ok (.ireturn, 1) := by decide +kernel
theorem dX8_isForm_0 : decode cX8_isForm 0 = .ok (.iload_n 1, 1) := by decide +kernel
theorem dX8_isForm_1 : decode cX8_isForm 1 = .ok (.iconst 0, 1) := by decide +kernel
theorem dX8_isForm_2 : decode cX8_isForm 2 = .ok (.aload_n 0, 1) := by decide +kernel
theorem dX8_isForm_3 : decode cX8_isForm 3 = .ok (.getfield 206, 3) := by decide +kernel
theorem dX8_isForm_6 : decode cX8_isForm 6 = .ok (.iconst 1, 1) := by decide +kernel
theorem dX8_isForm_7 : decode cX8_isForm 7 = .ok (.isub, 1) := by decide +kernel
theorem dX8_isForm_8 : decode cX8_isForm 8 = .ok (.invokestatic 144, 3) := by decide +kernel
theorem dX8_isForm_11 : decode cX8_isForm 11 = .ok (.ireturn, 1) := by decide +kernel
theorem dX8_inForm_0 : decode cX8_inForm 0 = .ok (.aload_n 0, 1) := by decide +kernel
theorem dX8_inForm_1 : decode cX8_inForm 1 = .ok (.iload_n 1, 1) := by decide +kernel
theorem dX8_inForm_2 : decode cX8_inForm 2 = .ok (.invokevirtual 232, 3) := by decide +kernel
theorem dX8_inForm_5 : decode cX8_inForm 5 = .ok (.ifCond .eq 23, 3) := by decide +kernel
theorem dX8_inForm_8 : decode cX8_inForm 8 = .ok (.aload_n 0, 1) := by decide +kernel
theorem dX8_inForm_9 : decode cX8_inForm 9 = .ok (.aload_n 0, 1) := by decide +kernel
theorem dX8_inForm_10 : decode cX8_inForm 10 = .ok (.getfield 47, 3) := by decide +kernel
theorem dX8_inForm_13 : decode cX8_inForm 13 = .ok (.iload_n 1, 1) := by decide +kernel
theorem dX8_inForm_14 : decode cX8_inForm 14 = .ok (.iaload, 1) := by decide +kernel
theorem dX8_inForm_15 : decode cX8_inForm 15 = .ok (.aload_n 0, 1) := by decide +kernel
theorem dX8_inForm_16 : decode cX8_inForm 16 = .ok (.getfield 50, 3) := by decide +kernel
theorem dX8_inForm_19 : decode cX8_inForm 19 = .ok (.iload_n 1, 1) := by decide +kernel
theorem dX8_inForm_20 : decode cX8_inForm 20 = .ok (.iaload, 1) := by decide +kernel
theorem dX8_inForm_21 : decode cX8_inForm 21 = .ok (.iload_n 2, 1) := by decide +kernel
theorem dX8_inForm_22 : decode cX8_inForm 22 = .ok (.invokevirtual 159, 3) := by decide +kernel
theorem dX8_inForm_25 : decode cX8_inForm 25 = .ok (.goto 4, 3) := by decide +kernel
theorem dX8_inForm_28 : decode cX8_inForm 28 = .ok (.iconst (-1), 1) := by decide +kernel
theorem dX8_inForm_29 : decode cX8_inForm 29 = .ok (.ireturn, 1) := by decide +kernel
theorem dX8_held_0 : decode cX8_held 0 = .ok (.iconst 0, 1) := by decide +kernel
theorem dX8_held_1 : decode cX8_held 1 = .ok (.istore_n 2, 1) := by decide +kernel
theorem dX8_held_2 : decode cX8_held 2 = .ok (.iconst 0, 1) := by decide +kernel
theorem dX8_held_3 : decode cX8_held 3 = .ok (.istore_n 3, 1) := by decide +kernel
theorem dX8_held_4 : decode cX8_held 4 = .ok (.iload_n 3, 1) := by decide +kernel
theorem dX8_held_5 : decode cX8_held 5 = .ok (.bipush 48, 2) := by decide +kernel
theorem dX8_held_7 : decode cX8_held 7 = .ok (.if_icmp .ge 31, 3) := by decide +kernel
theorem dX8_held_10 : decode cX8_held 10 = .ok (.iload_n 2, 1) := by decide +kernel
theorem dX8_held_11 : decode cX8_held 11 = .ok (.aload_n 0, 1) := by decide +kernel
theorem dX8_held_12 : decode cX8_held 12 = .ok (.getfield 56, 3) := by decide +kernel
theorem dX8_held_15 : decode cX8_held 15 = .ok (.bipush 48, 2) := by decide +kernel
theorem dX8_held_17 : decode cX8_held 17 = .ok (.iload_n 1, 1) := by decide +kernel
theorem dX8_held_18 : decode cX8_held 18 = .ok (.imul, 1) := by decide +kernel
theorem dX8_held_19 : decode cX8_held 19 = .ok (.iload_n 3, 1) := by decide +kernel
theorem dX8_held_20 : decode cX8_held 20 = .ok (.iadd, 1) := by decide +kernel
theorem dX8_held_21 : decode cX8_held 21 = .ok (.baload, 1) := by decide +kernel
theorem dX8_held_22 : decode cX8_held 22 = .ok (.ifCond .eq 7, 3) := by decide +kernel
theorem dX8_held_25 : decode cX8_held 25 = .ok (.iconst 1, 1) := by decide +kernel
theorem dX8_held_26 : decode cX8_held 26 = .ok (.goto 4, 3) := by decide +kernel
theorem dX8_held_29 : decode cX8_held 29 = .ok (.iconst 0, 1) := by decide +kernel
theorem dX8_held_30 : decode cX8_held 30 = .ok (.iadd, 1) := by decide +kernel
theorem dX8_held_31 : decode cX8_held 31 = .ok (.istore_n 2, 1) := by decide +kernel
theorem dX8_held_32 : decode cX8_held 32 = .ok (.iinc 3 1, 3) := by decide +kernel
theorem dX8_held_35 : decode cX8_held 35 = .ok (.goto (-31), 3) := by decide +kernel
theorem dX8_held_38 : decode cX8_held 38 = .ok (.iload_n 2, 1) := by decide +kernel
theorem dX8_held_39 : decode cX8_held 39 = .ok (.ireturn, 1) := by decide +kernel
theorem dX8_canTake_0 : decode cX8_canTake 0 = .ok (.aload_n 0, 1) := by decide +kernel
theorem dX8_canTake_1 : decode cX8_canTake 1 = .ok (.getfield 47, 3) := by decide +kernel
theorem dX8_canTake_4 : decode cX8_canTake 4 = .ok (.iload_n 1, 1) := by decide +kernel
theorem dX8_canTake_5 : decode cX8_canTake 5 = .ok (.iaload, 1) := by decide +kernel
theorem dX8_canTake_6 : decode cX8_canTake 6 = .ok (.istore_n 3, 1) := by decide +kernel
theorem dX8_canTake_7 : decode cX8_canTake 7 = .ok (.aload_n 0, 1) := by decide +kernel
theorem dX8_canTake_8 : decode cX8_canTake 8 = .ok (.iload_n 3, 1) := by decide +kernel
theorem dX8_canTake_9 : decode cX8_canTake 9 = .ok (.aload_n 0, 1) := by decide +kernel
theorem dX8_canTake_10 : decode cX8_canTake 10 = .ok (.getfield 50, 3) := by decide +kernel
theorem dX8_canTake_13 : decode cX8_canTake 13 = .ok (.iload_n 1, 1) := by decide +kernel
theorem dX8_canTake_14 : decode cX8_canTake 14 = .ok (.iaload, 1) := by decide +kernel
theorem dX8_canTake_15 : decode cX8_canTake 15 = .ok (.iload_n 2, 1) := by decide +kernel
theorem dX8_canTake_16 : decode cX8_canTake 16 = .ok (.invokevirtual 235, 3) := by decide +kernel
theorem dX8_canTake_19 : decode cX8_canTake 19 = .ok (.iconst 0, 1) := by decide +kernel
theorem dX8_canTake_20 : decode cX8_canTake 20 = .ok (.istore 4, 2) := by decide +kernel
theorem dX8_canTake_22 : decode cX8_canTake 22 = .ok (.iconst 0, 1) := by decide +kernel
theorem dX8_canTake_23 : decode cX8_canTake 23 = .ok (.istore 5, 2) := by decide +kernel
theorem dX8_canTake_25 : decode cX8_canTake 25 = .ok (.iconst 0, 1) := by decide +kernel
theorem dX8_canTake_26 : decode cX8_canTake 26 = .ok (.istore 6, 2) := by decide +kernel
theorem dX8_canTake_28 : decode cX8_canTake 28 = .ok (.iload 6, 2) := by decide +kernel
theorem dX8_canTake_30 : decode cX8_canTake 30 = .ok (.aload_n 0, 1) := by decide +kernel
theorem dX8_canTake_31 : decode cX8_canTake 31 = .ok (.getfield 13, 3) := by decide +kernel
theorem dX8_canTake_34 : decode cX8_canTake 34 = .ok (.iload_n 3, 1) := by decide +kernel
theorem dX8_canTake_35 : decode cX8_canTake 35 = .ok (.iaload, 1) := by decide +kernel
theorem dX8_canTake_36 : decode cX8_canTake 36 = .ok (.if_icmp .ge 63, 3) := by decide +kernel
theorem dX8_canTake_39 : decode cX8_canTake 39 = .ok (.iload 4, 2) := by decide +kernel
theorem dX8_canTake_41 : decode cX8_canTake 41 = .ok (.ifCond .ne 13, 3) := by decide +kernel
theorem dX8_canTake_44 : decode cX8_canTake 44 = .ok (.aload_n 0, 1) := by decide +kernel
theorem dX8_canTake_45 : decode cX8_canTake 45 = .ok (.getfield 131, 3) := by decide +kernel
theorem dX8_canTake_48 : decode cX8_canTake 48 = .ok (.iload 6, 2) := by decide +kernel
theorem dX8_canTake_50 : decode cX8_canTake 50 = .ok (.baload, 1) := by decide +kernel
theorem dX8_canTake_51 : decode cX8_canTake 51 = .ok (.ifCond .eq 7, 3) := by decide +kernel
theorem dX8_canTake_54 : decode cX8_canTake 54 = .ok (.iconst 1, 1) := by decide +kernel
theorem dX8_canTake_55 : decode cX8_canTake 55 = .ok (.goto 4, 3) := by decide +kernel
theorem dX8_canTake_58 : decode cX8_canTake 58 = .ok (.iconst 0, 1) := by decide +kernel
theorem dX8_canTake_59 : decode cX8_canTake 59 = .ok (.istore 4, 2) := by decide +kernel
theorem dX8_canTake_61 : decode cX8_canTake 61 = .ok (.iload 5, 2) := by decide +kernel
theorem dX8_canTake_63 : decode cX8_canTake 63 = .ok (.ifCond .ne 23, 3) := by decide +kernel
theorem dX8_canTake_66 : decode cX8_canTake 66 = .ok (.aload_n 0, 1) := by decide +kernel
theorem dX8_canTake_67 : decode cX8_canTake 67 = .ok (.getfield 131, 3) := by decide +kernel
theorem dX8_canTake_70 : decode cX8_canTake 70 = .ok (.iload 6, 2) := by decide +kernel
theorem dX8_canTake_72 : decode cX8_canTake 72 = .ok (.baload, 1) := by decide +kernel
theorem dX8_canTake_73 : decode cX8_canTake 73 = .ok (.ifCond .eq 17, 3) := by decide +kernel
theorem dX8_canTake_76 : decode cX8_canTake 76 = .ok (.aload_n 0, 1) := by decide +kernel
theorem dX8_canTake_77 : decode cX8_canTake 77 = .ok (.iload_n 3, 1) := by decide +kernel
theorem dX8_canTake_78 : decode cX8_canTake 78 = .ok (.iload 6, 2) := by decide +kernel
theorem dX8_canTake_80 : decode cX8_canTake 80 = .ok (.invokevirtual 183, 3) := by decide +kernel
theorem dX8_canTake_83 : decode cX8_canTake 83 = .ok (.ifCond .eq 7, 3) := by decide +kernel
theorem dX8_canTake_86 : decode cX8_canTake 86 = .ok (.iconst 1, 1) := by decide +kernel
theorem dX8_canTake_87 : decode cX8_canTake 87 = .ok (.goto 4, 3) := by decide +kernel
theorem dX8_canTake_90 : decode cX8_canTake 90 = .ok (.iconst 0, 1) := by decide +kernel
theorem dX8_canTake_91 : decode cX8_canTake 91 = .ok (.istore 5, 2) := by decide +kernel
theorem dX8_canTake_93 : decode cX8_canTake 93 = .ok (.iinc 6 1, 3) := by decide +kernel
theorem dX8_canTake_96 : decode cX8_canTake 96 = .ok (.goto (-68), 3) := by decide +kernel
theorem dX8_canTake_99 : decode cX8_canTake 99 = .ok (.iload 4, 2) := by decide +kernel
theorem dX8_canTake_101 : decode cX8_canTake 101 = .ok (.ifCond .eq 12, 3) := by decide +kernel
theorem dX8_canTake_104 : decode cX8_canTake 104 = .ok (.iload 5, 2) := by decide +kernel
theorem dX8_canTake_106 : decode cX8_canTake 106 = .ok (.ifCond .ne 7, 3) := by decide +kernel
theorem dX8_canTake_109 : decode cX8_canTake 109 = .ok (.iconst 1, 1) := by decide +kernel
theorem dX8_canTake_110 : decode cX8_canTake 110 = .ok (.goto 4, 3) := by decide +kernel
theorem dX8_canTake_113 : decode cX8_canTake 113 = .ok (.iconst 0, 1) := by decide +kernel
theorem dX8_canTake_114 : decode cX8_canTake 114 = .ok (.ireturn, 1) := by decide +kernel
theorem dX8_take_0 : decode cX8_take 0 = .ok (.aload_n 0, 1) := by decide +kernel
theorem dX8_take_1 : decode cX8_take 1 = .ok (.iload_n 1, 1) := by decide +kernel
theorem dX8_take_2 : decode cX8_take 2 = .ok (.iload_n 2, 1) := by decide +kernel
theorem dX8_take_3 : decode cX8_take 3 = .ok (.invokevirtual 239, 3) := by decide +kernel
theorem dX8_take_6 : decode cX8_take 6 = .ok (.istore 4, 2) := by decide +kernel
theorem dX8_take_8 : decode cX8_take 8 = .ok (.aload_n 0, 1) := by decide +kernel
theorem dX8_take_9 : decode cX8_take 9 = .ok (.iload 4, 2) := by decide +kernel
theorem dX8_take_11 : decode cX8_take 11 = .ok (.iconst (-1), 1) := by decide +kernel
theorem dX8_take_12 : decode cX8_take 12 = .ok (.if_icmp .ne 7, 3) := by decide +kernel
theorem dX8_take_15 : decode cX8_take 15 = .ok (.iconst 1, 1) := by decide +kernel
theorem dX8_take_16 : decode cX8_take 16 = .ok (.goto 27, 3) := by decide +kernel
theorem dX8_take_19 : decode cX8_take 19 = .ok (.aload_n 0, 1) := by decide +kernel
theorem dX8_take_20 : decode cX8_take 20 = .ok (.getfield 53, 3) := by decide +kernel
theorem dX8_take_23 : decode cX8_take 23 = .ok (.iload_n 1, 1) := by decide +kernel
theorem dX8_take_24 : decode cX8_take 24 = .ok (.baload, 1) := by decide +kernel
theorem dX8_take_25 : decode cX8_take 25 = .ok (.ifCond .ne 13, 3) := by decide +kernel
theorem dX8_take_28 : decode cX8_take 28 = .ok (.aload_n 0, 1) := by decide +kernel
theorem dX8_take_29 : decode cX8_take 29 = .ok (.iload_n 1, 1) := by decide +kernel
theorem dX8_take_30 : decode cX8_take 30 = .ok (.iload 4, 2) := by decide +kernel
theorem dX8_take_32 : decode cX8_take 32 = .ok (.invokevirtual 242, 3) := by decide +kernel
theorem dX8_take_35 : decode cX8_take 35 = .ok (.ifCond .ne 7, 3) := by decide +kernel
theorem dX8_take_38 : decode cX8_take 38 = .ok (.iconst 2, 1) := by decide +kernel
theorem dX8_take_39 : decode cX8_take 39 = .ok (.goto 4, 3) := by decide +kernel
theorem dX8_take_42 : decode cX8_take 42 = .ok (.iconst 0, 1) := by decide +kernel
theorem dX8_take_43 : decode cX8_take 43 = .ok (.invokevirtual 162, 3) := by decide +kernel
theorem dX8_take_46 : decode cX8_take 46 = .ok (.ifCond .eq 5, 3) := by decide +kernel
theorem dX8_take_49 : decode cX8_take 49 = .ok (.iconst 0, 1) := by decide +kernel
theorem dX8_take_50 : decode cX8_take 50 = .ok (.ireturn, 1) := by decide +kernel
theorem dX8_take_51 : decode cX8_take 51 = .ok (.aload_n 0, 1) := by decide +kernel
theorem dX8_take_52 : decode cX8_take 52 = .ok (.getfield 56, 3) := by decide +kernel
theorem dX8_take_55 : decode cX8_take 55 = .ok (.bipush 48, 2) := by decide +kernel
theorem dX8_take_57 : decode cX8_take 57 = .ok (.iload_n 1, 1) := by decide +kernel
theorem dX8_take_58 : decode cX8_take 58 = .ok (.imul, 1) := by decide +kernel
theorem dX8_take_59 : decode cX8_take 59 = .ok (.iload 4, 2) := by decide +kernel
theorem dX8_take_61 : decode cX8_take 61 = .ok (.iadd, 1) := by decide +kernel
theorem dX8_take_62 : decode cX8_take 62 = .ok (.iconst 1, 1) := by decide +kernel
theorem dX8_take_63 : decode cX8_take 63 = .ok (.bastore, 1) := by decide +kernel
theorem dX8_take_64 : decode cX8_take 64 = .ok (.aload_n 0, 1) := by decide +kernel
theorem dX8_take_65 : decode cX8_take 65 = .ok (.getfield 59, 3) := by decide +kernel
theorem dX8_take_68 : decode cX8_take 68 = .ok (.bipush 48, 2) := by decide +kernel
theorem dX8_take_70 : decode cX8_take 70 = .ok (.iload_n 1, 1) := by decide +kernel
theorem dX8_take_71 : decode cX8_take 71 = .ok (.imul, 1) := by decide +kernel
theorem dX8_take_72 : decode cX8_take 72 = .ok (.iload 4, 2) := by decide +kernel
theorem dX8_take_74 : decode cX8_take 74 = .ok (.iadd, 1) := by decide +kernel
theorem dX8_take_75 : decode cX8_take 75 = .ok (.iload_n 3, 1) := by decide +kernel
theorem dX8_take_76 : decode cX8_take 76 = .ok (.bastore, 1) := by decide +kernel
theorem dX8_take_77 : decode cX8_take 77 = .ok (.aload_n 0, 1) := by decide +kernel
theorem dX8_take_78 : decode cX8_take 78 = .ok (.iload_n 1, 1) := by decide +kernel
theorem dX8_take_79 : decode cX8_take 79 = .ok (.invokevirtual 245, 3) := by decide +kernel
theorem dX8_take_82 : decode cX8_take 82 = .ok (.ireturn, 1) := by decide +kernel
theorem dX8_isHeld_0 : decode cX8_isHeld 0 = .ok (.iload_n 2, 1) := by decide +kernel
theorem dX8_isHeld_1 : decode cX8_isHeld 1 = .ok (.iconst (-1), 1) := by decide +kernel
theorem dX8_isHeld_2 : decode cX8_isHeld 2 = .ok (.if_icmp .eq 21, 3) := by decide +kernel
theorem dX8_isHeld_5 : decode cX8_isHeld 5 = .ok (.aload_n 0, 1) := by decide +kernel
theorem dX8_isHeld_6 : decode cX8_isHeld 6 = .ok (.getfield 56, 3) := by decide +kernel
theorem dX8_isHeld_9 : decode cX8_isHeld 9 = .ok (.bipush 48, 2) := by decide +kernel
theorem dX8_isHeld_11 : decode cX8_isHeld 11 = .ok (.iload_n 1, 1) := by decide +kernel
theorem dX8_isHeld_12 : decode cX8_isHeld 12 = .ok (.imul, 1) := by decide +kernel
theorem dX8_isHeld_13 : decode cX8_isHeld 13 = .ok (.iload_n 2, 1) := by decide +kernel
theorem dX8_isHeld_14 : decode cX8_isHeld 14 = .ok (.iadd, 1) := by decide +kernel
theorem dX8_isHeld_15 : decode cX8_isHeld 15 = .ok (.baload, 1) := by decide +kernel
theorem dX8_isHeld_16 : decode cX8_isHeld 16 = .ok (.ifCond .eq 7, 3) := by decide +kernel
theorem dX8_isHeld_19 : decode cX8_isHeld 19 = .ok (.iconst 1, 1) := by decide +kernel
theorem dX8_isHeld_20 : decode cX8_isHeld 20 = .ok (.goto 4, 3) := by decide +kernel
theorem dX8_isHeld_23 : decode cX8_isHeld 23 = .ok (.iconst 0, 1) := by decide +kernel
theorem dX8_isHeld_24 : decode cX8_isHeld 24 = .ok (.ireturn, 1) := by decide +kernel
theorem dX8_letGo_0 : decode cX8_letGo 0 = .ok (.aload_n 0, 1) := by decide +kernel
theorem dX8_letGo_1 : decode cX8_letGo 1 = .ok (.iload_n 1, 1) := by decide +kernel
theorem dX8_letGo_2 : decode cX8_letGo 2 = .ok (.iload_n 2, 1) := by decide +kernel
theorem dX8_letGo_3 : decode cX8_letGo 3 = .ok (.invokevirtual 239, 3) := by decide +kernel
theorem dX8_letGo_6 : decode cX8_letGo 6 = .ok (.istore_n 3, 1) := by decide +kernel
theorem dX8_letGo_7 : decode cX8_letGo 7 = .ok (.aload_n 0, 1) := by decide +kernel
theorem dX8_letGo_8 : decode cX8_letGo 8 = .ok (.aload_n 0, 1) := by decide +kernel
theorem dX8_letGo_9 : decode cX8_letGo 9 = .ok (.iload_n 1, 1) := by decide +kernel
theorem dX8_letGo_10 : decode cX8_letGo 10 = .ok (.iload_n 3, 1) := by decide +kernel
theorem dX8_letGo_11 : decode cX8_letGo 11 = .ok (.invokevirtual 248, 3) := by decide +kernel
theorem dX8_letGo_14 : decode cX8_letGo 14 = .ok (.ifCond .eq 7, 3) := by decide +kernel
theorem dX8_letGo_17 : decode cX8_letGo 17 = .ok (.iconst 0, 1) := by decide +kernel
theorem dX8_letGo_18 : decode cX8_letGo 18 = .ok (.goto 4, 3) := by decide +kernel
theorem dX8_letGo_21 : decode cX8_letGo 21 = .ok (.iconst 1, 1) := by decide +kernel
theorem dX8_letGo_22 : decode cX8_letGo 22 = .ok (.invokevirtual 162, 3) := by decide +kernel
theorem dX8_letGo_25 : decode cX8_letGo 25 = .ok (.ifCond .eq 5, 3) := by decide +kernel
theorem dX8_letGo_28 : decode cX8_letGo 28 = .ok (.iconst 0, 1) := by decide +kernel
theorem dX8_letGo_29 : decode cX8_letGo 29 = .ok (.ireturn, 1) := by decide +kernel
theorem dX8_letGo_30 : decode cX8_letGo 30 = .ok (.aload_n 0, 1) := by decide +kernel
theorem dX8_letGo_31 : decode cX8_letGo 31 = .ok (.getfield 56, 3) := by decide +kernel
theorem dX8_letGo_34 : decode cX8_letGo 34 = .ok (.bipush 48, 2) := by decide +kernel
theorem dX8_letGo_36 : decode cX8_letGo 36 = .ok (.iload_n 1, 1) := by decide +kernel
theorem dX8_letGo_37 : decode cX8_letGo 37 = .ok (.imul, 1) := by decide +kernel
theorem dX8_letGo_38 : decode cX8_letGo 38 = .ok (.iload_n 3, 1) := by decide +kernel
theorem dX8_letGo_39 : decode cX8_letGo 39 = .ok (.iadd, 1) := by decide +kernel
theorem dX8_letGo_40 : decode cX8_letGo 40 = .ok (.iconst 0, 1) := by decide +kernel
theorem dX8_letGo_41 : decode cX8_letGo 41 = .ok (.bastore, 1) := by decide +kernel
theorem dX8_letGo_42 : decode cX8_letGo 42 = .ok (.aload_n 0, 1) := by decide +kernel
theorem dX8_letGo_43 : decode cX8_letGo 43 = .ok (.aload_n 0, 1) := by decide +kernel
theorem dX8_letGo_44 : decode cX8_letGo 44 = .ok (.getfield 47, 3) := by decide +kernel
theorem dX8_letGo_47 : decode cX8_letGo 47 = .ok (.iload_n 1, 1) := by decide +kernel
theorem dX8_letGo_48 : decode cX8_letGo 48 = .ok (.iaload, 1) := by decide +kernel
theorem dX8_letGo_49 : decode cX8_letGo 49 = .ok (.invokevirtual 251, 3) := by decide +kernel
theorem dX8_letGo_52 : decode cX8_letGo 52 = .ok (.ireturn, 1) := by decide +kernel
theorem dX8_retire_0 : decode cX8_retire 0 = .ok (.aload_n 0, 1) := by decide +kernel
theorem dX8_retire_1 : decode cX8_retire 1 = .ok (.iload_n 1, 1) := by decide +kernel
theorem dX8_retire_2 : decode cX8_retire 2 = .ok (.invokevirtual 232, 3) := by decide +kernel
theorem dX8_retire_5 : decode cX8_retire 5 = .ok (.istore_n 2, 1) := by decide +kernel
theorem dX8_retire_6 : decode cX8_retire 6 = .ok (.aload_n 0, 1) := by decide +kernel
theorem dX8_retire_7 : decode cX8_retire 7 = .ok (.iload_n 2, 1) := by decide +kernel
theorem dX8_retire_8 : decode cX8_retire 8 = .ok (.ifCond .ne 7, 3) := by decide +kernel
theorem dX8_retire_11 : decode cX8_retire 11 = .ok (.iconst 1, 1) := by decide +kernel
theorem dX8_retire_12 : decode cX8_retire 12 = .ok (.goto 17, 3) := by decide +kernel
theorem dX8_retire_15 : decode cX8_retire 15 = .ok (.aload_n 0, 1) := by decide +kernel
theorem dX8_retire_16 : decode cX8_retire 16 = .ok (.getfield 53, 3) := by decide +kernel
theorem dX8_retire_19 : decode cX8_retire 19 = .ok (.iload_n 1, 1) := by decide +kernel
theorem dX8_retire_20 : decode cX8_retire 20 = .ok (.baload, 1) := by decide +kernel
theorem dX8_retire_21 : decode cX8_retire 21 = .ok (.ifCond .eq 7, 3) := by decide +kernel
theorem dX8_retire_24 : decode cX8_retire 24 = .ok (.iconst 2, 1) := by decide +kernel
theorem dX8_retire_25 : decode cX8_retire 25 = .ok (.goto 4, 3) := by decide +kernel
theorem dX8_retire_28 : decode cX8_retire 28 = .ok (.iconst 0, 1) := by decide +kernel
theorem dX8_retire_29 : decode cX8_retire 29 = .ok (.invokevirtual 162, 3) := by decide +kernel
theorem dX8_retire_32 : decode cX8_retire 32 = .ok (.ifCond .eq 5, 3) := by decide +kernel
theorem dX8_retire_35 : decode cX8_retire 35 = .ok (.iconst 0, 1) := by decide +kernel
theorem dX8_retire_36 : decode cX8_retire 36 = .ok (.ireturn, 1) := by decide +kernel
theorem dX8_retire_37 : decode cX8_retire 37 = .ok (.aload_n 0, 1) := by decide +kernel
theorem dX8_retire_38 : decode cX8_retire 38 = .ok (.getfield 53, 3) := by decide +kernel
theorem dX8_retire_41 : decode cX8_retire 41 = .ok (.iload_n 1, 1) := by decide +kernel
theorem dX8_retire_42 : decode cX8_retire 42 = .ok (.iconst 1, 1) := by decide +kernel
theorem dX8_retire_43 : decode cX8_retire 43 = .ok (.bastore, 1) := by decide +kernel
theorem dX8_retire_44 : decode cX8_retire 44 = .ok (.iconst 0, 1) := by decide +kernel
theorem dX8_retire_45 : decode cX8_retire 45 = .ok (.istore_n 3, 1) := by decide +kernel
theorem dX8_retire_46 : decode cX8_retire 46 = .ok (.iload_n 3, 1) := by decide +kernel
theorem dX8_retire_47 : decode cX8_retire 47 = .ok (.bipush 48, 2) := by decide +kernel
theorem dX8_retire_49 : decode cX8_retire 49 = .ok (.if_icmp .ge 21, 3) := by decide +kernel
theorem dX8_retire_52 : decode cX8_retire 52 = .ok (.aload_n 0, 1) := by decide +kernel
theorem dX8_retire_53 : decode cX8_retire 53 = .ok (.getfield 56, 3) := by decide +kernel
theorem dX8_retire_56 : decode cX8_retire 56 = .ok (.bipush 48, 2) := by decide +kernel
theorem dX8_retire_58 : decode cX8_retire 58 = .ok (.iload_n 1, 1) := by decide +kernel
theorem dX8_retire_59 : decode cX8_retire 59 = .ok (.imul, 1) := by decide +kernel
theorem dX8_retire_60 : decode cX8_retire 60 = .ok (.iload_n 3, 1) := by decide +kernel
theorem dX8_retire_61 : decode cX8_retire 61 = .ok (.iadd, 1) := by decide +kernel
theorem dX8_retire_62 : decode cX8_retire 62 = .ok (.iconst 0, 1) := by decide +kernel
theorem dX8_retire_63 : decode cX8_retire 63 = .ok (.bastore, 1) := by decide +kernel
theorem dX8_retire_64 : decode cX8_retire 64 = .ok (.iinc 3 1, 3) := by decide +kernel
theorem dX8_retire_67 : decode cX8_retire 67 = .ok (.goto (-21), 3) := by decide +kernel
theorem dX8_retire_70 : decode cX8_retire 70 = .ok (.aload_n 0, 1) := by decide +kernel
theorem dX8_retire_71 : decode cX8_retire 71 = .ok (.aload_n 0, 1) := by decide +kernel
theorem dX8_retire_72 : decode cX8_retire 72 = .ok (.getfield 47, 3) := by decide +kernel
theorem dX8_retire_75 : decode cX8_retire 75 = .ok (.iload_n 1, 1) := by decide +kernel
theorem dX8_retire_76 : decode cX8_retire 76 = .ok (.iaload, 1) := by decide +kernel
theorem dX8_retire_77 : decode cX8_retire 77 = .ok (.invokevirtual 251, 3) := by decide +kernel
theorem dX8_retire_80 : decode cX8_retire 80 = .ok (.ireturn, 1) := by decide +kernel
theorem dX8_renew_0 : decode cX8_renew 0 = .ok (.aload_n 0, 1) := by decide +kernel
theorem dX8_renew_1 : decode cX8_renew 1 = .ok (.iload_n 1, 1) := by decide +kernel
theorem dX8_renew_2 : decode cX8_renew 2 = .ok (.invokevirtual 232, 3) := by decide +kernel
theorem dX8_renew_5 : decode cX8_renew 5 = .ok (.istore_n 2, 1) := by decide +kernel
theorem dX8_renew_6 : decode cX8_renew 6 = .ok (.aload_n 0, 1) := by decide +kernel
theorem dX8_renew_7 : decode cX8_renew 7 = .ok (.iload_n 2, 1) := by decide +kernel
theorem dX8_renew_8 : decode cX8_renew 8 = .ok (.ifCond .ne 7, 3) := by decide +kernel
theorem dX8_renew_11 : decode cX8_renew 11 = .ok (.iconst 1, 1) := by decide +kernel
theorem dX8_renew_12 : decode cX8_renew 12 = .ok (.goto 17, 3) := by decide +kernel
theorem dX8_renew_15 : decode cX8_renew 15 = .ok (.aload_n 0, 1) := by decide +kernel
theorem dX8_renew_16 : decode cX8_renew 16 = .ok (.getfield 53, 3) := by decide +kernel
theorem dX8_renew_19 : decode cX8_renew 19 = .ok (.iload_n 1, 1) := by decide +kernel
theorem dX8_renew_20 : decode cX8_renew 20 = .ok (.baload, 1) := by decide +kernel
theorem dX8_renew_21 : decode cX8_renew 21 = .ok (.ifCond .eq 7, 3) := by decide +kernel
theorem dX8_renew_24 : decode cX8_renew 24 = .ok (.iconst 2, 1) := by decide +kernel
theorem dX8_renew_25 : decode cX8_renew 25 = .ok (.goto 4, 3) := by decide +kernel
theorem dX8_renew_28 : decode cX8_renew 28 = .ok (.iconst 0, 1) := by decide +kernel
theorem dX8_renew_29 : decode cX8_renew 29 = .ok (.invokevirtual 162, 3) := by decide +kernel
theorem dX8_renew_32 : decode cX8_renew 32 = .ok (.ifCond .eq 5, 3) := by decide +kernel
theorem dX8_renew_35 : decode cX8_renew 35 = .ok (.iconst 0, 1) := by decide +kernel
theorem dX8_renew_36 : decode cX8_renew 36 = .ok (.ireturn, 1) := by decide +kernel
theorem dX8_renew_37 : decode cX8_renew 37 = .ok (.aload_n 0, 1) := by decide +kernel
theorem dX8_renew_38 : decode cX8_renew 38 = .ok (.iload_n 1, 1) := by decide +kernel
theorem dX8_renew_39 : decode cX8_renew 39 = .ok (.iconst 1, 1) := by decide +kernel
theorem dX8_renew_40 : decode cX8_renew 40 = .ok (.invokevirtual 209, 3) := by decide +kernel
theorem dX8_renew_43 : decode cX8_renew 43 = .ok (.iconst 0, 1) := by decide +kernel
theorem dX8_renew_44 : decode cX8_renew 44 = .ok (.istore_n 3, 1) := by decide +kernel
theorem dX8_renew_45 : decode cX8_renew 45 = .ok (.iload_n 3, 1) := by decide +kernel
theorem dX8_renew_46 : decode cX8_renew 46 = .ok (.bipush 48, 2) := by decide +kernel
theorem dX8_renew_48 : decode cX8_renew 48 = .ok (.if_icmp .ge 21, 3) := by decide +kernel
theorem dX8_renew_51 : decode cX8_renew 51 = .ok (.aload_n 0, 1) := by decide +kernel
theorem dX8_renew_52 : decode cX8_renew 52 = .ok (.getfield 134, 3) := by decide +kernel
theorem dX8_renew_55 : decode cX8_renew 55 = .ok (.iload_n 3, 1) := by decide +kernel
theorem dX8_renew_56 : decode cX8_renew 56 = .ok (.aload_n 0, 1) := by decide +kernel
theorem dX8_renew_57 : decode cX8_renew 57 = .ok (.getfield 131, 3) := by decide +kernel
theorem dX8_renew_60 : decode cX8_renew 60 = .ok (.iload_n 3, 1) := by decide +kernel
theorem dX8_renew_61 : decode cX8_renew 61 = .ok (.baload, 1) := by decide +kernel
theorem dX8_renew_62 : decode cX8_renew 62 = .ok (.bastore, 1) := by decide +kernel
theorem dX8_renew_63 : decode cX8_renew 63 = .ok (.iinc 3 1, 3) := by decide +kernel
theorem dX8_renew_66 : decode cX8_renew 66 = .ok (.goto (-21), 3) := by decide +kernel
theorem dX8_renew_69 : decode cX8_renew 69 = .ok (.aload_n 0, 1) := by decide +kernel
theorem dX8_renew_70 : decode cX8_renew 70 = .ok (.iload_n 1, 1) := by decide +kernel
theorem dX8_renew_71 : decode cX8_renew 71 = .ok (.iconst 0, 1) := by decide +kernel
theorem dX8_renew_72 : decode cX8_renew 72 = .ok (.invokevirtual 209, 3) := by decide +kernel
theorem dX8_renew_75 : decode cX8_renew 75 = .ok (.iconst 0, 1) := by decide +kernel
theorem dX8_renew_76 : decode cX8_renew 76 = .ok (.istore_n 3, 1) := by decide +kernel
theorem dX8_renew_77 : decode cX8_renew 77 = .ok (.iload_n 3, 1) := by decide +kernel
theorem dX8_renew_78 : decode cX8_renew 78 = .ok (.bipush 48, 2) := by decide +kernel
theorem dX8_renew_80 : decode cX8_renew 80 = .ok (.if_icmp .ge 43, 3) := by decide +kernel
theorem dX8_renew_83 : decode cX8_renew 83 = .ok (.aload_n 0, 1) := by decide +kernel
theorem dX8_renew_84 : decode cX8_renew 84 = .ok (.getfield 56, 3) := by decide +kernel
theorem dX8_renew_87 : decode cX8_renew 87 = .ok (.bipush 48, 2) := by decide +kernel
theorem dX8_renew_89 : decode cX8_renew 89 = .ok (.iload_n 1, 1) := by decide +kernel
theorem dX8_renew_90 : decode cX8_renew 90 = .ok (.imul, 1) := by decide +kernel
theorem dX8_renew_91 : decode cX8_renew 91 = .ok (.iload_n 3, 1) := by decide +kernel
theorem dX8_renew_92 : decode cX8_renew 92 = .ok (.iadd, 1) := by decide +kernel
theorem dX8_renew_93 : decode cX8_renew 93 = .ok (.aload_n 0, 1) := by decide +kernel
theorem dX8_renew_94 : decode cX8_renew 94 = .ok (.getfield 131, 3) := by decide +kernel
theorem dX8_renew_97 : decode cX8_renew 97 = .ok (.iload_n 3, 1) := by decide +kernel
theorem dX8_renew_98 : decode cX8_renew 98 = .ok (.baload, 1) := by decide +kernel
theorem dX8_renew_99 : decode cX8_renew 99 = .ok (.bastore, 1) := by decide +kernel
theorem dX8_renew_100 : decode cX8_renew 100 = .ok (.aload_n 0, 1) := by decide +kernel
theorem dX8_renew_101 : decode cX8_renew 101 = .ok (.getfield 59, 3) := by decide +kernel
theorem dX8_renew_104 : decode cX8_renew 104 = .ok (.bipush 48, 2) := by decide +kernel
theorem dX8_renew_106 : decode cX8_renew 106 = .ok (.iload_n 1, 1) := by decide +kernel
theorem dX8_renew_107 : decode cX8_renew 107 = .ok (.imul, 1) := by decide +kernel
theorem dX8_renew_108 : decode cX8_renew 108 = .ok (.iload_n 3, 1) := by decide +kernel
theorem dX8_renew_109 : decode cX8_renew 109 = .ok (.iadd, 1) := by decide +kernel
theorem dX8_renew_110 : decode cX8_renew 110 = .ok (.aload_n 0, 1) := by decide +kernel
theorem dX8_renew_111 : decode cX8_renew 111 = .ok (.getfield 134, 3) := by decide +kernel
theorem dX8_renew_114 : decode cX8_renew 114 = .ok (.iload_n 3, 1) := by decide +kernel
theorem dX8_renew_115 : decode cX8_renew 115 = .ok (.baload, 1) := by decide +kernel
theorem dX8_renew_116 : decode cX8_renew 116 = .ok (.bastore, 1) := by decide +kernel
theorem dX8_renew_117 : decode cX8_renew 117 = .ok (.iinc 3 1, 3) := by decide +kernel
theorem dX8_renew_120 : decode cX8_renew 120 = .ok (.goto (-43), 3) := by decide +kernel
theorem dX8_renew_123 : decode cX8_renew 123 = .ok (.aload_n 0, 1) := by decide +kernel
theorem dX8_renew_124 : decode cX8_renew 124 = .ok (.getfield 50, 3) := by decide +kernel
theorem dX8_renew_127 : decode cX8_renew 127 = .ok (.iload_n 1, 1) := by decide +kernel
theorem dX8_renew_128 : decode cX8_renew 128 = .ok (.aload_n 0, 1) := by decide +kernel
theorem dX8_renew_129 : decode cX8_renew 129 = .ok (.getfield 7, 3) := by decide +kernel
theorem dX8_renew_132 : decode cX8_renew 132 = .ok (.aload_n 0, 1) := by decide +kernel
theorem dX8_renew_133 : decode cX8_renew 133 = .ok (.getfield 47, 3) := by decide +kernel
theorem dX8_renew_136 : decode cX8_renew 136 = .ok (.iload_n 1, 1) := by decide +kernel
theorem dX8_renew_137 : decode cX8_renew 137 = .ok (.iaload, 1) := by decide +kernel
theorem dX8_renew_138 : decode cX8_renew 138 = .ok (.iaload, 1) := by decide +kernel
theorem dX8_renew_139 : decode cX8_renew 139 = .ok (.iastore, 1) := by decide +kernel
theorem dX8_renew_140 : decode cX8_renew 140 = .ok (.aload_n 0, 1) := by decide +kernel
theorem dX8_renew_141 : decode cX8_renew 141 = .ok (.aload_n 0, 1) := by decide +kernel
theorem dX8_renew_142 : decode cX8_renew 142 = .ok (.getfield 47, 3) := by decide +kernel
theorem dX8_renew_145 : decode cX8_renew 145 = .ok (.iload_n 1, 1) := by decide +kernel
theorem dX8_renew_146 : decode cX8_renew 146 = .ok (.iaload, 1) := by decide +kernel
theorem dX8_renew_147 : decode cX8_renew 147 = .ok (.invokevirtual 251, 3) := by decide +kernel
theorem dX8_renew_150 : decode cX8_renew 150 = .ok (.pop, 1) := by decide +kernel
theorem dX8_renew_151 : decode cX8_renew 151 = .ok (.aload_n 0, 1) := by decide +kernel
theorem dX8_renew_152 : decode cX8_renew 152 = .ok (.iload_n 1, 1) := by decide +kernel
theorem dX8_renew_153 : decode cX8_renew 153 = .ok (.invokevirtual 245, 3) := by decide +kernel
theorem dX8_renew_156 : decode cX8_renew 156 = .ok (.ireturn, 1) := by decide +kernel
theorem dX8_front_0 : decode cX8_front 0 = .ok (.aload_n 0, 1) := by decide +kernel
theorem dX8_front_1 : decode cX8_front 1 = .ok (.getfield 32, 3) := by decide +kernel
theorem dX8_front_4 : decode cX8_front 4 = .ok (.iconst 2, 1) := by decide +kernel
theorem dX8_front_5 : decode cX8_front 5 = .ok (.iload_n 1, 1) := by decide +kernel
theorem dX8_front_6 : decode cX8_front 6 = .ok (.imul, 1) := by decide +kernel
theorem dX8_front_7 : decode cX8_front 7 = .ok (.iload_n 2, 1) := by decide +kernel
theorem dX8_front_8 : decode cX8_front 8 = .ok (.iadd, 1) := by decide +kernel
theorem dX8_front_9 : decode cX8_front 9 = .ok (.iaload, 1) := by decide +kernel
theorem dX8_front_10 : decode cX8_front 10 = .ok (.ireturn, 1) := by decide +kernel
theorem dX8_behind_0 : decode cX8_behind 0 = .ok (.aload_n 0, 1) := by decide +kernel
theorem dX8_behind_1 : decode cX8_behind 1 = .ok (.getfield 35, 3) := by decide +kernel
theorem dX8_behind_4 : decode cX8_behind 4 = .ok (.iconst 2, 1) := by decide +kernel
theorem dX8_behind_5 : decode cX8_behind 5 = .ok (.iload_n 1, 1) := by decide +kernel
theorem dX8_behind_6 : decode cX8_behind 6 = .ok (.imul, 1) := by decide +kernel
theorem dX8_behind_7 : decode cX8_behind 7 = .ok (.iload_n 2, 1) := by decide +kernel
theorem dX8_behind_8 : decode cX8_behind 8 = .ok (.iadd, 1) := by decide +kernel
theorem dX8_behind_9 : decode cX8_behind 9 = .ok (.iaload, 1) := by decide +kernel
theorem dX8_behind_10 : decode cX8_behind 10 = .ok (.ireturn, 1) := by decide +kernel
theorem dX8_needed_0 : decode cX8_needed 0 = .ok (.iload 4, 2) := by decide +kernel
theorem dX8_needed_2 : decode cX8_needed 2 = .ok (.iconst (-1), 1) := by decide +kernel
theorem dX8_needed_3 : decode cX8_needed 3 = .ok (.if_icmp .ne 36, 3) := by decide +kernel
theorem dX8_needed_6 : decode cX8_needed 6 = .ok (.iload_n 3, 1) := by decide +kernel
theorem dX8_needed_7 : decode cX8_needed 7 = .ok (.iconst (-1), 1) := by decide +kernel
theorem dX8_needed_8 : decode cX8_needed 8 = .ok (.if_icmp .eq 31, 3) := by decide +kernel
theorem dX8_needed_11 : decode cX8_needed 11 = .ok (.aload_n 0, 1) := by decide +kernel
theorem dX8_needed_12 : decode cX8_needed 12 = .ok (.getfield 25, 3) := by decide +kernel
theorem dX8_needed_15 : decode cX8_needed 15 = .ok (.iload_n 1, 1) := by decide +kernel
theorem dX8_needed_16 : decode cX8_needed 16 = .ok (.iload_n 2, 1) := by decide +kernel
theorem dX8_needed_17 : decode cX8_needed 17 = .ok (.iload_n 3, 1) := by decide +kernel
theorem dX8_needed_18 : decode cX8_needed 18 = .ok (.invokestatic 152, 3) := by decide +kernel
theorem dX8_needed_21 : decode cX8_needed 21 = .ok (.baload, 1) := by decide +kernel
theorem dX8_needed_22 : decode cX8_needed 22 = .ok (.ifCond .eq 17, 3) := by decide +kernel
theorem dX8_needed_25 : decode cX8_needed 25 = .ok (.aload_n 0, 1) := by decide +kernel
theorem dX8_needed_26 : decode cX8_needed 26 = .ok (.getfield 19, 3) := by decide +kernel
theorem dX8_needed_29 : decode cX8_needed 29 = .ok (.bipush 48, 2) := by decide +kernel
theorem dX8_needed_31 : decode cX8_needed 31 = .ok (.iload_n 1, 1) := by decide +kernel
theorem dX8_needed_32 : decode cX8_needed 32 = .ok (.imul, 1) := by decide +kernel
theorem dX8_needed_33 : decode cX8_needed 33 = .ok (.iload_n 3, 1) := by decide +kernel
theorem dX8_needed_34 : decode cX8_needed 34 = .ok (.iadd, 1) := by decide +kernel
theorem dX8_needed_35 : decode cX8_needed 35 = .ok (.iaload, 1) := by decide +kernel
theorem dX8_needed_36 : decode cX8_needed 36 = .ok (.goto 5, 3) := by decide +kernel
theorem dX8_needed_39 : decode cX8_needed 39 = .ok (.iload 4, 2) := by decide +kernel
theorem dX8_needed_41 : decode cX8_needed 41 = .ok (.ireturn, 1) := by decide +kernel
theorem dX8_kindOf_0 : decode cX8_kindOf 0 = .ok (.iload_n 2, 1) := by decide +kernel
theorem dX8_kindOf_1 : decode cX8_kindOf 1 = .ok (.iconst (-1), 1) := by decide +kernel
theorem dX8_kindOf_2 : decode cX8_kindOf 2 = .ok (.if_icmp .ne 7, 3) := by decide +kernel
theorem dX8_kindOf_5 : decode cX8_kindOf 5 = .ok (.iconst 0, 1) := by decide +kernel
theorem dX8_kindOf_6 : decode cX8_kindOf 6 = .ok (.goto 14, 3) := by decide +kernel
theorem dX8_kindOf_9 : decode cX8_kindOf 9 = .ok (.aload_n 0, 1) := by decide +kernel
theorem dX8_kindOf_10 : decode cX8_kindOf 10 = .ok (.getfield 16, 3) := by decide +kernel
theorem dX8_kindOf_13 : decode cX8_kindOf 13 = .ok (.bipush 48, 2) := by decide +kernel
theorem dX8_kindOf_15 : decode cX8_kindOf 15 = .ok (.iload_n 1, 1) := by decide +kernel
theorem dX8_kindOf_16 : decode cX8_kindOf 16 = .ok (.imul, 1) := by decide +kernel
theorem dX8_kindOf_17 : decode cX8_kindOf 17 = .ok (.iload_n 2, 1) := by decide +kernel
theorem dX8_kindOf_18 : decode cX8_kindOf 18 = .ok (.iadd, 1) := by decide +kernel
theorem dX8_kindOf_19 : decode cX8_kindOf 19 = .ok (.iaload, 1) := by decide +kernel
theorem dX8_kindOf_20 : decode cX8_kindOf 20 = .ok (.ireturn, 1) := by decide +kernel
theorem dX8_up_0 : decode cX8_up 0 = .ok (.bipush 24, 2) := by decide +kernel
theorem dX8_up_2 : decode cX8_up 2 = .ok (.iload_n 1, 1) := by decide +kernel
theorem dX8_up_3 : decode cX8_up 3 = .ok (.imul, 1) := by decide +kernel
theorem dX8_up_4 : decode cX8_up 4 = .ok (.iload_n 2, 1) := by decide +kernel
theorem dX8_up_5 : decode cX8_up 5 = .ok (.iadd, 1) := by decide +kernel
theorem dX8_up_6 : decode cX8_up 6 = .ok (.istore 5, 2) := by decide +kernel
theorem dX8_up_8 : decode cX8_up 8 = .ok (.aload_n 0, 1) := by decide +kernel
theorem dX8_up_9 : decode cX8_up 9 = .ok (.iload 5, 2) := by decide +kernel
theorem dX8_up_11 : decode cX8_up 11 = .ok (.iconst 0, 1) := by decide +kernel
theorem dX8_up_12 : decode cX8_up 12 = .ok (.invokevirtual 254, 3) := by decide +kernel
theorem dX8_up_15 : decode cX8_up 15 = .ok (.istore 6, 2) := by decide +kernel
theorem dX8_up_17 : decode cX8_up 17 = .ok (.aload_n 0, 1) := by decide +kernel
theorem dX8_up_18 : decode cX8_up 18 = .ok (.getfield 29, 3) := by decide +kernel
theorem dX8_up_21 : decode cX8_up 21 = .ok (.iload 5, 2) := by decide +kernel
theorem dX8_up_23 : decode cX8_up 23 = .ok (.iaload, 1) := by decide +kernel
theorem dX8_up_24 : decode cX8_up 24 = .ok (.istore 7, 2) := by decide +kernel
theorem dX8_up_26 : decode cX8_up 26 = .ok (.aload_n 0, 1) := by decide +kernel
theorem dX8_up_27 : decode cX8_up 27 = .ok (.getfield 122, 3) := by decide +kernel
theorem dX8_up_30 : decode cX8_up 30 = .ok (.iconst 0, 1) := by decide +kernel
theorem dX8_up_31 : decode cX8_up 31 = .ok (.iload 7, 2) := by decide +kernel
theorem dX8_up_33 : decode cX8_up 33 = .ok (.ifCond .ne 18, 3) := by decide +kernel
theorem dX8_up_36 : decode cX8_up 36 = .ok (.aload_n 0, 1) := by decide +kernel
theorem dX8_up_37 : decode cX8_up 37 = .ok (.getfield 19, 3) := by decide +kernel
theorem dX8_up_40 : decode cX8_up 40 = .ok (.bipush 48, 2) := by decide +kernel
theorem dX8_up_42 : decode cX8_up 42 = .ok (.iload_n 1, 1) := by decide +kernel
theorem dX8_up_43 : decode cX8_up 43 = .ok (.imul, 1) := by decide +kernel
theorem dX8_up_44 : decode cX8_up 44 = .ok (.iload 6, 2) := by decide +kernel
theorem dX8_up_46 : decode cX8_up 46 = .ok (.iadd, 1) := by decide +kernel
theorem dX8_up_47 : decode cX8_up 47 = .ok (.iaload, 1) := by decide +kernel
theorem dX8_up_48 : decode cX8_up 48 = .ok (.goto 96, 3) := by decide +kernel
theorem dX8_up_51 : decode cX8_up 51 = .ok (.iload 7, 2) := by decide +kernel
theorem dX8_up_53 : decode cX8_up 53 = .ok (.iconst 2, 1) := by decide +kernel
theorem dX8_up_54 : decode cX8_up 54 = .ok (.if_icmp .ne 29, 3) := by decide +kernel
theorem dX8_up_57 : decode cX8_up 57 = .ok (.iload_n 3, 1) := by decide +kernel
theorem dX8_up_58 : decode cX8_up 58 = .ok (.aload_n 0, 1) := by decide +kernel
theorem dX8_up_59 : decode cX8_up 59 = .ok (.iload_n 1, 1) := by decide +kernel
theorem dX8_up_60 : decode cX8_up 60 = .ok (.aload_n 0, 1) := by decide +kernel
theorem dX8_up_61 : decode cX8_up 61 = .ok (.iload 5, 2) := by decide +kernel
theorem dX8_up_63 : decode cX8_up 63 = .ok (.iconst 0, 1) := by decide +kernel
theorem dX8_up_64 : decode cX8_up 64 = .ok (.invokevirtual 256, 3) := by decide +kernel
theorem dX8_up_67 : decode cX8_up 67 = .ok (.invokevirtual 258, 3) := by decide +kernel
theorem dX8_up_70 : decode cX8_up 70 = .ok (.aload_n 0, 1) := by decide +kernel
theorem dX8_up_71 : decode cX8_up 71 = .ok (.iload_n 1, 1) := by decide +kernel
theorem dX8_up_72 : decode cX8_up 72 = .ok (.iload 6, 2) := by decide +kernel
theorem dX8_up_74 : decode cX8_up 74 = .ok (.invokevirtual 258, 3) := by decide +kernel
theorem dX8_up_77 : decode cX8_up 77 = .ok (.invokestatic 191, 3) := by decide +kernel
theorem dX8_up_80 : decode cX8_up 80 = .ok (.goto 64, 3) := by decide +kernel
theorem dX8_up_83 : decode cX8_up 83 = .ok (.iload 7, 2) := by decide +kernel
theorem dX8_up_85 : decode cX8_up 85 = .ok (.iconst 3, 1) := by decide +kernel
theorem dX8_up_86 : decode cX8_up 86 = .ok (.if_icmp .ne 24, 3) := by decide +kernel
theorem dX8_up_89 : decode cX8_up 89 = .ok (.iload_n 3, 1) := by decide +kernel
theorem dX8_up_90 : decode cX8_up 90 = .ok (.iconst (-1), 1) := by decide +kernel
theorem dX8_up_91 : decode cX8_up 91 = .ok (.if_icmp .ne 7, 3) := by decide +kernel
theorem dX8_up_94 : decode cX8_up 94 = .ok (.iconst (-1), 1) := by decide +kernel
theorem dX8_up_95 : decode cX8_up 95 = .ok (.goto 49, 3) := by decide +kernel
theorem dX8_up_98 : decode cX8_up 98 = .ok (.iload_n 3, 1) := by decide +kernel
theorem dX8_up_99 : decode cX8_up 99 = .ok (.aload_n 0, 1) := by decide +kernel
theorem dX8_up_100 : decode cX8_up 100 = .ok (.getfield 38, 3) := by decide +kernel
theorem dX8_up_103 : decode cX8_up 103 = .ok (.iload 5, 2) := by decide +kernel
theorem dX8_up_105 : decode cX8_up 105 = .ok (.iaload, 1) := by decide +kernel
theorem dX8_up_106 : decode cX8_up 106 = .ok (.idiv, 1) := by decide +kernel
theorem dX8_up_107 : decode cX8_up 107 = .ok (.goto 37, 3) := by decide +kernel
theorem dX8_up_110 : decode cX8_up 110 = .ok (.iload 7, 2) := by decide +kernel
theorem dX8_up_112 : decode cX8_up 112 = .ok (.iconst 4, 1) := by decide +kernel
theorem dX8_up_113 : decode cX8_up 113 = .ok (.if_icmp .ne 19, 3) := by decide +kernel
theorem dX8_up_116 : decode cX8_up 116 = .ok (.iload_n 3, 1) := by decide +kernel
theorem dX8_up_117 : decode cX8_up 117 = .ok (.iload 4, 2) := by decide +kernel
theorem dX8_up_119 : decode cX8_up 119 = .ok (.aload_n 0, 1) := by decide +kernel
theorem dX8_up_120 : decode cX8_up 120 = .ok (.getfield 38, 3) := by decide +kernel
theorem dX8_up_123 : decode cX8_up 123 = .ok (.iload 5, 2) := by decide +kernel
theorem dX8_up_125 : decode cX8_up 125 = .ok (.iaload, 1) := by decide +kernel
theorem dX8_up_126 : decode cX8_up 126 = .ok (.invokestatic 200, 3) := by decide +kernel
theorem dX8_up_129 : decode cX8_up 129 = .ok (.goto 15, 3) := by decide +kernel
theorem dX8_up_132 : decode cX8_up 132 = .ok (.iload 7, 2) := by decide +kernel
theorem dX8_up_134 : decode cX8_up 134 = .ok (.bipush 6, 2) := by decide +kernel
theorem dX8_up_136 : decode cX8_up 136 = .ok (.if_icmp .ne 7, 3) := by decide +kernel
theorem dX8_up_139 : decode cX8_up 139 = .ok (.iload_n 3, 1) := by decide +kernel
theorem dX8_up_140 : decode cX8_up 140 = .ok (.goto 4, 3) := by decide +kernel
theorem dX8_up_143 : decode cX8_up 143 = .ok (.iconst (-1), 1) := by decide +kernel
theorem dX8_up_144 : decode cX8_up 144 = .ok (.iastore, 1) := by decide +kernel
theorem dX8_up_145 : decode cX8_up 145 = .ok (.aload_n 0, 1) := by decide +kernel
theorem dX8_up_146 : decode cX8_up 146 = .ok (.getfield 122, 3) := by decide +kernel
theorem dX8_up_149 : decode cX8_up 149 = .ok (.iconst 1, 1) := by decide +kernel
theorem dX8_up_150 : decode cX8_up 150 = .ok (.iload 7, 2) := by decide +kernel
theorem dX8_up_152 : decode cX8_up 152 = .ok (.iconst 3, 1) := by decide +kernel
theorem dX8_up_153 : decode cX8_up 153 = .ok (.if_icmp .ne 20, 3) := by decide +kernel
theorem dX8_up_156 : decode cX8_up 156 = .ok (.iload_n 3, 1) := by decide +kernel
theorem dX8_up_157 : decode cX8_up 157 = .ok (.iconst (-1), 1) := by decide +kernel
theorem dX8_up_158 : decode cX8_up 158 = .ok (.if_icmp .eq 15, 3) := by decide +kernel
theorem dX8_up_161 : decode cX8_up 161 = .ok (.iload_n 3, 1) := by decide +kernel
theorem dX8_up_162 : decode cX8_up 162 = .ok (.aload_n 0, 1) := by decide +kernel
theorem dX8_up_163 : decode cX8_up 163 = .ok (.getfield 38, 3) := by decide +kernel
theorem dX8_up_166 : decode cX8_up 166 = .ok (.iload 5, 2) := by decide +kernel
theorem dX8_up_168 : decode cX8_up 168 = .ok (.iaload, 1) := by decide +kernel
theorem dX8_up_169 : decode cX8_up 169 = .ok (.irem, 1) := by decide +kernel
theorem dX8_up_170 : decode cX8_up 170 = .ok (.goto 4, 3) := by decide +kernel
theorem dX8_up_173 : decode cX8_up 173 = .ok (.iconst (-1), 1) := by decide +kernel
theorem dX8_up_174 : decode cX8_up 174 = .ok (.iastore, 1) := by decide +kernel
theorem dX8_up_175 : decode cX8_up 175 = .ok (.aload_n 0, 1) := by decide +kernel
theorem dX8_up_176 : decode cX8_up 176 = .ok (.getfield 122, 3) := by decide +kernel
theorem dX8_up_179 : decode cX8_up 179 = .ok (.iconst 0, 1) := by decide +kernel
theorem dX8_up_180 : decode cX8_up 180 = .ok (.iload 7, 2) := by decide +kernel
theorem dX8_up_182 : decode cX8_up 182 = .ok (.iconst 1, 1) := by decide +kernel
theorem dX8_up_183 : decode cX8_up 183 = .ok (.if_icmp .ne 7, 3) := by decide +kernel
theorem dX8_up_186 : decode cX8_up 186 = .ok (.iconst (-1), 1) := by decide +kernel
theorem dX8_up_187 : decode cX8_up 187 = .ok (.goto 17, 3) := by decide +kernel
theorem dX8_up_190 : decode cX8_up 190 = .ok (.aload_n 0, 1) := by decide +kernel
theorem dX8_up_191 : decode cX8_up 191 = .ok (.iload_n 1, 1) := by decide +kernel
theorem dX8_up_192 : decode cX8_up 192 = .ok (.iload_n 2, 1) := by decide +kernel
theorem dX8_up_193 : decode cX8_up 193 = .ok (.iload 6, 2) := by decide +kernel
theorem dX8_up_195 : decode cX8_up 195 = .ok (.aload_n 0, 1) := by decide +kernel
theorem dX8_up_196 : decode cX8_up 196 = .ok (.getfield 122, 3) := by decide +kernel
theorem dX8_up_199 : decode cX8_up 199 = .ok (.iconst 0, 1) := by decide +kernel
theorem dX8_up_200 : decode cX8_up 200 = .ok (.iaload, 1) := by decide +kernel
theorem dX8_up_201 : decode cX8_up 201 = .ok (.invokevirtual 261, 3) := by decide +kernel
theorem dX8_up_204 : decode cX8_up 204 = .ok (.iastore, 1) := by decide +kernel
theorem dX8_up_205 : decode cX8_up 205 = .ok (.aload_n 0, 1) := by decide +kernel
theorem dX8_up_206 : decode cX8_up 206 = .ok (.getfield 122, 3) := by decide +kernel
theorem dX8_up_209 : decode cX8_up 209 = .ok (.iconst 1, 1) := by decide +kernel
theorem dX8_up_210 : decode cX8_up 210 = .ok (.aload_n 0, 1) := by decide +kernel
theorem dX8_up_211 : decode cX8_up 211 = .ok (.iload_n 1, 1) := by decide +kernel
theorem dX8_up_212 : decode cX8_up 212 = .ok (.iload_n 2, 1) := by decide +kernel
theorem dX8_up_213 : decode cX8_up 213 = .ok (.aload_n 0, 1) := by decide +kernel
theorem dX8_up_214 : decode cX8_up 214 = .ok (.iload 5, 2) := by decide +kernel
theorem dX8_up_216 : decode cX8_up 216 = .ok (.iconst 1, 1) := by decide +kernel
theorem dX8_up_217 : decode cX8_up 217 = .ok (.invokevirtual 254, 3) := by decide +kernel
theorem dX8_up_220 : decode cX8_up 220 = .ok (.aload_n 0, 1) := by decide +kernel
theorem dX8_up_221 : decode cX8_up 221 = .ok (.getfield 122, 3) := by decide +kernel
theorem dX8_up_224 : decode cX8_up 224 = .ok (.iconst 1, 1) := by decide +kernel
theorem dX8_up_225 : decode cX8_up 225 = .ok (.iaload, 1) := by decide +kernel
theorem dX8_up_226 : decode cX8_up 226 = .ok (.invokevirtual 261, 3) := by decide +kernel
theorem dX8_up_229 : decode cX8_up 229 = .ok (.iastore, 1) := by decide +kernel
theorem dX8_up_230 : decode cX8_up 230 = .ok (.return_, 1) := by decide +kernel
theorem dX8_down_0 : decode cX8_down 0 = .ok (.bipush 24, 2) := by decide +kernel
theorem dX8_down_2 : decode cX8_down 2 = .ok (.iload_n 1, 1) := by decide +kernel
theorem dX8_down_3 : decode cX8_down 3 = .ok (.imul, 1) := by decide +kernel
theorem dX8_down_4 : decode cX8_down 4 = .ok (.iload_n 2, 1) := by decide +kernel
theorem dX8_down_5 : decode cX8_down 5 = .ok (.iadd, 1) := by decide +kernel
theorem dX8_down_6 : decode cX8_down 6 = .ok (.istore 5, 2) := by decide +kernel
theorem dX8_down_8 : decode cX8_down 8 = .ok (.aload_n 0, 1) := by decide +kernel
theorem dX8_down_9 : decode cX8_down 9 = .ok (.iload 5, 2) := by decide +kernel
theorem dX8_down_11 : decode cX8_down 11 = .ok (.iconst 0, 1) := by decide +kernel
theorem dX8_down_12 : decode cX8_down 12 = .ok (.invokevirtual 256, 3) := by decide +kernel
theorem dX8_down_15 : decode cX8_down 15 = .ok (.istore 6, 2) := by decide +kernel
theorem dX8_down_17 : decode cX8_down 17 = .ok (.aload_n 0, 1) := by decide +kernel
theorem dX8_down_18 : decode cX8_down 18 = .ok (.getfield 29, 3) := by decide +kernel
theorem dX8_down_21 : decode cX8_down 21 = .ok (.iload 5, 2) := by decide +kernel
theorem dX8_down_23 : decode cX8_down 23 = .ok (.iaload, 1) := by decide +kernel
theorem dX8_down_24 : decode cX8_down 24 = .ok (.istore 7, 2) := by decide +kernel
theorem dX8_down_26 : decode cX8_down 26 = .ok (.aload_n 0, 1) := by decide +kernel
theorem dX8_down_27 : decode cX8_down 27 = .ok (.getfield 122, 3) := by decide +kernel
theorem dX8_down_30 : decode cX8_down 30 = .ok (.iconst 0, 1) := by decide +kernel
theorem dX8_down_31 : decode cX8_down 31 = .ok (.iload 7, 2) := by decide +kernel
theorem dX8_down_33 : decode cX8_down 33 = .ok (.iconst 2, 1) := by decide +kernel
theorem dX8_down_34 : decode cX8_down 34 = .ok (.if_icmp .ne 29, 3) := by decide +kernel
theorem dX8_down_37 : decode cX8_down 37 = .ok (.iload_n 3, 1) := by decide +kernel
theorem dX8_down_38 : decode cX8_down 38 = .ok (.aload_n 0, 1) := by decide +kernel
theorem dX8_down_39 : decode cX8_down 39 = .ok (.iload_n 1, 1) := by decide +kernel
theorem dX8_down_40 : decode cX8_down 40 = .ok (.aload_n 0, 1) := by decide +kernel
theorem dX8_down_41 : decode cX8_down 41 = .ok (.iload 5, 2) := by decide +kernel
theorem dX8_down_43 : decode cX8_down 43 = .ok (.iconst 0, 1) := by decide +kernel
theorem dX8_down_44 : decode cX8_down 44 = .ok (.invokevirtual 254, 3) := by decide +kernel
theorem dX8_down_47 : decode cX8_down 47 = .ok (.invokevirtual 258, 3) := by decide +kernel
theorem dX8_down_50 : decode cX8_down 50 = .ok (.aload_n 0, 1) := by decide +kernel
theorem dX8_down_51 : decode cX8_down 51 = .ok (.iload_n 1, 1) := by decide +kernel
theorem dX8_down_52 : decode cX8_down 52 = .ok (.iload 6, 2) := by decide +kernel
theorem dX8_down_54 : decode cX8_down 54 = .ok (.invokevirtual 258, 3) := by decide +kernel
theorem dX8_down_57 : decode cX8_down 57 = .ok (.invokestatic 191, 3) := by decide +kernel
theorem dX8_down_60 : decode cX8_down 60 = .ok (.goto 64, 3) := by decide +kernel
theorem dX8_down_63 : decode cX8_down 63 = .ok (.iload 7, 2) := by decide +kernel
theorem dX8_down_65 : decode cX8_down 65 = .ok (.iconst 3, 1) := by decide +kernel
theorem dX8_down_66 : decode cX8_down 66 = .ok (.if_icmp .ne 19, 3) := by decide +kernel
theorem dX8_down_69 : decode cX8_down 69 = .ok (.iload_n 3, 1) := by decide +kernel
theorem dX8_down_70 : decode cX8_down 70 = .ok (.iload 4, 2) := by decide +kernel
theorem dX8_down_72 : decode cX8_down 72 = .ok (.aload_n 0, 1) := by decide +kernel
theorem dX8_down_73 : decode cX8_down 73 = .ok (.getfield 38, 3) := by decide +kernel
theorem dX8_down_76 : decode cX8_down 76 = .ok (.iload 5, 2) := by decide +kernel
theorem dX8_down_78 : decode cX8_down 78 = .ok (.iaload, 1) := by decide +kernel
theorem dX8_down_79 : decode cX8_down 79 = .ok (.invokestatic 200, 3) := by decide +kernel
theorem dX8_down_82 : decode cX8_down 82 = .ok (.goto 42, 3) := by decide +kernel
theorem dX8_down_85 : decode cX8_down 85 = .ok (.iload 7, 2) := by decide +kernel
theorem dX8_down_87 : decode cX8_down 87 = .ok (.iconst 4, 1) := by decide +kernel
theorem dX8_down_88 : decode cX8_down 88 = .ok (.if_icmp .ne 24, 3) := by decide +kernel
theorem dX8_down_91 : decode cX8_down 91 = .ok (.iload_n 3, 1) := by decide +kernel
theorem dX8_down_92 : decode cX8_down 92 = .ok (.iconst (-1), 1) := by decide +kernel
theorem dX8_down_93 : decode cX8_down 93 = .ok (.if_icmp .ne 7, 3) := by decide +kernel
theorem dX8_down_96 : decode cX8_down 96 = .ok (.iconst (-1), 1) := by decide +kernel
theorem dX8_down_97 : decode cX8_down 97 = .ok (.goto 27, 3) := by decide +kernel
theorem dX8_down_100 : decode cX8_down 100 = .ok (.iload_n 3, 1) := by decide +kernel
theorem dX8_down_101 : decode cX8_down 101 = .ok (.aload_n 0, 1) := by decide +kernel
theorem dX8_down_102 : decode cX8_down 102 = .ok (.getfield 38, 3) := by decide +kernel
theorem dX8_down_105 : decode cX8_down 105 = .ok (.iload 5, 2) := by decide +kernel
theorem dX8_down_107 : decode cX8_down 107 = .ok (.iaload, 1) := by decide +kernel
theorem dX8_down_108 : decode cX8_down 108 = .ok (.idiv, 1) := by decide +kernel
theorem dX8_down_109 : decode cX8_down 109 = .ok (.goto 15, 3) := by decide +kernel
theorem dX8_down_112 : decode cX8_down 112 = .ok (.iload 7, 2) := by decide +kernel
theorem dX8_down_114 : decode cX8_down 114 = .ok (.bipush 6, 2) := by decide +kernel
theorem dX8_down_116 : decode cX8_down 116 = .ok (.if_icmp .ne 7, 3) := by decide +kernel
theorem dX8_down_119 : decode cX8_down 119 = .ok (.iload_n 3, 1) := by decide +kernel
theorem dX8_down_120 : decode cX8_down 120 = .ok (.goto 4, 3) := by decide +kernel
theorem dX8_down_123 : decode cX8_down 123 = .ok (.iconst (-1), 1) := by decide +kernel
theorem dX8_down_124 : decode cX8_down 124 = .ok (.iastore, 1) := by decide +kernel
theorem dX8_down_125 : decode cX8_down 125 = .ok (.aload_n 0, 1) := by decide +kernel
theorem dX8_down_126 : decode cX8_down 126 = .ok (.getfield 122, 3) := by decide +kernel
theorem dX8_down_129 : decode cX8_down 129 = .ok (.iconst 1, 1) := by decide +kernel
theorem dX8_down_130 : decode cX8_down 130 = .ok (.iload 7, 2) := by decide +kernel
theorem dX8_down_132 : decode cX8_down 132 = .ok (.iconst 4, 1) := by decide +kernel
theorem dX8_down_133 : decode cX8_down 133 = .ok (.if_icmp .ne 20, 3) := by decide +kernel
theorem dX8_down_136 : decode cX8_down 136 = .ok (.iload_n 3, 1) := by decide +kernel
theorem dX8_down_137 : decode cX8_down 137 = .ok (.iconst (-1), 1) := by decide +kernel
theorem dX8_down_138 : decode cX8_down 138 = .ok (.if_icmp .eq 15, 3) := by decide +kernel
theorem dX8_down_141 : decode cX8_down 141 = .ok (.iload_n 3, 1) := by decide +kernel
theorem dX8_down_142 : decode cX8_down 142 = .ok (.aload_n 0, 1) := by decide +kernel
theorem dX8_down_143 : decode cX8_down 143 = .ok (.getfield 38, 3) := by decide +kernel
theorem dX8_down_146 : decode cX8_down 146 = .ok (.iload 5, 2) := by decide +kernel
theorem dX8_down_148 : decode cX8_down 148 = .ok (.iaload, 1) := by decide +kernel
theorem dX8_down_149 : decode cX8_down 149 = .ok (.irem, 1) := by decide +kernel
theorem dX8_down_150 : decode cX8_down 150 = .ok (.goto 4, 3) := by decide +kernel
theorem dX8_down_153 : decode cX8_down 153 = .ok (.iconst (-1), 1) := by decide +kernel
theorem dX8_down_154 : decode cX8_down 154 = .ok (.iastore, 1) := by decide +kernel
theorem dX8_down_155 : decode cX8_down 155 = .ok (.aload_n 0, 1) := by decide +kernel
theorem dX8_down_156 : decode cX8_down 156 = .ok (.getfield 122, 3) := by decide +kernel
theorem dX8_down_159 : decode cX8_down 159 = .ok (.iconst 0, 1) := by decide +kernel
theorem dX8_down_160 : decode cX8_down 160 = .ok (.iload 7, 2) := by decide +kernel
theorem dX8_down_162 : decode cX8_down 162 = .ok (.iconst 1, 1) := by decide +kernel
theorem dX8_down_163 : decode cX8_down 163 = .ok (.if_icmp .ne 7, 3) := by decide +kernel
theorem dX8_down_166 : decode cX8_down 166 = .ok (.iconst (-1), 1) := by decide +kernel
theorem dX8_down_167 : decode cX8_down 167 = .ok (.goto 19, 3) := by decide +kernel
theorem dX8_down_170 : decode cX8_down 170 = .ok (.aload_n 0, 1) := by decide +kernel
theorem dX8_down_171 : decode cX8_down 171 = .ok (.iload_n 1, 1) := by decide +kernel
theorem dX8_down_172 : decode cX8_down 172 = .ok (.iload_n 2, 1) := by decide +kernel
theorem dX8_down_173 : decode cX8_down 173 = .ok (.iconst 1, 1) := by decide +kernel
theorem dX8_down_174 : decode cX8_down 174 = .ok (.isub, 1) := by decide +kernel
theorem dX8_down_175 : decode cX8_down 175 = .ok (.iload 6, 2) := by decide +kernel
theorem dX8_down_177 : decode cX8_down 177 = .ok (.aload_n 0, 1) := by decide +kernel
theorem dX8_down_178 : decode cX8_down 178 = .ok (.getfield 122, 3) := by decide +kernel
theorem dX8_down_181 : decode cX8_down 181 = .ok (.iconst 0, 1) := by decide +kernel
theorem dX8_down_182 : decode cX8_down 182 = .ok (.iaload, 1) := by decide +kernel
theorem dX8_down_183 : decode cX8_down 183 = .ok (.invokevirtual 261, 3) := by decide +kernel
theorem dX8_down_186 : decode cX8_down 186 = .ok (.iastore, 1) := by decide +kernel
theorem dX8_down_187 : decode cX8_down 187 = .ok (.aload_n 0, 1) := by decide +kernel
theorem dX8_down_188 : decode cX8_down 188 = .ok (.getfield 122, 3) := by decide +kernel
theorem dX8_down_191 : decode cX8_down 191 = .ok (.iconst 1, 1) := by decide +kernel
theorem dX8_down_192 : decode cX8_down 192 = .ok (.aload_n 0, 1) := by decide +kernel
theorem dX8_down_193 : decode cX8_down 193 = .ok (.iload_n 1, 1) := by decide +kernel
theorem dX8_down_194 : decode cX8_down 194 = .ok (.iload_n 2, 1) := by decide +kernel
theorem dX8_down_195 : decode cX8_down 195 = .ok (.iconst 1, 1) := by decide +kernel
theorem dX8_down_196 : decode cX8_down 196 = .ok (.isub, 1) := by decide +kernel
theorem dX8_down_197 : decode cX8_down 197 = .ok (.aload_n 0, 1) := by decide +kernel
theorem dX8_down_198 : decode cX8_down 198 = .ok (.iload 5, 2) := by decide +kernel
theorem dX8_down_200 : decode cX8_down 200 = .ok (.iconst 1, 1) := by decide +kernel
theorem dX8_down_201 : decode cX8_down 201 = .ok (.invokevirtual 256, 3) := by decide +kernel
theorem dX8_down_204 : decode cX8_down 204 = .ok (.aload_n 0, 1) := by decide +kernel
theorem dX8_down_205 : decode cX8_down 205 = .ok (.getfield 122, 3) := by decide +kernel
theorem dX8_down_208 : decode cX8_down 208 = .ok (.iconst 1, 1) := by decide +kernel
theorem dX8_down_209 : decode cX8_down 209 = .ok (.iaload, 1) := by decide +kernel
theorem dX8_down_210 : decode cX8_down 210 = .ok (.invokevirtual 261, 3) := by decide +kernel
theorem dX8_down_213 : decode cX8_down 213 = .ok (.iastore, 1) := by decide +kernel
theorem dX8_down_214 : decode cX8_down 214 = .ok (.return_, 1) := by decide +kernel
theorem dX8_goes_0 : decode cX8_goes 0 = .ok (.iload_n 1, 1) := by decide +kernel
theorem dX8_goes_1 : decode cX8_goes 1 = .ok (.ifCond .eq 16, 3) := by decide +kernel
theorem dX8_goes_4 : decode cX8_goes 4 = .ok (.aload_n 0, 1) := by decide +kernel
theorem dX8_goes_5 : decode cX8_goes 5 = .ok (.iload_n 2, 1) := by decide +kernel
theorem dX8_goes_6 : decode cX8_goes 6 = .ok (.iload_n 3, 1) := by decide +kernel
theorem dX8_goes_7 : decode cX8_goes 7 = .ok (.iload 4, 2) := by decide +kernel
theorem dX8_goes_9 : decode cX8_goes 9 = .ok (.iload 5, 2) := by decide +kernel
theorem dX8_goes_11 : decode cX8_goes 11 = .ok (.invokevirtual 265, 3) := by decide +kernel
theorem dX8_goes_14 : decode cX8_goes 14 = .ok (.goto 13, 3) := by decide +kernel
theorem dX8_goes_17 : decode cX8_goes 17 = .ok (.aload_n 0, 1) := by decide +kernel
theorem dX8_goes_18 : decode cX8_goes 18 = .ok (.iload_n 2, 1) := by decide +kernel
theorem dX8_goes_19 : decode cX8_goes 19 = .ok (.iload_n 3, 1) := by decide +kernel
theorem dX8_goes_20 : decode cX8_goes 20 = .ok (.iload 4, 2) := by decide +kernel
theorem dX8_goes_22 : decode cX8_goes 22 = .ok (.iload 5, 2) := by decide +kernel
theorem dX8_goes_24 : decode cX8_goes 24 = .ok (.invokevirtual 269, 3) := by decide +kernel
theorem dX8_goes_27 : decode cX8_goes 27 = .ok (.return_, 1) := by decide +kernel
theorem dX8_onSide_0 : decode cX8_onSide 0 = .ok (.aload_n 0, 1) := by decide +kernel
theorem dX8_onSide_1 : decode cX8_onSide 1 = .ok (.getfield 29, 3) := by decide +kernel
theorem dX8_onSide_4 : decode cX8_onSide 4 = .ok (.iload_n 1, 1) := by decide +kernel
theorem dX8_onSide_5 : decode cX8_onSide 5 = .ok (.iaload, 1) := by decide +kernel
theorem dX8_onSide_6 : decode cX8_onSide 6 = .ok (.iconst 1, 1) := by decide +kernel
theorem dX8_onSide_7 : decode cX8_onSide 7 = .ok (.if_icmp .ne 7, 3) := by decide +kernel
theorem dX8_onSide_10 : decode cX8_onSide 10 = .ok (.iconst (-1), 1) := by decide +kernel
theorem dX8_onSide_11 : decode cX8_onSide 11 = .ok (.goto 22, 3) := by decide +kernel
theorem dX8_onSide_14 : decode cX8_onSide 14 = .ok (.iload_n 2, 1) := by decide +kernel
theorem dX8_onSide_15 : decode cX8_onSide 15 = .ok (.ifCond .eq 12, 3) := by decide +kernel
theorem dX8_onSide_18 : decode cX8_onSide 18 = .ok (.aload_n 0, 1) := by decide +kernel
theorem dX8_onSide_19 : decode cX8_onSide 19 = .ok (.iload_n 1, 1) := by decide +kernel
theorem dX8_onSide_20 : decode cX8_onSide 20 = .ok (.iload_n 3, 1) := by decide +kernel
theorem dX8_onSide_21 : decode cX8_onSide 21 = .ok (.invokevirtual 256, 3) := by decide +kernel
theorem dX8_onSide_24 : decode cX8_onSide 24 = .ok (.goto 9, 3) := by decide +kernel
theorem dX8_onSide_27 : decode cX8_onSide 27 = .ok (.aload_n 0, 1) := by decide +kernel
theorem dX8_onSide_28 : decode cX8_onSide 28 = .ok (.iload_n 1, 1) := by decide +kernel
theorem dX8_onSide_29 : decode cX8_onSide 29 = .ok (.iload_n 3, 1) := by decide +kernel
theorem dX8_onSide_30 : decode cX8_onSide 30 = .ok (.invokevirtual 254, 3) := by decide +kernel
theorem dX8_onSide_33 : decode cX8_onSide 33 = .ok (.ireturn, 1) := by decide +kernel
theorem dX8_moves_0 : decode cX8_moves 0 = .ok (.aload_n 0, 1) := by decide +kernel
theorem dX8_moves_1 : decode cX8_moves 1 = .ok (.getfield 62, 3) := by decide +kernel
theorem dX8_moves_4 : decode cX8_moves 4 = .ok (.iload_n 1, 1) := by decide +kernel
theorem dX8_moves_5 : decode cX8_moves 5 = .ok (.iaload, 1) := by decide +kernel
theorem dX8_moves_6 : decode cX8_moves 6 = .ok (.istore 4, 2) := by decide +kernel
theorem dX8_moves_8 : decode cX8_moves 8 = .ok (.bipush 24, 2) := by decide +kernel
theorem dX8_moves_10 : decode cX8_moves 10 = .ok (.iload 4, 2) := by decide +kernel
theorem dX8_moves_12 : decode cX8_moves 12 = .ok (.imul, 1) := by decide +kernel
theorem dX8_moves_13 : decode cX8_moves 13 = .ok (.iload_n 2, 1) := by decide +kernel
theorem dX8_moves_14 : decode cX8_moves 14 = .ok (.iadd, 1) := by decide +kernel
theorem dX8_moves_15 : decode cX8_moves 15 = .ok (.istore 5, 2) := by decide +kernel
theorem dX8_moves_17 : decode cX8_moves 17 = .ok (.bipush 24, 2) := by decide +kernel
theorem dX8_moves_19 : decode cX8_moves 19 = .ok (.iload_n 1, 1) := by decide +kernel
theorem dX8_moves_20 : decode cX8_moves 20 = .ok (.imul, 1) := by decide +kernel
theorem dX8_moves_21 : decode cX8_moves 21 = .ok (.iload_n 2, 1) := by decide +kernel
theorem dX8_moves_22 : decode cX8_moves 22 = .ok (.iadd, 1) := by decide +kernel
theorem dX8_moves_23 : decode cX8_moves 23 = .ok (.istore 6, 2) := by decide +kernel
theorem dX8_moves_25 : decode cX8_moves 25 = .ok (.iconst 0, 1) := by decide +kernel
theorem dX8_moves_26 : decode cX8_moves 26 = .ok (.istore 7, 2) := by decide +kernel
theorem dX8_moves_28 : decode cX8_moves 28 = .ok (.iload 7, 2) := by decide +kernel
theorem dX8_moves_30 : decode cX8_moves 30 = .ok (.iconst 2, 1) := by decide +kernel
theorem dX8_moves_31 : decode cX8_moves 31 = .ok (.if_icmp .ge 49, 3) := by decide +kernel
theorem dX8_moves_34 : decode cX8_moves 34 = .ok (.aload_n 0, 1) := by decide +kernel
theorem dX8_moves_35 : decode cX8_moves 35 = .ok (.iload 5, 2) := by decide +kernel
theorem dX8_moves_37 : decode cX8_moves 37 = .ok (.iload_n 3, 1) := by decide +kernel
theorem dX8_moves_38 : decode cX8_moves 38 = .ok (.iload 7, 2) := by decide +kernel
theorem dX8_moves_40 : decode cX8_moves 40 = .ok (.invokevirtual 272, 3) := by decide +kernel
theorem dX8_moves_43 : decode cX8_moves 43 = .ok (.istore 8, 2) := by decide +kernel
theorem dX8_moves_45 : decode cX8_moves 45 = .ok (.aload_n 0, 1) := by decide +kernel
theorem dX8_moves_46 : decode cX8_moves 46 = .ok (.getfield 125, 3) := by decide +kernel
theorem dX8_moves_49 : decode cX8_moves 49 = .ok (.iload 7, 2) := by decide +kernel
theorem dX8_moves_51 : decode cX8_moves 51 = .ok (.iload 8, 2) := by decide +kernel
theorem dX8_moves_53 : decode cX8_moves 53 = .ok (.iconst (-1), 1) := by decide +kernel
theorem dX8_moves_54 : decode cX8_moves 54 = .ok (.if_icmp .ne 7, 3) := by decide +kernel
theorem dX8_moves_57 : decode cX8_moves 57 = .ok (.iconst (-1), 1) := by decide +kernel
theorem dX8_moves_58 : decode cX8_moves 58 = .ok (.goto 15, 3) := by decide +kernel
theorem dX8_moves_61 : decode cX8_moves 61 = .ok (.aload_n 0, 1) := by decide +kernel
theorem dX8_moves_62 : decode cX8_moves 62 = .ok (.getfield 68, 3) := by decide +kernel
theorem dX8_moves_65 : decode cX8_moves 65 = .ok (.bipush 48, 2) := by decide +kernel
theorem dX8_moves_67 : decode cX8_moves 67 = .ok (.iload_n 1, 1) := by decide +kernel
theorem dX8_moves_68 : decode cX8_moves 68 = .ok (.imul, 1) := by decide +kernel
theorem dX8_moves_69 : decode cX8_moves 69 = .ok (.iload 8, 2) := by decide +kernel
theorem dX8_moves_71 : decode cX8_moves 71 = .ok (.iadd, 1) := by decide +kernel
theorem dX8_moves_72 : decode cX8_moves 72 = .ok (.iaload, 1) := by decide +kernel
theorem dX8_moves_73 : decode cX8_moves 73 = .ok (.iastore, 1) := by decide +kernel
theorem dX8_moves_74 : decode cX8_moves 74 = .ok (.iinc 7 1, 3) := by decide +kernel
theorem dX8_moves_77 : decode cX8_moves 77 = .ok (.goto (-49), 3) := by decide +kernel
theorem dX8_moves_80 : decode cX8_moves 80 = .ok (.aload_n 0, 1) := by decide +kernel
theorem dX8_moves_81 : decode cX8_moves 81 = .ok (.iload_n 3, 1) := by decide +kernel
theorem dX8_moves_82 : decode cX8_moves 82 = .ok (.iload 4, 2) := by decide +kernel
theorem dX8_moves_84 : decode cX8_moves 84 = .ok (.iload_n 2, 1) := by decide +kernel
theorem dX8_moves_85 : decode cX8_moves 85 = .ok (.aload_n 0, 1) := by decide +kernel
theorem dX8_moves_86 : decode cX8_moves 86 = .ok (.getfield 125, 3) := by decide +kernel
theorem dX8_moves_89 : decode cX8_moves 89 = .ok (.iconst 0, 1) := by decide +kernel
theorem dX8_moves_90 : decode cX8_moves 90 = .ok (.iaload, 1) := by decide +kernel
theorem dX8_moves_91 : decode cX8_moves 91 = .ok (.aload_n 0, 1) := by decide +kernel
theorem dX8_moves_92 : decode cX8_moves 92 = .ok (.getfield 125, 3) := by decide +kernel
theorem dX8_moves_95 : decode cX8_moves 95 = .ok (.iconst 1, 1) := by decide +kernel
theorem dX8_moves_96 : decode cX8_moves 96 = .ok (.iaload, 1) := by decide +kernel
theorem dX8_moves_97 : decode cX8_moves 97 = .ok (.invokevirtual 276, 3) := by decide +kernel
theorem dX8_moves_100 : decode cX8_moves 100 = .ok (.aload_n 0, 1) := by decide +kernel
theorem dX8_moves_101 : decode cX8_moves 101 = .ok (.getfield 128, 3) := by decide +kernel
theorem dX8_moves_104 : decode cX8_moves 104 = .ok (.iconst 0, 1) := by decide +kernel
theorem dX8_moves_105 : decode cX8_moves 105 = .ok (.aload_n 0, 1) := by decide +kernel
theorem dX8_moves_106 : decode cX8_moves 106 = .ok (.getfield 122, 3) := by decide +kernel
theorem dX8_moves_109 : decode cX8_moves 109 = .ok (.iconst 0, 1) := by decide +kernel
theorem dX8_moves_110 : decode cX8_moves 110 = .ok (.iaload, 1) := by decide +kernel
theorem dX8_moves_111 : decode cX8_moves 111 = .ok (.iastore, 1) := by decide +kernel
theorem dX8_moves_112 : decode cX8_moves 112 = .ok (.aload_n 0, 1) := by decide +kernel
theorem dX8_moves_113 : decode cX8_moves 113 = .ok (.getfield 128, 3) := by decide +kernel
theorem dX8_moves_116 : decode cX8_moves 116 = .ok (.iconst 1, 1) := by decide +kernel
theorem dX8_moves_117 : decode cX8_moves 117 = .ok (.aload_n 0, 1) := by decide +kernel
theorem dX8_moves_118 : decode cX8_moves 118 = .ok (.getfield 122, 3) := by decide +kernel
theorem dX8_moves_121 : decode cX8_moves 121 = .ok (.iconst 1, 1) := by decide +kernel
theorem dX8_moves_122 : decode cX8_moves 122 = .ok (.iaload, 1) := by decide +kernel
theorem dX8_moves_123 : decode cX8_moves 123 = .ok (.iastore, 1) := by decide +kernel
theorem dX8_moves_124 : decode cX8_moves 124 = .ok (.aload_n 0, 1) := by decide +kernel
theorem dX8_moves_125 : decode cX8_moves 125 = .ok (.getfield 74, 3) := by decide +kernel
theorem dX8_moves_128 : decode cX8_moves 128 = .ok (.iload 6, 2) := by decide +kernel
theorem dX8_moves_130 : decode cX8_moves 130 = .ok (.iaload, 1) := by decide +kernel
theorem dX8_moves_131 : decode cX8_moves 131 = .ok (.iload_n 3, 1) := by decide +kernel
theorem dX8_moves_132 : decode cX8_moves 132 = .ok (.ifCond .eq 7, 3) := by decide +kernel
theorem dX8_moves_135 : decode cX8_moves 135 = .ok (.iconst 2, 1) := by decide +kernel
theorem dX8_moves_136 : decode cX8_moves 136 = .ok (.goto 4, 3) := by decide +kernel
theorem dX8_moves_139 : decode cX8_moves 139 = .ok (.iconst 1, 1) := by decide +kernel
theorem dX8_moves_140 : decode cX8_moves 140 = .ok (.if_icmp .ne 122, 3) := by decide +kernel
theorem dX8_moves_143 : decode cX8_moves 143 = .ok (.aload_n 0, 1) := by decide +kernel
theorem dX8_moves_144 : decode cX8_moves 144 = .ok (.getfield 74, 3) := by decide +kernel
theorem dX8_moves_147 : decode cX8_moves 147 = .ok (.iload 6, 2) := by decide +kernel
theorem dX8_moves_149 : decode cX8_moves 149 = .ok (.iconst 0, 1) := by decide +kernel
theorem dX8_moves_150 : decode cX8_moves 150 = .ok (.iastore, 1) := by decide +kernel
theorem dX8_moves_151 : decode cX8_moves 151 = .ok (.aload_n 0, 1) := by decide +kernel
theorem dX8_moves_152 : decode cX8_moves 152 = .ok (.iload_n 3, 1) := by decide +kernel
theorem dX8_moves_153 : decode cX8_moves 153 = .ok (.ifCond .ne 7, 3) := by decide +kernel
theorem dX8_moves_156 : decode cX8_moves 156 = .ok (.iconst 1, 1) := by decide +kernel
theorem dX8_moves_157 : decode cX8_moves 157 = .ok (.goto 4, 3) := by decide +kernel
theorem dX8_moves_160 : decode cX8_moves 160 = .ok (.iconst 0, 1) := by decide +kernel
theorem dX8_moves_161 : decode cX8_moves 161 = .ok (.iload 4, 2) := by decide +kernel
theorem dX8_moves_163 : decode cX8_moves 163 = .ok (.iload_n 2, 1) := by decide +kernel
theorem dX8_moves_164 : decode cX8_moves 164 = .ok (.aload_n 0, 1) := by decide +kernel
theorem dX8_moves_165 : decode cX8_moves 165 = .ok (.getfield 77, 3) := by decide +kernel
theorem dX8_moves_168 : decode cX8_moves 168 = .ok (.iconst 2, 1) := by decide +kernel
theorem dX8_moves_169 : decode cX8_moves 169 = .ok (.iload 6, 2) := by decide +kernel
theorem dX8_moves_171 : decode cX8_moves 171 = .ok (.imul, 1) := by decide +kernel
theorem dX8_moves_172 : decode cX8_moves 172 = .ok (.iaload, 1) := by decide +kernel
theorem dX8_moves_173 : decode cX8_moves 173 = .ok (.aload_n 0, 1) := by decide +kernel
theorem dX8_moves_174 : decode cX8_moves 174 = .ok (.getfield 77, 3) := by decide +kernel
theorem dX8_moves_177 : decode cX8_moves 177 = .ok (.iconst 2, 1) := by decide +kernel
theorem dX8_moves_178 : decode cX8_moves 178 = .ok (.iload 6, 2) := by decide +kernel
theorem dX8_moves_180 : decode cX8_moves 180 = .ok (.imul, 1) := by decide +kernel
theorem dX8_moves_181 : decode cX8_moves 181 = .ok (.iconst 1, 1) := by decide +kernel
theorem dX8_moves_182 : decode cX8_moves 182 = .ok (.iadd, 1) := by decide +kernel
theorem dX8_moves_183 : decode cX8_moves 183 = .ok (.iaload, 1) := by decide +kernel
theorem dX8_moves_184 : decode cX8_moves 184 = .ok (.invokevirtual 276, 3) := by decide +kernel
theorem dX8_moves_187 : decode cX8_moves 187 = .ok (.aload_n 0, 1) := by decide +kernel
theorem dX8_moves_188 : decode cX8_moves 188 = .ok (.getfield 122, 3) := by decide +kernel
theorem dX8_moves_191 : decode cX8_moves 191 = .ok (.iconst 0, 1) := by decide +kernel
theorem dX8_moves_192 : decode cX8_moves 192 = .ok (.iaload, 1) := by decide +kernel
theorem dX8_moves_193 : decode cX8_moves 193 = .ok (.aload_n 0, 1) := by decide +kernel
theorem dX8_moves_194 : decode cX8_moves 194 = .ok (.getfield 125, 3) := by decide +kernel
theorem dX8_moves_197 : decode cX8_moves 197 = .ok (.iconst 0, 1) := by decide +kernel
theorem dX8_moves_198 : decode cX8_moves 198 = .ok (.iaload, 1) := by decide +kernel
theorem dX8_moves_199 : decode cX8_moves 199 = .ok (.if_icmp .ne 53, 3) := by decide +kernel
theorem dX8_moves_202 : decode cX8_moves 202 = .ok (.aload_n 0, 1) := by decide +kernel
theorem dX8_moves_203 : decode cX8_moves 203 = .ok (.getfield 122, 3) := by decide +kernel
theorem dX8_moves_206 : decode cX8_moves 206 = .ok (.iconst 1, 1) := by decide +kernel
theorem dX8_moves_207 : decode cX8_moves 207 = .ok (.iaload, 1) := by decide +kernel
theorem dX8_moves_208 : decode cX8_moves 208 = .ok (.aload_n 0, 1) := by decide +kernel
theorem dX8_moves_209 : decode cX8_moves 209 = .ok (.getfield 125, 3) := by decide +kernel
theorem dX8_moves_212 : decode cX8_moves 212 = .ok (.iconst 1, 1) := by decide +kernel
theorem dX8_moves_213 : decode cX8_moves 213 = .ok (.iaload, 1) := by decide +kernel
theorem dX8_moves_214 : decode cX8_moves 214 = .ok (.if_icmp .ne 38, 3) := by decide +kernel
theorem dX8_moves_217 : decode cX8_moves 217 = .ok (.aload_n 0, 1) := by decide +kernel
theorem dX8_moves_218 : decode cX8_moves 218 = .ok (.getfield 128, 3) := by decide +kernel
theorem dX8_moves_221 : decode cX8_moves 221 = .ok (.iconst 0, 1) := by decide +kernel
theorem dX8_moves_222 : decode cX8_moves 222 = .ok (.aload_n 0, 1) := by decide +kernel
theorem dX8_moves_223 : decode cX8_moves 223 = .ok (.getfield 77, 3) := by decide +kernel
theorem dX8_moves_226 : decode cX8_moves 226 = .ok (.iconst 2, 1) := by decide +kernel
theorem dX8_moves_227 : decode cX8_moves 227 = .ok (.iload 6, 2) := by decide +kernel
theorem dX8_moves_229 : decode cX8_moves 229 = .ok (.imul, 1) := by decide +kernel
theorem dX8_moves_230 : decode cX8_moves 230 = .ok (.iaload, 1) := by decide +kernel
theorem dX8_moves_231 : decode cX8_moves 231 = .ok (.iastore, 1) := by decide +kernel
theorem dX8_moves_232 : decode cX8_moves 232 = .ok (.aload_n 0, 1) := by decide +kernel
theorem dX8_moves_233 : decode cX8_moves 233 = .ok (.getfield 128, 3) := by decide +kernel
theorem dX8_moves_236 : decode cX8_moves 236 = .ok (.iconst 1, 1) := by decide +kernel
theorem dX8_moves_237 : decode cX8_moves 237 = .ok (.aload_n 0, 1) := by decide +kernel
theorem dX8_moves_238 : decode cX8_moves 238 = .ok (.getfield 77, 3) := by decide +kernel
theorem dX8_moves_241 : decode cX8_moves 241 = .ok (.iconst 2, 1) := by decide +kernel
theorem dX8_moves_242 : decode cX8_moves 242 = .ok (.iload 6, 2) := by decide +kernel
theorem dX8_moves_244 : decode cX8_moves 244 = .ok (.imul, 1) := by decide +kernel
theorem dX8_moves_245 : decode cX8_moves 245 = .ok (.iconst 1, 1) := by decide +kernel
theorem dX8_moves_246 : decode cX8_moves 246 = .ok (.iadd, 1) := by decide +kernel
theorem dX8_moves_247 : decode cX8_moves 247 = .ok (.iaload, 1) := by decide +kernel
theorem dX8_moves_248 : decode cX8_moves 248 = .ok (.iastore, 1) := by decide +kernel
theorem dX8_moves_249 : decode cX8_moves 249 = .ok (.goto 13, 3) := by decide +kernel
theorem dX8_moves_252 : decode cX8_moves 252 = .ok (.aload_n 0, 1) := by decide +kernel
theorem dX8_moves_253 : decode cX8_moves 253 = .ok (.getfield 71, 3) := by decide +kernel
theorem dX8_moves_256 : decode cX8_moves 256 = .ok (.iload_n 1, 1) := by decide +kernel
theorem dX8_moves_257 : decode cX8_moves 257 = .ok (.dup2, 1) := by decide +kernel
theorem dX8_moves_258 : decode cX8_moves 258 = .ok (.iaload, 1) := by decide +kernel
theorem dX8_moves_259 : decode cX8_moves 259 = .ok (.iconst 1, 1) := by decide +kernel
theorem dX8_moves_260 : decode cX8_moves 260 = .ok (.iadd, 1) := by decide +kernel
theorem dX8_moves_261 : decode cX8_moves 261 = .ok (.iastore, 1) := by decide +kernel
theorem dX8_moves_262 : decode cX8_moves 262 = .ok (.aload_n 0, 1) := by decide +kernel
theorem dX8_moves_263 : decode cX8_moves 263 = .ok (.iload_n 3, 1) := by decide +kernel
theorem dX8_moves_264 : decode cX8_moves 264 = .ok (.ifCond .ne 7, 3) := by decide +kernel
theorem dX8_moves_267 : decode cX8_moves 267 = .ok (.iconst 1, 1) := by decide +kernel
theorem dX8_moves_268 : decode cX8_moves 268 = .ok (.goto 4, 3) := by decide +kernel
theorem dX8_moves_271 : decode cX8_moves 271 = .ok (.iconst 0, 1) := by decide +kernel
theorem dX8_moves_272 : decode cX8_moves 272 = .ok (.iload 4, 2) := by decide +kernel
theorem dX8_moves_274 : decode cX8_moves 274 = .ok (.iload_n 2, 1) := by decide +kernel
theorem dX8_moves_275 : decode cX8_moves 275 = .ok (.aload_n 0, 1) := by decide +kernel
theorem dX8_moves_276 : decode cX8_moves 276 = .ok (.getfield 128, 3) := by decide +kernel
theorem dX8_moves_279 : decode cX8_moves 279 = .ok (.iconst 0, 1) := by decide +kernel
theorem dX8_moves_280 : decode cX8_moves 280 = .ok (.iaload, 1) := by decide +kernel
theorem dX8_moves_281 : decode cX8_moves 281 = .ok (.aload_n 0, 1) := by decide +kernel
theorem dX8_moves_282 : decode cX8_moves 282 = .ok (.getfield 128, 3) := by decide +kernel
theorem dX8_moves_285 : decode cX8_moves 285 = .ok (.iconst 1, 1) := by decide +kernel
theorem dX8_moves_286 : decode cX8_moves 286 = .ok (.iaload, 1) := by decide +kernel
theorem dX8_moves_287 : decode cX8_moves 287 = .ok (.invokevirtual 276, 3) := by decide +kernel
theorem dX8_moves_290 : decode cX8_moves 290 = .ok (.aload_n 0, 1) := by decide +kernel
theorem dX8_moves_291 : decode cX8_moves 291 = .ok (.getfield 122, 3) := by decide +kernel
theorem dX8_moves_294 : decode cX8_moves 294 = .ok (.iconst 0, 1) := by decide +kernel
theorem dX8_moves_295 : decode cX8_moves 295 = .ok (.iaload, 1) := by decide +kernel
theorem dX8_moves_296 : decode cX8_moves 296 = .ok (.aload_n 0, 1) := by decide +kernel
theorem dX8_moves_297 : decode cX8_moves 297 = .ok (.getfield 125, 3) := by decide +kernel
theorem dX8_moves_300 : decode cX8_moves 300 = .ok (.iconst 0, 1) := by decide +kernel
theorem dX8_moves_301 : decode cX8_moves 301 = .ok (.iaload, 1) := by decide +kernel
theorem dX8_moves_302 : decode cX8_moves 302 = .ok (.if_icmp .ne 18, 3) := by decide +kernel
theorem dX8_moves_305 : decode cX8_moves 305 = .ok (.aload_n 0, 1) := by decide +kernel
theorem dX8_moves_306 : decode cX8_moves 306 = .ok (.getfield 122, 3) := by decide +kernel
theorem dX8_moves_309 : decode cX8_moves 309 = .ok (.iconst 1, 1) := by decide +kernel
theorem dX8_moves_310 : decode cX8_moves 310 = .ok (.iaload, 1) := by decide +kernel
theorem dX8_moves_311 : decode cX8_moves 311 = .ok (.aload_n 0, 1) := by decide +kernel
theorem dX8_moves_312 : decode cX8_moves 312 = .ok (.getfield 125, 3) := by decide +kernel
theorem dX8_moves_315 : decode cX8_moves 315 = .ok (.iconst 1, 1) := by decide +kernel
theorem dX8_moves_316 : decode cX8_moves 316 = .ok (.iaload, 1) := by decide +kernel
theorem dX8_moves_317 : decode cX8_moves 317 = .ok (.if_icmp .eq 51, 3) := by decide +kernel
theorem dX8_moves_320 : decode cX8_moves 320 = .ok (.aload_n 0, 1) := by decide +kernel
theorem dX8_moves_321 : decode cX8_moves 321 = .ok (.getfield 74, 3) := by decide +kernel
theorem dX8_moves_324 : decode cX8_moves 324 = .ok (.iload 6, 2) := by decide +kernel
theorem dX8_moves_326 : decode cX8_moves 326 = .ok (.iload_n 3, 1) := by decide +kernel
theorem dX8_moves_327 : decode cX8_moves 327 = .ok (.ifCond .eq 7, 3) := by decide +kernel
theorem dX8_moves_330 : decode cX8_moves 330 = .ok (.iconst 1, 1) := by decide +kernel
theorem dX8_moves_331 : decode cX8_moves 331 = .ok (.goto 4, 3) := by decide +kernel
theorem dX8_moves_334 : decode cX8_moves 334 = .ok (.iconst 2, 1) := by decide +kernel
theorem dX8_moves_335 : decode cX8_moves 335 = .ok (.iastore, 1) := by decide +kernel
theorem dX8_moves_336 : decode cX8_moves 336 = .ok (.aload_n 0, 1) := by decide +kernel
theorem dX8_moves_337 : decode cX8_moves 337 = .ok (.getfield 77, 3) := by decide +kernel
theorem dX8_moves_340 : decode cX8_moves 340 = .ok (.iconst 2, 1) := by decide +kernel
theorem dX8_moves_341 : decode cX8_moves 341 = .ok (.iload 6, 2) := by decide +kernel
theorem dX8_moves_343 : decode cX8_moves 343 = .ok (.imul, 1) := by decide +kernel
theorem dX8_moves_344 : decode cX8_moves 344 = .ok (.aload_n 0, 1) := by decide +kernel
theorem dX8_moves_345 : decode cX8_moves 345 = .ok (.getfield 125, 3) := by decide +kernel
theorem dX8_moves_348 : decode cX8_moves 348 = .ok (.iconst 0, 1) := by decide +kernel
theorem dX8_moves_349 : decode cX8_moves 349 = .ok (.iaload, 1) := by decide +kernel
theorem dX8_moves_350 : decode cX8_moves 350 = .ok (.iastore, 1) := by decide +kernel
theorem dX8_moves_351 : decode cX8_moves 351 = .ok (.aload_n 0, 1) := by decide +kernel
theorem dX8_moves_352 : decode cX8_moves 352 = .ok (.getfield 77, 3) := by decide +kernel
theorem dX8_moves_355 : decode cX8_moves 355 = .ok (.iconst 2, 1) := by decide +kernel
theorem dX8_moves_356 : decode cX8_moves 356 = .ok (.iload 6, 2) := by decide +kernel
theorem dX8_moves_358 : decode cX8_moves 358 = .ok (.imul, 1) := by decide +kernel
theorem dX8_moves_359 : decode cX8_moves 359 = .ok (.iconst 1, 1) := by decide +kernel
theorem dX8_moves_360 : decode cX8_moves 360 = .ok (.iadd, 1) := by decide +kernel
theorem dX8_moves_361 : decode cX8_moves 361 = .ok (.aload_n 0, 1) := by decide +kernel
theorem dX8_moves_362 : decode cX8_moves 362 = .ok (.getfield 125, 3) := by decide +kernel
theorem dX8_moves_365 : decode cX8_moves 365 = .ok (.iconst 1, 1) := by decide +kernel
theorem dX8_moves_366 : decode cX8_moves 366 = .ok (.iaload, 1) := by decide +kernel
theorem dX8_moves_367 : decode cX8_moves 367 = .ok (.iastore, 1) := by decide +kernel
theorem dX8_moves_368 : decode cX8_moves 368 = .ok (.iconst 0, 1) := by decide +kernel
theorem dX8_moves_369 : decode cX8_moves 369 = .ok (.istore 7, 2) := by decide +kernel
theorem dX8_moves_371 : decode cX8_moves 371 = .ok (.iload 7, 2) := by decide +kernel
theorem dX8_moves_373 : decode cX8_moves 373 = .ok (.iconst 2, 1) := by decide +kernel
theorem dX8_moves_374 : decode cX8_moves 374 = .ok (.if_icmp .ge 39, 3) := by decide +kernel
theorem dX8_moves_377 : decode cX8_moves 377 = .ok (.aload_n 0, 1) := by decide +kernel
theorem dX8_moves_378 : decode cX8_moves 378 = .ok (.iload 5, 2) := by decide +kernel
theorem dX8_moves_380 : decode cX8_moves 380 = .ok (.iload_n 3, 1) := by decide +kernel
theorem dX8_moves_381 : decode cX8_moves 381 = .ok (.iload 7, 2) := by decide +kernel
theorem dX8_moves_383 : decode cX8_moves 383 = .ok (.invokevirtual 272, 3) := by decide +kernel
theorem dX8_moves_386 : decode cX8_moves 386 = .ok (.istore 8, 2) := by decide +kernel
theorem dX8_moves_388 : decode cX8_moves 388 = .ok (.iload 8, 2) := by decide +kernel
theorem dX8_moves_390 : decode cX8_moves 390 = .ok (.iconst (-1), 1) := by decide +kernel
theorem dX8_moves_391 : decode cX8_moves 391 = .ok (.if_icmp .eq 16, 3) := by decide +kernel
theorem dX8_moves_394 : decode cX8_moves 394 = .ok (.aload_n 0, 1) := by decide +kernel
theorem dX8_moves_395 : decode cX8_moves 395 = .ok (.getfield 68, 3) := by decide +kernel
theorem dX8_moves_398 : decode cX8_moves 398 = .ok (.bipush 48, 2) := by decide +kernel
theorem dX8_moves_400 : decode cX8_moves 400 = .ok (.iload_n 1, 1) := by decide +kernel
theorem dX8_moves_401 : decode cX8_moves 401 = .ok (.imul, 1) := by decide +kernel
theorem dX8_moves_402 : decode cX8_moves 402 = .ok (.iload 8, 2) := by decide +kernel
theorem dX8_moves_404 : decode cX8_moves 404 = .ok (.iadd, 1) := by decide +kernel
theorem dX8_moves_405 : decode cX8_moves 405 = .ok (.iconst (-1), 1) := by decide +kernel
theorem dX8_moves_406 : decode cX8_moves 406 = .ok (.iastore, 1) := by decide +kernel
theorem dX8_moves_407 : decode cX8_moves 407 = .ok (.iinc 7 1, 3) := by decide +kernel
theorem dX8_moves_410 : decode cX8_moves 410 = .ok (.goto (-39), 3) := by decide +kernel
theorem dX8_moves_413 : decode cX8_moves 413 = .ok (.iconst 0, 1) := by decide +kernel
theorem dX8_moves_414 : decode cX8_moves 414 = .ok (.istore 7, 2) := by decide +kernel
theorem dX8_moves_416 : decode cX8_moves 416 = .ok (.iload 7, 2) := by decide +kernel
theorem dX8_moves_418 : decode cX8_moves 418 = .ok (.iconst 2, 1) := by decide +kernel
theorem dX8_moves_419 : decode cX8_moves 419 = .ok (.if_icmp .ge 53, 3) := by decide +kernel
theorem dX8_moves_422 : decode cX8_moves 422 = .ok (.aload_n 0, 1) := by decide +kernel
theorem dX8_moves_423 : decode cX8_moves 423 = .ok (.iload 5, 2) := by decide +kernel
theorem dX8_moves_425 : decode cX8_moves 425 = .ok (.iload_n 3, 1) := by decide +kernel
theorem dX8_moves_426 : decode cX8_moves 426 = .ok (.ifCond .ne 7, 3) := by decide +kernel
theorem dX8_moves_429 : decode cX8_moves 429 = .ok (.iconst 1, 1) := by decide +kernel
theorem dX8_moves_430 : decode cX8_moves 430 = .ok (.goto 4, 3) := by decide +kernel
theorem dX8_moves_433 : decode cX8_moves 433 = .ok (.iconst 0, 1) := by decide +kernel
theorem dX8_moves_434 : decode cX8_moves 434 = .ok (.iload 7, 2) := by decide +kernel
theorem dX8_moves_436 : decode cX8_moves 436 = .ok (.invokevirtual 272, 3) := by decide +kernel
theorem dX8_moves_439 : decode cX8_moves 439 = .ok (.istore 8, 2) := by decide +kernel
theorem dX8_moves_441 : decode cX8_moves 441 = .ok (.iload 8, 2) := by decide +kernel
theorem dX8_moves_443 : decode cX8_moves 443 = .ok (.iconst (-1), 1) := by decide +kernel
theorem dX8_moves_444 : decode cX8_moves 444 = .ok (.if_icmp .eq 22, 3) := by decide +kernel
theorem dX8_moves_447 : decode cX8_moves 447 = .ok (.aload_n 0, 1) := by decide +kernel
theorem dX8_moves_448 : decode cX8_moves 448 = .ok (.getfield 68, 3) := by decide +kernel
theorem dX8_moves_451 : decode cX8_moves 451 = .ok (.bipush 48, 2) := by decide +kernel
theorem dX8_moves_453 : decode cX8_moves 453 = .ok (.iload_n 1, 1) := by decide +kernel
theorem dX8_moves_454 : decode cX8_moves 454 = .ok (.imul, 1) := by decide +kernel
theorem dX8_moves_455 : decode cX8_moves 455 = .ok (.iload 8, 2) := by decide +kernel
theorem dX8_moves_457 : decode cX8_moves 457 = .ok (.iadd, 1) := by decide +kernel
theorem dX8_moves_458 : decode cX8_moves 458 = .ok (.aload_n 0, 1) := by decide +kernel
theorem dX8_moves_459 : decode cX8_moves 459 = .ok (.getfield 128, 3) := by decide +kernel
theorem dX8_moves_462 : decode cX8_moves 462 = .ok (.iload 7, 2) := by decide +kernel
theorem dX8_moves_464 : decode cX8_moves 464 = .ok (.iaload, 1) := by decide +kernel
theorem dX8_moves_465 : decode cX8_moves 465 = .ok (.iastore, 1) := by decide +kernel
theorem dX8_moves_466 : decode cX8_moves 466 = .ok (.iinc 7 1, 3) := by decide +kernel
theorem dX8_moves_469 : decode cX8_moves 469 = .ok (.goto (-53), 3) := by decide +kernel
theorem dX8_moves_472 : decode cX8_moves 472 = .ok (.aload_n 0, 1) := by decide +kernel
theorem dX8_moves_473 : decode cX8_moves 473 = .ok (.getfield 65, 3) := by decide +kernel
theorem dX8_moves_476 : decode cX8_moves 476 = .ok (.iload_n 1, 1) := by decide +kernel
theorem dX8_moves_477 : decode cX8_moves 477 = .ok (.iload_n 3, 1) := by decide +kernel
theorem dX8_moves_478 : decode cX8_moves 478 = .ok (.ifCond .eq 7, 3) := by decide +kernel
theorem dX8_moves_481 : decode cX8_moves 481 = .ok (.iload_n 2, 1) := by decide +kernel
theorem dX8_moves_482 : decode cX8_moves 482 = .ok (.goto 6, 3) := by decide +kernel
theorem dX8_moves_485 : decode cX8_moves 485 = .ok (.iload_n 2, 1) := by decide +kernel
theorem dX8_moves_486 : decode cX8_moves 486 = .ok (.iconst 1, 1) := by decide +kernel
theorem dX8_moves_487 : decode cX8_moves 487 = .ok (.isub, 1) := by decide +kernel
theorem dX8_moves_488 : decode cX8_moves 488 = .ok (.iastore, 1) := by decide +kernel
theorem dX8_moves_489 : decode cX8_moves 489 = .ok (.return_, 1) := by decide +kernel
theorem dX8_movesTo_0 : decode cX8_movesTo 0 = .ok (.aload_n 0, 1) := by decide +kernel
theorem dX8_movesTo_1 : decode cX8_movesTo 1 = .ok (.getfield 65, 3) := by decide +kernel
theorem dX8_movesTo_4 : decode cX8_movesTo 4 = .ok (.iload_n 1, 1) := by decide +kernel
theorem dX8_movesTo_5 : decode cX8_movesTo 5 = .ok (.iaload, 1) := by decide +kernel
theorem dX8_movesTo_6 : decode cX8_movesTo 6 = .ok (.iload_n 2, 1) := by decide +kernel
theorem dX8_movesTo_7 : decode cX8_movesTo 7 = .ok (.if_icmp .ge 20, 3) := by decide +kernel
theorem dX8_movesTo_10 : decode cX8_movesTo 10 = .ok (.aload_n 0, 1) := by decide +kernel
theorem dX8_movesTo_11 : decode cX8_movesTo 11 = .ok (.iload_n 1, 1) := by decide +kernel
theorem dX8_movesTo_12 : decode cX8_movesTo 12 = .ok (.aload_n 0, 1) := by decide +kernel
theorem dX8_movesTo_13 : decode cX8_movesTo 13 = .ok (.getfield 65, 3) := by decide +kernel
theorem dX8_movesTo_16 : decode cX8_movesTo 16 = .ok (.iload_n 1, 1) := by decide +kernel
theorem dX8_movesTo_17 : decode cX8_movesTo 17 = .ok (.iaload, 1) := by decide +kernel
theorem dX8_movesTo_18 : decode cX8_movesTo 18 = .ok (.iconst 1, 1) := by decide +kernel
theorem dX8_movesTo_19 : decode cX8_movesTo 19 = .ok (.iadd, 1) := by decide +kernel
theorem dX8_movesTo_20 : decode cX8_movesTo 20 = .ok (.iconst 1, 1) := by decide +kernel
theorem dX8_movesTo_21 : decode cX8_movesTo 21 = .ok (.invokevirtual 280, 3) := by decide +kernel
theorem dX8_movesTo_24 : decode cX8_movesTo 24 = .ok (.goto (-24), 3) := by decide +kernel
theorem dX8_movesTo_27 : decode cX8_movesTo 27 = .ok (.aload_n 0, 1) := by decide +kernel
theorem dX8_movesTo_28 : decode cX8_movesTo 28 = .ok (.getfield 65, 3) := by decide +kernel
theorem dX8_movesTo_31 : decode cX8_movesTo 31 = .ok (.iload_n 1, 1) := by decide +kernel
theorem dX8_movesTo_32 : decode cX8_movesTo 32 = .ok (.iaload, 1) := by decide +kernel
theorem dX8_movesTo_33 : decode cX8_movesTo 33 = .ok (.iload_n 2, 1) := by decide +kernel
theorem dX8_movesTo_34 : decode cX8_movesTo 34 = .ok (.if_icmp .le 18, 3) := by decide +kernel
theorem dX8_movesTo_37 : decode cX8_movesTo 37 = .ok (.aload_n 0, 1) := by decide +kernel
theorem dX8_movesTo_38 : decode cX8_movesTo 38 = .ok (.iload_n 1, 1) := by decide +kernel
theorem dX8_movesTo_39 : decode cX8_movesTo 39 = .ok (.aload_n 0, 1) := by decide +kernel
theorem dX8_movesTo_40 : decode cX8_movesTo 40 = .ok (.getfield 65, 3) := by decide +kernel
theorem dX8_movesTo_43 : decode cX8_movesTo 43 = .ok (.iload_n 1, 1) := by decide +kernel
theorem dX8_movesTo_44 : decode cX8_movesTo 44 = .ok (.iaload, 1) := by decide +kernel
theorem dX8_movesTo_45 : decode cX8_movesTo 45 = .ok (.iconst 0, 1) := by decide +kernel
theorem dX8_movesTo_46 : decode cX8_movesTo 46 = .ok (.invokevirtual 280, 3) := by decide +kernel
theorem dX8_movesTo_49 : decode cX8_movesTo 49 = .ok (.goto (-22), 3) := by decide +kernel
theorem dX8_movesTo_52 : decode cX8_movesTo 52 = .ok (.return_, 1) := by decide +kernel
theorem dX8_copies_0 : decode cX8_copies 0 = .ok (.aload_n 0, 1) := by decide +kernel
theorem dX8_copies_1 : decode cX8_copies 1 = .ok (.getfield 62, 3) := by decide +kernel
theorem dX8_copies_4 : decode cX8_copies 4 = .ok (.iload_n 2, 1) := by decide +kernel
theorem dX8_copies_5 : decode cX8_copies 5 = .ok (.aload_n 0, 1) := by decide +kernel
theorem dX8_copies_6 : decode cX8_copies 6 = .ok (.getfield 62, 3) := by decide +kernel
theorem dX8_copies_9 : decode cX8_copies 9 = .ok (.iload_n 1, 1) := by decide +kernel
theorem dX8_copies_10 : decode cX8_copies 10 = .ok (.iaload, 1) := by decide +kernel
theorem dX8_copies_11 : decode cX8_copies 11 = .ok (.iastore, 1) := by decide +kernel
theorem dX8_copies_12 : decode cX8_copies 12 = .ok (.aload_n 0, 1) := by decide +kernel
theorem dX8_copies_13 : decode cX8_copies 13 = .ok (.getfield 65, 3) := by decide +kernel
theorem dX8_copies_16 : decode cX8_copies 16 = .ok (.iload_n 2, 1) := by decide +kernel
theorem dX8_copies_17 : decode cX8_copies 17 = .ok (.aload_n 0, 1) := by decide +kernel
theorem dX8_copies_18 : decode cX8_copies 18 = .ok (.getfield 65, 3) := by decide +kernel
theorem dX8_copies_21 : decode cX8_copies 21 = .ok (.iload_n 1, 1) := by decide +kernel
theorem dX8_copies_22 : decode cX8_copies 22 = .ok (.iaload, 1) := by decide +kernel
theorem dX8_copies_23 : decode cX8_copies 23 = .ok (.iastore, 1) := by decide +kernel
theorem dX8_copies_24 : decode cX8_copies 24 = .ok (.aload_n 0, 1) := by decide +kernel
theorem dX8_copies_25 : decode cX8_copies 25 = .ok (.getfield 71, 3) := by decide +kernel
theorem dX8_copies_28 : decode cX8_copies 28 = .ok (.iload_n 2, 1) := by decide +kernel
theorem dX8_copies_29 : decode cX8_copies 29 = .ok (.aload_n 0, 1) := by decide +kernel
theorem dX8_copies_30 : decode cX8_copies 30 = .ok (.getfield 71, 3) := by decide +kernel
theorem dX8_copies_33 : decode cX8_copies 33 = .ok (.iload_n 1, 1) := by decide +kernel
theorem dX8_copies_34 : decode cX8_copies 34 = .ok (.iaload, 1) := by decide +kernel
theorem dX8_copies_35 : decode cX8_copies 35 = .ok (.iastore, 1) := by decide +kernel
theorem dX8_copies_36 : decode cX8_copies 36 = .ok (.iconst 0, 1) := by decide +kernel
theorem dX8_copies_37 : decode cX8_copies 37 = .ok (.istore_n 3, 1) := by decide +kernel
theorem dX8_copies_38 : decode cX8_copies 38 = .ok (.iload_n 3, 1) := by decide +kernel
theorem dX8_copies_39 : decode cX8_copies 39 = .ok (.bipush 48, 2) := by decide +kernel
theorem dX8_copies_41 : decode cX8_copies 41 = .ok (.if_icmp .ge 31, 3) := by decide +kernel
theorem dX8_copies_44 : decode cX8_copies 44 = .ok (.aload_n 0, 1) := by decide +kernel
theorem dX8_copies_45 : decode cX8_copies 45 = .ok (.getfield 68, 3) := by decide +kernel
theorem dX8_copies_48 : decode cX8_copies 48 = .ok (.bipush 48, 2) := by decide +kernel
theorem dX8_copies_50 : decode cX8_copies 50 = .ok (.iload_n 2, 1) := by decide +kernel
theorem dX8_copies_51 : decode cX8_copies 51 = .ok (.imul, 1) := by decide +kernel
theorem dX8_copies_52 : decode cX8_copies 52 = .ok (.iload_n 3, 1) := by decide +kernel
theorem dX8_copies_53 : decode cX8_copies 53 = .ok (.iadd, 1) := by decide +kernel
theorem dX8_copies_54 : decode cX8_copies 54 = .ok (.aload_n 0, 1) := by decide +kernel
theorem dX8_copies_55 : decode cX8_copies 55 = .ok (.getfield 68, 3) := by decide +kernel
theorem dX8_copies_58 : decode cX8_copies 58 = .ok (.bipush 48, 2) := by decide +kernel
theorem dX8_copies_60 : decode cX8_copies 60 = .ok (.iload_n 1, 1) := by decide +kernel
theorem dX8_copies_61 : decode cX8_copies 61 = .ok (.imul, 1) := by decide +kernel
theorem dX8_copies_62 : decode cX8_copies 62 = .ok (.iload_n 3, 1) := by decide +kernel
theorem dX8_copies_63 : decode cX8_copies 63 = .ok (.iadd, 1) := by decide +kernel
theorem dX8_copies_64 : decode cX8_copies 64 = .ok (.iaload, 1) := by decide +kernel
theorem dX8_copies_65 : decode cX8_copies 65 = .ok (.iastore, 1) := by decide +kernel
theorem dX8_copies_66 : decode cX8_copies 66 = .ok (.iinc 3 1, 3) := by decide +kernel
theorem dX8_copies_69 : decode cX8_copies 69 = .ok (.goto (-31), 3) := by decide +kernel
theorem dX8_copies_72 : decode cX8_copies 72 = .ok (.iconst 0, 1) := by decide +kernel
theorem dX8_copies_73 : decode cX8_copies 73 = .ok (.istore_n 3, 1) := by decide +kernel
theorem dX8_copies_74 : decode cX8_copies 74 = .ok (.iload_n 3, 1) := by decide +kernel
theorem dX8_copies_75 : decode cX8_copies 75 = .ok (.bipush 24, 2) := by decide +kernel
theorem dX8_copies_77 : decode cX8_copies 77 = .ok (.if_icmp .ge 87, 3) := by decide +kernel
theorem dX8_copies_80 : decode cX8_copies 80 = .ok (.aload_n 0, 1) := by decide +kernel
theorem dX8_copies_81 : decode cX8_copies 81 = .ok (.getfield 74, 3) := by decide +kernel
theorem dX8_copies_84 : decode cX8_copies 84 = .ok (.bipush 24, 2) := by decide +kernel
theorem dX8_copies_86 : decode cX8_copies 86 = .ok (.iload_n 2, 1) := by decide +kernel
theorem dX8_copies_87 : decode cX8_copies 87 = .ok (.imul, 1) := by decide +kernel
theorem dX8_copies_88 : decode cX8_copies 88 = .ok (.iload_n 3, 1) := by decide +kernel
theorem dX8_copies_89 : decode cX8_copies 89 = .ok (.iadd, 1) := by decide +kernel
theorem dX8_copies_90 : decode cX8_copies 90 = .ok (.aload_n 0, 1) := by decide +kernel
theorem dX8_copies_91 : decode cX8_copies 91 = .ok (.getfield 74, 3) := by decide +kernel
theorem dX8_copies_94 : decode cX8_copies 94 = .ok (.bipush 24, 2) := by decide +kernel
theorem dX8_copies_96 : decode cX8_copies 96 = .ok (.iload_n 1, 1) := by decide +kernel
theorem dX8_copies_97 : decode cX8_copies 97 = .ok (.imul, 1) := by decide +kernel
theorem dX8_copies_98 : decode cX8_copies 98 = .ok (.iload_n 3, 1) := by decide +kernel
theorem dX8_copies_99 : decode cX8_copies 99 = .ok (.iadd, 1) := by decide +kernel
theorem dX8_copies_100 : decode cX8_copies 100 = .ok (.iaload, 1) := by decide +kernel
theorem dX8_copies_101 : decode cX8_copies 101 = .ok (.iastore, 1) := by decide +kernel
theorem dX8_copies_102 : decode cX8_copies 102 = .ok (.aload_n 0, 1) := by decide +kernel
theorem dX8_copies_103 : decode cX8_copies 103 = .ok (.getfield 77, 3) := by decide +kernel
theorem dX8_copies_106 : decode cX8_copies 106 = .ok (.iconst 2, 1) := by decide +kernel
theorem dX8_copies_107 : decode cX8_copies 107 = .ok (.bipush 24, 2) := by decide +kernel
theorem dX8_copies_109 : decode cX8_copies 109 = .ok (.iload_n 2, 1) := by decide +kernel
theorem dX8_copies_110 : decode cX8_copies 110 = .ok (.imul, 1) := by decide +kernel
theorem dX8_copies_111 : decode cX8_copies 111 = .ok (.iload_n 3, 1) := by decide +kernel
theorem dX8_copies_112 : decode cX8_copies 112 = .ok (.iadd, 1) := by decide +kernel
theorem dX8_copies_113 : decode cX8_copies 113 = .ok (.imul, 1) := by decide +kernel
theorem dX8_copies_114 : decode cX8_copies 114 = .ok (.aload_n 0, 1) := by decide +kernel
theorem dX8_copies_115 : decode cX8_copies 115 = .ok (.getfield 77, 3) := by decide +kernel
theorem dX8_copies_118 : decode cX8_copies 118 = .ok (.iconst 2, 1) := by decide +kernel
theorem dX8_copies_119 : decode cX8_copies 119 = .ok (.bipush 24, 2) := by decide +kernel
theorem dX8_copies_121 : decode cX8_copies 121 = .ok (.iload_n 1, 1) := by decide +kernel
theorem dX8_copies_122 : decode cX8_copies 122 = .ok (.imul, 1) := by decide +kernel
theorem dX8_copies_123 : decode cX8_copies 123 = .ok (.iload_n 3, 1) := by decide +kernel
theorem dX8_copies_124 : decode cX8_copies 124 = .ok (.iadd, 1) := by decide +kernel
theorem dX8_copies_125 : decode cX8_copies 125 = .ok (.imul, 1) := by decide +kernel
theorem dX8_copies_126 : decode cX8_copies 126 = .ok (.iaload, 1) := by decide +kernel
theorem dX8_copies_127 : decode cX8_copies 127 = .ok (.iastore, 1) := by decide +kernel
theorem dX8_copies_128 : decode cX8_copies 128 = .ok (.aload_n 0, 1) := by decide +kernel
theorem dX8_copies_129 : decode cX8_copies 129 = .ok (.getfield 77, 3) := by decide +kernel
theorem dX8_copies_132 : decode cX8_copies 132 = .ok (.iconst 2, 1) := by decide +kernel
theorem dX8_copies_133 : decode cX8_copies 133 = .ok (.bipush 24, 2) := by decide +kernel
theorem dX8_copies_135 : decode cX8_copies 135 = .ok (.iload_n 2, 1) := by decide +kernel
theorem dX8_copies_136 : decode cX8_copies 136 = .ok (.imul, 1) := by decide +kernel
theorem dX8_copies_137 : decode cX8_copies 137 = .ok (.iload_n 3, 1) := by decide +kernel
theorem dX8_copies_138 : decode cX8_copies 138 = .ok (.iadd, 1) := by decide +kernel
theorem dX8_copies_139 : decode cX8_copies 139 = .ok (.imul, 1) := by decide +kernel
theorem dX8_copies_140 : decode cX8_copies 140 = .ok (.iconst 1, 1) := by decide +kernel
theorem dX8_copies_141 : decode cX8_copies 141 = .ok (.iadd, 1) := by decide +kernel
theorem dX8_copies_142 : decode cX8_copies 142 = .ok (.aload_n 0, 1) := by decide +kernel
theorem dX8_copies_143 : decode cX8_copies 143 = .ok (.getfield 77, 3) := by decide +kernel
theorem dX8_copies_146 : decode cX8_copies 146 = .ok (.iconst 2, 1) := by decide +kernel
theorem dX8_copies_147 : decode cX8_copies 147 = .ok (.bipush 24, 2) := by decide +kernel
theorem dX8_copies_149 : decode cX8_copies 149 = .ok (.iload_n 1, 1) := by decide +kernel
theorem dX8_copies_150 : decode cX8_copies 150 = .ok (.imul, 1) := by decide +kernel
theorem dX8_copies_151 : decode cX8_copies 151 = .ok (.iload_n 3, 1) := by decide +kernel
theorem dX8_copies_152 : decode cX8_copies 152 = .ok (.iadd, 1) := by decide +kernel
theorem dX8_copies_153 : decode cX8_copies 153 = .ok (.imul, 1) := by decide +kernel
theorem dX8_copies_154 : decode cX8_copies 154 = .ok (.iconst 1, 1) := by decide +kernel
theorem dX8_copies_155 : decode cX8_copies 155 = .ok (.iadd, 1) := by decide +kernel
theorem dX8_copies_156 : decode cX8_copies 156 = .ok (.iaload, 1) := by decide +kernel
theorem dX8_copies_157 : decode cX8_copies 157 = .ok (.iastore, 1) := by decide +kernel
theorem dX8_copies_158 : decode cX8_copies 158 = .ok (.iinc 3 1, 3) := by decide +kernel
theorem dX8_copies_161 : decode cX8_copies 161 = .ok (.goto (-87), 3) := by decide +kernel
theorem dX8_copies_164 : decode cX8_copies 164 = .ok (.return_, 1) := by decide +kernel
theorem dX8_sees_0 : decode cX8_sees 0 = .ok (.aload_n 0, 1) := by decide +kernel
theorem dX8_sees_1 : decode cX8_sees 1 = .ok (.iload_n 1, 1) := by decide +kernel
theorem dX8_sees_2 : decode cX8_sees 2 = .ok (.bipush 20, 2) := by decide +kernel
theorem dX8_sees_4 : decode cX8_sees 4 = .ok (.invokevirtual 284, 3) := by decide +kernel
theorem dX8_sees_7 : decode cX8_sees 7 = .ok (.aload_n 0, 1) := by decide +kernel
theorem dX8_sees_8 : decode cX8_sees 8 = .ok (.bipush 20, 2) := by decide +kernel
theorem dX8_sees_10 : decode cX8_sees 10 = .ok (.iload_n 2, 1) := by decide +kernel
theorem dX8_sees_11 : decode cX8_sees 11 = .ok (.invokevirtual 287, 3) := by decide +kernel
theorem dX8_sees_14 : decode cX8_sees 14 = .ok (.return_, 1) := by decide +kernel
theorem dX8_counts_0 : decode cX8_counts 0 = .ok (.aload_n 0, 1) := by decide +kernel
theorem dX8_counts_1 : decode cX8_counts 1 = .ok (.dup, 1) := by decide +kernel
theorem dX8_counts_2 : decode cX8_counts 2 = .ok (.getfield 290, 3) := by decide +kernel
theorem dX8_counts_5 : decode cX8_counts 5 = .ok (.iconst 1, 1) := by decide +kernel
theorem dX8_counts_6 : decode cX8_counts 6 = .ok (.iadd, 1) := by decide +kernel
theorem dX8_counts_7 : decode cX8_counts 7 = .ok (.putfield 290, 3) := by decide +kernel
theorem dX8_counts_10 : decode cX8_counts 10 = .ok (.aload_n 0, 1) := by decide +kernel
theorem dX8_counts_11 : decode cX8_counts 11 = .ok (.getfield 80, 3) := by decide +kernel
theorem dX8_counts_14 : decode cX8_counts 14 = .ok (.iload_n 1, 1) := by decide +kernel
theorem dX8_counts_15 : decode cX8_counts 15 = .ok (.aload_n 0, 1) := by decide +kernel
theorem dX8_counts_16 : decode cX8_counts 16 = .ok (.getfield 290, 3) := by decide +kernel
theorem dX8_counts_19 : decode cX8_counts 19 = .ok (.iastore, 1) := by decide +kernel
theorem dX8_counts_20 : decode cX8_counts 20 = .ok (.return_, 1) := by decide +kernel
theorem dX8_isRow_0 : decode cX8_isRow 0 = .ok (.iload_n 1, 1) := by decide +kernel
theorem dX8_isRow_1 : decode cX8_isRow 1 = .ok (.iconst 0, 1) := by decide +kernel
theorem dX8_isRow_2 : decode cX8_isRow 2 = .ok (.aload_n 0, 1) := by decide +kernel
theorem dX8_isRow_3 : decode cX8_isRow 3 = .ok (.getfield 293, 3) := by decide +kernel
theorem dX8_isRow_6 : decode cX8_isRow 6 = .ok (.iconst 1, 1) := by decide +kernel
theorem dX8_isRow_7 : decode cX8_isRow 7 = .ok (.isub, 1) := by decide +kernel
theorem dX8_isRow_8 : decode cX8_isRow 8 = .ok (.invokestatic 144, 3) := by decide +kernel
theorem dX8_isRow_11 : decode cX8_isRow 11 = .ok (.ireturn, 1) := by decide +kernel
theorem dX8_read_0 : decode cX8_read 0 = .ok (.aload_n 0, 1) := by decide +kernel
theorem dX8_read_1 : decode cX8_read 1 = .ok (.iload_n 1, 1) := by decide +kernel
theorem dX8_read_2 : decode cX8_read 2 = .ok (.iload_n 3, 1) := by decide +kernel
theorem dX8_read_3 : decode cX8_read 3 = .ok (.invokevirtual 239, 3) := by decide +kernel
theorem dX8_read_6 : decode cX8_read 6 = .ok (.istore 4, 2) := by decide +kernel
theorem dX8_read_8 : decode cX8_read 8 = .ok (.aload_n 0, 1) := by decide +kernel
theorem dX8_read_9 : decode cX8_read 9 = .ok (.iload_n 1, 1) := by decide +kernel
theorem dX8_read_10 : decode cX8_read 10 = .ok (.iload 4, 2) := by decide +kernel
theorem dX8_read_12 : decode cX8_read 12 = .ok (.invokevirtual 248, 3) := by decide +kernel
theorem dX8_read_15 : decode cX8_read 15 = .ok (.ifCond .eq 15, 3) := by decide +kernel
theorem dX8_read_18 : decode cX8_read 18 = .ok (.aload_n 0, 1) := by decide +kernel
theorem dX8_read_19 : decode cX8_read 19 = .ok (.iload_n 2, 1) := by decide +kernel
theorem dX8_read_20 : decode cX8_read 20 = .ok (.invokevirtual 296, 3) := by decide +kernel
theorem dX8_read_23 : decode cX8_read 23 = .ok (.ifCond .eq 7, 3) := by decide +kernel
theorem dX8_read_26 : decode cX8_read 26 = .ok (.iconst 1, 1) := by decide +kernel
theorem dX8_read_27 : decode cX8_read 27 = .ok (.goto 4, 3) := by decide +kernel
theorem dX8_read_30 : decode cX8_read 30 = .ok (.iconst 0, 1) := by decide +kernel
theorem dX8_read_31 : decode cX8_read 31 = .ok (.istore 5, 2) := by decide +kernel
theorem dX8_read_33 : decode cX8_read 33 = .ok (.aload_n 0, 1) := by decide +kernel
theorem dX8_read_34 : decode cX8_read 34 = .ok (.iload 5, 2) := by decide +kernel
theorem dX8_read_36 : decode cX8_read 36 = .ok (.ifCond .ne 7, 3) := by decide +kernel
theorem dX8_read_39 : decode cX8_read 39 = .ok (.iconst 1, 1) := by decide +kernel
theorem dX8_read_40 : decode cX8_read 40 = .ok (.goto 23, 3) := by decide +kernel
theorem dX8_read_43 : decode cX8_read 43 = .ok (.aload_n 0, 1) := by decide +kernel
theorem dX8_read_44 : decode cX8_read 44 = .ok (.getfield 62, 3) := by decide +kernel
theorem dX8_read_47 : decode cX8_read 47 = .ok (.iload_n 2, 1) := by decide +kernel
theorem dX8_read_48 : decode cX8_read 48 = .ok (.iaload, 1) := by decide +kernel
theorem dX8_read_49 : decode cX8_read 49 = .ok (.aload_n 0, 1) := by decide +kernel
theorem dX8_read_50 : decode cX8_read 50 = .ok (.getfield 47, 3) := by decide +kernel
theorem dX8_read_53 : decode cX8_read 53 = .ok (.iload_n 1, 1) := by decide +kernel
theorem dX8_read_54 : decode cX8_read 54 = .ok (.iaload, 1) := by decide +kernel
theorem dX8_read_55 : decode cX8_read 55 = .ok (.if_icmp .eq 7, 3) := by decide +kernel
theorem dX8_read_58 : decode cX8_read 58 = .ok (.iconst 2, 1) := by decide +kernel
theorem dX8_read_59 : decode cX8_read 59 = .ok (.goto 4, 3) := by decide +kernel
theorem dX8_read_62 : decode cX8_read 62 = .ok (.iconst 0, 1) := by decide +kernel
theorem dX8_read_63 : decode cX8_read 63 = .ok (.invokevirtual 162, 3) := by decide +kernel
theorem dX8_read_66 : decode cX8_read 66 = .ok (.ifCond .eq 5, 3) := by decide +kernel
theorem dX8_read_69 : decode cX8_read 69 = .ok (.iconst 0, 1) := by decide +kernel
theorem dX8_read_70 : decode cX8_read 70 = .ok (.ireturn, 1) := by decide +kernel
theorem dX8_read_71 : decode cX8_read 71 = .ok (.aload_n 0, 1) := by decide +kernel
theorem dX8_read_72 : decode cX8_read 72 = .ok (.iload_n 2, 1) := by decide +kernel
theorem dX8_read_73 : decode cX8_read 73 = .ok (.aload_n 0, 1) := by decide +kernel
theorem dX8_read_74 : decode cX8_read 74 = .ok (.getfield 50, 3) := by decide +kernel
theorem dX8_read_77 : decode cX8_read 77 = .ok (.iload_n 1, 1) := by decide +kernel
theorem dX8_read_78 : decode cX8_read 78 = .ok (.iaload, 1) := by decide +kernel
theorem dX8_read_79 : decode cX8_read 79 = .ok (.invokevirtual 299, 3) := by decide +kernel
theorem dX8_read_82 : decode cX8_read 82 = .ok (.aload_n 0, 1) := by decide +kernel
theorem dX8_read_83 : decode cX8_read 83 = .ok (.getfield 68, 3) := by decide +kernel
theorem dX8_read_86 : decode cX8_read 86 = .ok (.sipush 960, 3) := by decide +kernel
theorem dX8_read_89 : decode cX8_read 89 = .ok (.iload 4, 2) := by decide +kernel
theorem dX8_read_91 : decode cX8_read 91 = .ok (.iadd, 1) := by decide +kernel
theorem dX8_read_92 : decode cX8_read 92 = .ok (.iaload, 1) := by decide +kernel
theorem dX8_read_93 : decode cX8_read 93 = .ok (.ireturn, 1) := by decide +kernel
theorem dX8_write_0 : decode cX8_write 0 = .ok (.aload_n 0, 1) := by decide +kernel
theorem dX8_write_1 : decode cX8_write 1 = .ok (.iload_n 1, 1) := by decide +kernel
theorem dX8_write_2 : decode cX8_write 2 = .ok (.iload_n 3, 1) := by decide +kernel
theorem dX8_write_3 : decode cX8_write 3 = .ok (.invokevirtual 239, 3) := by decide +kernel
theorem dX8_write_6 : decode cX8_write 6 = .ok (.istore 5, 2) := by decide +kernel
theorem dX8_write_8 : decode cX8_write 8 = .ok (.aload_n 0, 1) := by decide +kernel
theorem dX8_write_9 : decode cX8_write 9 = .ok (.iload_n 1, 1) := by decide +kernel
theorem dX8_write_10 : decode cX8_write 10 = .ok (.iload 5, 2) := by decide +kernel
theorem dX8_write_12 : decode cX8_write 12 = .ok (.invokevirtual 248, 3) := by decide +kernel
theorem dX8_write_15 : decode cX8_write 15 = .ok (.ifCond .eq 15, 3) := by decide +kernel
theorem dX8_write_18 : decode cX8_write 18 = .ok (.aload_n 0, 1) := by decide +kernel
theorem dX8_write_19 : decode cX8_write 19 = .ok (.iload_n 2, 1) := by decide +kernel
theorem dX8_write_20 : decode cX8_write 20 = .ok (.invokevirtual 296, 3) := by decide +kernel
theorem dX8_write_23 : decode cX8_write 23 = .ok (.ifCond .eq 7, 3) := by decide +kernel
theorem dX8_write_26 : decode cX8_write 26 = .ok (.iconst 1, 1) := by decide +kernel
theorem dX8_write_27 : decode cX8_write 27 = .ok (.goto 4, 3) := by decide +kernel
theorem dX8_write_30 : decode cX8_write 30 = .ok (.iconst 0, 1) := by decide +kernel
theorem dX8_write_31 : decode cX8_write 31 = .ok (.istore 6, 2) := by decide +kernel
theorem dX8_write_33 : decode cX8_write 33 = .ok (.iload 6, 2) := by decide +kernel
theorem dX8_write_35 : decode cX8_write 35 = .ok (.ifCond .eq 51, 3) := by decide +kernel
theorem dX8_write_38 : decode cX8_write 38 = .ok (.aload_n 0, 1) := by decide +kernel
theorem dX8_write_39 : decode cX8_write 39 = .ok (.getfield 62, 3) := by decide +kernel
theorem dX8_write_42 : decode cX8_write 42 = .ok (.iload_n 2, 1) := by decide +kernel
theorem dX8_write_43 : decode cX8_write 43 = .ok (.iaload, 1) := by decide +kernel
theorem dX8_write_44 : decode cX8_write 44 = .ok (.aload_n 0, 1) := by decide +kernel
theorem dX8_write_45 : decode cX8_write 45 = .ok (.getfield 47, 3) := by decide +kernel
theorem dX8_write_48 : decode cX8_write 48 = .ok (.iload_n 1, 1) := by decide +kernel
theorem dX8_write_49 : decode cX8_write 49 = .ok (.iaload, 1) := by decide +kernel
theorem dX8_write_50 : decode cX8_write 50 = .ok (.if_icmp .ne 36, 3) := by decide +kernel
theorem dX8_write_53 : decode cX8_write 53 = .ok (.iload 4, 2) := by decide +kernel
theorem dX8_write_55 : decode cX8_write 55 = .ok (.iconst 0, 1) := by decide +kernel
theorem dX8_write_56 : decode cX8_write 56 = .ok (.aload_n 0, 1) := by decide +kernel
theorem dX8_write_57 : decode cX8_write 57 = .ok (.getfield 16, 3) := by decide +kernel
theorem dX8_write_60 : decode cX8_write 60 = .ok (.bipush 48, 2) := by decide +kernel
theorem dX8_write_62 : decode cX8_write 62 = .ok (.aload_n 0, 1) := by decide +kernel
theorem dX8_write_63 : decode cX8_write 63 = .ok (.getfield 47, 3) := by decide +kernel
theorem dX8_write_66 : decode cX8_write 66 = .ok (.iload_n 1, 1) := by decide +kernel
theorem dX8_write_67 : decode cX8_write 67 = .ok (.iaload, 1) := by decide +kernel
theorem dX8_write_68 : decode cX8_write 68 = .ok (.imul, 1) := by decide +kernel
theorem dX8_write_69 : decode cX8_write 69 = .ok (.iload 5, 2) := by decide +kernel
theorem dX8_write_71 : decode cX8_write 71 = .ok (.iadd, 1) := by decide +kernel
theorem dX8_write_72 : decode cX8_write 72 = .ok (.iaload, 1) := by decide +kernel
theorem dX8_write_73 : decode cX8_write 73 = .ok (.invokestatic 165, 3) := by decide +kernel
theorem dX8_write_76 : decode cX8_write 76 = .ok (.invokestatic 144, 3) := by decide +kernel
theorem dX8_write_79 : decode cX8_write 79 = .ok (.ifCond .eq 7, 3) := by decide +kernel
theorem dX8_write_82 : decode cX8_write 82 = .ok (.iconst 1, 1) := by decide +kernel
theorem dX8_write_83 : decode cX8_write 83 = .ok (.goto 4, 3) := by decide +kernel
theorem dX8_write_86 : decode cX8_write 86 = .ok (.iconst 0, 1) := by decide +kernel
theorem dX8_write_87 : decode cX8_write 87 = .ok (.istore 7, 2) := by decide +kernel
theorem dX8_write_89 : decode cX8_write 89 = .ok (.aload_n 0, 1) := by decide +kernel
theorem dX8_write_90 : decode cX8_write 90 = .ok (.iload 6, 2) := by decide +kernel
theorem dX8_write_92 : decode cX8_write 92 = .ok (.ifCond .ne 7, 3) := by decide +kernel
theorem dX8_write_95 : decode cX8_write 95 = .ok (.iconst 1, 1) := by decide +kernel
theorem dX8_write_96 : decode cX8_write 96 = .ok (.goto 32, 3) := by decide +kernel
theorem dX8_write_99 : decode cX8_write 99 = .ok (.iload 7, 2) := by decide +kernel
theorem dX8_write_101 : decode cX8_write 101 = .ok (.ifCond .ne 7, 3) := by decide +kernel
theorem dX8_write_104 : decode cX8_write 104 = .ok (.iconst 2, 1) := by decide +kernel
theorem dX8_write_105 : decode cX8_write 105 = .ok (.goto 23, 3) := by decide +kernel
theorem dX8_write_108 : decode cX8_write 108 = .ok (.aload_n 0, 1) := by decide +kernel
theorem dX8_write_109 : decode cX8_write 109 = .ok (.getfield 59, 3) := by decide +kernel
theorem dX8_write_112 : decode cX8_write 112 = .ok (.bipush 48, 2) := by decide +kernel
theorem dX8_write_114 : decode cX8_write 114 = .ok (.iload_n 1, 1) := by decide +kernel
theorem dX8_write_115 : decode cX8_write 115 = .ok (.imul, 1) := by decide +kernel
theorem dX8_write_116 : decode cX8_write 116 = .ok (.iload 5, 2) := by decide +kernel
theorem dX8_write_118 : decode cX8_write 118 = .ok (.iadd, 1) := by decide +kernel
theorem dX8_write_119 : decode cX8_write 119 = .ok (.baload, 1) := by decide +kernel
theorem dX8_write_120 : decode cX8_write 120 = .ok (.ifCond .eq 7, 3) := by decide +kernel
theorem dX8_write_123 : decode cX8_write 123 = .ok (.iconst 0, 1) := by decide +kernel
theorem dX8_write_124 : decode cX8_write 124 = .ok (.goto 4, 3) := by decide +kernel
theorem dX8_write_127 : decode cX8_write 127 = .ok (.iconst 3, 1) := by decide +kernel
theorem dX8_write_128 : decode cX8_write 128 = .ok (.invokevirtual 162, 3) := by decide +kernel
theorem dX8_write_131 : decode cX8_write 131 = .ok (.ifCond .eq 5, 3) := by decide +kernel
theorem dX8_write_134 : decode cX8_write 134 = .ok (.iconst 0, 1) := by decide +kernel
theorem dX8_write_135 : decode cX8_write 135 = .ok (.ireturn, 1) := by decide +kernel
theorem dX8_write_136 : decode cX8_write 136 = .ok (.aload_n 0, 1) := by decide +kernel
theorem dX8_write_137 : decode cX8_write 137 = .ok (.getfield 65, 3) := by decide +kernel
theorem dX8_write_140 : decode cX8_write 140 = .ok (.iload_n 2, 1) := by decide +kernel
theorem dX8_write_141 : decode cX8_write 141 = .ok (.iaload, 1) := by decide +kernel
theorem dX8_write_142 : decode cX8_write 142 = .ok (.istore 8, 2) := by decide +kernel
theorem dX8_write_144 : decode cX8_write 144 = .ok (.aload_n 0, 1) := by decide +kernel
theorem dX8_write_145 : decode cX8_write 145 = .ok (.iload_n 2, 1) := by decide +kernel
theorem dX8_write_146 : decode cX8_write 146 = .ok (.aload_n 0, 1) := by decide +kernel
theorem dX8_write_147 : decode cX8_write 147 = .ok (.getfield 50, 3) := by decide +kernel
theorem dX8_write_150 : decode cX8_write 150 = .ok (.iload_n 1, 1) := by decide +kernel
theorem dX8_write_151 : decode cX8_write 151 = .ok (.iaload, 1) := by decide +kernel
theorem dX8_write_152 : decode cX8_write 152 = .ok (.invokevirtual 299, 3) := by decide +kernel
theorem dX8_write_155 : decode cX8_write 155 = .ok (.aload_n 0, 1) := by decide +kernel
theorem dX8_write_156 : decode cX8_write 156 = .ok (.getfield 68, 3) := by decide +kernel
theorem dX8_write_159 : decode cX8_write 159 = .ok (.sipush 960, 3) := by decide +kernel
theorem dX8_write_162 : decode cX8_write 162 = .ok (.iload 5, 2) := by decide +kernel
theorem dX8_write_164 : decode cX8_write 164 = .ok (.iadd, 1) := by decide +kernel
theorem dX8_write_165 : decode cX8_write 165 = .ok (.iaload, 1) := by decide +kernel
theorem dX8_write_166 : decode cX8_write 166 = .ok (.istore 9, 2) := by decide +kernel
theorem dX8_write_168 : decode cX8_write 168 = .ok (.aload_n 0, 1) := by decide +kernel
theorem dX8_write_169 : decode cX8_write 169 = .ok (.getfield 68, 3) := by decide +kernel
theorem dX8_write_172 : decode cX8_write 172 = .ok (.sipush 960, 3) := by decide +kernel
theorem dX8_write_175 : decode cX8_write 175 = .ok (.iload 5, 2) := by decide +kernel
theorem dX8_write_177 : decode cX8_write 177 = .ok (.iadd, 1) := by decide +kernel
theorem dX8_write_178 : decode cX8_write 178 = .ok (.iload 4, 2) := by decide +kernel
theorem dX8_write_180 : decode cX8_write 180 = .ok (.iastore, 1) := by decide +kernel
theorem dX8_write_181 : decode cX8_write 181 = .ok (.aload_n 0, 1) := by decide +kernel
theorem dX8_write_182 : decode cX8_write 182 = .ok (.bipush 20, 2) := by decide +kernel
theorem dX8_write_184 : decode cX8_write 184 = .ok (.iload 8, 2) := by decide +kernel
theorem dX8_write_186 : decode cX8_write 186 = .ok (.invokevirtual 287, 3) := by decide +kernel
theorem dX8_write_189 : decode cX8_write 189 = .ok (.aload_n 0, 1) := by decide +kernel
theorem dX8_write_190 : decode cX8_write 190 = .ok (.bipush 20, 2) := by decide +kernel
theorem dX8_write_192 : decode cX8_write 192 = .ok (.iload_n 2, 1) := by decide +kernel
theorem dX8_write_193 : decode cX8_write 193 = .ok (.invokevirtual 284, 3) := by decide +kernel
theorem dX8_write_196 : decode cX8_write 196 = .ok (.aload_n 0, 1) := by decide +kernel
theorem dX8_write_197 : decode cX8_write 197 = .ok (.iload_n 2, 1) := by decide +kernel
theorem dX8_write_198 : decode cX8_write 198 = .ok (.invokevirtual 302, 3) := by decide +kernel
theorem dX8_write_201 : decode cX8_write 201 = .ok (.iload 9, 2) := by decide +kernel
theorem dX8_write_203 : decode cX8_write 203 = .ok (.ireturn, 1) := by decide +kernel
theorem dX8_row_0 : decode cX8_row 0 = .ok (.aload_n 0, 1) := by decide +kernel
theorem dX8_row_1 : decode cX8_row 1 = .ok (.iload_n 1, 1) := by decide +kernel
theorem dX8_row_2 : decode cX8_row 2 = .ok (.iload_n 2, 1) := by decide +kernel
theorem dX8_row_3 : decode cX8_row 3 = .ok (.invokevirtual 219, 3) := by decide +kernel
theorem dX8_row_6 : decode cX8_row 6 = .ok (.istore_n 3, 1) := by decide +kernel
theorem dX8_row_7 : decode cX8_row 7 = .ok (.aload_n 0, 1) := by decide +kernel
theorem dX8_row_8 : decode cX8_row 8 = .ok (.iload_n 3, 1) := by decide +kernel
theorem dX8_row_9 : decode cX8_row 9 = .ok (.ifCond .ne 7, 3) := by decide +kernel
theorem dX8_row_12 : decode cX8_row 12 = .ok (.iconst 1, 1) := by decide +kernel
theorem dX8_row_13 : decode cX8_row 13 = .ok (.goto 17, 3) := by decide +kernel
theorem dX8_row_16 : decode cX8_row 16 = .ok (.aload_n 0, 1) := by decide +kernel
theorem dX8_row_17 : decode cX8_row 17 = .ok (.getfield 293, 3) := by decide +kernel
theorem dX8_row_20 : decode cX8_row 20 = .ok (.bipush 20, 2) := by decide +kernel
theorem dX8_row_22 : decode cX8_row 22 = .ok (.if_icmp .ne 7, 3) := by decide +kernel
theorem dX8_row_25 : decode cX8_row 25 = .ok (.iconst 2, 1) := by decide +kernel
theorem dX8_row_26 : decode cX8_row 26 = .ok (.goto 4, 3) := by decide +kernel
theorem dX8_row_29 : decode cX8_row 29 = .ok (.iconst 0, 1) := by decide +kernel
theorem dX8_row_30 : decode cX8_row 30 = .ok (.invokevirtual 162, 3) := by decide +kernel
theorem dX8_row_33 : decode cX8_row 33 = .ok (.ifCond .eq 5, 3) := by decide +kernel
