theorem dX7_init_0 : decode cX7_init 0 = .ok (.aload_n 0, 1) := by decide +kernel
theorem dX7_init_1 : decode cX7_init 1 = .ok (.invokespecial 1, 3) := by decide +kernel
theorem dX7_init_4 : decode cX7_init 4 = .ok (.aload_n 0, 1) := by decide +kernel
theorem dX7_init_5 : decode cX7_init 5 = .ok (.bipush 16, 2) := by decide +kernel
theorem dX7_init_7 : decode cX7_init 7 = .ok (.newarray .int, 2) := by decide +kernel
theorem dX7_init_9 : decode cX7_init 9 = .ok (.putfield 7, 3) := by decide +kernel
theorem dX7_init_12 : decode cX7_init 12 = .ok (.aload_n 0, 1) := by decide +kernel
theorem dX7_init_13 : decode cX7_init 13 = .ok (.bipush 16, 2) := by decide +kernel
theorem dX7_init_15 : decode cX7_init 15 = .ok (.newarray .int, 2) := by decide +kernel
theorem dX7_init_17 : decode cX7_init 17 = .ok (.dup, 1) := by decide +kernel
theorem dX7_init_18 : decode cX7_init 18 = .ok (.iconst 0, 1) := by decide +kernel
theorem dX7_init_19 : decode cX7_init 19 = .ok (.iconst (-1), 1) := by decide +kernel
theorem dX7_init_20 : decode cX7_init 20 = .ok (.iastore, 1) := by decide +kernel
theorem dX7_init_21 : decode cX7_init 21 = .ok (.dup, 1) := by decide +kernel
theorem dX7_init_22 : decode cX7_init 22 = .ok (.iconst 1, 1) := by decide +kernel
theorem dX7_init_23 : decode cX7_init 23 = .ok (.iconst (-1), 1) := by decide +kernel
theorem dX7_init_24 : decode cX7_init 24 = .ok (.iastore, 1) := by decide +kernel
theorem dX7_init_25 : decode cX7_init 25 = .ok (.dup, 1) := by decide +kernel
theorem dX7_init_26 : decode cX7_init 26 = .ok (.iconst 2, 1) := by decide +kernel
theorem dX7_init_27 : decode cX7_init 27 = .ok (.iconst (-1), 1) := by decide +kernel
theorem dX7_init_28 : decode cX7_init 28 = .ok (.iastore, 1) := by decide +kernel
theorem dX7_init_29 : decode cX7_init 29 = .ok (.dup, 1) := by decide +kernel
theorem dX7_init_30 : decode cX7_init 30 = .ok (.iconst 3, 1) := by decide +kernel
theorem dX7_init_31 : decode cX7_init 31 = .ok (.iconst (-1), 1) := by decide +kernel
theorem dX7_init_32 : decode cX7_init 32 = .ok (.iastore, 1) := by decide +kernel
theorem dX7_init_33 : decode cX7_init 33 = .ok (.dup, 1) := by decide +kernel
theorem dX7_init_34 : decode cX7_init 34 = .ok (.iconst 4, 1) := by decide +kernel
theorem dX7_init_35 : decode cX7_init 35 = .ok (.iconst (-1), 1) := by decide +kernel
theorem dX7_init_36 : decode cX7_init 36 = .ok (.iastore, 1) := by decide +kernel
theorem dX7_init_37 : decode cX7_init 37 = .ok (.dup, 1) := by decide +kernel
theorem dX7_init_38 : decode cX7_init 38 = .ok (.iconst 5, 1) := by decide +kernel
theorem dX7_init_39 : decode cX7_init 39 = .ok (.iconst (-1), 1) := by decide +kernel
theorem dX7_init_40 : decode cX7_init 40 = .ok (.iastore, 1) := by decide +kernel
theorem dX7_init_41 : decode cX7_init 41 = .ok (.dup, 1) := by decide +kernel
theorem dX7_init_42 : decode cX7_init 42 = .ok (.bipush 6, 2) := by decide +kernel
theorem dX7_init_44 : decode cX7_init 44 = .ok (.iconst (-1), 1) := by decide +kernel
theorem dX7_init_45 : decode cX7_init 45 = .ok (.iastore, 1) := by decide +kernel
theorem dX7_init_46 : decode cX7_init 46 = .ok (.dup, 1) := by decide +kernel
theorem dX7_init_47 : decode cX7_init 47 = .ok (.bipush 7, 2) := by decide +kernel
theorem dX7_init_49 : decode cX7_init 49 = .ok (.iconst (-1), 1) := by decide +kernel
theorem dX7_init_50 : decode cX7_init 50 = .ok (.iastore, 1) := by decide +kernel
theorem dX7_init_51 : decode cX7_init 51 = .ok (.dup, 1) := by decide +kernel
theorem dX7_init_52 : decode cX7_init 52 = .ok (.bipush 8, 2) := by decide +kernel
theorem dX7_init_54 : decode cX7_init 54 = .ok (.iconst (-1), 1) := by decide +kernel
theorem dX7_init_55 : decode cX7_init 55 = .ok (.iastore, 1) := by decide +kernel
theorem dX7_init_56 : decode cX7_init 56 = .ok (.dup, 1) := by decide +kernel
theorem dX7_init_57 : decode cX7_init 57 = .ok (.bipush 9, 2) := by decide +kernel
theorem dX7_init_59 : decode cX7_init 59 = .ok (.iconst (-1), 1) := by decide +kernel
theorem dX7_init_60 : decode cX7_init 60 = .ok (.iastore, 1) := by decide +kernel
theorem dX7_init_61 : decode cX7_init 61 = .ok (.dup, 1) := by decide +kernel
theorem dX7_init_62 : decode cX7_init 62 = .ok (.bipush 10, 2) := by decide +kernel
theorem dX7_init_64 : decode cX7_init 64 = .ok (.iconst (-1), 1) := by decide +kernel
theorem dX7_init_65 : decode cX7_init 65 = .ok (.iastore, 1) := by decide +kernel
theorem dX7_init_66 : decode cX7_init 66 = .ok (.dup, 1) := by decide +kernel
theorem dX7_init_67 : decode cX7_init 67 = .ok (.bipush 11, 2) := by decide +kernel
theorem dX7_init_69 : decode cX7_init 69 = .ok (.iconst (-1), 1) := by decide +kernel
theorem dX7_init_70 : decode cX7_init 70 = .ok (.iastore, 1) := by decide +kernel
theorem dX7_init_71 : decode cX7_init 71 = .ok (.dup, 1) := by decide +kernel
theorem dX7_init_72 : decode cX7_init 72 = .ok (.bipush 12, 2) := by decide +kernel
theorem dX7_init_74 : decode cX7_init 74 = .ok (.iconst (-1), 1) := by decide +kernel
theorem dX7_init_75 : decode cX7_init 75 = .ok (.iastore, 1) := by decide +kernel
theorem dX7_init_76 : decode cX7_init 76 = .ok (.dup, 1) := by decide +kernel
theorem dX7_init_77 : decode cX7_init 77 = .ok (.bipush 13, 2) := by decide +kernel
theorem dX7_init_79 : decode cX7_init 79 = .ok (.iconst (-1), 1) := by decide +kernel
theorem dX7_init_80 : decode cX7_init 80 = .ok (.iastore, 1) := by decide +kernel
theorem dX7_init_81 : decode cX7_init 81 = .ok (.dup, 1) := by decide +kernel
theorem dX7_init_82 : decode cX7_init 82 = .ok (.bipush 14, 2) := by decide +kernel
theorem dX7_init_84 : decode cX7_init 84 = .ok (.iconst (-1), 1) := by decide +kernel
theorem dX7_init_85 : decode cX7_init 85 = .ok (.iastore, 1) := by decide +kernel
theorem dX7_init_86 : decode cX7_init 86 = .ok (.dup, 1) := by decide +kernel
theorem dX7_init_87 : decode cX7_init 87 = .ok (.bipush 15, 2) := by decide +kernel
theorem dX7_init_89 : decode cX7_init 89 = .ok (.iconst (-1), 1) := by decide +kernel
theorem dX7_init_90 : decode cX7_init 90 = .ok (.iastore, 1) := by decide +kernel
theorem dX7_init_91 : decode cX7_init 91 = .ok (.putfield 13, 3) := by decide +kernel
theorem dX7_init_94 : decode cX7_init 94 = .ok (.aload_n 0, 1) := by decide +kernel
theorem dX7_init_95 : decode cX7_init 95 = .ok (.bipush 6, 2) := by decide +kernel
theorem dX7_init_97 : decode cX7_init 97 = .ok (.newarray .int, 2) := by decide +kernel
theorem dX7_init_99 : decode cX7_init 99 = .ok (.putfield 16, 3) := by decide +kernel
theorem dX7_init_102 : decode cX7_init 102 = .ok (.aload_n 0, 1) := by decide +kernel
theorem dX7_init_103 : decode cX7_init 103 = .ok (.bipush 96, 2) := by decide +kernel
theorem dX7_init_105 : decode cX7_init 105 = .ok (.newarray .int, 2) := by decide +kernel
theorem dX7_init_107 : decode cX7_init 107 = .ok (.putfield 19, 3) := by decide +kernel
theorem dX7_init_110 : decode cX7_init 110 = .ok (.aload_n 0, 1) := by decide +kernel
theorem dX7_init_111 : decode cX7_init 111 = .ok (.bipush 96, 2) := by decide +kernel
theorem dX7_init_113 : decode cX7_init 113 = .ok (.newarray .int, 2) := by decide +kernel
theorem dX7_init_115 : decode cX7_init 115 = .ok (.putfield 22, 3) := by decide +kernel
theorem dX7_init_118 : decode cX7_init 118 = .ok (.aload_n 0, 1) := by decide +kernel
theorem dX7_init_119 : decode cX7_init 119 = .ok (.bipush 96, 2) := by decide +kernel
theorem dX7_init_121 : decode cX7_init 121 = .ok (.newarray .int, 2) := by decide +kernel
theorem dX7_init_123 : decode cX7_init 123 = .ok (.putfield 25, 3) := by decide +kernel
theorem dX7_init_126 : decode cX7_init 126 = .ok (.aload_n 0, 1) := by decide +kernel
theorem dX7_init_127 : decode cX7_init 127 = .ok (.sipush 150, 3) := by decide +kernel
theorem dX7_init_130 : decode cX7_init 130 = .ok (.newarray .int, 2) := by decide +kernel
theorem dX7_init_132 : decode cX7_init 132 = .ok (.putfield 28, 3) := by decide +kernel
theorem dX7_init_135 : decode cX7_init 135 = .ok (.aload_n 0, 1) := by decide +kernel
theorem dX7_init_136 : decode cX7_init 136 = .ok (.sipush 150, 3) := by decide +kernel
theorem dX7_init_139 : decode cX7_init 139 = .ok (.newarray .int, 2) := by decide +kernel
theorem dX7_init_141 : decode cX7_init 141 = .ok (.putfield 31, 3) := by decide +kernel
theorem dX7_init_144 : decode cX7_init 144 = .ok (.aload_n 0, 1) := by decide +kernel
theorem dX7_init_145 : decode cX7_init 145 = .ok (.sipush 150, 3) := by decide +kernel
theorem dX7_init_148 : decode cX7_init 148 = .ok (.newarray .int, 2) := by decide +kernel
theorem dX7_init_150 : decode cX7_init 150 = .ok (.putfield 34, 3) := by decide +kernel
theorem dX7_init_153 : decode cX7_init 153 = .ok (.aload_n 0, 1) := by decide +kernel
theorem dX7_init_154 : decode cX7_init 154 = .ok (.sipush 150, 3) := by decide +kernel
theorem dX7_init_157 : decode cX7_init 157 = .ok (.newarray .int, 2) := by decide +kernel
theorem dX7_init_159 : decode cX7_init 159 = .ok (.putfield 37, 3) := by decide +kernel
theorem dX7_init_162 : decode cX7_init 162 = .ok (.aload_n 0, 1) := by decide +kernel
theorem dX7_init_163 : decode cX7_init 163 = .ok (.sipush 150, 3) := by decide +kernel
theorem dX7_init_166 : decode cX7_init 166 = .ok (.newarray .int, 2) := by decide +kernel
theorem dX7_init_168 : decode cX7_init 168 = .ok (.putfield 40, 3) := by decide +kernel
theorem dX7_init_171 : decode cX7_init 171 = .ok (.aload_n 0, 1) := by decide +kernel
theorem dX7_init_172 : decode cX7_init 172 = .ok (.sipush 150, 3) := by decide +kernel
theorem dX7_init_175 : decode cX7_init 175 = .ok (.newarray .boolean, 2) := by decide +kernel
theorem dX7_init_177 : decode cX7_init 177 = .ok (.putfield 43, 3) := by decide +kernel
theorem dX7_init_180 : decode cX7_init 180 = .ok (.aload_n 0, 1) := by decide +kernel
theorem dX7_init_181 : decode cX7_init 181 = .ok (.bipush 36, 2) := by decide +kernel
theorem dX7_init_183 : decode cX7_init 183 = .ok (.newarray .int, 2) := by decide +kernel
theorem dX7_init_185 : decode cX7_init 185 = .ok (.putfield 47, 3) := by decide +kernel
theorem dX7_init_188 : decode cX7_init 188 = .ok (.aload_n 0, 1) := by decide +kernel
theorem dX7_init_189 : decode cX7_init 189 = .ok (.bipush 16, 2) := by decide +kernel
theorem dX7_init_191 : decode cX7_init 191 = .ok (.newarray .int, 2) := by decide +kernel
theorem dX7_init_193 : decode cX7_init 193 = .ok (.putfield 50, 3) := by decide +kernel
theorem dX7_init_196 : decode cX7_init 196 = .ok (.return_, 1) := by decide +kernel
theorem dX7_thrown_0 : decode cX7_thrown 0 = .ok (.aload_n 0, 1) := by decide +kernel
theorem dX7_thrown_1 : decode cX7_thrown 1 = .ok (.getfield 53, 3) := by decide +kernel
theorem dX7_thrown_4 : decode cX7_thrown 4 = .ok (.ireturn, 1) := by decide +kernel
theorem dX7_goesWell_0 : decode cX7_goesWell 0 = .ok (.aload_n 0, 1) := by decide +kernel
theorem dX7_goesWell_1 : decode cX7_goesWell 1 = .ok (.iload_n 1, 1) := by decide +kernel
theorem dX7_goesWell_2 : decode cX7_goesWell 2 = .ok (.putfield 53, 3) := by decide +kernel
theorem dX7_goesWell_5 : decode cX7_goesWell 5 = .ok (.iload_n 1, 1) := by decide +kernel
theorem dX7_goesWell_6 : decode cX7_goesWell 6 = .ok (.ifCond .ne 7, 3) := by decide +kernel
theorem dX7_goesWell_9 : decode cX7_goesWell 9 = .ok (.iconst 1, 1) := by decide +kernel
theorem dX7_goesWell_10 : decode cX7_goesWell 10 = .ok (.goto 4, 3) := by decide +kernel
theorem dX7_goesWell_13 : decode cX7_goesWell 13 = .ok (.iconst 0, 1) := by decide +kernel
theorem dX7_goesWell_14 : decode cX7_goesWell 14 = .ok (.ireturn, 1) := by decide +kernel
theorem dX7_in_0 : decode cX7_in 0 = .ok (.iload_n 0, 1) := by decide +kernel
theorem dX7_in_1 : decode cX7_in 1 = .ok (.iload_n 1, 1) := by decide +kernel
theorem dX7_in_2 : decode cX7_in 2 = .ok (.if_icmp .lt 12, 3) := by decide +kernel
theorem dX7_in_5 : decode cX7_in 5 = .ok (.iload_n 0, 1) := by decide +kernel
theorem dX7_in_6 : decode cX7_in 6 = .ok (.iload_n 2, 1) := by decide +kernel
theorem dX7_in_7 : decode cX7_in 7 = .ok (.if_icmp .gt 7, 3) := by decide +kernel
theorem dX7_in_10 : decode cX7_in 10 = .ok (.iconst 1, 1) := by decide +kernel
theorem dX7_in_11 : decode cX7_in 11 = .ok (.goto 4, 3) := by decide +kernel
theorem dX7_in_14 : decode cX7_in 14 = .ok (.iconst 0, 1) := by decide +kernel
theorem dX7_in_15 : decode cX7_in 15 = .ok (.ireturn, 1) := by decide +kernel
theorem dX7_isFile_0 : decode cX7_isFile 0 = .ok (.iload_n 1, 1) := by decide +kernel
theorem dX7_isFile_1 : decode cX7_isFile 1 = .ok (.iconst 0, 1) := by decide +kernel
theorem dX7_isFile_2 : decode cX7_isFile 2 = .ok (.aload_n 0, 1) := by decide +kernel
theorem dX7_isFile_3 : decode cX7_isFile 3 = .ok (.getfield 57, 3) := by decide +kernel
theorem dX7_isFile_6 : decode cX7_isFile 6 = .ok (.iconst 1, 1) := by decide +kernel
theorem dX7_isFile_7 : decode cX7_isFile 7 = .ok (.isub, 1) := by decide +kernel
theorem dX7_isFile_8 : decode cX7_isFile 8 = .ok (.invokestatic 60, 3) := by decide +kernel
theorem dX7_isFile_11 : decode cX7_isFile 11 = .ok (.ireturn, 1) := by decide +kernel
theorem dX7_isParty_0 : decode cX7_isParty 0 = .ok (.iload_n 1, 1) := by decide +kernel
theorem dX7_isParty_1 : decode cX7_isParty 1 = .ok (.iconst 0, 1) := by decide +kernel
theorem dX7_isParty_2 : decode cX7_isParty 2 = .ok (.aload_n 0, 1) := by decide +kernel
theorem dX7_isParty_3 : decode cX7_isParty 3 = .ok (.getfield 64, 3) := by decide +kernel
theorem dX7_isParty_6 : decode cX7_isParty 6 = .ok (.iconst 1, 1) := by decide +kernel
theorem dX7_isParty_7 : decode cX7_isParty 7 = .ok (.isub, 1) := by decide +kernel
theorem dX7_isParty_8 : decode cX7_isParty 8 = .ok (.invokestatic 60, 3) := by decide +kernel
theorem dX7_isParty_11 : decode cX7_isParty 11 = .ok (.ireturn, 1) := by decide +kernel
theorem dX7_file_0 : decode cX7_file 0 = .ok (.iload_n 1, 1) := by decide +kernel
theorem dX7_file_1 : decode cX7_file 1 = .ok (.iconst 0, 1) := by decide +kernel
theorem dX7_file_2 : decode cX7_file 2 = .ok (.sipush 255, 3) := by decide +kernel
theorem dX7_file_5 : decode cX7_file 5 = .ok (.invokestatic 60, 3) := by decide +kernel
theorem dX7_file_8 : decode cX7_file 8 = .ok (.istore_n 2, 1) := by decide +kernel
theorem dX7_file_9 : decode cX7_file 9 = .ok (.aload_n 0, 1) := by decide +kernel
theorem dX7_file_10 : decode cX7_file 10 = .ok (.iload_n 2, 1) := by decide +kernel
theorem dX7_file_11 : decode cX7_file 11 = .ok (.ifCond .ne 7, 3) := by decide +kernel
theorem dX7_file_14 : decode cX7_file 14 = .ok (.iconst 1, 1) := by decide +kernel
theorem dX7_file_15 : decode cX7_file 15 = .ok (.goto 17, 3) := by decide +kernel
theorem dX7_file_18 : decode cX7_file 18 = .ok (.aload_n 0, 1) := by decide +kernel
theorem dX7_file_19 : decode cX7_file 19 = .ok (.getfield 57, 3) := by decide +kernel
theorem dX7_file_22 : decode cX7_file 22 = .ok (.bipush 16, 2) := by decide +kernel
theorem dX7_file_24 : decode cX7_file 24 = .ok (.if_icmp .ne 7, 3) := by decide +kernel
theorem dX7_file_27 : decode cX7_file 27 = .ok (.iconst 2, 1) := by decide +kernel
theorem dX7_file_28 : decode cX7_file 28 = .ok (.goto 4, 3) := by decide +kernel
theorem dX7_file_31 : decode cX7_file 31 = .ok (.iconst 0, 1) := by decide +kernel
theorem dX7_file_32 : decode cX7_file 32 = .ok (.invokevirtual 67, 3) := by decide +kernel
theorem dX7_file_35 : decode cX7_file 35 = .ok (.ifCond .ne 5, 3) := by decide +kernel
theorem dX7_file_38 : decode cX7_file 38 = .ok (.iconst 0, 1) := by decide +kernel
theorem dX7_file_39 : decode cX7_file 39 = .ok (.ireturn, 1) := by decide +kernel
theorem dX7_file_40 : decode cX7_file 40 = .ok (.aload_n 0, 1) := by decide +kernel
theorem dX7_file_41 : decode cX7_file 41 = .ok (.getfield 7, 3) := by decide +kernel
theorem dX7_file_44 : decode cX7_file 44 = .ok (.aload_n 0, 1) := by decide +kernel
theorem dX7_file_45 : decode cX7_file 45 = .ok (.getfield 57, 3) := by decide +kernel
theorem dX7_file_48 : decode cX7_file 48 = .ok (.iload_n 1, 1) := by decide +kernel
theorem dX7_file_49 : decode cX7_file 49 = .ok (.iastore, 1) := by decide +kernel
theorem dX7_file_50 : decode cX7_file 50 = .ok (.aload_n 0, 1) := by decide +kernel
theorem dX7_file_51 : decode cX7_file 51 = .ok (.dup, 1) := by decide +kernel
theorem dX7_file_52 : decode cX7_file 52 = .ok (.getfield 57, 3) := by decide +kernel
theorem dX7_file_55 : decode cX7_file 55 = .ok (.iconst 1, 1) := by decide +kernel
theorem dX7_file_56 : decode cX7_file 56 = .ok (.iadd, 1) := by decide +kernel
theorem dX7_file_57 : decode cX7_file 57 = .ok (.putfield 57, 3) := by decide +kernel
theorem dX7_file_60 : decode cX7_file 60 = .ok (.aload_n 0, 1) := by decide +kernel
theorem dX7_file_61 : decode cX7_file 61 = .ok (.getfield 57, 3) := by decide +kernel
theorem dX7_file_64 : decode cX7_file 64 = .ok (.iconst 1, 1) := by decide +kernel
theorem dX7_file_65 : decode cX7_file 65 = .ok (.isub, 1) := by decide +kernel
theorem dX7_file_66 : decode cX7_file 66 = .ok (.ireturn, 1) := by decide +kernel
theorem dX7_recall_0 : decode cX7_recall 0 = .ok (.iconst 0, 1) := by decide +kernel
theorem dX7_recall_1 : decode cX7_recall 1 = .ok (.istore_n 3, 1) := by decide +kernel
theorem dX7_recall_2 : decode cX7_recall 2 = .ok (.iconst 0, 1) := by decide +kernel
theorem dX7_recall_3 : decode cX7_recall 3 = .ok (.istore 4, 2) := by decide +kernel
theorem dX7_recall_5 : decode cX7_recall 5 = .ok (.iload 4, 2) := by decide +kernel
theorem dX7_recall_7 : decode cX7_recall 7 = .ok (.aload_n 0, 1) := by decide +kernel
theorem dX7_recall_8 : decode cX7_recall 8 = .ok (.getfield 71, 3) := by decide +kernel
theorem dX7_recall_11 : decode cX7_recall 11 = .ok (.if_icmp .ge 97, 3) := by decide +kernel
theorem dX7_recall_14 : decode cX7_recall 14 = .ok (.aload_n 0, 1) := by decide +kernel
theorem dX7_recall_15 : decode cX7_recall 15 = .ok (.getfield 43, 3) := by decide +kernel
theorem dX7_recall_18 : decode cX7_recall 18 = .ok (.iload 4, 2) := by decide +kernel
theorem dX7_recall_20 : decode cX7_recall 20 = .ok (.baload, 1) := by decide +kernel
theorem dX7_recall_21 : decode cX7_recall 21 = .ok (.ifCond .ne 38, 3) := by decide +kernel
theorem dX7_recall_24 : decode cX7_recall 24 = .ok (.aload_n 0, 1) := by decide +kernel
theorem dX7_recall_25 : decode cX7_recall 25 = .ok (.getfield 31, 3) := by decide +kernel
theorem dX7_recall_28 : decode cX7_recall 28 = .ok (.iload 4, 2) := by decide +kernel
theorem dX7_recall_30 : decode cX7_recall 30 = .ok (.iaload, 1) := by decide +kernel
theorem dX7_recall_31 : decode cX7_recall 31 = .ok (.iload_n 1, 1) := by decide +kernel
theorem dX7_recall_32 : decode cX7_recall 32 = .ok (.ishr, 1) := by decide +kernel
theorem dX7_recall_33 : decode cX7_recall 33 = .ok (.iconst 1, 1) := by decide +kernel
theorem dX7_recall_34 : decode cX7_recall 34 = .ok (.iand, 1) := by decide +kernel
theorem dX7_recall_35 : decode cX7_recall 35 = .ok (.iconst 1, 1) := by decide +kernel
theorem dX7_recall_36 : decode cX7_recall 36 = .ok (.if_icmp .ne 23, 3) := by decide +kernel
theorem dX7_recall_39 : decode cX7_recall 39 = .ok (.iload_n 2, 1) := by decide +kernel
theorem dX7_recall_40 : decode cX7_recall 40 = .ok (.iconst (-1), 1) := by decide +kernel
theorem dX7_recall_41 : decode cX7_recall 41 = .ok (.if_icmp .eq 14, 3) := by decide +kernel
theorem dX7_recall_44 : decode cX7_recall 44 = .ok (.aload_n 0, 1) := by decide +kernel
theorem dX7_recall_45 : decode cX7_recall 45 = .ok (.getfield 28, 3) := by decide +kernel
theorem dX7_recall_48 : decode cX7_recall 48 = .ok (.iload 4, 2) := by decide +kernel
theorem dX7_recall_50 : decode cX7_recall 50 = .ok (.iaload, 1) := by decide +kernel
theorem dX7_recall_51 : decode cX7_recall 51 = .ok (.iload_n 2, 1) := by decide +kernel
theorem dX7_recall_52 : decode cX7_recall 52 = .ok (.if_icmp .ne 7, 3) := by decide +kernel
theorem dX7_recall_55 : decode cX7_recall 55 = .ok (.iconst 1, 1) := by decide +kernel
theorem dX7_recall_56 : decode cX7_recall 56 = .ok (.goto 4, 3) := by decide +kernel
theorem dX7_recall_59 : decode cX7_recall 59 = .ok (.iconst 0, 1) := by decide +kernel
theorem dX7_recall_60 : decode cX7_recall 60 = .ok (.istore 5, 2) := by decide +kernel
theorem dX7_recall_62 : decode cX7_recall 62 = .ok (.aload_n 0, 1) := by decide +kernel
theorem dX7_recall_63 : decode cX7_recall 63 = .ok (.getfield 43, 3) := by decide +kernel
theorem dX7_recall_66 : decode cX7_recall 66 = .ok (.iload 4, 2) := by decide +kernel
theorem dX7_recall_68 : decode cX7_recall 68 = .ok (.aload_n 0, 1) := by decide +kernel
theorem dX7_recall_69 : decode cX7_recall 69 = .ok (.getfield 43, 3) := by decide +kernel
theorem dX7_recall_72 : decode cX7_recall 72 = .ok (.iload 4, 2) := by decide +kernel
theorem dX7_recall_74 : decode cX7_recall 74 = .ok (.baload, 1) := by decide +kernel
theorem dX7_recall_75 : decode cX7_recall 75 = .ok (.ifCond .ne 8, 3) := by decide +kernel
theorem dX7_recall_78 : decode cX7_recall 78 = .ok (.iload 5, 2) := by decide +kernel
theorem dX7_recall_80 : decode cX7_recall 80 = .ok (.ifCond .eq 7, 3) := by decide +kernel
theorem dX7_recall_83 : decode cX7_recall 83 = .ok (.iconst 1, 1) := by decide +kernel
theorem dX7_recall_84 : decode cX7_recall 84 = .ok (.goto 4, 3) := by decide +kernel
theorem dX7_recall_87 : decode cX7_recall 87 = .ok (.iconst 0, 1) := by decide +kernel
theorem dX7_recall_88 : decode cX7_recall 88 = .ok (.bastore, 1) := by decide +kernel
theorem dX7_recall_89 : decode cX7_recall 89 = .ok (.iload_n 3, 1) := by decide +kernel
theorem dX7_recall_90 : decode cX7_recall 90 = .ok (.iload 5, 2) := by decide +kernel
theorem dX7_recall_92 : decode cX7_recall 92 = .ok (.ifCond .eq 7, 3) := by decide +kernel
theorem dX7_recall_95 : decode cX7_recall 95 = .ok (.iconst 1, 1) := by decide +kernel
theorem dX7_recall_96 : decode cX7_recall 96 = .ok (.goto 4, 3) := by decide +kernel
theorem dX7_recall_99 : decode cX7_recall 99 = .ok (.iconst 0, 1) := by decide +kernel
theorem dX7_recall_100 : decode cX7_recall 100 = .ok (.iadd, 1) := by decide +kernel
theorem dX7_recall_101 : decode cX7_recall 101 = .ok (.istore_n 3, 1) := by decide +kernel
theorem dX7_recall_102 : decode cX7_recall 102 = .ok (.iinc 4 1, 3) := by decide +kernel
theorem dX7_recall_105 : decode cX7_recall 105 = .ok (.goto (-100), 3) := by decide +kernel
theorem dX7_recall_108 : decode cX7_recall 108 = .ok (.iload_n 3, 1) := by decide +kernel
theorem dX7_recall_109 : decode cX7_recall 109 = .ok (.ireturn, 1) := by decide +kernel
theorem dX7_change_0 : decode cX7_change 0 = .ok (.aload_n 0, 1) := by decide +kernel
theorem dX7_change_1 : decode cX7_change 1 = .ok (.iload_n 1, 1) := by decide +kernel
theorem dX7_change_2 : decode cX7_change 2 = .ok (.invokevirtual 74, 3) := by decide +kernel
theorem dX7_change_5 : decode cX7_change 5 = .ok (.istore_n 3, 1) := by decide +kernel
theorem dX7_change_6 : decode cX7_change 6 = .ok (.aload_n 0, 1) := by decide +kernel
theorem dX7_change_7 : decode cX7_change 7 = .ok (.iload_n 3, 1) := by decide +kernel
theorem dX7_change_8 : decode cX7_change 8 = .ok (.ifCond .ne 7, 3) := by decide +kernel
theorem dX7_change_11 : decode cX7_change 11 = .ok (.iconst 1, 1) := by decide +kernel
theorem dX7_change_12 : decode cX7_change 12 = .ok (.goto 19, 3) := by decide +kernel
theorem dX7_change_15 : decode cX7_change 15 = .ok (.iload_n 2, 1) := by decide +kernel
theorem dX7_change_16 : decode cX7_change 16 = .ok (.iconst 0, 1) := by decide +kernel
theorem dX7_change_17 : decode cX7_change 17 = .ok (.sipush 255, 3) := by decide +kernel
theorem dX7_change_20 : decode cX7_change 20 = .ok (.invokestatic 60, 3) := by decide +kernel
theorem dX7_change_23 : decode cX7_change 23 = .ok (.ifCond .eq 7, 3) := by decide +kernel
theorem dX7_change_26 : decode cX7_change 26 = .ok (.iconst 0, 1) := by decide +kernel
theorem dX7_change_27 : decode cX7_change 27 = .ok (.goto 4, 3) := by decide +kernel
theorem dX7_change_30 : decode cX7_change 30 = .ok (.iconst 2, 1) := by decide +kernel
theorem dX7_change_31 : decode cX7_change 31 = .ok (.invokevirtual 67, 3) := by decide +kernel
theorem dX7_change_34 : decode cX7_change 34 = .ok (.ifCond .ne 5, 3) := by decide +kernel
theorem dX7_change_37 : decode cX7_change 37 = .ok (.iconst 0, 1) := by decide +kernel
theorem dX7_change_38 : decode cX7_change 38 = .ok (.ireturn, 1) := by decide +kernel
theorem dX7_change_39 : decode cX7_change 39 = .ok (.aload_n 0, 1) := by decide +kernel
theorem dX7_change_40 : decode cX7_change 40 = .ok (.getfield 7, 3) := by decide +kernel
theorem dX7_change_43 : decode cX7_change 43 = .ok (.iload_n 1, 1) := by decide +kernel
theorem dX7_change_44 : decode cX7_change 44 = .ok (.iload_n 2, 1) := by decide +kernel
theorem dX7_change_45 : decode cX7_change 45 = .ok (.iastore, 1) := by decide +kernel
theorem dX7_change_46 : decode cX7_change 46 = .ok (.aload_n 0, 1) := by decide +kernel
theorem dX7_change_47 : decode cX7_change 47 = .ok (.iload_n 1, 1) := by decide +kernel
theorem dX7_change_48 : decode cX7_change 48 = .ok (.iconst (-1), 1) := by decide +kernel
theorem dX7_change_49 : decode cX7_change 49 = .ok (.invokevirtual 77, 3) := by decide +kernel
theorem dX7_change_52 : decode cX7_change 52 = .ok (.ireturn, 1) := by decide +kernel
theorem dX7_party_0 : decode cX7_party 0 = .ok (.iload_n 1, 1) := by decide +kernel
theorem dX7_party_1 : decode cX7_party 1 = .ok (.iconst 0, 1) := by decide +kernel
theorem dX7_party_2 : decode cX7_party 2 = .ok (.sipush 128, 3) := by decide +kernel
theorem dX7_party_5 : decode cX7_party 5 = .ok (.invokestatic 60, 3) := by decide +kernel
theorem dX7_party_8 : decode cX7_party 8 = .ok (.istore_n 2, 1) := by decide +kernel
theorem dX7_party_9 : decode cX7_party 9 = .ok (.aload_n 0, 1) := by decide +kernel
theorem dX7_party_10 : decode cX7_party 10 = .ok (.iload_n 2, 1) := by decide +kernel
theorem dX7_party_11 : decode cX7_party 11 = .ok (.ifCond .ne 7, 3) := by decide +kernel
theorem dX7_party_14 : decode cX7_party 14 = .ok (.iconst 1, 1) := by decide +kernel
theorem dX7_party_15 : decode cX7_party 15 = .ok (.goto 17, 3) := by decide +kernel
theorem dX7_party_18 : decode cX7_party 18 = .ok (.aload_n 0, 1) := by decide +kernel
theorem dX7_party_19 : decode cX7_party 19 = .ok (.getfield 64, 3) := by decide +kernel
theorem dX7_party_22 : decode cX7_party 22 = .ok (.bipush 6, 2) := by decide +kernel
theorem dX7_party_24 : decode cX7_party 24 = .ok (.if_icmp .ne 7, 3) := by decide +kernel
theorem dX7_party_27 : decode cX7_party 27 = .ok (.iconst 2, 1) := by decide +kernel
theorem dX7_party_28 : decode cX7_party 28 = .ok (.goto 4, 3) := by decide +kernel
theorem dX7_party_31 : decode cX7_party 31 = .ok (.iconst 0, 1) := by decide +kernel
theorem dX7_party_32 : decode cX7_party 32 = .ok (.invokevirtual 67, 3) := by decide +kernel
theorem dX7_party_35 : decode cX7_party 35 = .ok (.ifCond .ne 5, 3) := by decide +kernel
theorem dX7_party_38 : decode cX7_party 38 = .ok (.iconst 0, 1) := by decide +kernel
theorem dX7_party_39 : decode cX7_party 39 = .ok (.ireturn, 1) := by decide +kernel
theorem dX7_party_40 : decode cX7_party 40 = .ok (.aload_n 0, 1) := by decide +kernel
theorem dX7_party_41 : decode cX7_party 41 = .ok (.getfield 16, 3) := by decide +kernel
theorem dX7_party_44 : decode cX7_party 44 = .ok (.aload_n 0, 1) := by decide +kernel
theorem dX7_party_45 : decode cX7_party 45 = .ok (.getfield 64, 3) := by decide +kernel
theorem dX7_party_48 : decode cX7_party 48 = .ok (.iload_n 1, 1) := by decide +kernel
theorem dX7_party_49 : decode cX7_party 49 = .ok (.iastore, 1) := by decide +kernel
theorem dX7_party_50 : decode cX7_party 50 = .ok (.aload_n 0, 1) := by decide +kernel
theorem dX7_party_51 : decode cX7_party 51 = .ok (.dup, 1) := by decide +kernel
theorem dX7_party_52 : decode cX7_party 52 = .ok (.getfield 64, 3) := by decide +kernel
theorem dX7_party_55 : decode cX7_party 55 = .ok (.iconst 1, 1) := by decide +kernel
theorem dX7_party_56 : decode cX7_party 56 = .ok (.iadd, 1) := by decide +kernel
theorem dX7_party_57 : decode cX7_party 57 = .ok (.putfield 64, 3) := by decide +kernel
theorem dX7_party_60 : decode cX7_party 60 = .ok (.aload_n 0, 1) := by decide +kernel
theorem dX7_party_61 : decode cX7_party 61 = .ok (.getfield 64, 3) := by decide +kernel
theorem dX7_party_64 : decode cX7_party 64 = .ok (.iconst 1, 1) := by decide +kernel
theorem dX7_party_65 : decode cX7_party 65 = .ok (.isub, 1) := by decide +kernel
theorem dX7_party_66 : decode cX7_party 66 = .ok (.ireturn, 1) := by decide +kernel
theorem dX7_budget_0 : decode cX7_budget 0 = .ok (.aload_n 0, 1) := by decide +kernel
theorem dX7_budget_1 : decode cX7_budget 1 = .ok (.iload_n 1, 1) := by decide +kernel
theorem dX7_budget_2 : decode cX7_budget 2 = .ok (.invokevirtual 81, 3) := by decide +kernel
theorem dX7_budget_5 : decode cX7_budget 5 = .ok (.istore_n 3, 1) := by decide +kernel
theorem dX7_budget_6 : decode cX7_budget 6 = .ok (.aload_n 0, 1) := by decide +kernel
theorem dX7_budget_7 : decode cX7_budget 7 = .ok (.iload_n 3, 1) := by decide +kernel
theorem dX7_budget_8 : decode cX7_budget 8 = .ok (.ifCond .ne 7, 3) := by decide +kernel
theorem dX7_budget_11 : decode cX7_budget 11 = .ok (.iconst 1, 1) := by decide +kernel
theorem dX7_budget_12 : decode cX7_budget 12 = .ok (.goto 19, 3) := by decide +kernel
theorem dX7_budget_15 : decode cX7_budget 15 = .ok (.iload_n 2, 1) := by decide +kernel
theorem dX7_budget_16 : decode cX7_budget 16 = .ok (.iconst 0, 1) := by decide +kernel
theorem dX7_budget_17 : decode cX7_budget 17 = .ok (.sipush 128, 3) := by decide +kernel
theorem dX7_budget_20 : decode cX7_budget 20 = .ok (.invokestatic 60, 3) := by decide +kernel
theorem dX7_budget_23 : decode cX7_budget 23 = .ok (.ifCond .eq 7, 3) := by decide +kernel
theorem dX7_budget_26 : decode cX7_budget 26 = .ok (.iconst 0, 1) := by decide +kernel
theorem dX7_budget_27 : decode cX7_budget 27 = .ok (.goto 4, 3) := by decide +kernel
theorem dX7_budget_30 : decode cX7_budget 30 = .ok (.iconst 2, 1) := by decide +kernel
theorem dX7_budget_31 : decode cX7_budget 31 = .ok (.invokevirtual 67, 3) := by decide +kernel
theorem dX7_budget_34 : decode cX7_budget 34 = .ok (.ifCond .ne 5, 3) := by decide +kernel
theorem dX7_budget_37 : decode cX7_budget 37 = .ok (.iconst 0, 1) := by decide +kernel
theorem dX7_budget_38 : decode cX7_budget 38 = .ok (.ireturn, 1) := by decide +kernel
theorem dX7_budget_39 : decode cX7_budget 39 = .ok (.aload_n 0, 1) := by decide +kernel
theorem dX7_budget_40 : decode cX7_budget 40 = .ok (.getfield 16, 3) := by decide +kernel
theorem dX7_budget_43 : decode cX7_budget 43 = .ok (.iload_n 1, 1) := by decide +kernel
theorem dX7_budget_44 : decode cX7_budget 44 = .ok (.iaload, 1) := by decide +kernel
theorem dX7_budget_45 : decode cX7_budget 45 = .ok (.istore 4, 2) := by decide +kernel
theorem dX7_budget_47 : decode cX7_budget 47 = .ok (.aload_n 0, 1) := by decide +kernel
theorem dX7_budget_48 : decode cX7_budget 48 = .ok (.getfield 16, 3) := by decide +kernel
theorem dX7_budget_51 : decode cX7_budget 51 = .ok (.iload_n 1, 1) := by decide +kernel
theorem dX7_budget_52 : decode cX7_budget 52 = .ok (.iload_n 2, 1) := by decide +kernel
theorem dX7_budget_53 : decode cX7_budget 53 = .ok (.iastore, 1) := by decide +kernel
theorem dX7_budget_54 : decode cX7_budget 54 = .ok (.iload 4, 2) := by decide +kernel
theorem dX7_budget_56 : decode cX7_budget 56 = .ok (.ireturn, 1) := by decide +kernel
theorem dX7_right_0 : decode cX7_right 0 = .ok (.aload_n 0, 1) := by decide +kernel
theorem dX7_right_1 : decode cX7_right 1 = .ok (.iload_n 1, 1) := by decide +kernel
theorem dX7_right_2 : decode cX7_right 2 = .ok (.invokevirtual 81, 3) := by decide +kernel
theorem dX7_right_5 : decode cX7_right 5 = .ok (.ifCond .eq 15, 3) := by decide +kernel
theorem dX7_right_8 : decode cX7_right 8 = .ok (.aload_n 0, 1) := by decide +kernel
theorem dX7_right_9 : decode cX7_right 9 = .ok (.iload_n 2, 1) := by decide +kernel
theorem dX7_right_10 : decode cX7_right 10 = .ok (.invokevirtual 74, 3) := by decide +kernel
theorem dX7_right_13 : decode cX7_right 13 = .ok (.ifCond .eq 7, 3) := by decide +kernel
theorem dX7_right_16 : decode cX7_right 16 = .ok (.iconst 1, 1) := by decide +kernel
theorem dX7_right_17 : decode cX7_right 17 = .ok (.goto 4, 3) := by decide +kernel
theorem dX7_right_20 : decode cX7_right 20 = .ok (.iconst 0, 1) := by decide +kernel
theorem dX7_right_21 : decode cX7_right 21 = .ok (.istore 6, 2) := by decide +kernel
theorem dX7_right_23 : decode cX7_right 23 = .ok (.iload_n 3, 1) := by decide +kernel
theorem dX7_right_24 : decode cX7_right 24 = .ok (.iconst 1, 1) := by decide +kernel
theorem dX7_right_25 : decode cX7_right 25 = .ok (.iconst 2, 1) := by decide +kernel
theorem dX7_right_26 : decode cX7_right 26 = .ok (.invokestatic 60, 3) := by decide +kernel
theorem dX7_right_29 : decode cX7_right 29 = .ok (.ifCond .eq 32, 3) := by decide +kernel
theorem dX7_right_32 : decode cX7_right 32 = .ok (.iload 4, 2) := by decide +kernel
theorem dX7_right_34 : decode cX7_right 34 = .ok (.iconst 0, 1) := by decide +kernel
theorem dX7_right_35 : decode cX7_right 35 = .ok (.sipush 5000, 3) := by decide +kernel
theorem dX7_right_38 : decode cX7_right 38 = .ok (.invokestatic 60, 3) := by decide +kernel
theorem dX7_right_41 : decode cX7_right 41 = .ok (.ifCond .eq 20, 3) := by decide +kernel
theorem dX7_right_44 : decode cX7_right 44 = .ok (.iload 5, 2) := by decide +kernel
theorem dX7_right_46 : decode cX7_right 46 = .ok (.iload 4, 2) := by decide +kernel
theorem dX7_right_48 : decode cX7_right 48 = .ok (.sipush 5000, 3) := by decide +kernel
theorem dX7_right_51 : decode cX7_right 51 = .ok (.invokestatic 60, 3) := by decide +kernel
theorem dX7_right_54 : decode cX7_right 54 = .ok (.ifCond .eq 7, 3) := by decide +kernel
theorem dX7_right_57 : decode cX7_right 57 = .ok (.iconst 1, 1) := by decide +kernel
theorem dX7_right_58 : decode cX7_right 58 = .ok (.goto 4, 3) := by decide +kernel
theorem dX7_right_61 : decode cX7_right 61 = .ok (.iconst 0, 1) := by decide +kernel
theorem dX7_right_62 : decode cX7_right 62 = .ok (.istore 7, 2) := by decide +kernel
theorem dX7_right_64 : decode cX7_right 64 = .ok (.aload_n 0, 1) := by decide +kernel
theorem dX7_right_65 : decode cX7_right 65 = .ok (.iload 6, 2) := by decide +kernel
theorem dX7_right_67 : decode cX7_right 67 = .ok (.ifCond .ne 7, 3) := by decide +kernel
theorem dX7_right_70 : decode cX7_right 70 = .ok (.iconst 1, 1) := by decide +kernel
theorem dX7_right_71 : decode cX7_right 71 = .ok (.goto 13, 3) := by decide +kernel
theorem dX7_right_74 : decode cX7_right 74 = .ok (.iload 7, 2) := by decide +kernel
theorem dX7_right_76 : decode cX7_right 76 = .ok (.ifCond .eq 7, 3) := by decide +kernel
theorem dX7_right_79 : decode cX7_right 79 = .ok (.iconst 0, 1) := by decide +kernel
theorem dX7_right_80 : decode cX7_right 80 = .ok (.goto 4, 3) := by decide +kernel
theorem dX7_right_83 : decode cX7_right 83 = .ok (.iconst 2, 1) := by decide +kernel
theorem dX7_right_84 : decode cX7_right 84 = .ok (.invokevirtual 67, 3) := by decide +kernel
theorem dX7_right_87 : decode cX7_right 87 = .ok (.ifCond .eq 41, 3) := by decide +kernel
theorem dX7_right_90 : decode cX7_right 90 = .ok (.aload_n 0, 1) := by decide +kernel
theorem dX7_right_91 : decode cX7_right 91 = .ok (.getfield 19, 3) := by decide +kernel
theorem dX7_right_94 : decode cX7_right 94 = .ok (.bipush 16, 2) := by decide +kernel
theorem dX7_right_96 : decode cX7_right 96 = .ok (.iload_n 1, 1) := by decide +kernel
theorem dX7_right_97 : decode cX7_right 97 = .ok (.imul, 1) := by decide +kernel
theorem dX7_right_98 : decode cX7_right 98 = .ok (.iload_n 2, 1) := by decide +kernel
theorem dX7_right_99 : decode cX7_right 99 = .ok (.iadd, 1) := by decide +kernel
theorem dX7_right_100 : decode cX7_right 100 = .ok (.iload_n 3, 1) := by decide +kernel
theorem dX7_right_101 : decode cX7_right 101 = .ok (.iastore, 1) := by decide +kernel
theorem dX7_right_102 : decode cX7_right 102 = .ok (.aload_n 0, 1) := by decide +kernel
theorem dX7_right_103 : decode cX7_right 103 = .ok (.getfield 22, 3) := by decide +kernel
theorem dX7_right_106 : decode cX7_right 106 = .ok (.bipush 16, 2) := by decide +kernel
theorem dX7_right_108 : decode cX7_right 108 = .ok (.iload_n 1, 1) := by decide +kernel
theorem dX7_right_109 : decode cX7_right 109 = .ok (.imul, 1) := by decide +kernel
theorem dX7_right_110 : decode cX7_right 110 = .ok (.iload_n 2, 1) := by decide +kernel
theorem dX7_right_111 : decode cX7_right 111 = .ok (.iadd, 1) := by decide +kernel
theorem dX7_right_112 : decode cX7_right 112 = .ok (.iload 4, 2) := by decide +kernel
theorem dX7_right_114 : decode cX7_right 114 = .ok (.iastore, 1) := by decide +kernel
theorem dX7_right_115 : decode cX7_right 115 = .ok (.aload_n 0, 1) := by decide +kernel
theorem dX7_right_116 : decode cX7_right 116 = .ok (.getfield 25, 3) := by decide +kernel
theorem dX7_right_119 : decode cX7_right 119 = .ok (.bipush 16, 2) := by decide +kernel
theorem dX7_right_121 : decode cX7_right 121 = .ok (.iload_n 1, 1) := by decide +kernel
theorem dX7_right_122 : decode cX7_right 122 = .ok (.imul, 1) := by decide +kernel
theorem dX7_right_123 : decode cX7_right 123 = .ok (.iload_n 2, 1) := by decide +kernel
theorem dX7_right_124 : decode cX7_right 124 = .ok (.iadd, 1) := by decide +kernel
theorem dX7_right_125 : decode cX7_right 125 = .ok (.iload 5, 2) := by decide +kernel
theorem dX7_right_127 : decode cX7_right 127 = .ok (.iastore, 1) := by decide +kernel
theorem dX7_right_128 : decode cX7_right 128 = .ok (.return_, 1) := by decide +kernel
theorem dX7_takeBack_0 : decode cX7_takeBack 0 = .ok (.aload_n 0, 1) := by decide +kernel
theorem dX7_takeBack_1 : decode cX7_takeBack 1 = .ok (.aload_n 0, 1) := by decide +kernel
theorem dX7_takeBack_2 : decode cX7_takeBack 2 = .ok (.iload_n 1, 1) := by decide +kernel
theorem dX7_takeBack_3 : decode cX7_takeBack 3 = .ok (.invokevirtual 81, 3) := by decide +kernel
theorem dX7_takeBack_6 : decode cX7_takeBack 6 = .ok (.ifCond .eq 15, 3) := by decide +kernel
theorem dX7_takeBack_9 : decode cX7_takeBack 9 = .ok (.aload_n 0, 1) := by decide +kernel
theorem dX7_takeBack_10 : decode cX7_takeBack 10 = .ok (.iload_n 2, 1) := by decide +kernel
theorem dX7_takeBack_11 : decode cX7_takeBack 11 = .ok (.invokevirtual 74, 3) := by decide +kernel
theorem dX7_takeBack_14 : decode cX7_takeBack 14 = .ok (.ifCond .eq 7, 3) := by decide +kernel
theorem dX7_takeBack_17 : decode cX7_takeBack 17 = .ok (.iconst 0, 1) := by decide +kernel
theorem dX7_takeBack_18 : decode cX7_takeBack 18 = .ok (.goto 4, 3) := by decide +kernel
theorem dX7_takeBack_21 : decode cX7_takeBack 21 = .ok (.iconst 1, 1) := by decide +kernel
theorem dX7_takeBack_22 : decode cX7_takeBack 22 = .ok (.invokevirtual 67, 3) := by decide +kernel
theorem dX7_takeBack_25 : decode cX7_takeBack 25 = .ok (.ifCond .ne 5, 3) := by decide +kernel
theorem dX7_takeBack_28 : decode cX7_takeBack 28 = .ok (.iconst 0, 1) := by decide +kernel
theorem dX7_takeBack_29 : decode cX7_takeBack 29 = .ok (.ireturn, 1) := by decide +kernel
theorem dX7_takeBack_30 : decode cX7_takeBack 30 = .ok (.aload_n 0, 1) := by decide +kernel
theorem dX7_takeBack_31 : decode cX7_takeBack 31 = .ok (.getfield 19, 3) := by decide +kernel
theorem dX7_takeBack_34 : decode cX7_takeBack 34 = .ok (.bipush 16, 2) := by decide +kernel
theorem dX7_takeBack_36 : decode cX7_takeBack 36 = .ok (.iload_n 1, 1) := by decide +kernel
theorem dX7_takeBack_37 : decode cX7_takeBack 37 = .ok (.imul, 1) := by decide +kernel
theorem dX7_takeBack_38 : decode cX7_takeBack 38 = .ok (.iload_n 2, 1) := by decide +kernel
theorem dX7_takeBack_39 : decode cX7_takeBack 39 = .ok (.iadd, 1) := by decide +kernel
theorem dX7_takeBack_40 : decode cX7_takeBack 40 = .ok (.iaload, 1) := by decide +kernel
theorem dX7_takeBack_41 : decode cX7_takeBack 41 = .ok (.ifCond .eq 7, 3) := by decide +kernel
theorem dX7_takeBack_44 : decode cX7_takeBack 44 = .ok (.iconst 1, 1) := by decide +kernel
theorem dX7_takeBack_45 : decode cX7_takeBack 45 = .ok (.goto 4, 3) := by decide +kernel
theorem dX7_takeBack_48 : decode cX7_takeBack 48 = .ok (.iconst 0, 1) := by decide +kernel
theorem dX7_takeBack_49 : decode cX7_takeBack 49 = .ok (.istore_n 3, 1) := by decide +kernel
theorem dX7_takeBack_50 : decode cX7_takeBack 50 = .ok (.aload_n 0, 1) := by decide +kernel
theorem dX7_takeBack_51 : decode cX7_takeBack 51 = .ok (.getfield 19, 3) := by decide +kernel
theorem dX7_takeBack_54 : decode cX7_takeBack 54 = .ok (.bipush 16, 2) := by decide +kernel
theorem dX7_takeBack_56 : decode cX7_takeBack 56 = .ok (.iload_n 1, 1) := by decide +kernel
theorem dX7_takeBack_57 : decode cX7_takeBack 57 = .ok (.imul, 1) := by decide +kernel
theorem dX7_takeBack_58 : decode cX7_takeBack 58 = .ok (.iload_n 2, 1) := by decide +kernel
theorem dX7_takeBack_59 : decode cX7_takeBack 59 = .ok (.iadd, 1) := by decide +kernel
theorem dX7_takeBack_60 : decode cX7_takeBack 60 = .ok (.iconst 0, 1) := by decide +kernel
theorem dX7_takeBack_61 : decode cX7_takeBack 61 = .ok (.iastore, 1) := by decide +kernel
theorem dX7_takeBack_62 : decode cX7_takeBack 62 = .ok (.iload_n 3, 1) := by decide +kernel
theorem dX7_takeBack_63 : decode cX7_takeBack 63 = .ok (.ifCond .eq 12, 3) := by decide +kernel
theorem dX7_takeBack_66 : decode cX7_takeBack 66 = .ok (.aload_n 0, 1) := by decide +kernel
theorem dX7_takeBack_67 : decode cX7_takeBack 67 = .ok (.iload_n 2, 1) := by decide +kernel
theorem dX7_takeBack_68 : decode cX7_takeBack 68 = .ok (.iload_n 1, 1) := by decide +kernel
theorem dX7_takeBack_69 : decode cX7_takeBack 69 = .ok (.invokevirtual 77, 3) := by decide +kernel
theorem dX7_takeBack_72 : decode cX7_takeBack 72 = .ok (.goto 4, 3) := by decide +kernel
theorem dX7_takeBack_75 : decode cX7_takeBack 75 = .ok (.iconst 0, 1) := by decide +kernel
theorem dX7_takeBack_76 : decode cX7_takeBack 76 = .ok (.ireturn, 1) := by decide +kernel
theorem dX7_seal_0 : decode cX7_seal 0 = .ok (.aload_n 0, 1) := by decide +kernel
theorem dX7_seal_1 : decode cX7_seal 1 = .ok (.iload_n 1, 1) := by decide +kernel
theorem dX7_seal_2 : decode cX7_seal 2 = .ok (.invokevirtual 74, 3) := by decide +kernel
theorem dX7_seal_5 : decode cX7_seal 5 = .ok (.istore_n 3, 1) := by decide +kernel
theorem dX7_seal_6 : decode cX7_seal 6 = .ok (.aload_n 0, 1) := by decide +kernel
theorem dX7_seal_7 : decode cX7_seal 7 = .ok (.iload_n 3, 1) := by decide +kernel
theorem dX7_seal_8 : decode cX7_seal 8 = .ok (.ifCond .ne 7, 3) := by decide +kernel
theorem dX7_seal_11 : decode cX7_seal 11 = .ok (.iconst 1, 1) := by decide +kernel
theorem dX7_seal_12 : decode cX7_seal 12 = .ok (.goto 19, 3) := by decide +kernel
theorem dX7_seal_15 : decode cX7_seal 15 = .ok (.iload_n 2, 1) := by decide +kernel
theorem dX7_seal_16 : decode cX7_seal 16 = .ok (.iconst 0, 1) := by decide +kernel
theorem dX7_seal_17 : decode cX7_seal 17 = .ok (.sipush 5000, 3) := by decide +kernel
theorem dX7_seal_20 : decode cX7_seal 20 = .ok (.invokestatic 60, 3) := by decide +kernel
theorem dX7_seal_23 : decode cX7_seal 23 = .ok (.ifCond .eq 7, 3) := by decide +kernel
theorem dX7_seal_26 : decode cX7_seal 26 = .ok (.iconst 0, 1) := by decide +kernel
theorem dX7_seal_27 : decode cX7_seal 27 = .ok (.goto 4, 3) := by decide +kernel
theorem dX7_seal_30 : decode cX7_seal 30 = .ok (.iconst 2, 1) := by decide +kernel
theorem dX7_seal_31 : decode cX7_seal 31 = .ok (.invokevirtual 67, 3) := by decide +kernel
theorem dX7_seal_34 : decode cX7_seal 34 = .ok (.ifCond .eq 10, 3) := by decide +kernel
theorem dX7_seal_37 : decode cX7_seal 37 = .ok (.aload_n 0, 1) := by decide +kernel
theorem dX7_seal_38 : decode cX7_seal 38 = .ok (.getfield 13, 3) := by decide +kernel
theorem dX7_seal_41 : decode cX7_seal 41 = .ok (.iload_n 1, 1) := by decide +kernel
theorem dX7_seal_42 : decode cX7_seal 42 = .ok (.iload_n 2, 1) := by decide +kernel
theorem dX7_seal_43 : decode cX7_seal 43 = .ok (.iastore, 1) := by decide +kernel
theorem dX7_seal_44 : decode cX7_seal 44 = .ok (.return_, 1) := by decide +kernel
theorem dX7_pass_0 : decode cX7_pass 0 = .ok (.iload_n 1, 1) := by decide +kernel
theorem dX7_pass_1 : decode cX7_pass 1 = .ok (.iconst 1, 1) := by decide +kernel
theorem dX7_pass_2 : decode cX7_pass 2 = .ok (.sipush 500, 3) := by decide +kernel
theorem dX7_pass_5 : decode cX7_pass 5 = .ok (.invokestatic 60, 3) := by decide +kernel
theorem dX7_pass_8 : decode cX7_pass 8 = .ok (.istore_n 2, 1) := by decide +kernel
theorem dX7_pass_9 : decode cX7_pass 9 = .ok (.aload_n 0, 1) := by decide +kernel
theorem dX7_pass_10 : decode cX7_pass 10 = .ok (.iload_n 2, 1) := by decide +kernel
theorem dX7_pass_11 : decode cX7_pass 11 = .ok (.ifCond .ne 7, 3) := by decide +kernel
theorem dX7_pass_14 : decode cX7_pass 14 = .ok (.iconst 1, 1) := by decide +kernel
theorem dX7_pass_15 : decode cX7_pass 15 = .ok (.goto 20, 3) := by decide +kernel
theorem dX7_pass_18 : decode cX7_pass 18 = .ok (.aload_n 0, 1) := by decide +kernel
theorem dX7_pass_19 : decode cX7_pass 19 = .ok (.getfield 84, 3) := by decide +kernel
theorem dX7_pass_22 : decode cX7_pass 22 = .ok (.iload_n 1, 1) := by decide +kernel
theorem dX7_pass_23 : decode cX7_pass 23 = .ok (.iadd, 1) := by decide +kernel
theorem dX7_pass_24 : decode cX7_pass 24 = .ok (.sipush 5000, 3) := by decide +kernel
theorem dX7_pass_27 : decode cX7_pass 27 = .ok (.if_icmp .le 7, 3) := by decide +kernel
theorem dX7_pass_30 : decode cX7_pass 30 = .ok (.iconst 2, 1) := by decide +kernel
theorem dX7_pass_31 : decode cX7_pass 31 = .ok (.goto 4, 3) := by decide +kernel
theorem dX7_pass_34 : decode cX7_pass 34 = .ok (.iconst 0, 1) := by decide +kernel
theorem dX7_pass_35 : decode cX7_pass 35 = .ok (.invokevirtual 67, 3) := by decide +kernel
theorem dX7_pass_38 : decode cX7_pass 38 = .ok (.ifCond .ne 5, 3) := by decide +kernel
theorem dX7_pass_41 : decode cX7_pass 41 = .ok (.iconst 0, 1) := by decide +kernel
theorem dX7_pass_42 : decode cX7_pass 42 = .ok (.ireturn, 1) := by decide +kernel
theorem dX7_pass_43 : decode cX7_pass 43 = .ok (.aload_n 0, 1) := by decide +kernel
theorem dX7_pass_44 : decode cX7_pass 44 = .ok (.dup, 1) := by decide +kernel
theorem dX7_pass_45 : decode cX7_pass 45 = .ok (.getfield 84, 3) := by decide +kernel
theorem dX7_pass_48 : decode cX7_pass 48 = .ok (.iload_n 1, 1) := by decide +kernel
theorem dX7_pass_49 : decode cX7_pass 49 = .ok (.iadd, 1) := by decide +kernel
theorem dX7_pass_50 : decode cX7_pass 50 = .ok (.putfield 84, 3) := by decide +kernel
theorem dX7_pass_53 : decode cX7_pass 53 = .ok (.aload_n 0, 1) := by decide +kernel
theorem dX7_pass_54 : decode cX7_pass 54 = .ok (.getfield 84, 3) := by decide +kernel
theorem dX7_pass_57 : decode cX7_pass 57 = .ok (.ireturn, 1) := by decide +kernel
theorem dX7_rightOf_0 : decode cX7_rightOf 0 = .ok (.bipush 16, 2) := by decide +kernel
theorem dX7_rightOf_2 : decode cX7_rightOf 2 = .ok (.iload_n 1, 1) := by decide +kernel
theorem dX7_rightOf_3 : decode cX7_rightOf 3 = .ok (.imul, 1) := by decide +kernel
theorem dX7_rightOf_4 : decode cX7_rightOf 4 = .ok (.iload_n 2, 1) := by decide +kernel
theorem dX7_rightOf_5 : decode cX7_rightOf 5 = .ok (.iadd, 1) := by decide +kernel
theorem dX7_rightOf_6 : decode cX7_rightOf 6 = .ok (.istore_n 3, 1) := by decide +kernel
theorem dX7_rightOf_7 : decode cX7_rightOf 7 = .ok (.aload_n 0, 1) := by decide +kernel
theorem dX7_rightOf_8 : decode cX7_rightOf 8 = .ok (.getfield 19, 3) := by decide +kernel
theorem dX7_rightOf_11 : decode cX7_rightOf 11 = .ok (.iload_n 3, 1) := by decide +kernel
theorem dX7_rightOf_12 : decode cX7_rightOf 12 = .ok (.iaload, 1) := by decide +kernel
theorem dX7_rightOf_13 : decode cX7_rightOf 13 = .ok (.ifCond .eq 34, 3) := by decide +kernel
theorem dX7_rightOf_16 : decode cX7_rightOf 16 = .ok (.aload_n 0, 1) := by decide +kernel
theorem dX7_rightOf_17 : decode cX7_rightOf 17 = .ok (.getfield 84, 3) := by decide +kernel
theorem dX7_rightOf_20 : decode cX7_rightOf 20 = .ok (.aload_n 0, 1) := by decide +kernel
theorem dX7_rightOf_21 : decode cX7_rightOf 21 = .ok (.getfield 22, 3) := by decide +kernel
theorem dX7_rightOf_24 : decode cX7_rightOf 24 = .ok (.iload_n 3, 1) := by decide +kernel
theorem dX7_rightOf_25 : decode cX7_rightOf 25 = .ok (.iaload, 1) := by decide +kernel
theorem dX7_rightOf_26 : decode cX7_rightOf 26 = .ok (.aload_n 0, 1) := by decide +kernel
theorem dX7_rightOf_27 : decode cX7_rightOf 27 = .ok (.getfield 25, 3) := by decide +kernel
theorem dX7_rightOf_30 : decode cX7_rightOf 30 = .ok (.iload_n 3, 1) := by decide +kernel
theorem dX7_rightOf_31 : decode cX7_rightOf 31 = .ok (.iaload, 1) := by decide +kernel
theorem dX7_rightOf_32 : decode cX7_rightOf 32 = .ok (.invokestatic 60, 3) := by decide +kernel
theorem dX7_rightOf_35 : decode cX7_rightOf 35 = .ok (.ifCond .eq 12, 3) := by decide +kernel
theorem dX7_rightOf_38 : decode cX7_rightOf 38 = .ok (.aload_n 0, 1) := by decide +kernel
theorem dX7_rightOf_39 : decode cX7_rightOf 39 = .ok (.getfield 19, 3) := by decide +kernel
theorem dX7_rightOf_42 : decode cX7_rightOf 42 = .ok (.iload_n 3, 1) := by decide +kernel
theorem dX7_rightOf_43 : decode cX7_rightOf 43 = .ok (.iaload, 1) := by decide +kernel
theorem dX7_rightOf_44 : decode cX7_rightOf 44 = .ok (.goto 4, 3) := by decide +kernel
theorem dX7_rightOf_47 : decode cX7_rightOf 47 = .ok (.iconst 0, 1) := by decide +kernel
theorem dX7_rightOf_48 : decode cX7_rightOf 48 = .ok (.ireturn, 1) := by decide +kernel
theorem dX7_reduce_0 : decode cX7_reduce 0 = .ok (.iload_n 1, 1) := by decide +kernel
theorem dX7_reduce_1 : decode cX7_reduce 1 = .ok (.istore_n 2, 1) := by decide +kernel
theorem dX7_reduce_2 : decode cX7_reduce 2 = .ok (.bipush 15, 2) := by decide +kernel
theorem dX7_reduce_4 : decode cX7_reduce 4 = .ok (.istore_n 3, 1) := by decide +kernel
theorem dX7_reduce_5 : decode cX7_reduce 5 = .ok (.iload_n 3, 1) := by decide +kernel
theorem dX7_reduce_6 : decode cX7_reduce 6 = .ok (.ifCond .lt 31, 3) := by decide +kernel
theorem dX7_reduce_9 : decode cX7_reduce 9 = .ok (.iload_n 2, 1) := by decide +kernel
theorem dX7_reduce_10 : decode cX7_reduce 10 = .ok (.iload_n 2, 1) := by decide +kernel
theorem dX7_reduce_11 : decode cX7_reduce 11 = .ok (.iload_n 3, 1) := by decide +kernel
theorem dX7_reduce_12 : decode cX7_reduce 12 = .ok (.ishr, 1) := by decide +kernel
theorem dX7_reduce_13 : decode cX7_reduce 13 = .ok (.iconst 1, 1) := by decide +kernel
theorem dX7_reduce_14 : decode cX7_reduce 14 = .ok (.iand, 1) := by decide +kernel
theorem dX7_reduce_15 : decode cX7_reduce 15 = .ok (.iconst 1, 1) := by decide +kernel
theorem dX7_reduce_16 : decode cX7_reduce 16 = .ok (.if_icmp .ne 12, 3) := by decide +kernel
theorem dX7_reduce_19 : decode cX7_reduce 19 = .ok (.aload_n 0, 1) := by decide +kernel
theorem dX7_reduce_20 : decode cX7_reduce 20 = .ok (.getfield 50, 3) := by decide +kernel
theorem dX7_reduce_23 : decode cX7_reduce 23 = .ok (.iload_n 3, 1) := by decide +kernel
theorem dX7_reduce_24 : decode cX7_reduce 24 = .ok (.iaload, 1) := by decide +kernel
theorem dX7_reduce_25 : decode cX7_reduce 25 = .ok (.goto 4, 3) := by decide +kernel
theorem dX7_reduce_28 : decode cX7_reduce 28 = .ok (.iconst 0, 1) := by decide +kernel
theorem dX7_reduce_29 : decode cX7_reduce 29 = .ok (.ixor, 1) := by decide +kernel
theorem dX7_reduce_30 : decode cX7_reduce 30 = .ok (.istore_n 2, 1) := by decide +kernel
theorem dX7_reduce_31 : decode cX7_reduce 31 = .ok (.iinc 3 (-1), 3) := by decide +kernel
theorem dX7_reduce_34 : decode cX7_reduce 34 = .ok (.goto (-29), 3) := by decide +kernel
theorem dX7_reduce_37 : decode cX7_reduce 37 = .ok (.iload_n 2, 1) := by decide +kernel
theorem dX7_reduce_38 : decode cX7_reduce 38 = .ok (.ireturn, 1) := by decide +kernel
theorem dX7_highest_0 : decode cX7_highest 0 = .ok (.iconst (-1), 1) := by decide +kernel
theorem dX7_highest_1 : decode cX7_highest 1 = .ok (.istore_n 1, 1) := by decide +kernel
theorem dX7_highest_2 : decode cX7_highest 2 = .ok (.iconst 0, 1) := by decide +kernel
theorem dX7_highest_3 : decode cX7_highest 3 = .ok (.istore_n 2, 1) := by decide +kernel
theorem dX7_highest_4 : decode cX7_highest 4 = .ok (.iload_n 2, 1) := by decide +kernel
theorem dX7_highest_5 : decode cX7_highest 5 = .ok (.bipush 16, 2) := by decide +kernel
theorem dX7_highest_7 : decode cX7_highest 7 = .ok (.if_icmp .ge 24, 3) := by decide +kernel
theorem dX7_highest_10 : decode cX7_highest 10 = .ok (.iload_n 0, 1) := by decide +kernel
theorem dX7_highest_11 : decode cX7_highest 11 = .ok (.iload_n 2, 1) := by decide +kernel
theorem dX7_highest_12 : decode cX7_highest 12 = .ok (.ishr, 1) := by decide +kernel
theorem dX7_highest_13 : decode cX7_highest 13 = .ok (.iconst 1, 1) := by decide +kernel
theorem dX7_highest_14 : decode cX7_highest 14 = .ok (.iand, 1) := by decide +kernel
theorem dX7_highest_15 : decode cX7_highest 15 = .ok (.iconst 1, 1) := by decide +kernel
theorem dX7_highest_16 : decode cX7_highest 16 = .ok (.if_icmp .ne 7, 3) := by decide +kernel
theorem dX7_highest_19 : decode cX7_highest 19 = .ok (.iload_n 2, 1) := by decide +kernel
theorem dX7_highest_20 : decode cX7_highest 20 = .ok (.goto 4, 3) := by decide +kernel
theorem dX7_highest_23 : decode cX7_highest 23 = .ok (.iload_n 1, 1) := by decide +kernel
theorem dX7_highest_24 : decode cX7_highest 24 = .ok (.istore_n 1, 1) := by decide +kernel
theorem dX7_highest_25 : decode cX7_highest 25 = .ok (.iinc 2 1, 3) := by decide +kernel
theorem dX7_highest_28 : decode cX7_highest 28 = .ok (.goto (-24), 3) := by decide +kernel
theorem dX7_highest_31 : decode cX7_highest 31 = .ok (.iload_n 1, 1) := by decide +kernel
theorem dX7_highest_32 : decode cX7_highest 32 = .ok (.ireturn, 1) := by decide +kernel
theorem dX7_learn_0 : decode cX7_learn 0 = .ok (.aload_n 0, 1) := by decide +kernel
theorem dX7_learn_1 : decode cX7_learn 1 = .ok (.iload_n 1, 1) := by decide +kernel
theorem dX7_learn_2 : decode cX7_learn 2 = .ok (.invokevirtual 87, 3) := by decide +kernel
theorem dX7_learn_5 : decode cX7_learn 5 = .ok (.istore_n 2, 1) := by decide +kernel
theorem dX7_learn_6 : decode cX7_learn 6 = .ok (.iload_n 2, 1) := by decide +kernel
theorem dX7_learn_7 : decode cX7_learn 7 = .ok (.ifCond .eq 13, 3) := by decide +kernel
theorem dX7_learn_10 : decode cX7_learn 10 = .ok (.aload_n 0, 1) := by decide +kernel
theorem dX7_learn_11 : decode cX7_learn 11 = .ok (.getfield 50, 3) := by decide +kernel
theorem dX7_learn_14 : decode cX7_learn 14 = .ok (.iload_n 2, 1) := by decide +kernel
theorem dX7_learn_15 : decode cX7_learn 15 = .ok (.invokestatic 91, 3) := by decide +kernel
theorem dX7_learn_18 : decode cX7_learn 18 = .ok (.iload_n 2, 1) := by decide +kernel
theorem dX7_learn_19 : decode cX7_learn 19 = .ok (.iastore, 1) := by decide +kernel
theorem dX7_learn_20 : decode cX7_learn 20 = .ok (.iload_n 2, 1) := by decide +kernel
theorem dX7_learn_21 : decode cX7_learn 21 = .ok (.ifCond .eq 7, 3) := by decide +kernel
theorem dX7_learn_24 : decode cX7_learn 24 = .ok (.iconst 1, 1) := by decide +kernel
theorem dX7_learn_25 : decode cX7_learn 25 = .ok (.goto 4, 3) := by decide +kernel
theorem dX7_learn_28 : decode cX7_learn 28 = .ok (.iconst 0, 1) := by decide +kernel
theorem dX7_learn_29 : decode cX7_learn 29 = .ok (.ireturn, 1) := by decide +kernel
theorem dX7_know_0 : decode cX7_know 0 = .ok (.iconst 0, 1) := by decide +kernel
theorem dX7_know_1 : decode cX7_know 1 = .ok (.istore_n 3, 1) := by decide +kernel
theorem dX7_know_2 : decode cX7_know 2 = .ok (.iload_n 3, 1) := by decide +kernel
theorem dX7_know_3 : decode cX7_know 3 = .ok (.bipush 16, 2) := by decide +kernel
theorem dX7_know_5 : decode cX7_know 5 = .ok (.if_icmp .ge 16, 3) := by decide +kernel
theorem dX7_know_8 : decode cX7_know 8 = .ok (.aload_n 0, 1) := by decide +kernel
theorem dX7_know_9 : decode cX7_know 9 = .ok (.getfield 50, 3) := by decide +kernel
theorem dX7_know_12 : decode cX7_know 12 = .ok (.iload_n 3, 1) := by decide +kernel
theorem dX7_know_13 : decode cX7_know 13 = .ok (.iconst 0, 1) := by decide +kernel
theorem dX7_know_14 : decode cX7_know 14 = .ok (.iastore, 1) := by decide +kernel
theorem dX7_know_15 : decode cX7_know 15 = .ok (.iinc 3 1, 3) := by decide +kernel
theorem dX7_know_18 : decode cX7_know 18 = .ok (.goto (-16), 3) := by decide +kernel
theorem dX7_know_21 : decode cX7_know 21 = .ok (.iconst 0, 1) := by decide +kernel
theorem dX7_know_22 : decode cX7_know 22 = .ok (.istore_n 3, 1) := by decide +kernel
theorem dX7_know_23 : decode cX7_know 23 = .ok (.iconst 0, 1) := by decide +kernel
theorem dX7_know_24 : decode cX7_know 24 = .ok (.istore 4, 2) := by decide +kernel
theorem dX7_know_26 : decode cX7_know 26 = .ok (.iload 4, 2) := by decide +kernel
theorem dX7_know_28 : decode cX7_know 28 = .ok (.aload_n 0, 1) := by decide +kernel
theorem dX7_know_29 : decode cX7_know 29 = .ok (.getfield 71, 3) := by decide +kernel
theorem dX7_know_32 : decode cX7_know 32 = .ok (.if_icmp .ge 90, 3) := by decide +kernel
theorem dX7_know_35 : decode cX7_know 35 = .ok (.aload_n 0, 1) := by decide +kernel
theorem dX7_know_36 : decode cX7_know 36 = .ok (.getfield 43, 3) := by decide +kernel
theorem dX7_know_39 : decode cX7_know 39 = .ok (.iload 4, 2) := by decide +kernel
theorem dX7_know_41 : decode cX7_know 41 = .ok (.baload, 1) := by decide +kernel
theorem dX7_know_42 : decode cX7_know 42 = .ok (.ifCond .ne 44, 3) := by decide +kernel
theorem dX7_know_45 : decode cX7_know 45 = .ok (.iload_n 1, 1) := by decide +kernel
theorem dX7_know_46 : decode cX7_know 46 = .ok (.aload_n 0, 1) := by decide +kernel
theorem dX7_know_47 : decode cX7_know 47 = .ok (.getfield 28, 3) := by decide +kernel
theorem dX7_know_50 : decode cX7_know 50 = .ok (.iload 4, 2) := by decide +kernel
theorem dX7_know_52 : decode cX7_know 52 = .ok (.iaload, 1) := by decide +kernel
theorem dX7_know_53 : decode cX7_know 53 = .ok (.ishr, 1) := by decide +kernel
theorem dX7_know_54 : decode cX7_know 54 = .ok (.iconst 1, 1) := by decide +kernel
theorem dX7_know_55 : decode cX7_know 55 = .ok (.iand, 1) := by decide +kernel
theorem dX7_know_56 : decode cX7_know 56 = .ok (.iconst 1, 1) := by decide +kernel
theorem dX7_know_57 : decode cX7_know 57 = .ok (.if_icmp .ne 29, 3) := by decide +kernel
theorem dX7_know_60 : decode cX7_know 60 = .ok (.aload_n 0, 1) := by decide +kernel
theorem dX7_know_61 : decode cX7_know 61 = .ok (.getfield 34, 3) := by decide +kernel
theorem dX7_know_64 : decode cX7_know 64 = .ok (.iload 4, 2) := by decide +kernel
theorem dX7_know_66 : decode cX7_know 66 = .ok (.iaload, 1) := by decide +kernel
theorem dX7_know_67 : decode cX7_know 67 = .ok (.iconst (-1), 1) := by decide +kernel
theorem dX7_know_68 : decode cX7_know 68 = .ok (.if_icmp .eq 14, 3) := by decide +kernel
theorem dX7_know_71 : decode cX7_know 71 = .ok (.aload_n 0, 1) := by decide +kernel
theorem dX7_know_72 : decode cX7_know 72 = .ok (.getfield 34, 3) := by decide +kernel
theorem dX7_know_75 : decode cX7_know 75 = .ok (.iload 4, 2) := by decide +kernel
theorem dX7_know_77 : decode cX7_know 77 = .ok (.iaload, 1) := by decide +kernel
theorem dX7_know_78 : decode cX7_know 78 = .ok (.iload_n 2, 1) := by decide +kernel
theorem dX7_know_79 : decode cX7_know 79 = .ok (.if_icmp .ne 7, 3) := by decide +kernel
theorem dX7_know_82 : decode cX7_know 82 = .ok (.iconst 1, 1) := by decide +kernel
theorem dX7_know_83 : decode cX7_know 83 = .ok (.goto 4, 3) := by decide +kernel
theorem dX7_know_86 : decode cX7_know 86 = .ok (.iconst 0, 1) := by decide +kernel
theorem dX7_know_87 : decode cX7_know 87 = .ok (.istore 5, 2) := by decide +kernel
theorem dX7_know_89 : decode cX7_know 89 = .ok (.iload_n 3, 1) := by decide +kernel
theorem dX7_know_90 : decode cX7_know 90 = .ok (.iload 5, 2) := by decide +kernel
theorem dX7_know_92 : decode cX7_know 92 = .ok (.ifCond .eq 21, 3) := by decide +kernel
theorem dX7_know_95 : decode cX7_know 95 = .ok (.aload_n 0, 1) := by decide +kernel
theorem dX7_know_96 : decode cX7_know 96 = .ok (.aload_n 0, 1) := by decide +kernel
theorem dX7_know_97 : decode cX7_know 97 = .ok (.getfield 31, 3) := by decide +kernel
theorem dX7_know_100 : decode cX7_know 100 = .ok (.iload 4, 2) := by decide +kernel
theorem dX7_know_102 : decode cX7_know 102 = .ok (.iaload, 1) := by decide +kernel
theorem dX7_know_103 : decode cX7_know 103 = .ok (.invokevirtual 94, 3) := by decide +kernel
theorem dX7_know_106 : decode cX7_know 106 = .ok (.ifCond .eq 7, 3) := by decide +kernel
theorem dX7_know_109 : decode cX7_know 109 = .ok (.iconst 1, 1) := by decide +kernel
theorem dX7_know_110 : decode cX7_know 110 = .ok (.goto 4, 3) := by decide +kernel
theorem dX7_know_113 : decode cX7_know 113 = .ok (.iconst 0, 1) := by decide +kernel
theorem dX7_know_114 : decode cX7_know 114 = .ok (.iadd, 1) := by decide +kernel
theorem dX7_know_115 : decode cX7_know 115 = .ok (.istore_n 3, 1) := by decide +kernel
theorem dX7_know_116 : decode cX7_know 116 = .ok (.iinc 4 1, 3) := by decide +kernel
theorem dX7_know_119 : decode cX7_know 119 = .ok (.goto (-93), 3) := by decide +kernel
theorem dX7_know_122 : decode cX7_know 122 = .ok (.iload_n 3, 1) := by decide +kernel
theorem dX7_know_123 : decode cX7_know 123 = .ok (.ireturn, 1) := by decide +kernel
theorem dX7_spentBy_0 : decode cX7_spentBy 0 = .ok (.iconst 0, 1) := by decide +kernel
theorem dX7_spentBy_1 : decode cX7_spentBy 1 = .ok (.istore_n 2, 1) := by decide +kernel
theorem dX7_spentBy_2 : decode cX7_spentBy 2 = .ok (.iconst 0, 1) := by decide +kernel
theorem dX7_spentBy_3 : decode cX7_spentBy 3 = .ok (.istore_n 3, 1) := by decide +kernel
theorem dX7_spentBy_4 : decode cX7_spentBy 4 = .ok (.iload_n 3, 1) := by decide +kernel
theorem dX7_spentBy_5 : decode cX7_spentBy 5 = .ok (.bipush 8, 2) := by decide +kernel
theorem dX7_spentBy_7 : decode cX7_spentBy 7 = .ok (.if_icmp .ge 20, 3) := by decide +kernel
theorem dX7_spentBy_10 : decode cX7_spentBy 10 = .ok (.iload_n 2, 1) := by decide +kernel
theorem dX7_spentBy_11 : decode cX7_spentBy 11 = .ok (.aload_n 0, 1) := by decide +kernel
theorem dX7_spentBy_12 : decode cX7_spentBy 12 = .ok (.iconst 1, 1) := by decide +kernel
theorem dX7_spentBy_13 : decode cX7_spentBy 13 = .ok (.iload_n 1, 1) := by decide +kernel
theorem dX7_spentBy_14 : decode cX7_spentBy 14 = .ok (.ishl, 1) := by decide +kernel
theorem dX7_spentBy_15 : decode cX7_spentBy 15 = .ok (.iload_n 3, 1) := by decide +kernel
theorem dX7_spentBy_16 : decode cX7_spentBy 16 = .ok (.invokevirtual 97, 3) := by decide +kernel
theorem dX7_spentBy_19 : decode cX7_spentBy 19 = .ok (.iadd, 1) := by decide +kernel
theorem dX7_spentBy_20 : decode cX7_spentBy 20 = .ok (.istore_n 2, 1) := by decide +kernel
theorem dX7_spentBy_21 : decode cX7_spentBy 21 = .ok (.iinc 3 1, 3) := by decide +kernel
theorem dX7_spentBy_24 : decode cX7_spentBy 24 = .ok (.goto (-20), 3) := by decide +kernel
theorem dX7_spentBy_27 : decode cX7_spentBy 27 = .ok (.iload_n 2, 1) := by decide +kernel
theorem dX7_spentBy_28 : decode cX7_spentBy 28 = .ok (.ireturn, 1) := by decide +kernel
theorem dX7_found_0 : decode cX7_found 0 = .ok (.iconst 0, 1) := by decide +kernel
theorem dX7_found_1 : decode cX7_found 1 = .ok (.istore_n 1, 1) := by decide +kernel
theorem dX7_found_2 : decode cX7_found 2 = .ok (.iconst 0, 1) := by decide +kernel
theorem dX7_found_3 : decode cX7_found 3 = .ok (.istore_n 2, 1) := by decide +kernel
theorem dX7_found_4 : decode cX7_found 4 = .ok (.iload_n 2, 1) := by decide +kernel
theorem dX7_found_5 : decode cX7_found 5 = .ok (.aload_n 0, 1) := by decide +kernel
theorem dX7_found_6 : decode cX7_found 6 = .ok (.getfield 57, 3) := by decide +kernel
theorem dX7_found_9 : decode cX7_found 9 = .ok (.if_icmp .ge 29, 3) := by decide +kernel
theorem dX7_found_12 : decode cX7_found 12 = .ok (.iload_n 1, 1) := by decide +kernel
theorem dX7_found_13 : decode cX7_found 13 = .ok (.aload_n 0, 1) := by decide +kernel
theorem dX7_found_14 : decode cX7_found 14 = .ok (.iconst 1, 1) := by decide +kernel
theorem dX7_found_15 : decode cX7_found 15 = .ok (.iload_n 2, 1) := by decide +kernel
theorem dX7_found_16 : decode cX7_found 16 = .ok (.ishl, 1) := by decide +kernel
theorem dX7_found_17 : decode cX7_found 17 = .ok (.invokevirtual 87, 3) := by decide +kernel
theorem dX7_found_20 : decode cX7_found 20 = .ok (.ifCond .ne 9, 3) := by decide +kernel
theorem dX7_found_23 : decode cX7_found 23 = .ok (.iconst 1, 1) := by decide +kernel
theorem dX7_found_24 : decode cX7_found 24 = .ok (.iload_n 2, 1) := by decide +kernel
theorem dX7_found_25 : decode cX7_found 25 = .ok (.ishl, 1) := by decide +kernel
theorem dX7_found_26 : decode cX7_found 26 = .ok (.goto 4, 3) := by decide +kernel
theorem dX7_found_29 : decode cX7_found 29 = .ok (.iconst 0, 1) := by decide +kernel
theorem dX7_found_30 : decode cX7_found 30 = .ok (.ior, 1) := by decide +kernel
theorem dX7_found_31 : decode cX7_found 31 = .ok (.istore_n 1, 1) := by decide +kernel
theorem dX7_found_32 : decode cX7_found 32 = .ok (.iinc 2 1, 3) := by decide +kernel
theorem dX7_found_35 : decode cX7_found 35 = .ok (.goto (-31), 3) := by decide +kernel
theorem dX7_found_38 : decode cX7_found 38 = .ok (.iload_n 1, 1) := by decide +kernel
theorem dX7_found_39 : decode cX7_found 39 = .ok (.ireturn, 1) := by decide +kernel
theorem dX7_isAsked_0 : decode cX7_isAsked 0 = .ok (.iload_n 0, 1) := by decide +kernel
theorem dX7_isAsked_1 : decode cX7_isAsked 1 = .ok (.iconst (-1), 1) := by decide +kernel
theorem dX7_isAsked_2 : decode cX7_isAsked 2 = .ok (.if_icmp .eq 8, 3) := by decide +kernel
theorem dX7_isAsked_5 : decode cX7_isAsked 5 = .ok (.iload_n 0, 1) := by decide +kernel
theorem dX7_isAsked_6 : decode cX7_isAsked 6 = .ok (.iload_n 1, 1) := by decide +kernel
theorem dX7_isAsked_7 : decode cX7_isAsked 7 = .ok (.if_icmp .ne 7, 3) := by decide +kernel
theorem dX7_isAsked_10 : decode cX7_isAsked 10 = .ok (.iconst 1, 1) := by decide +kernel
theorem dX7_isAsked_11 : decode cX7_isAsked 11 = .ok (.goto 4, 3) := by decide +kernel
theorem dX7_isAsked_14 : decode cX7_isAsked 14 = .ok (.iconst 0, 1) := by decide +kernel
theorem dX7_isAsked_15 : decode cX7_isAsked 15 = .ok (.ireturn, 1) := by decide +kernel
theorem dX7_costOf_0 : decode cX7_costOf 0 = .ok (.iconst 0, 1) := by decide +kernel
theorem dX7_costOf_1 : decode cX7_costOf 1 = .ok (.istore 4, 2) := by decide +kernel
theorem dX7_costOf_3 : decode cX7_costOf 3 = .ok (.iconst 0, 1) := by decide +kernel
theorem dX7_costOf_4 : decode cX7_costOf 4 = .ok (.istore 5, 2) := by decide +kernel
theorem dX7_costOf_6 : decode cX7_costOf 6 = .ok (.iload 5, 2) := by decide +kernel
theorem dX7_costOf_8 : decode cX7_costOf 8 = .ok (.bipush 8, 2) := by decide +kernel
theorem dX7_costOf_10 : decode cX7_costOf 10 = .ok (.if_icmp .ge 46, 3) := by decide +kernel
theorem dX7_costOf_13 : decode cX7_costOf 13 = .ok (.iload_n 3, 1) := by decide +kernel
theorem dX7_costOf_14 : decode cX7_costOf 14 = .ok (.iload 5, 2) := by decide +kernel
theorem dX7_costOf_16 : decode cX7_costOf 16 = .ok (.invokestatic 100, 3) := by decide +kernel
theorem dX7_costOf_19 : decode cX7_costOf 19 = .ok (.ifCond .eq 31, 3) := by decide +kernel
theorem dX7_costOf_22 : decode cX7_costOf 22 = .ok (.aload_n 0, 1) := by decide +kernel
theorem dX7_costOf_23 : decode cX7_costOf 23 = .ok (.iconst 1, 1) := by decide +kernel
theorem dX7_costOf_24 : decode cX7_costOf 24 = .ok (.iload_n 1, 1) := by decide +kernel
theorem dX7_costOf_25 : decode cX7_costOf 25 = .ok (.ishl, 1) := by decide +kernel
theorem dX7_costOf_26 : decode cX7_costOf 26 = .ok (.iload 5, 2) := by decide +kernel
theorem dX7_costOf_28 : decode cX7_costOf 28 = .ok (.invokevirtual 97, 3) := by decide +kernel
theorem dX7_costOf_31 : decode cX7_costOf 31 = .ok (.pop, 1) := by decide +kernel
theorem dX7_costOf_32 : decode cX7_costOf 32 = .ok (.iload 4, 2) := by decide +kernel
theorem dX7_costOf_34 : decode cX7_costOf 34 = .ok (.aload_n 0, 1) := by decide +kernel
theorem dX7_costOf_35 : decode cX7_costOf 35 = .ok (.iload_n 2, 1) := by decide +kernel
theorem dX7_costOf_36 : decode cX7_costOf 36 = .ok (.invokevirtual 87, 3) := by decide +kernel
theorem dX7_costOf_39 : decode cX7_costOf 39 = .ok (.ifCond .eq 7, 3) := by decide +kernel
theorem dX7_costOf_42 : decode cX7_costOf 42 = .ok (.iconst 1, 1) := by decide +kernel
theorem dX7_costOf_43 : decode cX7_costOf 43 = .ok (.goto 4, 3) := by decide +kernel
theorem dX7_costOf_46 : decode cX7_costOf 46 = .ok (.iconst 0, 1) := by decide +kernel
theorem dX7_costOf_47 : decode cX7_costOf 47 = .ok (.iadd, 1) := by decide +kernel
theorem dX7_costOf_48 : decode cX7_costOf 48 = .ok (.istore 4, 2) := by decide +kernel
theorem dX7_costOf_50 : decode cX7_costOf 50 = .ok (.iinc 5 1, 3) := by decide +kernel
theorem dX7_costOf_53 : decode cX7_costOf 53 = .ok (.goto (-47), 3) := by decide +kernel
theorem dX7_costOf_56 : decode cX7_costOf 56 = .ok (.iload 4, 2) := by decide +kernel
theorem dX7_costOf_58 : decode cX7_costOf 58 = .ok (.ireturn, 1) := by decide +kernel
theorem dX7_wouldTell_0 : decode cX7_wouldTell 0 = .ok (.iconst 0, 1) := by decide +kernel
theorem dX7_wouldTell_1 : decode cX7_wouldTell 1 = .ok (.istore 4, 2) := by decide +kernel
theorem dX7_wouldTell_3 : decode cX7_wouldTell 3 = .ok (.iconst 0, 1) := by decide +kernel
theorem dX7_wouldTell_4 : decode cX7_wouldTell 4 = .ok (.istore 5, 2) := by decide +kernel
theorem dX7_wouldTell_6 : decode cX7_wouldTell 6 = .ok (.iload 5, 2) := by decide +kernel
theorem dX7_wouldTell_8 : decode cX7_wouldTell 8 = .ok (.bipush 8, 2) := by decide +kernel
theorem dX7_wouldTell_10 : decode cX7_wouldTell 10 = .ok (.if_icmp .ge 103, 3) := by decide +kernel
theorem dX7_wouldTell_13 : decode cX7_wouldTell 13 = .ok (.iload_n 3, 1) := by decide +kernel
theorem dX7_wouldTell_14 : decode cX7_wouldTell 14 = .ok (.iload 5, 2) := by decide +kernel
theorem dX7_wouldTell_16 : decode cX7_wouldTell 16 = .ok (.invokestatic 100, 3) := by decide +kernel
theorem dX7_wouldTell_19 : decode cX7_wouldTell 19 = .ok (.ifCond .eq 88, 3) := by decide +kernel
theorem dX7_wouldTell_22 : decode cX7_wouldTell 22 = .ok (.aload_n 0, 1) := by decide +kernel
theorem dX7_wouldTell_23 : decode cX7_wouldTell 23 = .ok (.iconst 1, 1) := by decide +kernel
theorem dX7_wouldTell_24 : decode cX7_wouldTell 24 = .ok (.iload_n 1, 1) := by decide +kernel
theorem dX7_wouldTell_25 : decode cX7_wouldTell 25 = .ok (.ishl, 1) := by decide +kernel
theorem dX7_wouldTell_26 : decode cX7_wouldTell 26 = .ok (.iload 5, 2) := by decide +kernel
theorem dX7_wouldTell_28 : decode cX7_wouldTell 28 = .ok (.invokevirtual 97, 3) := by decide +kernel
theorem dX7_wouldTell_31 : decode cX7_wouldTell 31 = .ok (.pop, 1) := by decide +kernel
theorem dX7_wouldTell_32 : decode cX7_wouldTell 32 = .ok (.aload_n 0, 1) := by decide +kernel
theorem dX7_wouldTell_33 : decode cX7_wouldTell 33 = .ok (.invokevirtual 104, 3) := by decide +kernel
theorem dX7_wouldTell_36 : decode cX7_wouldTell 36 = .ok (.istore 6, 2) := by decide +kernel
theorem dX7_wouldTell_38 : decode cX7_wouldTell 38 = .ok (.aload_n 0, 1) := by decide +kernel
theorem dX7_wouldTell_39 : decode cX7_wouldTell 39 = .ok (.iload_n 2, 1) := by decide +kernel
theorem dX7_wouldTell_40 : decode cX7_wouldTell 40 = .ok (.invokevirtual 94, 3) := by decide +kernel
theorem dX7_wouldTell_43 : decode cX7_wouldTell 43 = .ok (.pop, 1) := by decide +kernel
theorem dX7_wouldTell_44 : decode cX7_wouldTell 44 = .ok (.aload_n 0, 1) := by decide +kernel
theorem dX7_wouldTell_45 : decode cX7_wouldTell 45 = .ok (.invokevirtual 104, 3) := by decide +kernel
theorem dX7_wouldTell_48 : decode cX7_wouldTell 48 = .ok (.iload 6, 2) := by decide +kernel
theorem dX7_wouldTell_50 : decode cX7_wouldTell 50 = .ok (.iconst (-1), 1) := by decide +kernel
theorem dX7_wouldTell_51 : decode cX7_wouldTell 51 = .ok (.ixor, 1) := by decide +kernel
theorem dX7_wouldTell_52 : decode cX7_wouldTell 52 = .ok (.iand, 1) := by decide +kernel
theorem dX7_wouldTell_53 : decode cX7_wouldTell 53 = .ok (.istore 7, 2) := by decide +kernel
theorem dX7_wouldTell_55 : decode cX7_wouldTell 55 = .ok (.iconst 0, 1) := by decide +kernel
theorem dX7_wouldTell_56 : decode cX7_wouldTell 56 = .ok (.istore 8, 2) := by decide +kernel
theorem dX7_wouldTell_58 : decode cX7_wouldTell 58 = .ok (.iload 8, 2) := by decide +kernel
theorem dX7_wouldTell_60 : decode cX7_wouldTell 60 = .ok (.aload_n 0, 1) := by decide +kernel
theorem dX7_wouldTell_61 : decode cX7_wouldTell 61 = .ok (.getfield 57, 3) := by decide +kernel
theorem dX7_wouldTell_64 : decode cX7_wouldTell 64 = .ok (.if_icmp .ge 43, 3) := by decide +kernel
theorem dX7_wouldTell_67 : decode cX7_wouldTell 67 = .ok (.iload 4, 2) := by decide +kernel
theorem dX7_wouldTell_69 : decode cX7_wouldTell 69 = .ok (.ifCond .ne 25, 3) := by decide +kernel
theorem dX7_wouldTell_72 : decode cX7_wouldTell 72 = .ok (.iload 7, 2) := by decide +kernel
theorem dX7_wouldTell_74 : decode cX7_wouldTell 74 = .ok (.iload 8, 2) := by decide +kernel
theorem dX7_wouldTell_76 : decode cX7_wouldTell 76 = .ok (.ishr, 1) := by decide +kernel
theorem dX7_wouldTell_77 : decode cX7_wouldTell 77 = .ok (.iconst 1, 1) := by decide +kernel
theorem dX7_wouldTell_78 : decode cX7_wouldTell 78 = .ok (.iand, 1) := by decide +kernel
theorem dX7_wouldTell_79 : decode cX7_wouldTell 79 = .ok (.iconst 1, 1) := by decide +kernel
theorem dX7_wouldTell_80 : decode cX7_wouldTell 80 = .ok (.if_icmp .ne 18, 3) := by decide +kernel
theorem dX7_wouldTell_83 : decode cX7_wouldTell 83 = .ok (.aload_n 0, 1) := by decide +kernel
theorem dX7_wouldTell_84 : decode cX7_wouldTell 84 = .ok (.iload_n 1, 1) := by decide +kernel
theorem dX7_wouldTell_85 : decode cX7_wouldTell 85 = .ok (.iload 8, 2) := by decide +kernel
theorem dX7_wouldTell_87 : decode cX7_wouldTell 87 = .ok (.invokevirtual 108, 3) := by decide +kernel
theorem dX7_wouldTell_90 : decode cX7_wouldTell 90 = .ok (.iconst 2, 1) := by decide +kernel
theorem dX7_wouldTell_91 : decode cX7_wouldTell 91 = .ok (.if_icmp .eq 7, 3) := by decide +kernel
theorem dX7_wouldTell_94 : decode cX7_wouldTell 94 = .ok (.iconst 1, 1) := by decide +kernel
theorem dX7_wouldTell_95 : decode cX7_wouldTell 95 = .ok (.goto 4, 3) := by decide +kernel
theorem dX7_wouldTell_98 : decode cX7_wouldTell 98 = .ok (.iconst 0, 1) := by decide +kernel
theorem dX7_wouldTell_99 : decode cX7_wouldTell 99 = .ok (.istore 4, 2) := by decide +kernel
theorem dX7_wouldTell_101 : decode cX7_wouldTell 101 = .ok (.iinc 8 1, 3) := by decide +kernel
theorem dX7_wouldTell_104 : decode cX7_wouldTell 104 = .ok (.goto (-46), 3) := by decide +kernel
theorem dX7_wouldTell_107 : decode cX7_wouldTell 107 = .ok (.iinc 5 1, 3) := by decide +kernel
theorem dX7_wouldTell_110 : decode cX7_wouldTell 110 = .ok (.goto (-104), 3) := by decide +kernel
theorem dX7_wouldTell_113 : decode cX7_wouldTell 113 = .ok (.iload 4, 2) := by decide +kernel
theorem dX7_wouldTell_115 : decode cX7_wouldTell 115 = .ok (.ireturn, 1) := by decide +kernel
theorem dX7_refusal_0 : decode cX7_refusal 0 = .ok (.iconst 1, 1) := by decide +kernel
theorem dX7_refusal_1 : decode cX7_refusal 1 = .ok (.istore 4, 2) := by decide +kernel
theorem dX7_refusal_3 : decode cX7_refusal 3 = .ok (.iconst 0, 1) := by decide +kernel
theorem dX7_refusal_4 : decode cX7_refusal 4 = .ok (.istore 5, 2) := by decide +kernel
theorem dX7_refusal_6 : decode cX7_refusal 6 = .ok (.iconst 0, 1) := by decide +kernel
theorem dX7_refusal_7 : decode cX7_refusal 7 = .ok (.istore 6, 2) := by decide +kernel
theorem dX7_refusal_9 : decode cX7_refusal 9 = .ok (.iload 6, 2) := by decide +kernel
theorem dX7_refusal_11 : decode cX7_refusal 11 = .ok (.aload_n 0, 1) := by decide +kernel
theorem dX7_refusal_12 : decode cX7_refusal 12 = .ok (.getfield 57, 3) := by decide +kernel
theorem dX7_refusal_15 : decode cX7_refusal 15 = .ok (.if_icmp .ge 67, 3) := by decide +kernel
theorem dX7_refusal_18 : decode cX7_refusal 18 = .ok (.iload_n 2, 1) := by decide +kernel
theorem dX7_refusal_19 : decode cX7_refusal 19 = .ok (.iload 6, 2) := by decide +kernel
theorem dX7_refusal_21 : decode cX7_refusal 21 = .ok (.ishr, 1) := by decide +kernel
theorem dX7_refusal_22 : decode cX7_refusal 22 = .ok (.iconst 1, 1) := by decide +kernel
theorem dX7_refusal_23 : decode cX7_refusal 23 = .ok (.iand, 1) := by decide +kernel
theorem dX7_refusal_24 : decode cX7_refusal 24 = .ok (.iconst 1, 1) := by decide +kernel
theorem dX7_refusal_25 : decode cX7_refusal 25 = .ok (.if_icmp .ne 51, 3) := by decide +kernel
theorem dX7_refusal_28 : decode cX7_refusal 28 = .ok (.iload 4, 2) := by decide +kernel
theorem dX7_refusal_30 : decode cX7_refusal 30 = .ok (.ifCond .eq 17, 3) := by decide +kernel
theorem dX7_refusal_33 : decode cX7_refusal 33 = .ok (.aload_n 0, 1) := by decide +kernel
theorem dX7_refusal_34 : decode cX7_refusal 34 = .ok (.iload_n 1, 1) := by decide +kernel
theorem dX7_refusal_35 : decode cX7_refusal 35 = .ok (.iload 6, 2) := by decide +kernel
theorem dX7_refusal_37 : decode cX7_refusal 37 = .ok (.invokevirtual 108, 3) := by decide +kernel
theorem dX7_refusal_40 : decode cX7_refusal 40 = .ok (.ifCond .eq 7, 3) := by decide +kernel
theorem dX7_refusal_43 : decode cX7_refusal 43 = .ok (.iconst 1, 1) := by decide +kernel
theorem dX7_refusal_44 : decode cX7_refusal 44 = .ok (.goto 4, 3) := by decide +kernel
theorem dX7_refusal_47 : decode cX7_refusal 47 = .ok (.iconst 0, 1) := by decide +kernel
theorem dX7_refusal_48 : decode cX7_refusal 48 = .ok (.istore 4, 2) := by decide +kernel
theorem dX7_refusal_50 : decode cX7_refusal 50 = .ok (.iload 5, 2) := by decide +kernel
theorem dX7_refusal_52 : decode cX7_refusal 52 = .ok (.ifCond .ne 17, 3) := by decide +kernel
theorem dX7_refusal_55 : decode cX7_refusal 55 = .ok (.aload_n 0, 1) := by decide +kernel
theorem dX7_refusal_56 : decode cX7_refusal 56 = .ok (.getfield 13, 3) := by decide +kernel
theorem dX7_refusal_59 : decode cX7_refusal 59 = .ok (.iload 6, 2) := by decide +kernel
theorem dX7_refusal_61 : decode cX7_refusal 61 = .ok (.iaload, 1) := by decide +kernel
theorem dX7_refusal_62 : decode cX7_refusal 62 = .ok (.aload_n 0, 1) := by decide +kernel
theorem dX7_refusal_63 : decode cX7_refusal 63 = .ok (.getfield 84, 3) := by decide +kernel
theorem dX7_refusal_66 : decode cX7_refusal 66 = .ok (.if_icmp .lt 7, 3) := by decide +kernel
theorem dX7_refusal_69 : decode cX7_refusal 69 = .ok (.iconst 1, 1) := by decide +kernel
theorem dX7_refusal_70 : decode cX7_refusal 70 = .ok (.goto 4, 3) := by decide +kernel
theorem dX7_refusal_73 : decode cX7_refusal 73 = .ok (.iconst 0, 1) := by decide +kernel
theorem dX7_refusal_74 : decode cX7_refusal 74 = .ok (.istore 5, 2) := by decide +kernel
theorem dX7_refusal_76 : decode cX7_refusal 76 = .ok (.iinc 6 1, 3) := by decide +kernel
theorem dX7_refusal_79 : decode cX7_refusal 79 = .ok (.goto (-70), 3) := by decide +kernel
theorem dX7_refusal_82 : decode cX7_refusal 82 = .ok (.iload 4, 2) := by decide +kernel
theorem dX7_refusal_84 : decode cX7_refusal 84 = .ok (.ifCond .ne 5, 3) := by decide +kernel
theorem dX7_refusal_87 : decode cX7_refusal 87 = .ok (.iconst (-1), 1) := by decide +kernel
theorem dX7_refusal_88 : decode cX7_refusal 88 = .ok (.ireturn, 1) := by decide +kernel
theorem dX7_refusal_89 : decode cX7_refusal 89 = .ok (.iload 5, 2) := by decide +kernel
theorem dX7_refusal_91 : decode cX7_refusal 91 = .ok (.ifCond .eq 6, 3) := by decide +kernel
theorem dX7_refusal_94 : decode cX7_refusal 94 = .ok (.bipush (-2), 2) := by decide +kernel
theorem dX7_refusal_96 : decode cX7_refusal 96 = .ok (.ireturn, 1) := by decide +kernel
theorem dX7_refusal_97 : decode cX7_refusal 97 = .ok (.aload_n 0, 1) := by decide +kernel
theorem dX7_refusal_98 : decode cX7_refusal 98 = .ok (.iload_n 1, 1) := by decide +kernel
theorem dX7_refusal_99 : decode cX7_refusal 99 = .ok (.iload_n 2, 1) := by decide +kernel
theorem dX7_refusal_100 : decode cX7_refusal 100 = .ok (.iload_n 3, 1) := by decide +kernel
theorem dX7_refusal_101 : decode cX7_refusal 101 = .ok (.invokevirtual 111, 3) := by decide +kernel
theorem dX7_refusal_104 : decode cX7_refusal 104 = .ok (.ifCond .eq 6, 3) := by decide +kernel
theorem dX7_refusal_107 : decode cX7_refusal 107 = .ok (.bipush (-3), 2) := by decide +kernel
theorem dX7_refusal_109 : decode cX7_refusal 109 = .ok (.ireturn, 1) := by decide +kernel
theorem dX7_refusal_110 : decode cX7_refusal 110 = .ok (.aload_n 0, 1) := by decide +kernel
theorem dX7_refusal_111 : decode cX7_refusal 111 = .ok (.iload_n 1, 1) := by decide +kernel
theorem dX7_refusal_112 : decode cX7_refusal 112 = .ok (.invokevirtual 114, 3) := by decide +kernel
theorem dX7_refusal_115 : decode cX7_refusal 115 = .ok (.aload_n 0, 1) := by decide +kernel
theorem dX7_refusal_116 : decode cX7_refusal 116 = .ok (.iload_n 1, 1) := by decide +kernel
theorem dX7_refusal_117 : decode cX7_refusal 117 = .ok (.iload_n 2, 1) := by decide +kernel
theorem dX7_refusal_118 : decode cX7_refusal 118 = .ok (.iload_n 3, 1) := by decide +kernel
theorem dX7_refusal_119 : decode cX7_refusal 119 = .ok (.invokevirtual 117, 3) := by decide +kernel
theorem dX7_refusal_122 : decode cX7_refusal 122 = .ok (.iadd, 1) := by decide +kernel
theorem dX7_refusal_123 : decode cX7_refusal 123 = .ok (.aload_n 0, 1) := by decide +kernel
theorem dX7_refusal_124 : decode cX7_refusal 124 = .ok (.getfield 16, 3) := by decide +kernel
theorem dX7_refusal_127 : decode cX7_refusal 127 = .ok (.iload_n 1, 1) := by decide +kernel
theorem dX7_refusal_128 : decode cX7_refusal 128 = .ok (.iaload, 1) := by decide +kernel
theorem dX7_refusal_129 : decode cX7_refusal 129 = .ok (.if_icmp .le 8, 3) := by decide +kernel
theorem dX7_refusal_132 : decode cX7_refusal 132 = .ok (.bipush (-4), 2) := by decide +kernel
theorem dX7_refusal_134 : decode cX7_refusal 134 = .ok (.goto 4, 3) := by decide +kernel
theorem dX7_refusal_137 : decode cX7_refusal 137 = .ok (.iconst 0, 1) := by decide +kernel
theorem dX7_refusal_138 : decode cX7_refusal 138 = .ok (.ireturn, 1) := by decide +kernel
theorem dX7_isQuestion_0 : decode cX7_isQuestion 0 = .ok (.iload_n 1, 1) := by decide +kernel
theorem dX7_isQuestion_1 : decode cX7_isQuestion 1 = .ok (.ifCond .le 27, 3) := by decide +kernel
theorem dX7_isQuestion_4 : decode cX7_isQuestion 4 = .ok (.iload_n 1, 1) := by decide +kernel
theorem dX7_isQuestion_5 : decode cX7_isQuestion 5 = .ok (.iconst 1, 1) := by decide +kernel
theorem dX7_isQuestion_6 : decode cX7_isQuestion 6 = .ok (.aload_n 0, 1) := by decide +kernel
theorem dX7_isQuestion_7 : decode cX7_isQuestion 7 = .ok (.getfield 57, 3) := by decide +kernel
theorem dX7_isQuestion_10 : decode cX7_isQuestion 10 = .ok (.ishl, 1) := by decide +kernel
theorem dX7_isQuestion_11 : decode cX7_isQuestion 11 = .ok (.if_icmp .ge 17, 3) := by decide +kernel
theorem dX7_isQuestion_14 : decode cX7_isQuestion 14 = .ok (.iload_n 2, 1) := by decide +kernel
theorem dX7_isQuestion_15 : decode cX7_isQuestion 15 = .ok (.iconst (-1), 1) := by decide +kernel
theorem dX7_isQuestion_16 : decode cX7_isQuestion 16 = .ok (.bipush 7, 2) := by decide +kernel
theorem dX7_isQuestion_18 : decode cX7_isQuestion 18 = .ok (.invokestatic 60, 3) := by decide +kernel
theorem dX7_isQuestion_21 : decode cX7_isQuestion 21 = .ok (.ifCond .eq 7, 3) := by decide +kernel
theorem dX7_isQuestion_24 : decode cX7_isQuestion 24 = .ok (.iconst 1, 1) := by decide +kernel
theorem dX7_isQuestion_25 : decode cX7_isQuestion 25 = .ok (.goto 4, 3) := by decide +kernel
theorem dX7_isQuestion_28 : decode cX7_isQuestion 28 = .ok (.iconst 0, 1) := by decide +kernel
theorem dX7_isQuestion_29 : decode cX7_isQuestion 29 = .ok (.ireturn, 1) := by decide +kernel
theorem dX7_ask_0 : decode cX7_ask 0 = .ok (.aload_n 0, 1) := by decide +kernel
theorem dX7_ask_1 : decode cX7_ask 1 = .ok (.iload_n 1, 1) := by decide +kernel
theorem dX7_ask_2 : decode cX7_ask 2 = .ok (.invokevirtual 81, 3) := by decide +kernel
theorem dX7_ask_5 : decode cX7_ask 5 = .ok (.istore 4, 2) := by decide +kernel
theorem dX7_ask_7 : decode cX7_ask 7 = .ok (.aload_n 0, 1) := by decide +kernel
theorem dX7_ask_8 : decode cX7_ask 8 = .ok (.iload 4, 2) := by decide +kernel
theorem dX7_ask_10 : decode cX7_ask 10 = .ok (.ifCond .ne 7, 3) := by decide +kernel
theorem dX7_ask_13 : decode cX7_ask 13 = .ok (.iconst 1, 1) := by decide +kernel
theorem dX7_ask_14 : decode cX7_ask 14 = .ok (.goto 31, 3) := by decide +kernel
theorem dX7_ask_17 : decode cX7_ask 17 = .ok (.aload_n 0, 1) := by decide +kernel
theorem dX7_ask_18 : decode cX7_ask 18 = .ok (.iload_n 2, 1) := by decide +kernel
theorem dX7_ask_19 : decode cX7_ask 19 = .ok (.iload_n 3, 1) := by decide +kernel
theorem dX7_ask_20 : decode cX7_ask 20 = .ok (.invokevirtual 121, 3) := by decide +kernel
theorem dX7_ask_23 : decode cX7_ask 23 = .ok (.ifCond .ne 7, 3) := by decide +kernel
theorem dX7_ask_26 : decode cX7_ask 26 = .ok (.iconst 2, 1) := by decide +kernel
theorem dX7_ask_27 : decode cX7_ask 27 = .ok (.goto 18, 3) := by decide +kernel
theorem dX7_ask_30 : decode cX7_ask 30 = .ok (.aload_n 0, 1) := by decide +kernel
theorem dX7_ask_31 : decode cX7_ask 31 = .ok (.getfield 71, 3) := by decide +kernel
theorem dX7_ask_34 : decode cX7_ask 34 = .ok (.sipush 150, 3) := by decide +kernel
theorem dX7_ask_37 : decode cX7_ask 37 = .ok (.if_icmp .ne 7, 3) := by decide +kernel
theorem dX7_ask_40 : decode cX7_ask 40 = .ok (.iconst 3, 1) := by decide +kernel
theorem dX7_ask_41 : decode cX7_ask 41 = .ok (.goto 4, 3) := by decide +kernel
theorem dX7_ask_44 : decode cX7_ask 44 = .ok (.iconst 0, 1) := by decide +kernel
theorem dX7_ask_45 : decode cX7_ask 45 = .ok (.invokevirtual 67, 3) := by decide +kernel
theorem dX7_ask_48 : decode cX7_ask 48 = .ok (.ifCond .ne 5, 3) := by decide +kernel
theorem dX7_ask_51 : decode cX7_ask 51 = .ok (.iconst 0, 1) := by decide +kernel
theorem dX7_ask_52 : decode cX7_ask 52 = .ok (.ireturn, 1) := by decide +kernel
theorem dX7_ask_53 : decode cX7_ask 53 = .ok (.aload_n 0, 1) := by decide +kernel
theorem dX7_ask_54 : decode cX7_ask 54 = .ok (.iload_n 1, 1) := by decide +kernel
theorem dX7_ask_55 : decode cX7_ask 55 = .ok (.iload_n 2, 1) := by decide +kernel
theorem dX7_ask_56 : decode cX7_ask 56 = .ok (.iload_n 3, 1) := by decide +kernel
theorem dX7_ask_57 : decode cX7_ask 57 = .ok (.invokevirtual 124, 3) := by decide +kernel
theorem dX7_ask_60 : decode cX7_ask 60 = .ok (.istore 5, 2) := by decide +kernel
theorem dX7_ask_62 : decode cX7_ask 62 = .ok (.aload_n 0, 1) := by decide +kernel
theorem dX7_ask_63 : decode cX7_ask 63 = .ok (.getfield 47, 3) := by decide +kernel
theorem dX7_ask_66 : decode cX7_ask 66 = .ok (.bipush 6, 2) := by decide +kernel
theorem dX7_ask_68 : decode cX7_ask 68 = .ok (.iload_n 1, 1) := by decide +kernel
theorem dX7_ask_69 : decode cX7_ask 69 = .ok (.imul, 1) := by decide +kernel
theorem dX7_ask_70 : decode cX7_ask 70 = .ok (.iload 5, 2) := by decide +kernel
theorem dX7_ask_72 : decode cX7_ask 72 = .ok (.isub, 1) := by decide +kernel
theorem dX7_ask_73 : decode cX7_ask 73 = .ok (.dup2, 1) := by decide +kernel
theorem dX7_ask_74 : decode cX7_ask 74 = .ok (.iaload, 1) := by decide +kernel
theorem dX7_ask_75 : decode cX7_ask 75 = .ok (.iconst 1, 1) := by decide +kernel
theorem dX7_ask_76 : decode cX7_ask 76 = .ok (.iadd, 1) := by decide +kernel
theorem dX7_ask_77 : decode cX7_ask 77 = .ok (.iastore, 1) := by decide +kernel
theorem dX7_ask_78 : decode cX7_ask 78 = .ok (.iload 5, 2) := by decide +kernel
theorem dX7_ask_80 : decode cX7_ask 80 = .ok (.ifCond .eq 6, 3) := by decide +kernel
theorem dX7_ask_83 : decode cX7_ask 83 = .ok (.iload 5, 2) := by decide +kernel
theorem dX7_ask_85 : decode cX7_ask 85 = .ok (.ireturn, 1) := by decide +kernel
theorem dX7_ask_86 : decode cX7_ask 86 = .ok (.iconst 0, 1) := by decide +kernel
theorem dX7_ask_87 : decode cX7_ask 87 = .ok (.istore 6, 2) := by decide +kernel
theorem dX7_ask_89 : decode cX7_ask 89 = .ok (.iconst 0, 1) := by decide +kernel
theorem dX7_ask_90 : decode cX7_ask 90 = .ok (.istore 7, 2) := by decide +kernel
theorem dX7_ask_92 : decode cX7_ask 92 = .ok (.iload 7, 2) := by decide +kernel
theorem dX7_ask_94 : decode cX7_ask 94 = .ok (.aload_n 0, 1) := by decide +kernel
theorem dX7_ask_95 : decode cX7_ask 95 = .ok (.getfield 57, 3) := by decide +kernel
theorem dX7_ask_98 : decode cX7_ask 98 = .ok (.if_icmp .ge 35, 3) := by decide +kernel
theorem dX7_ask_101 : decode cX7_ask 101 = .ok (.iload 6, 2) := by decide +kernel
theorem dX7_ask_103 : decode cX7_ask 103 = .ok (.iload_n 2, 1) := by decide +kernel
theorem dX7_ask_104 : decode cX7_ask 104 = .ok (.iload 7, 2) := by decide +kernel
theorem dX7_ask_106 : decode cX7_ask 106 = .ok (.ishr, 1) := by decide +kernel
theorem dX7_ask_107 : decode cX7_ask 107 = .ok (.iconst 1, 1) := by decide +kernel
theorem dX7_ask_108 : decode cX7_ask 108 = .ok (.iand, 1) := by decide +kernel
theorem dX7_ask_109 : decode cX7_ask 109 = .ok (.iconst 1, 1) := by decide +kernel
theorem dX7_ask_110 : decode cX7_ask 110 = .ok (.if_icmp .ne 13, 3) := by decide +kernel
theorem dX7_ask_113 : decode cX7_ask 113 = .ok (.aload_n 0, 1) := by decide +kernel
theorem dX7_ask_114 : decode cX7_ask 114 = .ok (.getfield 7, 3) := by decide +kernel
theorem dX7_ask_117 : decode cX7_ask 117 = .ok (.iload 7, 2) := by decide +kernel
theorem dX7_ask_119 : decode cX7_ask 119 = .ok (.iaload, 1) := by decide +kernel
theorem dX7_ask_120 : decode cX7_ask 120 = .ok (.goto 4, 3) := by decide +kernel
theorem dX7_ask_123 : decode cX7_ask 123 = .ok (.iconst 0, 1) := by decide +kernel
theorem dX7_ask_124 : decode cX7_ask 124 = .ok (.ixor, 1) := by decide +kernel
theorem dX7_ask_125 : decode cX7_ask 125 = .ok (.istore 6, 2) := by decide +kernel
theorem dX7_ask_127 : decode cX7_ask 127 = .ok (.iinc 7 1, 3) := by decide +kernel
theorem dX7_ask_130 : decode cX7_ask 130 = .ok (.goto (-38), 3) := by decide +kernel
theorem dX7_ask_133 : decode cX7_ask 133 = .ok (.aload_n 0, 1) := by decide +kernel
theorem dX7_ask_134 : decode cX7_ask 134 = .ok (.getfield 28, 3) := by decide +kernel
theorem dX7_ask_137 : decode cX7_ask 137 = .ok (.aload_n 0, 1) := by decide +kernel
theorem dX7_ask_138 : decode cX7_ask 138 = .ok (.getfield 71, 3) := by decide +kernel
theorem dX7_ask_141 : decode cX7_ask 141 = .ok (.iload_n 1, 1) := by decide +kernel
theorem dX7_ask_142 : decode cX7_ask 142 = .ok (.iastore, 1) := by decide +kernel
theorem dX7_ask_143 : decode cX7_ask 143 = .ok (.aload_n 0, 1) := by decide +kernel
theorem dX7_ask_144 : decode cX7_ask 144 = .ok (.getfield 31, 3) := by decide +kernel
theorem dX7_ask_147 : decode cX7_ask 147 = .ok (.aload_n 0, 1) := by decide +kernel
theorem dX7_ask_148 : decode cX7_ask 148 = .ok (.getfield 71, 3) := by decide +kernel
theorem dX7_ask_151 : decode cX7_ask 151 = .ok (.iload_n 2, 1) := by decide +kernel
theorem dX7_ask_152 : decode cX7_ask 152 = .ok (.iastore, 1) := by decide +kernel
theorem dX7_ask_153 : decode cX7_ask 153 = .ok (.aload_n 0, 1) := by decide +kernel
theorem dX7_ask_154 : decode cX7_ask 154 = .ok (.getfield 34, 3) := by decide +kernel
theorem dX7_ask_157 : decode cX7_ask 157 = .ok (.aload_n 0, 1) := by decide +kernel
theorem dX7_ask_158 : decode cX7_ask 158 = .ok (.getfield 71, 3) := by decide +kernel
theorem dX7_ask_161 : decode cX7_ask 161 = .ok (.iload_n 3, 1) := by decide +kernel
theorem dX7_ask_162 : decode cX7_ask 162 = .ok (.iastore, 1) := by decide +kernel
theorem dX7_ask_163 : decode cX7_ask 163 = .ok (.aload_n 0, 1) := by decide +kernel
theorem dX7_ask_164 : decode cX7_ask 164 = .ok (.getfield 37, 3) := by decide +kernel
theorem dX7_ask_167 : decode cX7_ask 167 = .ok (.aload_n 0, 1) := by decide +kernel
theorem dX7_ask_168 : decode cX7_ask 168 = .ok (.getfield 71, 3) := by decide +kernel
theorem dX7_ask_171 : decode cX7_ask 171 = .ok (.iload_n 3, 1) := by decide +kernel
theorem dX7_ask_172 : decode cX7_ask 172 = .ok (.iconst (-1), 1) := by decide +kernel
theorem dX7_ask_173 : decode cX7_ask 173 = .ok (.if_icmp .ne 8, 3) := by decide +kernel
theorem dX7_ask_176 : decode cX7_ask 176 = .ok (.iload 6, 2) := by decide +kernel
theorem dX7_ask_178 : decode cX7_ask 178 = .ok (.goto 9, 3) := by decide +kernel
theorem dX7_ask_181 : decode cX7_ask 181 = .ok (.iload 6, 2) := by decide +kernel
theorem dX7_ask_183 : decode cX7_ask 183 = .ok (.iload_n 3, 1) := by decide +kernel
theorem dX7_ask_184 : decode cX7_ask 184 = .ok (.ishr, 1) := by decide +kernel
theorem dX7_ask_185 : decode cX7_ask 185 = .ok (.iconst 1, 1) := by decide +kernel
theorem dX7_ask_186 : decode cX7_ask 186 = .ok (.iand, 1) := by decide +kernel
theorem dX7_ask_187 : decode cX7_ask 187 = .ok (.iastore, 1) := by decide +kernel
theorem dX7_ask_188 : decode cX7_ask 188 = .ok (.aload_n 0, 1) := by decide +kernel
theorem dX7_ask_189 : decode cX7_ask 189 = .ok (.getfield 40, 3) := by decide +kernel
theorem dX7_ask_192 : decode cX7_ask 192 = .ok (.aload_n 0, 1) := by decide +kernel
theorem dX7_ask_193 : decode cX7_ask 193 = .ok (.getfield 71, 3) := by decide +kernel
theorem dX7_ask_196 : decode cX7_ask 196 = .ok (.aload_n 0, 1) := by decide +kernel
theorem dX7_ask_197 : decode cX7_ask 197 = .ok (.getfield 84, 3) := by decide +kernel
theorem dX7_ask_200 : decode cX7_ask 200 = .ok (.iastore, 1) := by decide +kernel
theorem dX7_ask_201 : decode cX7_ask 201 = .ok (.aload_n 0, 1) := by decide +kernel
theorem dX7_ask_202 : decode cX7_ask 202 = .ok (.dup, 1) := by decide +kernel
theorem dX7_ask_203 : decode cX7_ask 203 = .ok (.getfield 71, 3) := by decide +kernel
theorem dX7_ask_206 : decode cX7_ask 206 = .ok (.iconst 1, 1) := by decide +kernel
theorem dX7_ask_207 : decode cX7_ask 207 = .ok (.iadd, 1) := by decide +kernel
theorem dX7_ask_208 : decode cX7_ask 208 = .ok (.putfield 71, 3) := by decide +kernel
theorem dX7_ask_211 : decode cX7_ask 211 = .ok (.aload_n 0, 1) := by decide +kernel
theorem dX7_ask_212 : decode cX7_ask 212 = .ok (.getfield 37, 3) := by decide +kernel
theorem dX7_ask_215 : decode cX7_ask 215 = .ok (.aload_n 0, 1) := by decide +kernel
theorem dX7_ask_216 : decode cX7_ask 216 = .ok (.getfield 71, 3) := by decide +kernel
theorem dX7_ask_219 : decode cX7_ask 219 = .ok (.iconst 1, 1) := by decide +kernel
theorem dX7_ask_220 : decode cX7_ask 220 = .ok (.isub, 1) := by decide +kernel
theorem dX7_ask_221 : decode cX7_ask 221 = .ok (.iaload, 1) := by decide +kernel
theorem dX7_ask_222 : decode cX7_ask 222 = .ok (.ireturn, 1) := by decide +kernel
theorem dX7_cost_0 : decode cX7_cost 0 = .ok (.aload_n 0, 1) := by decide +kernel
theorem dX7_cost_1 : decode cX7_cost 1 = .ok (.iload_n 1, 1) := by decide +kernel
theorem dX7_cost_2 : decode cX7_cost 2 = .ok (.invokevirtual 81, 3) := by decide +kernel
theorem dX7_cost_5 : decode cX7_cost 5 = .ok (.istore 4, 2) := by decide +kernel
theorem dX7_cost_7 : decode cX7_cost 7 = .ok (.aload_n 0, 1) := by decide +kernel
theorem dX7_cost_8 : decode cX7_cost 8 = .ok (.iload 4, 2) := by decide +kernel
theorem dX7_cost_10 : decode cX7_cost 10 = .ok (.ifCond .ne 7, 3) := by decide +kernel
theorem dX7_cost_13 : decode cX7_cost 13 = .ok (.iconst 1, 1) := by decide +kernel
theorem dX7_cost_14 : decode cX7_cost 14 = .ok (.goto 17, 3) := by decide +kernel
theorem dX7_cost_17 : decode cX7_cost 17 = .ok (.aload_n 0, 1) := by decide +kernel
theorem dX7_cost_18 : decode cX7_cost 18 = .ok (.iload_n 2, 1) := by decide +kernel
theorem dX7_cost_19 : decode cX7_cost 19 = .ok (.iload_n 3, 1) := by decide +kernel
theorem dX7_cost_20 : decode cX7_cost 20 = .ok (.invokevirtual 121, 3) := by decide +kernel
theorem dX7_cost_23 : decode cX7_cost 23 = .ok (.ifCond .eq 7, 3) := by decide +kernel
theorem dX7_cost_26 : decode cX7_cost 26 = .ok (.iconst 0, 1) := by decide +kernel
theorem dX7_cost_27 : decode cX7_cost 27 = .ok (.goto 4, 3) := by decide +kernel
theorem dX7_cost_30 : decode cX7_cost 30 = .ok (.iconst 2, 1) := by decide +kernel
theorem dX7_cost_31 : decode cX7_cost 31 = .ok (.invokevirtual 67, 3) := by decide +kernel
theorem dX7_cost_34 : decode cX7_cost 34 = .ok (.ifCond .eq 13, 3) := by decide +kernel
theorem dX7_cost_37 : decode cX7_cost 37 = .ok (.aload_n 0, 1) := by decide +kernel
theorem dX7_cost_38 : decode cX7_cost 38 = .ok (.iload_n 1, 1) := by decide +kernel
theorem dX7_cost_39 : decode cX7_cost 39 = .ok (.iload_n 2, 1) := by decide +kernel
theorem dX7_cost_40 : decode cX7_cost 40 = .ok (.iload_n 3, 1) := by decide +kernel
theorem dX7_cost_41 : decode cX7_cost 41 = .ok (.invokevirtual 117, 3) := by decide +kernel
theorem dX7_cost_44 : decode cX7_cost 44 = .ok (.goto 4, 3) := by decide +kernel
theorem dX7_cost_47 : decode cX7_cost 47 = .ok (.iconst 0, 1) := by decide +kernel
theorem dX7_cost_48 : decode cX7_cost 48 = .ok (.ireturn, 1) := by decide +kernel
theorem dX7_answer_0 : decode cX7_answer 0 = .ok (.iload_n 1, 1) := by decide +kernel
theorem dX7_answer_1 : decode cX7_answer 1 = .ok (.iconst 0, 1) := by decide +kernel
theorem dX7_answer_2 : decode cX7_answer 2 = .ok (.aload_n 0, 1) := by decide +kernel
theorem dX7_answer_3 : decode cX7_answer 3 = .ok (.getfield 71, 3) := by decide +kernel
theorem dX7_answer_6 : decode cX7_answer 6 = .ok (.iconst 1, 1) := by decide +kernel
theorem dX7_answer_7 : decode cX7_answer 7 = .ok (.isub, 1) := by decide +kernel
theorem dX7_answer_8 : decode cX7_answer 8 = .ok (.invokestatic 60, 3) := by decide +kernel
theorem dX7_answer_11 : decode cX7_answer 11 = .ok (.istore_n 3, 1) := by decide +kernel
theorem dX7_answer_12 : decode cX7_answer 12 = .ok (.aload_n 0, 1) := by decide +kernel
theorem dX7_answer_13 : decode cX7_answer 13 = .ok (.iload_n 3, 1) := by decide +kernel
theorem dX7_answer_14 : decode cX7_answer 14 = .ok (.ifCond .ne 7, 3) := by decide +kernel
theorem dX7_answer_17 : decode cX7_answer 17 = .ok (.iconst 1, 1) := by decide +kernel
theorem dX7_answer_18 : decode cX7_answer 18 = .ok (.goto 17, 3) := by decide +kernel
theorem dX7_answer_21 : decode cX7_answer 21 = .ok (.iload_n 2, 1) := by decide +kernel
theorem dX7_answer_22 : decode cX7_answer 22 = .ok (.iconst 0, 1) := by decide +kernel
theorem dX7_answer_23 : decode cX7_answer 23 = .ok (.iconst 5, 1) := by decide +kernel
theorem dX7_answer_24 : decode cX7_answer 24 = .ok (.invokestatic 60, 3) := by decide +kernel
theorem dX7_answer_27 : decode cX7_answer 27 = .ok (.ifCond .eq 7, 3) := by decide +kernel
theorem dX7_answer_30 : decode cX7_answer 30 = .ok (.iconst 0, 1) := by decide +kernel
theorem dX7_answer_31 : decode cX7_answer 31 = .ok (.goto 4, 3) := by decide +kernel
theorem dX7_answer_34 : decode cX7_answer 34 = .ok (.iconst 2, 1) := by decide +kernel
theorem dX7_answer_35 : decode cX7_answer 35 = .ok (.invokevirtual 67, 3) := by decide +kernel
theorem dX7_answer_38 : decode cX7_answer 38 = .ok (.ifCond .ne 5, 3) := by decide +kernel
theorem dX7_answer_41 : decode cX7_answer 41 = .ok (.iconst 0, 1) := by decide +kernel
theorem dX7_answer_42 : decode cX7_answer 42 = .ok (.ireturn, 1) := by decide +kernel
theorem dX7_answer_43 : decode cX7_answer 43 = .ok (.iload_n 2, 1) := by decide +kernel
theorem dX7_answer_44 : decode cX7_answer 44 = .ok (.tableswitch 79 0 4 #[36, 43, 50, 57, 64], 36) := by decide +kernel
theorem dX7_answer_80 : decode cX7_answer 80 = .ok (.aload_n 0, 1) := by decide +kernel
theorem dX7_answer_81 : decode cX7_answer 81 = .ok (.getfield 28, 3) := by decide +kernel
theorem dX7_answer_84 : decode cX7_answer 84 = .ok (.iload_n 1, 1) := by decide +kernel
theorem dX7_answer_85 : decode cX7_answer 85 = .ok (.iaload, 1) := by decide +kernel
theorem dX7_answer_86 : decode cX7_answer 86 = .ok (.ireturn, 1) := by decide +kernel
theorem dX7_answer_87 : decode cX7_answer 87 = .ok (.aload_n 0, 1) := by decide +kernel
theorem dX7_answer_88 : decode cX7_answer 88 = .ok (.getfield 31, 3) := by decide +kernel
theorem dX7_answer_91 : decode cX7_answer 91 = .ok (.iload_n 1, 1) := by decide +kernel
theorem dX7_answer_92 : decode cX7_answer 92 = .ok (.iaload, 1) := by decide +kernel
theorem dX7_answer_93 : decode cX7_answer 93 = .ok (.ireturn, 1) := by decide +kernel
theorem dX7_answer_94 : decode cX7_answer 94 = .ok (.aload_n 0, 1) := by decide +kernel
theorem dX7_answer_95 : decode cX7_answer 95 = .ok (.getfield 34, 3) := by decide +kernel
theorem dX7_answer_98 : decode cX7_answer 98 = .ok (.iload_n 1, 1) := by decide +kernel
theorem dX7_answer_99 : decode cX7_answer 99 = .ok (.iaload, 1) := by decide +kernel
theorem dX7_answer_100 : decode cX7_answer 100 = .ok (.ireturn, 1) := by decide +kernel
theorem dX7_answer_101 : decode cX7_answer 101 = .ok (.aload_n 0, 1) := by decide +kernel
theorem dX7_answer_102 : decode cX7_answer 102 = .ok (.getfield 37, 3) := by decide +kernel
theorem dX7_answer_105 : decode cX7_answer 105 = .ok (.iload_n 1, 1) := by decide +kernel
theorem dX7_answer_106 : decode cX7_answer 106 = .ok (.iaload, 1) := by decide +kernel
theorem dX7_answer_107 : decode cX7_answer 107 = .ok (.ireturn, 1) := by decide +kernel
theorem dX7_answer_108 : decode cX7_answer 108 = .ok (.aload_n 0, 1) := by decide +kernel
theorem dX7_answer_109 : decode cX7_answer 109 = .ok (.getfield 43, 3) := by decide +kernel
theorem dX7_answer_112 : decode cX7_answer 112 = .ok (.iload_n 1, 1) := by decide +kernel
theorem dX7_answer_113 : decode cX7_answer 113 = .ok (.baload, 1) := by decide +kernel
theorem dX7_answer_114 : decode cX7_answer 114 = .ok (.ifCond .eq 7, 3) := by decide +kernel
theorem dX7_answer_117 : decode cX7_answer 117 = .ok (.iconst 1, 1) := by decide +kernel
theorem dX7_answer_118 : decode cX7_answer 118 = .ok (.goto 4, 3) := by decide +kernel
theorem dX7_answer_121 : decode cX7_answer 121 = .ok (.iconst 0, 1) := by decide +kernel
theorem dX7_answer_122 : decode cX7_answer 122 = .ok (.ireturn, 1) := by decide +kernel
theorem dX7_answer_123 : decode cX7_answer 123 = .ok (.aload_n 0, 1) := by decide +kernel
theorem dX7_answer_124 : decode cX7_answer 124 = .ok (.getfield 40, 3) := by decide +kernel
theorem dX7_answer_127 : decode cX7_answer 127 = .ok (.iload_n 1, 1) := by decide +kernel
theorem dX7_answer_128 : decode cX7_answer 128 = .ok (.iaload, 1) := by decide +kernel
theorem dX7_answer_129 : decode cX7_answer 129 = .ok (.ireturn, 1) := by decide +kernel
theorem dX7_spent_0 : decode cX7_spent 0 = .ok (.aload_n 0, 1) := by decide +kernel
theorem dX7_spent_1 : decode cX7_spent 1 = .ok (.aload_n 0, 1) := by decide +kernel
theorem dX7_spent_2 : decode cX7_spent 2 = .ok (.iload_n 1, 1) := by decide +kernel
theorem dX7_spent_3 : decode cX7_spent 3 = .ok (.invokevirtual 81, 3) := by decide +kernel
theorem dX7_spent_6 : decode cX7_spent 6 = .ok (.ifCond .eq 7, 3) := by decide +kernel
theorem dX7_spent_9 : decode cX7_spent 9 = .ok (.iconst 0, 1) := by decide +kernel
theorem dX7_spent_10 : decode cX7_spent 10 = .ok (.goto 4, 3) := by decide +kernel
theorem dX7_spent_13 : decode cX7_spent 13 = .ok (.iconst 1, 1) := by decide +kernel
theorem dX7_spent_14 : decode cX7_spent 14 = .ok (.invokevirtual 67, 3) := by decide +kernel
theorem dX7_spent_17 : decode cX7_spent 17 = .ok (.ifCond .eq 11, 3) := by decide +kernel
theorem dX7_spent_20 : decode cX7_spent 20 = .ok (.aload_n 0, 1) := by decide +kernel
theorem dX7_spent_21 : decode cX7_spent 21 = .ok (.iload_n 1, 1) := by decide +kernel
theorem dX7_spent_22 : decode cX7_spent 22 = .ok (.invokevirtual 114, 3) := by decide +kernel
theorem dX7_spent_25 : decode cX7_spent 25 = .ok (.goto 4, 3) := by decide +kernel
theorem dX7_spent_28 : decode cX7_spent 28 = .ok (.iconst 0, 1) := by decide +kernel
theorem dX7_spent_29 : decode cX7_spent 29 = .ok (.ireturn, 1) := by decide +kernel
theorem dX7_spentAnew_0 : decode cX7_spentAnew 0 = .ok (.aload_n 0, 1) := by decide +kernel
theorem dX7_spentAnew_1 : decode cX7_spentAnew 1 = .ok (.aload_n 0, 1) := by decide +kernel
theorem dX7_spentAnew_2 : decode cX7_spentAnew 2 = .ok (.iload_n 1, 1) := by decide +kernel
theorem dX7_spentAnew_3 : decode cX7_spentAnew 3 = .ok (.invokevirtual 81, 3) := by decide +kernel
theorem dX7_spentAnew_6 : decode cX7_spentAnew 6 = .ok (.ifCond .eq 7, 3) := by decide +kernel
theorem dX7_spentAnew_9 : decode cX7_spentAnew 9 = .ok (.iconst 0, 1) := by decide +kernel
theorem dX7_spentAnew_10 : decode cX7_spentAnew 10 = .ok (.goto 4, 3) := by decide +kernel
theorem dX7_spentAnew_13 : decode cX7_spentAnew 13 = .ok (.iconst 1, 1) := by decide +kernel
theorem dX7_spentAnew_14 : decode cX7_spentAnew 14 = .ok (.invokevirtual 67, 3) := by decide +kernel
theorem dX7_spentAnew_17 : decode cX7_spentAnew 17 = .ok (.ifCond .eq 11, 3) := by decide +kernel
theorem dX7_spentAnew_20 : decode cX7_spentAnew 20 = .ok (.aload_n 0, 1) := by decide +kernel
theorem dX7_spentAnew_21 : decode cX7_spentAnew 21 = .ok (.iload_n 1, 1) := by decide +kernel
theorem dX7_spentAnew_22 : decode cX7_spentAnew 22 = .ok (.invokevirtual 114, 3) := by decide +kernel
theorem dX7_spentAnew_25 : decode cX7_spentAnew 25 = .ok (.goto 4, 3) := by decide +kernel
theorem dX7_spentAnew_28 : decode cX7_spentAnew 28 = .ok (.iconst 0, 1) := by decide +kernel
theorem dX7_spentAnew_29 : decode cX7_spentAnew 29 = .ok (.ireturn, 1) := by decide +kernel
theorem dX7_findsBy_0 : decode cX7_findsBy 0 = .ok (.iconst 0, 1) := by decide +kernel
theorem dX7_findsBy_1 : decode cX7_findsBy 1 = .ok (.istore_n 3, 1) := by decide +kernel
theorem dX7_findsBy_2 : decode cX7_findsBy 2 = .ok (.iconst 0, 1) := by decide +kernel
theorem dX7_findsBy_3 : decode cX7_findsBy 3 = .ok (.istore 4, 2) := by decide +kernel
theorem dX7_findsBy_5 : decode cX7_findsBy 5 = .ok (.iload 4, 2) := by decide +kernel
theorem dX7_findsBy_7 : decode cX7_findsBy 7 = .ok (.bipush 8, 2) := by decide +kernel
theorem dX7_findsBy_9 : decode cX7_findsBy 9 = .ok (.if_icmp .ge 38, 3) := by decide +kernel
theorem dX7_findsBy_12 : decode cX7_findsBy 12 = .ok (.aload_n 0, 1) := by decide +kernel
theorem dX7_findsBy_13 : decode cX7_findsBy 13 = .ok (.iload_n 1, 1) := by decide +kernel
theorem dX7_findsBy_14 : decode cX7_findsBy 14 = .ok (.iload 4, 2) := by decide +kernel
theorem dX7_findsBy_16 : decode cX7_findsBy 16 = .ok (.invokevirtual 97, 3) := by decide +kernel
theorem dX7_findsBy_19 : decode cX7_findsBy 19 = .ok (.pop, 1) := by decide +kernel
theorem dX7_findsBy_20 : decode cX7_findsBy 20 = .ok (.iload_n 3, 1) := by decide +kernel
theorem dX7_findsBy_21 : decode cX7_findsBy 21 = .ok (.aload_n 0, 1) := by decide +kernel
theorem dX7_findsBy_22 : decode cX7_findsBy 22 = .ok (.iconst 1, 1) := by decide +kernel
theorem dX7_findsBy_23 : decode cX7_findsBy 23 = .ok (.iload_n 2, 1) := by decide +kernel
theorem dX7_findsBy_24 : decode cX7_findsBy 24 = .ok (.ishl, 1) := by decide +kernel
theorem dX7_findsBy_25 : decode cX7_findsBy 25 = .ok (.invokevirtual 87, 3) := by decide +kernel
theorem dX7_findsBy_28 : decode cX7_findsBy 28 = .ok (.ifCond .ne 10, 3) := by decide +kernel
theorem dX7_findsBy_31 : decode cX7_findsBy 31 = .ok (.iconst 1, 1) := by decide +kernel
theorem dX7_findsBy_32 : decode cX7_findsBy 32 = .ok (.iload 4, 2) := by decide +kernel
theorem dX7_findsBy_34 : decode cX7_findsBy 34 = .ok (.ishl, 1) := by decide +kernel
theorem dX7_findsBy_35 : decode cX7_findsBy 35 = .ok (.goto 4, 3) := by decide +kernel
theorem dX7_findsBy_38 : decode cX7_findsBy 38 = .ok (.iconst 0, 1) := by decide +kernel
theorem dX7_findsBy_39 : decode cX7_findsBy 39 = .ok (.ior, 1) := by decide +kernel
theorem dX7_findsBy_40 : decode cX7_findsBy 40 = .ok (.istore_n 3, 1) := by decide +kernel
theorem dX7_findsBy_41 : decode cX7_findsBy 41 = .ok (.iinc 4 1, 3) := by decide +kernel
theorem dX7_findsBy_44 : decode cX7_findsBy 44 = .ok (.goto (-39), 3) := by decide +kernel
theorem dX7_findsBy_47 : decode cX7_findsBy 47 = .ok (.iload_n 3, 1) := by decide +kernel
theorem dX7_findsBy_48 : decode cX7_findsBy 48 = .ok (.ireturn, 1) := by decide +kernel
theorem dX7_finds_0 : decode cX7_finds 0 = .ok (.aload_n 0, 1) := by decide +kernel
theorem dX7_finds_1 : decode cX7_finds 1 = .ok (.aload_n 0, 1) := by decide +kernel
theorem dX7_finds_2 : decode cX7_finds 2 = .ok (.iload_n 1, 1) := by decide +kernel
theorem dX7_finds_3 : decode cX7_finds 3 = .ok (.invokevirtual 81, 3) := by decide +kernel
theorem dX7_finds_6 : decode cX7_finds 6 = .ok (.ifCond .eq 15, 3) := by decide +kernel
theorem dX7_finds_9 : decode cX7_finds 9 = .ok (.aload_n 0, 1) := by decide +kernel
theorem dX7_finds_10 : decode cX7_finds 10 = .ok (.iload_n 2, 1) := by decide +kernel
theorem dX7_finds_11 : decode cX7_finds 11 = .ok (.invokevirtual 74, 3) := by decide +kernel
theorem dX7_finds_14 : decode cX7_finds 14 = .ok (.ifCond .eq 7, 3) := by decide +kernel
theorem dX7_finds_17 : decode cX7_finds 17 = .ok (.iconst 0, 1) := by decide +kernel
theorem dX7_finds_18 : decode cX7_finds 18 = .ok (.goto 4, 3) := by decide +kernel
theorem dX7_finds_21 : decode cX7_finds 21 = .ok (.iconst 1, 1) := by decide +kernel
theorem dX7_finds_22 : decode cX7_finds 22 = .ok (.invokevirtual 67, 3) := by decide +kernel
theorem dX7_finds_25 : decode cX7_finds 25 = .ok (.ifCond .eq 14, 3) := by decide +kernel
theorem dX7_finds_28 : decode cX7_finds 28 = .ok (.aload_n 0, 1) := by decide +kernel
theorem dX7_finds_29 : decode cX7_finds 29 = .ok (.iconst 1, 1) := by decide +kernel
theorem dX7_finds_30 : decode cX7_finds 30 = .ok (.iload_n 1, 1) := by decide +kernel
theorem dX7_finds_31 : decode cX7_finds 31 = .ok (.ishl, 1) := by decide +kernel
theorem dX7_finds_32 : decode cX7_finds 32 = .ok (.iload_n 2, 1) := by decide +kernel
theorem dX7_finds_33 : decode cX7_finds 33 = .ok (.invokevirtual 127, 3) := by decide +kernel
theorem dX7_finds_36 : decode cX7_finds 36 = .ok (.goto 4, 3) := by decide +kernel
theorem dX7_finds_39 : decode cX7_finds 39 = .ok (.iconst 0, 1) := by decide +kernel
theorem dX7_finds_40 : decode cX7_finds 40 = .ok (.ireturn, 1) := by decide +kernel
theorem dX7_together_0 : decode cX7_together 0 = .ok (.aload_n 0, 1) := by decide +kernel
theorem dX7_together_1 : decode cX7_together 1 = .ok (.iload_n 2, 1) := by decide +kernel
theorem dX7_together_2 : decode cX7_together 2 = .ok (.invokevirtual 74, 3) := by decide +kernel
theorem dX7_together_5 : decode cX7_together 5 = .ok (.istore_n 3, 1) := by decide +kernel
theorem dX7_together_6 : decode cX7_together 6 = .ok (.aload_n 0, 1) := by decide +kernel
theorem dX7_together_7 : decode cX7_together 7 = .ok (.iload_n 3, 1) := by decide +kernel
theorem dX7_together_8 : decode cX7_together 8 = .ok (.ifCond .ne 7, 3) := by decide +kernel
theorem dX7_together_11 : decode cX7_together 11 = .ok (.iconst 1, 1) := by decide +kernel
theorem dX7_together_12 : decode cX7_together 12 = .ok (.goto 24, 3) := by decide +kernel
theorem dX7_together_15 : decode cX7_together 15 = .ok (.iload_n 1, 1) := by decide +kernel
theorem dX7_together_16 : decode cX7_together 16 = .ok (.iconst 0, 1) := by decide +kernel
theorem dX7_together_17 : decode cX7_together 17 = .ok (.iconst 1, 1) := by decide +kernel
theorem dX7_together_18 : decode cX7_together 18 = .ok (.aload_n 0, 1) := by decide +kernel
theorem dX7_together_19 : decode cX7_together 19 = .ok (.getfield 64, 3) := by decide +kernel
theorem dX7_together_22 : decode cX7_together 22 = .ok (.ishl, 1) := by decide +kernel
theorem dX7_together_23 : decode cX7_together 23 = .ok (.iconst 1, 1) := by decide +kernel
theorem dX7_together_24 : decode cX7_together 24 = .ok (.isub, 1) := by decide +kernel
theorem dX7_together_25 : decode cX7_together 25 = .ok (.invokestatic 60, 3) := by decide +kernel
theorem dX7_together_28 : decode cX7_together 28 = .ok (.ifCond .eq 7, 3) := by decide +kernel
theorem dX7_together_31 : decode cX7_together 31 = .ok (.iconst 0, 1) := by decide +kernel
theorem dX7_together_32 : decode cX7_together 32 = .ok (.goto 4, 3) := by decide +kernel
theorem dX7_together_35 : decode cX7_together 35 = .ok (.iconst 2, 1) := by decide +kernel
theorem dX7_together_36 : decode cX7_together 36 = .ok (.invokevirtual 67, 3) := by decide +kernel
theorem dX7_together_39 : decode cX7_together 39 = .ok (.ifCond .eq 12, 3) := by decide +kernel
theorem dX7_together_42 : decode cX7_together 42 = .ok (.aload_n 0, 1) := by decide +kernel
theorem dX7_together_43 : decode cX7_together 43 = .ok (.iload_n 1, 1) := by decide +kernel
theorem dX7_together_44 : decode cX7_together 44 = .ok (.iload_n 2, 1) := by decide +kernel
theorem dX7_together_45 : decode cX7_together 45 = .ok (.invokevirtual 127, 3) := by decide +kernel
theorem dX7_together_48 : decode cX7_together 48 = .ok (.goto 4, 3) := by decide +kernel
theorem dX7_together_51 : decode cX7_together 51 = .ok (.iconst 0, 1) := by decide +kernel
theorem dX7_together_52 : decode cX7_together 52 = .ok (.ireturn, 1) := by decide +kernel
theorem dX7_rightTo_0 : decode cX7_rightTo 0 = .ok (.aload_n 0, 1) := by decide +kernel
theorem dX7_rightTo_1 : decode cX7_rightTo 1 = .ok (.aload_n 0, 1) := by decide +kernel
theorem dX7_rightTo_2 : decode cX7_rightTo 2 = .ok (.iload_n 1, 1) := by decide +kernel
theorem dX7_rightTo_3 : decode cX7_rightTo 3 = .ok (.invokevirtual 81, 3) := by decide +kernel
theorem dX7_rightTo_6 : decode cX7_rightTo 6 = .ok (.ifCond .eq 15, 3) := by decide +kernel
theorem dX7_rightTo_9 : decode cX7_rightTo 9 = .ok (.aload_n 0, 1) := by decide +kernel
theorem dX7_rightTo_10 : decode cX7_rightTo 10 = .ok (.iload_n 2, 1) := by decide +kernel
theorem dX7_rightTo_11 : decode cX7_rightTo 11 = .ok (.invokevirtual 74, 3) := by decide +kernel
theorem dX7_rightTo_14 : decode cX7_rightTo 14 = .ok (.ifCond .eq 7, 3) := by decide +kernel
theorem dX7_rightTo_17 : decode cX7_rightTo 17 = .ok (.iconst 0, 1) := by decide +kernel
theorem dX7_rightTo_18 : decode cX7_rightTo 18 = .ok (.goto 4, 3) := by decide +kernel
theorem dX7_rightTo_21 : decode cX7_rightTo 21 = .ok (.iconst 1, 1) := by decide +kernel
theorem dX7_rightTo_22 : decode cX7_rightTo 22 = .ok (.invokevirtual 67, 3) := by decide +kernel
theorem dX7_rightTo_25 : decode cX7_rightTo 25 = .ok (.ifCond .eq 12, 3) := by decide +kernel
theorem dX7_rightTo_28 : decode cX7_rightTo 28 = .ok (.aload_n 0, 1) := by decide +kernel
theorem dX7_rightTo_29 : decode cX7_rightTo 29 = .ok (.iload_n 1, 1) := by decide +kernel
theorem dX7_rightTo_30 : decode cX7_rightTo 30 = .ok (.iload_n 2, 1) := by decide +kernel
theorem dX7_rightTo_31 : decode cX7_rightTo 31 = .ok (.invokevirtual 108, 3) := by decide +kernel
theorem dX7_rightTo_34 : decode cX7_rightTo 34 = .ok (.goto 4, 3) := by decide +kernel
theorem dX7_rightTo_37 : decode cX7_rightTo 37 = .ok (.iconst 0, 1) := by decide +kernel
theorem dX7_rightTo_38 : decode cX7_rightTo 38 = .ok (.ireturn, 1) := by decide +kernel
theorem dX7_isSealed_0 : decode cX7_isSealed 0 = .ok (.aload_n 0, 1) := by decide +kernel
theorem dX7_isSealed_1 : decode cX7_isSealed 1 = .ok (.aload_n 0, 1) := by decide +kernel
theorem dX7_isSealed_2 : decode cX7_isSealed 2 = .ok (.iload_n 1, 1) := by decide +kernel
theorem dX7_isSealed_3 : decode cX7_isSealed 3 = .ok (.invokevirtual 74, 3) := by decide +kernel
theorem dX7_isSealed_6 : decode cX7_isSealed 6 = .ok (.ifCond .eq 7, 3) := by decide +kernel
theorem dX7_isSealed_9 : decode cX7_isSealed 9 = .ok (.iconst 0, 1) := by decide +kernel
theorem dX7_isSealed_10 : decode cX7_isSealed 10 = .ok (.goto 4, 3) := by decide +kernel
theorem dX7_isSealed_13 : decode cX7_isSealed 13 = .ok (.iconst 1, 1) := by decide +kernel
theorem dX7_isSealed_14 : decode cX7_isSealed 14 = .ok (.invokevirtual 67, 3) := by decide +kernel
theorem dX7_isSealed_17 : decode cX7_isSealed 17 = .ok (.ifCond .eq 20, 3) := by decide +kernel
theorem dX7_isSealed_20 : decode cX7_isSealed 20 = .ok (.aload_n 0, 1) := by decide +kernel
theorem dX7_isSealed_21 : decode cX7_isSealed 21 = .ok (.getfield 13, 3) := by decide +kernel
theorem dX7_isSealed_24 : decode cX7_isSealed 24 = .ok (.iload_n 1, 1) := by decide +kernel
theorem dX7_isSealed_25 : decode cX7_isSealed 25 = .ok (.iaload, 1) := by decide +kernel
theorem dX7_isSealed_26 : decode cX7_isSealed 26 = .ok (.aload_n 0, 1) := by decide +kernel
theorem dX7_isSealed_27 : decode cX7_isSealed 27 = .ok (.getfield 84, 3) := by decide +kernel
theorem dX7_isSealed_30 : decode cX7_isSealed 30 = .ok (.if_icmp .lt 7, 3) := by decide +kernel
theorem dX7_isSealed_33 : decode cX7_isSealed 33 = .ok (.iconst 1, 1) := by decide +kernel
theorem dX7_isSealed_34 : decode cX7_isSealed 34 = .ok (.goto 4, 3) := by decide +kernel
theorem dX7_isSealed_37 : decode cX7_isSealed 37 = .ok (.iconst 0, 1) := by decide +kernel
theorem dX7_isSealed_38 : decode cX7_isSealed 38 = .ok (.ireturn, 1) := by decide +kernel
theorem dX7_count_0 : decode cX7_count 0 = .ok (.aload_n 0, 1) := by decide +kernel
theorem dX7_count_1 : decode cX7_count 1 = .ok (.iload_n 1, 1) := by decide +kernel
theorem dX7_count_2 : decode cX7_count 2 = .ok (.invokevirtual 81, 3) := by decide +kernel
theorem dX7_count_5 : decode cX7_count 5 = .ok (.istore_n 3, 1) := by decide +kernel
theorem dX7_count_6 : decode cX7_count 6 = .ok (.aload_n 0, 1) := by decide +kernel
theorem dX7_count_7 : decode cX7_count 7 = .ok (.iload_n 3, 1) := by decide +kernel
theorem dX7_count_8 : decode cX7_count 8 = .ok (.ifCond .ne 7, 3) := by decide +kernel
theorem dX7_count_11 : decode cX7_count 11 = .ok (.iconst 1, 1) := by decide +kernel
theorem dX7_count_12 : decode cX7_count 12 = .ok (.goto 17, 3) := by decide +kernel
theorem dX7_count_15 : decode cX7_count 15 = .ok (.iload_n 2, 1) := by decide +kernel
theorem dX7_count_16 : decode cX7_count 16 = .ok (.iconst 0, 1) := by decide +kernel
theorem dX7_count_17 : decode cX7_count 17 = .ok (.iconst 5, 1) := by decide +kernel
theorem dX7_count_18 : decode cX7_count 18 = .ok (.invokestatic 60, 3) := by decide +kernel
theorem dX7_count_21 : decode cX7_count 21 = .ok (.ifCond .eq 7, 3) := by decide +kernel
theorem dX7_count_24 : decode cX7_count 24 = .ok (.iconst 0, 1) := by decide +kernel
theorem dX7_count_25 : decode cX7_count 25 = .ok (.goto 4, 3) := by decide +kernel
theorem dX7_count_28 : decode cX7_count 28 = .ok (.iconst 2, 1) := by decide +kernel
theorem dX7_count_29 : decode cX7_count 29 = .ok (.invokevirtual 67, 3) := by decide +kernel
theorem dX7_count_32 : decode cX7_count 32 = .ok (.ifCond .ne 5, 3) := by decide +kernel
theorem dX7_count_35 : decode cX7_count 35 = .ok (.iconst 0, 1) := by decide +kernel
theorem dX7_count_36 : decode cX7_count 36 = .ok (.ireturn, 1) := by decide +kernel
theorem dX7_count_37 : decode cX7_count 37 = .ok (.iconst 0, 1) := by decide +kernel
theorem dX7_count_38 : decode cX7_count 38 = .ok (.istore 4, 2) := by decide +kernel
theorem dX7_count_40 : decode cX7_count 40 = .ok (.iconst 0, 1) := by decide +kernel
theorem dX7_count_41 : decode cX7_count 41 = .ok (.istore 5, 2) := by decide +kernel
theorem dX7_count_43 : decode cX7_count 43 = .ok (.iload 5, 2) := by decide +kernel
theorem dX7_count_45 : decode cX7_count 45 = .ok (.aload_n 0, 1) := by decide +kernel
theorem dX7_count_46 : decode cX7_count 46 = .ok (.getfield 71, 3) := by decide +kernel
theorem dX7_count_49 : decode cX7_count 49 = .ok (.if_icmp .ge 40, 3) := by decide +kernel
theorem dX7_count_52 : decode cX7_count 52 = .ok (.iload 4, 2) := by decide +kernel
theorem dX7_count_54 : decode cX7_count 54 = .ok (.aload_n 0, 1) := by decide +kernel
theorem dX7_count_55 : decode cX7_count 55 = .ok (.getfield 28, 3) := by decide +kernel
theorem dX7_count_58 : decode cX7_count 58 = .ok (.iload 5, 2) := by decide +kernel
theorem dX7_count_60 : decode cX7_count 60 = .ok (.iaload, 1) := by decide +kernel
theorem dX7_count_61 : decode cX7_count 61 = .ok (.iload_n 1, 1) := by decide +kernel
theorem dX7_count_62 : decode cX7_count 62 = .ok (.if_icmp .ne 17, 3) := by decide +kernel
theorem dX7_count_65 : decode cX7_count 65 = .ok (.aload_n 0, 1) := by decide +kernel
theorem dX7_count_66 : decode cX7_count 66 = .ok (.getfield 43, 3) := by decide +kernel
theorem dX7_count_69 : decode cX7_count 69 = .ok (.iload 5, 2) := by decide +kernel
theorem dX7_count_71 : decode cX7_count 71 = .ok (.baload, 1) := by decide +kernel
theorem dX7_count_72 : decode cX7_count 72 = .ok (.ifCond .ne 7, 3) := by decide +kernel
theorem dX7_count_75 : decode cX7_count 75 = .ok (.iconst 1, 1) := by decide +kernel
theorem dX7_count_76 : decode cX7_count 76 = .ok (.goto 4, 3) := by decide +kernel
theorem dX7_count_79 : decode cX7_count 79 = .ok (.iconst 0, 1) := by decide +kernel
theorem dX7_count_80 : decode cX7_count 80 = .ok (.iadd, 1) := by decide +kernel
theorem dX7_count_81 : decode cX7_count 81 = .ok (.istore 4, 2) := by decide +kernel
theorem dX7_count_83 : decode cX7_count 83 = .ok (.iinc 5 1, 3) := by decide +kernel
theorem dX7_count_86 : decode cX7_count 86 = .ok (.goto (-43), 3) := by decide +kernel
theorem dX7_count_89 : decode cX7_count 89 = .ok (.iload_n 2, 1) := by decide +kernel
theorem dX7_count_90 : decode cX7_count 90 = .ok (.iconst 5, 1) := by decide +kernel
theorem dX7_count_91 : decode cX7_count 91 = .ok (.if_icmp .ne 8, 3) := by decide +kernel
theorem dX7_count_94 : decode cX7_count 94 = .ok (.iload 4, 2) := by decide +kernel
theorem dX7_count_96 : decode cX7_count 96 = .ok (.goto 14, 3) := by decide +kernel
theorem dX7_count_99 : decode cX7_count 99 = .ok (.aload_n 0, 1) := by decide +kernel
theorem dX7_count_100 : decode cX7_count 100 = .ok (.getfield 47, 3) := by decide +kernel
theorem dX7_count_103 : decode cX7_count 103 = .ok (.bipush 6, 2) := by decide +kernel
theorem dX7_count_105 : decode cX7_count 105 = .ok (.iload_n 1, 1) := by decide +kernel
theorem dX7_count_106 : decode cX7_count 106 = .ok (.imul, 1) := by decide +kernel
theorem dX7_count_107 : decode cX7_count 107 = .ok (.iload_n 2, 1) := by decide +kernel
theorem dX7_count_108 : decode cX7_count 108 = .ok (.iadd, 1) := by decide +kernel
theorem dX7_count_109 : decode cX7_count 109 = .ok (.iaload, 1) := by decide +kernel
theorem dX7_count_110 : decode cX7_count 110 = .ok (.ireturn, 1) := by decide +kernel
theorem dL_file_0 : decode cL_file 0 = .ok (.aload_n 2, 1) := by decide +kernel
theorem dL_file_1 : decode cL_file 1 = .ok (.iconst 0, 1) := by decide +kernel
theorem dL_file_2 : decode cL_file 2 = .ok (.aload_n 0, 1) := by decide +kernel
theorem dL_file_3 : decode cL_file 3 = .ok (.iload_n 1, 1) := by decide +kernel
theorem dL_file_4 : decode cL_file 4 = .ok (.invokevirtual 7, 3) := by decide +kernel
theorem dL_file_7 : decode cL_file 7 = .ok (.i2l, 1) := by decide +kernel
theorem dL_file_8 : decode cL_file 8 = .ok (.lastore, 1) := by decide +kernel
theorem dL_file_9 : decode cL_file 9 = .ok (.goto 9, 3) := by decide +kernel
theorem dL_file_12 : decode cL_file 12 = .ok (.astore_n 3, 1) := by decide +kernel
theorem dL_file_13 : decode cL_file 13 = .ok (.iconst 1, 1) := by decide +kernel
theorem dL_file_14 : decode cL_file 14 = .ok (.ireturn, 1) := by decide +kernel
theorem dL_file_15 : decode cL_file 15 = .ok (.astore_n 3, 1) := by decide +kernel
theorem dL_file_16 : decode cL_file 16 = .ok (.iconst 2, 1) := by decide +kernel
theorem dL_file_17 : decode cL_file 17 = .ok (.ireturn, 1) := by decide +kernel
theorem dL_file_18 : decode cL_file 18 = .ok (.iconst 0, 1) := by decide +kernel
theorem dL_file_19 : decode cL_file 19 = .ok (.ireturn, 1) := by decide +kernel
theorem dL_change_0 : decode cL_change 0 = .ok (.aload_n 3, 1) := by decide +kernel
theorem dL_change_1 : decode cL_change 1 = .ok (.iconst 0, 1) := by decide +kernel
theorem dL_change_2 : decode cL_change 2 = .ok (.aload_n 0, 1) := by decide +kernel
theorem dL_change_3 : decode cL_change 3 = .ok (.iload_n 1, 1) := by decide +kernel
theorem dL_change_4 : decode cL_change 4 = .ok (.iload_n 2, 1) := by decide +kernel
theorem dL_change_5 : decode cL_change 5 = .ok (.invokevirtual 17, 3) := by decide +kernel
theorem dL_change_8 : decode cL_change 8 = .ok (.i2l, 1) := by decide +kernel
theorem dL_change_9 : decode cL_change 9 = .ok (.lastore, 1) := by decide +kernel
theorem dL_change_10 : decode cL_change 10 = .ok (.goto 11, 3) := by decide +kernel
theorem dL_change_13 : decode cL_change 13 = .ok (.astore 4, 2) := by decide +kernel
theorem dL_change_15 : decode cL_change 15 = .ok (.iconst 1, 1) := by decide +kernel
theorem dL_change_16 : decode cL_change 16 = .ok (.ireturn, 1) := by decide +kernel
theorem dL_change_17 : decode cL_change 17 = .ok (.astore 4, 2) := by decide +kernel
theorem dL_change_19 : decode cL_change 19 = .ok (.iconst 2, 1) := by decide +kernel
theorem dL_change_20 : decode cL_change 20 = .ok (.ireturn, 1) := by decide +kernel
theorem dL_change_21 : decode cL_change 21 = .ok (.iconst 0, 1) := by decide +kernel
theorem dL_change_22 : decode cL_change 22 = .ok (.ireturn, 1) := by decide +kernel
theorem dL_party_0 : decode cL_party 0 = .ok (.aload_n 2, 1) := by decide +kernel
theorem dL_party_1 : decode cL_party 1 = .ok (.iconst 0, 1) := by decide +kernel
theorem dL_party_2 : decode cL_party 2 = .ok (.aload_n 0, 1) := by decide +kernel
theorem dL_party_3 : decode cL_party 3 = .ok (.iload_n 1, 1) := by decide +kernel
theorem dL_party_4 : decode cL_party 4 = .ok (.invokevirtual 23, 3) := by decide +kernel
theorem dL_party_7 : decode cL_party 7 = .ok (.i2l, 1) := by decide +kernel
theorem dL_party_8 : decode cL_party 8 = .ok (.lastore, 1) := by decide +kernel
theorem dL_party_9 : decode cL_party 9 = .ok (.goto 9, 3) := by decide +kernel
theorem dL_party_12 : decode cL_party 12 = .ok (.astore_n 3, 1) := by decide +kernel
theorem dL_party_13 : decode cL_party 13 = .ok (.iconst 1, 1) := by decide +kernel
theorem dL_party_14 : decode cL_party 14 = .ok (.ireturn, 1) := by decide +kernel
theorem dL_party_15 : decode cL_party 15 = .ok (.astore_n 3, 1) := by decide +kernel
theorem dL_party_16 : decode cL_party 16 = .ok (.iconst 2, 1) := by decide +kernel
theorem dL_party_17 : decode cL_party 17 = .ok (.ireturn, 1) := by decide +kernel
theorem dL_party_18 : decode cL_party 18 = .ok (.iconst 0, 1) := by decide +kernel
theorem dL_party_19 : decode cL_party 19 = .ok (.ireturn, 1) := by decide +kernel
theorem dL_budget_0 : decode cL_budget 0 = .ok (.aload_n 3, 1) := by decide +kernel
theorem dL_budget_1 : decode cL_budget 1 = .ok (.iconst 0, 1) := by decide +kernel
theorem dL_budget_2 : decode cL_budget 2 = .ok (.aload_n 0, 1) := by decide +kernel
theorem dL_budget_3 : decode cL_budget 3 = .ok (.iload_n 1, 1) := by decide +kernel
theorem dL_budget_4 : decode cL_budget 4 = .ok (.iload_n 2, 1) := by decide +kernel
theorem dL_budget_5 : decode cL_budget 5 = .ok (.invokevirtual 26, 3) := by decide +kernel
theorem dL_budget_8 : decode cL_budget 8 = .ok (.i2l, 1) := by decide +kernel
theorem dL_budget_9 : decode cL_budget 9 = .ok (.lastore, 1) := by decide +kernel
theorem dL_budget_10 : decode cL_budget 10 = .ok (.goto 11, 3) := by decide +kernel
theorem dL_budget_13 : decode cL_budget 13 = .ok (.astore 4, 2) := by decide +kernel
theorem dL_budget_15 : decode cL_budget 15 = .ok (.iconst 1, 1) := by decide +kernel
theorem dL_budget_16 : decode cL_budget 16 = .ok (.ireturn, 1) := by decide +kernel
theorem dL_budget_17 : decode cL_budget 17 = .ok (.astore 4, 2) := by decide +kernel
theorem dL_budget_19 : decode cL_budget 19 = .ok (.iconst 2, 1) := by decide +kernel
theorem dL_budget_20 : decode cL_budget 20 = .ok (.ireturn, 1) := by decide +kernel
theorem dL_budget_21 : decode cL_budget 21 = .ok (.iconst 0, 1) := by decide +kernel
theorem dL_budget_22 : decode cL_budget 22 = .ok (.ireturn, 1) := by decide +kernel
theorem dL_right_0 : decode cL_right 0 = .ok (.aload_n 0, 1) := by decide +kernel
theorem dL_right_1 : decode cL_right 1 = .ok (.iload_n 1, 1) := by decide +kernel
theorem dL_right_2 : decode cL_right 2 = .ok (.iload_n 2, 1) := by decide +kernel
theorem dL_right_3 : decode cL_right 3 = .ok (.iload_n 3, 1) := by decide +kernel
theorem dL_right_4 : decode cL_right 4 = .ok (.iload 4, 2) := by decide +kernel
theorem dL_right_6 : decode cL_right 6 = .ok (.iload 5, 2) := by decide +kernel
theorem dL_right_8 : decode cL_right 8 = .ok (.invokevirtual 29, 3) := by decide +kernel
theorem dL_right_11 : decode cL_right 11 = .ok (.goto 11, 3) := by decide +kernel
theorem dL_right_14 : decode cL_right 14 = .ok (.astore 6, 2) := by decide +kernel
theorem dL_right_16 : decode cL_right 16 = .ok (.iconst 1, 1) := by decide +kernel
theorem dL_right_17 : decode cL_right 17 = .ok (.ireturn, 1) := by decide +kernel
theorem dL_right_18 : decode cL_right 18 = .ok (.astore 6, 2) := by decide +kernel
theorem dL_right_20 : decode cL_right 20 = .ok (.iconst 2, 1) := by decide +kernel
theorem dL_right_21 : decode cL_right 21 = .ok (.ireturn, 1) := by decide +kernel
theorem dL_right_22 : decode cL_right 22 = .ok (.iconst 0, 1) := by decide +kernel
theorem dL_right_23 : decode cL_right 23 = .ok (.ireturn, 1) := by decide +kernel
theorem dL_takeBack_0 : decode cL_takeBack 0 = .ok (.aload_n 3, 1) := by decide +kernel
theorem dL_takeBack_1 : decode cL_takeBack 1 = .ok (.iconst 0, 1) := by decide +kernel
theorem dL_takeBack_2 : decode cL_takeBack 2 = .ok (.aload_n 0, 1) := by decide +kernel
theorem dL_takeBack_3 : decode cL_takeBack 3 = .ok (.iload_n 1, 1) := by decide +kernel
theorem dL_takeBack_4 : decode cL_takeBack 4 = .ok (.iload_n 2, 1) := by decide +kernel
theorem dL_takeBack_5 : decode cL_takeBack 5 = .ok (.invokevirtual 33, 3) := by decide +kernel
theorem dL_takeBack_8 : decode cL_takeBack 8 = .ok (.i2l, 1) := by decide +kernel
theorem dL_takeBack_9 : decode cL_takeBack 9 = .ok (.lastore, 1) := by decide +kernel
theorem dL_takeBack_10 : decode cL_takeBack 10 = .ok (.goto 7, 3) := by decide +kernel
theorem dL_takeBack_13 : decode cL_takeBack 13 = .ok (.astore 4, 2) := by decide +kernel
theorem dL_takeBack_15 : decode cL_takeBack 15 = .ok (.iconst 1, 1) := by decide +kernel
theorem dL_takeBack_16 : decode cL_takeBack 16 = .ok (.ireturn, 1) := by decide +kernel
theorem dL_takeBack_17 : decode cL_takeBack 17 = .ok (.iconst 0, 1) := by decide +kernel
theorem dL_takeBack_18 : decode cL_takeBack 18 = .ok (.ireturn, 1) := by decide +kernel
theorem dL_seal_0 : decode cL_seal 0 = .ok (.aload_n 0, 1) := by decide +kernel
theorem dL_seal_1 : decode cL_seal 1 = .ok (.iload_n 1, 1) := by decide +kernel
theorem dL_seal_2 : decode cL_seal 2 = .ok (.iload_n 2, 1) := by decide +kernel
theorem dL_seal_3 : decode cL_seal 3 = .ok (.invokevirtual 36, 3) := by decide +kernel
theorem dL_seal_6 : decode cL_seal 6 = .ok (.goto 9, 3) := by decide +kernel
theorem dL_seal_9 : decode cL_seal 9 = .ok (.astore_n 3, 1) := by decide +kernel
theorem dL_seal_10 : decode cL_seal 10 = .ok (.iconst 1, 1) := by decide +kernel
theorem dL_seal_11 : decode cL_seal 11 = .ok (.ireturn, 1) := by decide +kernel
theorem dL_seal_12 : decode cL_seal 12 = .ok (.astore_n 3, 1) := by decide +kernel
theorem dL_seal_13 : decode cL_seal 13 = .ok (.iconst 2, 1) := by decide +kernel
theorem dL_seal_14 : decode cL_seal 14 = .ok (.ireturn, 1) := by decide +kernel
theorem dL_seal_15 : decode cL_seal 15 = .ok (.iconst 0, 1) := by decide +kernel
theorem dL_seal_16 : decode cL_seal 16 = .ok (.ireturn, 1) := by decide +kernel
theorem dL_pass_0 : decode cL_pass 0 = .ok (.aload_n 2, 1) := by decide +kernel
theorem dL_pass_1 : decode cL_pass 1 = .ok (.iconst 0, 1) := by decide +kernel
theorem dL_pass_2 : decode cL_pass 2 = .ok (.aload_n 0, 1) := by decide +kernel
theorem dL_pass_3 : decode cL_pass 3 = .ok (.iload_n 1, 1) := by decide +kernel
theorem dL_pass_4 : decode cL_pass 4 = .ok (.invokevirtual 40, 3) := by decide +kernel
theorem dL_pass_7 : decode cL_pass 7 = .ok (.i2l, 1) := by decide +kernel
theorem dL_pass_8 : decode cL_pass 8 = .ok (.lastore, 1) := by decide +kernel
theorem dL_pass_9 : decode cL_pass 9 = .ok (.goto 9, 3) := by decide +kernel
theorem dL_pass_12 : decode cL_pass 12 = .ok (.astore_n 3, 1) := by decide +kernel
theorem dL_pass_13 : decode cL_pass 13 = .ok (.iconst 1, 1) := by decide +kernel
theorem dL_pass_14 : decode cL_pass 14 = .ok (.ireturn, 1) := by decide +kernel
theorem dL_pass_15 : decode cL_pass 15 = .ok (.astore_n 3, 1) := by decide +kernel
theorem dL_pass_16 : decode cL_pass 16 = .ok (.iconst 2, 1) := by decide +kernel
theorem dL_pass_17 : decode cL_pass 17 = .ok (.ireturn, 1) := by decide +kernel
theorem dL_pass_18 : decode cL_pass 18 = .ok (.iconst 0, 1) := by decide +kernel
theorem dL_pass_19 : decode cL_pass 19 = .ok (.ireturn, 1) := by decide +kernel
theorem dL_ask_0 : decode cL_ask 0 = .ok (.aload 4, 2) := by decide +kernel
theorem dL_ask_2 : decode cL_ask 2 = .ok (.iconst 0, 1) := by decide +kernel
theorem dL_ask_3 : decode cL_ask 3 = .ok (.aload_n 0, 1) := by decide +kernel
theorem dL_ask_4 : decode cL_ask 4 = .ok (.iload_n 1, 1) := by decide +kernel
theorem dL_ask_5 : decode cL_ask 5 = .ok (.iload_n 2, 1) := by decide +kernel
theorem dL_ask_6 : decode cL_ask 6 = .ok (.iload_n 3, 1) := by decide +kernel
theorem dL_ask_7 : decode cL_ask 7 = .ok (.invokevirtual 43, 3) := by decide +kernel
theorem dL_ask_10 : decode cL_ask 10 = .ok (.i2l, 1) := by decide +kernel
theorem dL_ask_11 : decode cL_ask 11 = .ok (.lastore, 1) := by decide +kernel
theorem dL_ask_12 : decode cL_ask 12 = .ok (.goto 15, 3) := by decide +kernel
theorem dL_ask_15 : decode cL_ask 15 = .ok (.astore 5, 2) := by decide +kernel
theorem dL_ask_17 : decode cL_ask 17 = .ok (.iconst 1, 1) := by decide +kernel
theorem dL_ask_18 : decode cL_ask 18 = .ok (.ireturn, 1) := by decide +kernel
theorem dL_ask_19 : decode cL_ask 19 = .ok (.astore 5, 2) := by decide +kernel
theorem dL_ask_21 : decode cL_ask 21 = .ok (.iconst 2, 1) := by decide +kernel
theorem dL_ask_22 : decode cL_ask 22 = .ok (.ireturn, 1) := by decide +kernel
theorem dL_ask_23 : decode cL_ask 23 = .ok (.astore 5, 2) := by decide +kernel
theorem dL_ask_25 : decode cL_ask 25 = .ok (.iconst 3, 1) := by decide +kernel
theorem dL_ask_26 : decode cL_ask 26 = .ok (.ireturn, 1) := by decide +kernel
theorem dL_ask_27 : decode cL_ask 27 = .ok (.iconst 0, 1) := by decide +kernel
theorem dL_ask_28 : decode cL_ask 28 = .ok (.ireturn, 1) := by decide +kernel
theorem dL_cost_0 : decode cL_cost 0 = .ok (.aload 4, 2) := by decide +kernel
theorem dL_cost_2 : decode cL_cost 2 = .ok (.iconst 0, 1) := by decide +kernel
theorem dL_cost_3 : decode cL_cost 3 = .ok (.aload_n 0, 1) := by decide +kernel
theorem dL_cost_4 : decode cL_cost 4 = .ok (.iload_n 1, 1) := by decide +kernel
theorem dL_cost_5 : decode cL_cost 5 = .ok (.iload_n 2, 1) := by decide +kernel
theorem dL_cost_6 : decode cL_cost 6 = .ok (.iload_n 3, 1) := by decide +kernel
theorem dL_cost_7 : decode cL_cost 7 = .ok (.invokevirtual 47, 3) := by decide +kernel
theorem dL_cost_10 : decode cL_cost 10 = .ok (.i2l, 1) := by decide +kernel
theorem dL_cost_11 : decode cL_cost 11 = .ok (.lastore, 1) := by decide +kernel
theorem dL_cost_12 : decode cL_cost 12 = .ok (.goto 11, 3) := by decide +kernel
theorem dL_cost_15 : decode cL_cost 15 = .ok (.astore 5, 2) := by decide +kernel
theorem dL_cost_17 : decode cL_cost 17 = .ok (.iconst 1, 1) := by decide +kernel
theorem dL_cost_18 : decode cL_cost 18 = .ok (.ireturn, 1) := by decide +kernel
theorem dL_cost_19 : decode cL_cost 19 = .ok (.astore 5, 2) := by decide +kernel
theorem dL_cost_21 : decode cL_cost 21 = .ok (.iconst 2, 1) := by decide +kernel
theorem dL_cost_22 : decode cL_cost 22 = .ok (.ireturn, 1) := by decide +kernel
theorem dL_cost_23 : decode cL_cost 23 = .ok (.iconst 0, 1) := by decide +kernel
theorem dL_cost_24 : decode cL_cost 24 = .ok (.ireturn, 1) := by decide +kernel
theorem dL_answer_0 : decode cL_answer 0 = .ok (.aload_n 3, 1) := by decide +kernel
theorem dL_answer_1 : decode cL_answer 1 = .ok (.iconst 0, 1) := by decide +kernel
theorem dL_answer_2 : decode cL_answer 2 = .ok (.aload_n 0, 1) := by decide +kernel
theorem dL_answer_3 : decode cL_answer 3 = .ok (.iload_n 1, 1) := by decide +kernel
theorem dL_answer_4 : decode cL_answer 4 = .ok (.iload_n 2, 1) := by decide +kernel
theorem dL_answer_5 : decode cL_answer 5 = .ok (.invokevirtual 50, 3) := by decide +kernel
theorem dL_answer_8 : decode cL_answer 8 = .ok (.i2l, 1) := by decide +kernel
theorem dL_answer_9 : decode cL_answer 9 = .ok (.lastore, 1) := by decide +kernel
theorem dL_answer_10 : decode cL_answer 10 = .ok (.goto 11, 3) := by decide +kernel
theorem dL_answer_13 : decode cL_answer 13 = .ok (.astore 4, 2) := by decide +kernel
theorem dL_answer_15 : decode cL_answer 15 = .ok (.iconst 1, 1) := by decide +kernel
theorem dL_answer_16 : decode cL_answer 16 = .ok (.ireturn, 1) := by decide +kernel
theorem dL_answer_17 : decode cL_answer 17 = .ok (.astore 4, 2) := by decide +kernel
theorem dL_answer_19 : decode cL_answer 19 = .ok (.iconst 2, 1) := by decide +kernel
theorem dL_answer_20 : decode cL_answer 20 = .ok (.ireturn, 1) := by decide +kernel
theorem dL_answer_21 : decode cL_answer 21 = .ok (.iconst 0, 1) := by decide +kernel
theorem dL_answer_22 : decode cL_answer 22 = .ok (.ireturn, 1) := by decide +kernel
theorem dL_spent_0 : decode cL_spent 0 = .ok (.aload_n 2, 1) := by decide +kernel
theorem dL_spent_1 : decode cL_spent 1 = .ok (.iconst 0, 1) := by decide +kernel
theorem dL_spent_2 : decode cL_spent 2 = .ok (.aload_n 0, 1) := by decide +kernel
theorem dL_spent_3 : decode cL_spent 3 = .ok (.iload_n 1, 1) := by decide +kernel
theorem dL_spent_4 : decode cL_spent 4 = .ok (.invokevirtual 53, 3) := by decide +kernel
theorem dL_spent_7 : decode cL_spent 7 = .ok (.i2l, 1) := by decide +kernel
theorem dL_spent_8 : decode cL_spent 8 = .ok (.lastore, 1) := by decide +kernel
theorem dL_spent_9 : decode cL_spent 9 = .ok (.goto 6, 3) := by decide +kernel
theorem dL_spent_12 : decode cL_spent 12 = .ok (.astore_n 3, 1) := by decide +kernel
theorem dL_spent_13 : decode cL_spent 13 = .ok (.iconst 1, 1) := by decide +kernel
theorem dL_spent_14 : decode cL_spent 14 = .ok (.ireturn, 1) := by decide +kernel
theorem dL_spent_15 : decode cL_spent 15 = .ok (.iconst 0, 1) := by decide +kernel
theorem dL_spent_16 : decode cL_spent 16 = .ok (.ireturn, 1) := by decide +kernel
theorem dL_spentAnew_0 : decode cL_spentAnew 0 = .ok (.aload_n 2, 1) := by decide +kernel
theorem dL_spentAnew_1 : decode cL_spentAnew 1 = .ok (.iconst 0, 1) := by decide +kernel
theorem dL_spentAnew_2 : decode cL_spentAnew 2 = .ok (.aload_n 0, 1) := by decide +kernel
theorem dL_spentAnew_3 : decode cL_spentAnew 3 = .ok (.iload_n 1, 1) := by decide +kernel
theorem dL_spentAnew_4 : decode cL_spentAnew 4 = .ok (.invokevirtual 56, 3) := by decide +kernel
theorem dL_spentAnew_7 : decode cL_spentAnew 7 = .ok (.i2l, 1) := by decide +kernel
theorem dL_spentAnew_8 : decode cL_spentAnew 8 = .ok (.lastore, 1) := by decide +kernel
theorem dL_spentAnew_9 : decode cL_spentAnew 9 = .ok (.goto 6, 3) := by decide +kernel
theorem dL_spentAnew_12 : decode cL_spentAnew 12 = .ok (.astore_n 3, 1) := by decide +kernel
theorem dL_spentAnew_13 : decode cL_spentAnew 13 = .ok (.iconst 1, 1) := by decide +kernel
theorem dL_spentAnew_14 : decode cL_spentAnew 14 = .ok (.ireturn, 1) := by decide +kernel
theorem dL_spentAnew_15 : decode cL_spentAnew 15 = .ok (.iconst 0, 1) := by decide +kernel
theorem dL_spentAnew_16 : decode cL_spentAnew 16 = .ok (.ireturn, 1) := by decide +kernel
theorem dL_finds_0 : decode cL_finds 0 = .ok (.aload_n 3, 1) := by decide +kernel
theorem dL_finds_1 : decode cL_finds 1 = .ok (.iconst 0, 1) := by decide +kernel
theorem dL_finds_2 : decode cL_finds 2 = .ok (.aload_n 0, 1) := by decide +kernel
theorem dL_finds_3 : decode cL_finds 3 = .ok (.iload_n 1, 1) := by decide +kernel
theorem dL_finds_4 : decode cL_finds 4 = .ok (.iload_n 2, 1) := by decide +kernel
theorem dL_finds_5 : decode cL_finds 5 = .ok (.invokevirtual 59, 3) := by decide +kernel
theorem dL_finds_8 : decode cL_finds 8 = .ok (.i2l, 1) := by decide +kernel
theorem dL_finds_9 : decode cL_finds 9 = .ok (.lastore, 1) := by decide +kernel
theorem dL_finds_10 : decode cL_finds 10 = .ok (.goto 7, 3) := by decide +kernel
theorem dL_finds_13 : decode cL_finds 13 = .ok (.astore 4, 2) := by decide +kernel
theorem dL_finds_15 : decode cL_finds 15 = .ok (.iconst 1, 1) := by decide +kernel
theorem dL_finds_16 : decode cL_finds 16 = .ok (.ireturn, 1) := by decide +kernel
theorem dL_finds_17 : decode cL_finds 17 = .ok (.iconst 0, 1) := by decide +kernel
theorem dL_finds_18 : decode cL_finds 18 = .ok (.ireturn, 1) := by decide +kernel
theorem dL_together_0 : decode cL_together 0 = .ok (.aload_n 3, 1) := by decide +kernel
theorem dL_together_1 : decode cL_together 1 = .ok (.iconst 0, 1) := by decide +kernel
theorem dL_together_2 : decode cL_together 2 = .ok (.aload_n 0, 1) := by decide +kernel
theorem dL_together_3 : decode cL_together 3 = .ok (.iload_n 1, 1) := by decide +kernel
theorem dL_together_4 : decode cL_together 4 = .ok (.iload_n 2, 1) := by decide +kernel
theorem dL_together_5 : decode cL_together 5 = .ok (.invokevirtual 62, 3) := by decide +kernel
theorem dL_together_8 : decode cL_together 8 = .ok (.i2l, 1) := by decide +kernel
theorem dL_together_9 : decode cL_together 9 = .ok (.lastore, 1) := by decide +kernel
theorem dL_together_10 : decode cL_together 10 = .ok (.goto 11, 3) := by decide +kernel
theorem dL_together_13 : decode cL_together 13 = .ok (.astore 4, 2) := by decide +kernel
theorem dL_together_15 : decode cL_together 15 = .ok (.iconst 1, 1) := by decide +kernel
theorem dL_together_16 : decode cL_together 16 = .ok (.ireturn, 1) := by decide +kernel
theorem dL_together_17 : decode cL_together 17 = .ok (.astore 4, 2) := by decide +kernel
theorem dL_together_19 : decode cL_together 19 = .ok (.iconst 2, 1) := by decide +kernel
theorem dL_together_20 : decode cL_together 20 = .ok (.ireturn, 1) := by decide +kernel
theorem dL_together_21 : decode cL_together 21 = .ok (.iconst 0, 1) := by decide +kernel
theorem dL_together_22 : decode cL_together 22 = .ok (.ireturn, 1) := by decide +kernel
theorem dL_rightTo_0 : decode cL_rightTo 0 = .ok (.aload_n 3, 1) := by decide +kernel
theorem dL_rightTo_1 : decode cL_rightTo 1 = .ok (.iconst 0, 1) := by decide +kernel
theorem dL_rightTo_2 : decode cL_rightTo 2 = .ok (.aload_n 0, 1) := by decide +kernel
theorem dL_rightTo_3 : decode cL_rightTo 3 = .ok (.iload_n 1, 1) := by decide +kernel
theorem dL_rightTo_4 : decode cL_rightTo 4 = .ok (.iload_n 2, 1) := by decide +kernel
theorem dL_rightTo_5 : decode cL_rightTo 5 = .ok (.invokevirtual 65, 3) := by decide +kernel
theorem dL_rightTo_8 : decode cL_rightTo 8 = .ok (.i2l, 1) := by decide +kernel
theorem dL_rightTo_9 : decode cL_rightTo 9 = .ok (.lastore, 1) := by decide +kernel
theorem dL_rightTo_10 : decode cL_rightTo 10 = .ok (.goto 7, 3) := by decide +kernel
theorem dL_rightTo_13 : decode cL_rightTo 13 = .ok (.astore 4, 2) := by decide +kernel
theorem dL_rightTo_15 : decode cL_rightTo 15 = .ok (.iconst 1, 1) := by decide +kernel
theorem dL_rightTo_16 : decode cL_rightTo 16 = .ok (.ireturn, 1) := by decide +kernel
theorem dL_rightTo_17 : decode cL_rightTo 17 = .ok (.iconst 0, 1) := by decide +kernel
theorem dL_rightTo_18 : decode cL_rightTo 18 = .ok (.ireturn, 1) := by decide +kernel
theorem dL_isSealed_0 : decode cL_isSealed 0 = .ok (.aload_n 2, 1) := by decide +kernel
theorem dL_isSealed_1 : decode cL_isSealed 1 = .ok (.iconst 0, 1) := by decide +kernel
theorem dL_isSealed_2 : decode cL_isSealed 2 = .ok (.aload_n 0, 1) := by decide +kernel
theorem dL_isSealed_3 : decode cL_isSealed 3 = .ok (.iload_n 1, 1) := by decide +kernel
theorem dL_isSealed_4 : decode cL_isSealed 4 = .ok (.invokevirtual 68, 3) := by decide +kernel
theorem dL_isSealed_7 : decode cL_isSealed 7 = .ok (.ifCond .eq 7, 3) := by decide +kernel
theorem dL_isSealed_10 : decode cL_isSealed 10 = .ok (.lconst 1, 1) := by decide +kernel
theorem dL_isSealed_11 : decode cL_isSealed 11 = .ok (.goto 4, 3) := by decide +kernel
theorem dL_isSealed_14 : decode cL_isSealed 14 = .ok (.lconst 0, 1) := by decide +kernel
theorem dL_isSealed_15 : decode cL_isSealed 15 = .ok (.lastore, 1) := by decide +kernel
theorem dL_isSealed_16 : decode cL_isSealed 16 = .ok (.goto 6, 3) := by decide +kernel
theorem dL_isSealed_19 : decode cL_isSealed 19 = .ok (.astore_n 3, 1) := by decide +kernel
theorem dL_isSealed_20 : decode cL_isSealed 20 = .ok (.iconst 1, 1) := by decide +kernel
theorem dL_isSealed_21 : decode cL_isSealed 21 = .ok (.ireturn, 1) := by decide +kernel
theorem dL_isSealed_22 : decode cL_isSealed 22 = .ok (.iconst 0, 1) := by decide +kernel
theorem dL_isSealed_23 : decode cL_isSealed 23 = .ok (.ireturn, 1) := by decide +kernel
theorem dL_count_0 : decode cL_count 0 = .ok (.aload_n 3, 1) := by decide +kernel
theorem dL_count_1 : decode cL_count 1 = .ok (.iconst 0, 1) := by decide +kernel
theorem dL_count_2 : decode cL_count 2 = .ok (.aload_n 0, 1) := by decide +kernel
theorem dL_count_3 : decode cL_count 3 = .ok (.iload_n 1, 1) := by decide +kernel
theorem dL_count_4 : decode cL_count 4 = .ok (.iload_n 2, 1) := by decide +kernel
theorem dL_count_5 : decode cL_count 5 = .ok (.invokevirtual 72, 3) := by decide +kernel
theorem dL_count_8 : decode cL_count 8 = .ok (.i2l, 1) := by decide +kernel
theorem dL_count_9 : decode cL_count 9 = .ok (.lastore, 1) := by decide +kernel
theorem dL_count_10 : decode cL_count 10 = .ok (.goto 11, 3) := by decide +kernel
theorem dL_count_13 : decode cL_count 13 = .ok (.astore 4, 2) := by decide +kernel
theorem dL_count_15 : decode cL_count 15 = .ok (.iconst 1, 1) := by decide +kernel
theorem dL_count_16 : decode cL_count 16 = .ok (.ireturn, 1) := by decide +kernel
theorem dL_count_17 : decode cL_count 17 = .ok (.astore 4, 2) := by decide +kernel
theorem dL_count_19 : decode cL_count 19 = .ok (.iconst 2, 1) := by decide +kernel
theorem dL_count_20 : decode cL_count 20 = .ok (.ireturn, 1) := by decide +kernel
theorem dL_count_21 : decode cL_count 21 = .ok (.iconst 0, 1) := by decide +kernel
theorem dL_count_22 : decode cL_count 22 = .ok (.ireturn, 1) := by decide +kernel
