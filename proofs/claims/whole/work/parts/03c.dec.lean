theorem dX10_leaks_13 : decode cX10_leaks 13 = .ok (.iload_n 2, 1) := by decide +kernel
theorem dX10_leaks_14 : decode cX10_leaks 14 = .ok (.bipush 16, 2) := by decide +kernel
theorem dX10_leaks_16 : decode cX10_leaks 16 = .ok (.if_icmp .ge 21, 3) := by decide +kernel
theorem dX10_leaks_19 : decode cX10_leaks 19 = .ok (.iload_n 1, 1) := by decide +kernel
theorem dX10_leaks_20 : decode cX10_leaks 20 = .ok (.aload_n 0, 1) := by decide +kernel
theorem dX10_leaks_21 : decode cX10_leaks 21 = .ok (.getfield 58, 3) := by decide +kernel
theorem dX10_leaks_24 : decode cX10_leaks 24 = .ok (.iload_n 2, 1) := by decide +kernel
theorem dX10_leaks_25 : decode cX10_leaks 25 = .ok (.iaload, 1) := by decide +kernel
theorem dX10_leaks_26 : decode cX10_leaks 26 = .ok (.invokestatic 244, 3) := by decide +kernel
theorem dX10_leaks_29 : decode cX10_leaks 29 = .ok (.iadd, 1) := by decide +kernel
theorem dX10_leaks_30 : decode cX10_leaks 30 = .ok (.istore_n 1, 1) := by decide +kernel
theorem dX10_leaks_31 : decode cX10_leaks 31 = .ok (.iinc 2 1, 3) := by decide +kernel
theorem dX10_leaks_34 : decode cX10_leaks 34 = .ok (.goto (-21), 3) := by decide +kernel
theorem dX10_leaks_37 : decode cX10_leaks 37 = .ok (.iload_n 1, 1) := by decide +kernel
theorem dX10_leaks_38 : decode cX10_leaks 38 = .ok (.ireturn, 1) := by decide +kernel
theorem dX10_misuses_0 : decode cX10_misuses 0 = .ok (.iconst 0, 1) := by decide +kernel
theorem dX10_misuses_1 : decode cX10_misuses 1 = .ok (.istore_n 1, 1) := by decide +kernel
theorem dX10_misuses_2 : decode cX10_misuses 2 = .ok (.iconst 0, 1) := by decide +kernel
theorem dX10_misuses_3 : decode cX10_misuses 3 = .ok (.istore_n 2, 1) := by decide +kernel
theorem dX10_misuses_4 : decode cX10_misuses 4 = .ok (.iload_n 2, 1) := by decide +kernel
theorem dX10_misuses_5 : decode cX10_misuses 5 = .ok (.bipush 16, 2) := by decide +kernel
theorem dX10_misuses_7 : decode cX10_misuses 7 = .ok (.if_icmp .ge 30, 3) := by decide +kernel
theorem dX10_misuses_10 : decode cX10_misuses 10 = .ok (.iload_n 1, 1) := by decide +kernel
theorem dX10_misuses_11 : decode cX10_misuses 11 = .ok (.aload_n 0, 1) := by decide +kernel
theorem dX10_misuses_12 : decode cX10_misuses 12 = .ok (.getfield 58, 3) := by decide +kernel
theorem dX10_misuses_15 : decode cX10_misuses 15 = .ok (.iload_n 2, 1) := by decide +kernel
theorem dX10_misuses_16 : decode cX10_misuses 16 = .ok (.iaload, 1) := by decide +kernel
theorem dX10_misuses_17 : decode cX10_misuses 17 = .ok (.aload_n 0, 1) := by decide +kernel
theorem dX10_misuses_18 : decode cX10_misuses 18 = .ok (.getfield 20, 3) := by decide +kernel
theorem dX10_misuses_21 : decode cX10_misuses 21 = .ok (.iload_n 2, 1) := by decide +kernel
theorem dX10_misuses_22 : decode cX10_misuses 22 = .ok (.iaload, 1) := by decide +kernel
theorem dX10_misuses_23 : decode cX10_misuses 23 = .ok (.iconst (-1), 1) := by decide +kernel
theorem dX10_misuses_24 : decode cX10_misuses 24 = .ok (.ixor, 1) := by decide +kernel
theorem dX10_misuses_25 : decode cX10_misuses 25 = .ok (.iand, 1) := by decide +kernel
theorem dX10_misuses_26 : decode cX10_misuses 26 = .ok (.invokestatic 244, 3) := by decide +kernel
theorem dX10_misuses_29 : decode cX10_misuses 29 = .ok (.iadd, 1) := by decide +kernel
theorem dX10_misuses_30 : decode cX10_misuses 30 = .ok (.istore_n 1, 1) := by decide +kernel
theorem dX10_misuses_31 : decode cX10_misuses 31 = .ok (.iinc 2 1, 3) := by decide +kernel
theorem dX10_misuses_34 : decode cX10_misuses 34 = .ok (.goto (-30), 3) := by decide +kernel
theorem dX10_misuses_37 : decode cX10_misuses 37 = .ok (.iload_n 1, 1) := by decide +kernel
theorem dX10_misuses_38 : decode cX10_misuses 38 = .ok (.ireturn, 1) := by decide +kernel
theorem dX10_misuse_0 : decode cX10_misuse 0 = .ok (.aload_n 0, 1) := by decide +kernel
theorem dX10_misuse_1 : decode cX10_misuse 1 = .ok (.iconst 0, 1) := by decide +kernel
theorem dX10_misuse_2 : decode cX10_misuse 2 = .ok (.putfield 80, 3) := by decide +kernel
theorem dX10_misuse_5 : decode cX10_misuse 5 = .ok (.aload_n 0, 1) := by decide +kernel
theorem dX10_misuse_6 : decode cX10_misuse 6 = .ok (.invokevirtual 241, 3) := by decide +kernel
theorem dX10_misuse_9 : decode cX10_misuse 9 = .ok (.iconst 0, 1) := by decide +kernel
theorem dX10_misuse_10 : decode cX10_misuse 10 = .ok (.istore_n 2, 1) := by decide +kernel
theorem dX10_misuse_11 : decode cX10_misuse 11 = .ok (.iconst 0, 1) := by decide +kernel
theorem dX10_misuse_12 : decode cX10_misuse 12 = .ok (.istore_n 3, 1) := by decide +kernel
theorem dX10_misuse_13 : decode cX10_misuse 13 = .ok (.iload_n 3, 1) := by decide +kernel
theorem dX10_misuse_14 : decode cX10_misuse 14 = .ok (.bipush 16, 2) := by decide +kernel
theorem dX10_misuse_16 : decode cX10_misuse 16 = .ok (.if_icmp .ge 28, 3) := by decide +kernel
theorem dX10_misuse_19 : decode cX10_misuse 19 = .ok (.iload_n 2, 1) := by decide +kernel
theorem dX10_misuse_20 : decode cX10_misuse 20 = .ok (.aload_n 0, 1) := by decide +kernel
theorem dX10_misuse_21 : decode cX10_misuse 21 = .ok (.getfield 58, 3) := by decide +kernel
theorem dX10_misuse_24 : decode cX10_misuse 24 = .ok (.iload_n 3, 1) := by decide +kernel
theorem dX10_misuse_25 : decode cX10_misuse 25 = .ok (.iaload, 1) := by decide +kernel
theorem dX10_misuse_26 : decode cX10_misuse 26 = .ok (.aload_n 0, 1) := by decide +kernel
theorem dX10_misuse_27 : decode cX10_misuse 27 = .ok (.getfield 20, 3) := by decide +kernel
theorem dX10_misuse_30 : decode cX10_misuse 30 = .ok (.iload_n 3, 1) := by decide +kernel
theorem dX10_misuse_31 : decode cX10_misuse 31 = .ok (.iaload, 1) := by decide +kernel
theorem dX10_misuse_32 : decode cX10_misuse 32 = .ok (.iand, 1) := by decide +kernel
theorem dX10_misuse_33 : decode cX10_misuse 33 = .ok (.invokestatic 244, 3) := by decide +kernel
theorem dX10_misuse_36 : decode cX10_misuse 36 = .ok (.iadd, 1) := by decide +kernel
theorem dX10_misuse_37 : decode cX10_misuse 37 = .ok (.istore_n 2, 1) := by decide +kernel
theorem dX10_misuse_38 : decode cX10_misuse 38 = .ok (.iinc 3 1, 3) := by decide +kernel
theorem dX10_misuse_41 : decode cX10_misuse 41 = .ok (.goto (-28), 3) := by decide +kernel
theorem dX10_misuse_44 : decode cX10_misuse 44 = .ok (.iload_n 1, 1) := by decide +kernel
theorem dX10_misuse_45 : decode cX10_misuse 45 = .ok (.ifCond .eq 7, 3) := by decide +kernel
theorem dX10_misuse_48 : decode cX10_misuse 48 = .ok (.iload_n 2, 1) := by decide +kernel
theorem dX10_misuse_49 : decode cX10_misuse 49 = .ok (.goto 7, 3) := by decide +kernel
theorem dX10_misuse_52 : decode cX10_misuse 52 = .ok (.aload_n 0, 1) := by decide +kernel
theorem dX10_misuse_53 : decode cX10_misuse 53 = .ok (.invokevirtual 247, 3) := by decide +kernel
theorem dX10_misuse_56 : decode cX10_misuse 56 = .ok (.ireturn, 1) := by decide +kernel
theorem dX10_wrong_0 : decode cX10_wrong 0 = .ok (.aload_n 0, 1) := by decide +kernel
theorem dX10_wrong_1 : decode cX10_wrong 1 = .ok (.iconst 0, 1) := by decide +kernel
theorem dX10_wrong_2 : decode cX10_wrong 2 = .ok (.putfield 80, 3) := by decide +kernel
theorem dX10_wrong_5 : decode cX10_wrong 5 = .ok (.aload_n 0, 1) := by decide +kernel
theorem dX10_wrong_6 : decode cX10_wrong 6 = .ok (.invokevirtual 241, 3) := by decide +kernel
theorem dX10_wrong_9 : decode cX10_wrong 9 = .ok (.iconst 0, 1) := by decide +kernel
theorem dX10_wrong_10 : decode cX10_wrong 10 = .ok (.istore_n 2, 1) := by decide +kernel
theorem dX10_wrong_11 : decode cX10_wrong 11 = .ok (.iconst 0, 1) := by decide +kernel
theorem dX10_wrong_12 : decode cX10_wrong 12 = .ok (.istore_n 3, 1) := by decide +kernel
theorem dX10_wrong_13 : decode cX10_wrong 13 = .ok (.iload_n 3, 1) := by decide +kernel
theorem dX10_wrong_14 : decode cX10_wrong 14 = .ok (.bipush 16, 2) := by decide +kernel
theorem dX10_wrong_16 : decode cX10_wrong 16 = .ok (.if_icmp .ge 67, 3) := by decide +kernel
theorem dX10_wrong_19 : decode cX10_wrong 19 = .ok (.iconst 0, 1) := by decide +kernel
theorem dX10_wrong_20 : decode cX10_wrong 20 = .ok (.istore 4, 2) := by decide +kernel
theorem dX10_wrong_22 : decode cX10_wrong 22 = .ok (.iload 4, 2) := by decide +kernel
theorem dX10_wrong_24 : decode cX10_wrong 24 = .ok (.bipush 16, 2) := by decide +kernel
theorem dX10_wrong_26 : decode cX10_wrong 26 = .ok (.if_icmp .ge 51, 3) := by decide +kernel
theorem dX10_wrong_29 : decode cX10_wrong 29 = .ok (.aload_n 0, 1) := by decide +kernel
theorem dX10_wrong_30 : decode cX10_wrong 30 = .ok (.getfield 58, 3) := by decide +kernel
theorem dX10_wrong_33 : decode cX10_wrong 33 = .ok (.iload_n 3, 1) := by decide +kernel
theorem dX10_wrong_34 : decode cX10_wrong 34 = .ok (.iaload, 1) := by decide +kernel
theorem dX10_wrong_35 : decode cX10_wrong 35 = .ok (.aload_n 0, 1) := by decide +kernel
theorem dX10_wrong_36 : decode cX10_wrong 36 = .ok (.getfield 20, 3) := by decide +kernel
theorem dX10_wrong_39 : decode cX10_wrong 39 = .ok (.iload_n 3, 1) := by decide +kernel
theorem dX10_wrong_40 : decode cX10_wrong 40 = .ok (.iaload, 1) := by decide +kernel
theorem dX10_wrong_41 : decode cX10_wrong 41 = .ok (.iconst (-1), 1) := by decide +kernel
theorem dX10_wrong_42 : decode cX10_wrong 42 = .ok (.ixor, 1) := by decide +kernel
theorem dX10_wrong_43 : decode cX10_wrong 43 = .ok (.iand, 1) := by decide +kernel
theorem dX10_wrong_44 : decode cX10_wrong 44 = .ok (.iconst 1, 1) := by decide +kernel
theorem dX10_wrong_45 : decode cX10_wrong 45 = .ok (.iload 4, 2) := by decide +kernel
theorem dX10_wrong_47 : decode cX10_wrong 47 = .ok (.ishl, 1) := by decide +kernel
theorem dX10_wrong_48 : decode cX10_wrong 48 = .ok (.iand, 1) := by decide +kernel
theorem dX10_wrong_49 : decode cX10_wrong 49 = .ok (.ifCond .ne 6, 3) := by decide +kernel
theorem dX10_wrong_52 : decode cX10_wrong 52 = .ok (.goto 19, 3) := by decide +kernel
theorem dX10_wrong_55 : decode cX10_wrong 55 = .ok (.iload_n 2, 1) := by decide +kernel
theorem dX10_wrong_56 : decode cX10_wrong 56 = .ok (.iload_n 1, 1) := by decide +kernel
theorem dX10_wrong_57 : decode cX10_wrong 57 = .ok (.if_icmp .ne 11, 3) := by decide +kernel
theorem dX10_wrong_60 : decode cX10_wrong 60 = .ok (.bipush 100, 2) := by decide +kernel
theorem dX10_wrong_62 : decode cX10_wrong 62 = .ok (.iload_n 3, 1) := by decide +kernel
theorem dX10_wrong_63 : decode cX10_wrong 63 = .ok (.imul, 1) := by decide +kernel
theorem dX10_wrong_64 : decode cX10_wrong 64 = .ok (.iload 4, 2) := by decide +kernel
theorem dX10_wrong_66 : decode cX10_wrong 66 = .ok (.iadd, 1) := by decide +kernel
theorem dX10_wrong_67 : decode cX10_wrong 67 = .ok (.ireturn, 1) := by decide +kernel
theorem dX10_wrong_68 : decode cX10_wrong 68 = .ok (.iinc 2 1, 3) := by decide +kernel
theorem dX10_wrong_71 : decode cX10_wrong 71 = .ok (.iinc 4 1, 3) := by decide +kernel
theorem dX10_wrong_74 : decode cX10_wrong 74 = .ok (.goto (-52), 3) := by decide +kernel
theorem dX10_wrong_77 : decode cX10_wrong 77 = .ok (.iinc 3 1, 3) := by decide +kernel
theorem dX10_wrong_80 : decode cX10_wrong 80 = .ok (.goto (-67), 3) := by decide +kernel
theorem dX10_wrong_83 : decode cX10_wrong 83 = .ok (.iconst (-1), 1) := by decide +kernel
theorem dX10_wrong_84 : decode cX10_wrong 84 = .ok (.ireturn, 1) := by decide +kernel
theorem dX10_leads_0 : decode cX10_leads 0 = .ok (.bipush 8, 2) := by decide +kernel
theorem dX10_leads_2 : decode cX10_leads 2 = .ok (.iload_n 2, 1) := by decide +kernel
theorem dX10_leads_3 : decode cX10_leads 3 = .ok (.imul, 1) := by decide +kernel
theorem dX10_leads_4 : decode cX10_leads 4 = .ok (.istore 6, 2) := by decide +kernel
theorem dX10_leads_6 : decode cX10_leads 6 = .ok (.aload_n 0, 1) := by decide +kernel
theorem dX10_leads_7 : decode cX10_leads 7 = .ok (.getfield 23, 3) := by decide +kernel
theorem dX10_leads_10 : decode cX10_leads 10 = .ok (.iload_n 3, 1) := by decide +kernel
theorem dX10_leads_11 : decode cX10_leads 11 = .ok (.iaload, 1) := by decide +kernel
theorem dX10_leads_12 : decode cX10_leads 12 = .ok (.tableswitch 248 1 5 #[36, 115, 178, 248, 225], 36) := by decide +kernel
theorem dX10_leads_48 : decode cX10_leads 48 = .ok (.iconst 0, 1) := by decide +kernel
theorem dX10_leads_49 : decode cX10_leads 49 = .ok (.istore 7, 2) := by decide +kernel
theorem dX10_leads_51 : decode cX10_leads 51 = .ok (.iconst 0, 1) := by decide +kernel
theorem dX10_leads_52 : decode cX10_leads 52 = .ok (.istore 8, 2) := by decide +kernel
theorem dX10_leads_54 : decode cX10_leads 54 = .ok (.iload 8, 2) := by decide +kernel
theorem dX10_leads_56 : decode cX10_leads 56 = .ok (.aload_n 0, 1) := by decide +kernel
theorem dX10_leads_57 : decode cX10_leads 57 = .ok (.getfield 26, 3) := by decide +kernel
theorem dX10_leads_60 : decode cX10_leads 60 = .ok (.iload_n 3, 1) := by decide +kernel
theorem dX10_leads_61 : decode cX10_leads 61 = .ok (.iaload, 1) := by decide +kernel
theorem dX10_leads_62 : decode cX10_leads 62 = .ok (.if_icmp .ge 39, 3) := by decide +kernel
theorem dX10_leads_65 : decode cX10_leads 65 = .ok (.iload 7, 2) := by decide +kernel
theorem dX10_leads_67 : decode cX10_leads 67 = .ok (.ifCond .ne 21, 3) := by decide +kernel
theorem dX10_leads_70 : decode cX10_leads 70 = .ok (.iload_n 1, 1) := by decide +kernel
theorem dX10_leads_71 : decode cX10_leads 71 = .ok (.iload 6, 2) := by decide +kernel
theorem dX10_leads_73 : decode cX10_leads 73 = .ok (.aload_n 0, 1) := by decide +kernel
theorem dX10_leads_74 : decode cX10_leads 74 = .ok (.getfield 35, 3) := by decide +kernel
theorem dX10_leads_77 : decode cX10_leads 77 = .ok (.iconst 4, 1) := by decide +kernel
theorem dX10_leads_78 : decode cX10_leads 78 = .ok (.iload_n 3, 1) := by decide +kernel
theorem dX10_leads_79 : decode cX10_leads 79 = .ok (.imul, 1) := by decide +kernel
theorem dX10_leads_80 : decode cX10_leads 80 = .ok (.iload 8, 2) := by decide +kernel
theorem dX10_leads_82 : decode cX10_leads 82 = .ok (.iadd, 1) := by decide +kernel
theorem dX10_leads_83 : decode cX10_leads 83 = .ok (.iaload, 1) := by decide +kernel
theorem dX10_leads_84 : decode cX10_leads 84 = .ok (.iadd, 1) := by decide +kernel
theorem dX10_leads_85 : decode cX10_leads 85 = .ok (.if_icmp .ne 7, 3) := by decide +kernel
theorem dX10_leads_88 : decode cX10_leads 88 = .ok (.iconst 1, 1) := by decide +kernel
theorem dX10_leads_89 : decode cX10_leads 89 = .ok (.goto 4, 3) := by decide +kernel
theorem dX10_leads_92 : decode cX10_leads 92 = .ok (.iconst 0, 1) := by decide +kernel
theorem dX10_leads_93 : decode cX10_leads 93 = .ok (.istore 7, 2) := by decide +kernel
theorem dX10_leads_95 : decode cX10_leads 95 = .ok (.iinc 8 1, 3) := by decide +kernel
theorem dX10_leads_98 : decode cX10_leads 98 = .ok (.goto (-44), 3) := by decide +kernel
theorem dX10_leads_101 : decode cX10_leads 101 = .ok (.iload 7, 2) := by decide +kernel
theorem dX10_leads_103 : decode cX10_leads 103 = .ok (.ifCond .eq 21, 3) := by decide +kernel
theorem dX10_leads_106 : decode cX10_leads 106 = .ok (.aload_n 0, 1) := by decide +kernel
theorem dX10_leads_107 : decode cX10_leads 107 = .ok (.iload 6, 2) := by decide +kernel
theorem dX10_leads_109 : decode cX10_leads 109 = .ok (.aload_n 0, 1) := by decide +kernel
theorem dX10_leads_110 : decode cX10_leads 110 = .ok (.getfield 29, 3) := by decide +kernel
theorem dX10_leads_113 : decode cX10_leads 113 = .ok (.iload_n 3, 1) := by decide +kernel
theorem dX10_leads_114 : decode cX10_leads 114 = .ok (.iaload, 1) := by decide +kernel
theorem dX10_leads_115 : decode cX10_leads 115 = .ok (.iadd, 1) := by decide +kernel
theorem dX10_leads_116 : decode cX10_leads 116 = .ok (.iload 4, 2) := by decide +kernel
theorem dX10_leads_118 : decode cX10_leads 118 = .ok (.invokevirtual 250, 3) := by decide +kernel
theorem dX10_leads_121 : decode cX10_leads 121 = .ok (.goto 5, 3) := by decide +kernel
theorem dX10_leads_124 : decode cX10_leads 124 = .ok (.bipush (-2), 2) := by decide +kernel
theorem dX10_leads_126 : decode cX10_leads 126 = .ok (.ireturn, 1) := by decide +kernel
theorem dX10_leads_127 : decode cX10_leads 127 = .ok (.iload_n 1, 1) := by decide +kernel
theorem dX10_leads_128 : decode cX10_leads 128 = .ok (.bipush 80, 2) := by decide +kernel
theorem dX10_leads_130 : decode cX10_leads 130 = .ok (.aload_n 0, 1) := by decide +kernel
theorem dX10_leads_131 : decode cX10_leads 131 = .ok (.getfield 26, 3) := by decide +kernel
theorem dX10_leads_134 : decode cX10_leads 134 = .ok (.iload_n 3, 1) := by decide +kernel
theorem dX10_leads_135 : decode cX10_leads 135 = .ok (.iaload, 1) := by decide +kernel
theorem dX10_leads_136 : decode cX10_leads 136 = .ok (.iadd, 1) := by decide +kernel
theorem dX10_leads_137 : decode cX10_leads 137 = .ok (.if_icmp .ne 19, 3) := by decide +kernel
theorem dX10_leads_140 : decode cX10_leads 140 = .ok (.aload_n 0, 1) := by decide +kernel
theorem dX10_leads_141 : decode cX10_leads 141 = .ok (.iload 6, 2) := by decide +kernel
theorem dX10_leads_143 : decode cX10_leads 143 = .ok (.aload_n 0, 1) := by decide +kernel
theorem dX10_leads_144 : decode cX10_leads 144 = .ok (.getfield 32, 3) := by decide +kernel
theorem dX10_leads_147 : decode cX10_leads 147 = .ok (.iload_n 3, 1) := by decide +kernel
theorem dX10_leads_148 : decode cX10_leads 148 = .ok (.iaload, 1) := by decide +kernel
theorem dX10_leads_149 : decode cX10_leads 149 = .ok (.iadd, 1) := by decide +kernel
theorem dX10_leads_150 : decode cX10_leads 150 = .ok (.iload 4, 2) := by decide +kernel
theorem dX10_leads_152 : decode cX10_leads 152 = .ok (.invokevirtual 250, 3) := by decide +kernel
theorem dX10_leads_155 : decode cX10_leads 155 = .ok (.ireturn, 1) := by decide +kernel
theorem dX10_leads_156 : decode cX10_leads 156 = .ok (.iload_n 1, 1) := by decide +kernel
theorem dX10_leads_157 : decode cX10_leads 157 = .ok (.iload 6, 2) := by decide +kernel
theorem dX10_leads_159 : decode cX10_leads 159 = .ok (.aload_n 0, 1) := by decide +kernel
theorem dX10_leads_160 : decode cX10_leads 160 = .ok (.getfield 29, 3) := by decide +kernel
theorem dX10_leads_163 : decode cX10_leads 163 = .ok (.iload_n 3, 1) := by decide +kernel
theorem dX10_leads_164 : decode cX10_leads 164 = .ok (.iaload, 1) := by decide +kernel
theorem dX10_leads_165 : decode cX10_leads 165 = .ok (.iadd, 1) := by decide +kernel
theorem dX10_leads_166 : decode cX10_leads 166 = .ok (.if_icmp .ne 21, 3) := by decide +kernel
theorem dX10_leads_169 : decode cX10_leads 169 = .ok (.aload_n 0, 1) := by decide +kernel
theorem dX10_leads_170 : decode cX10_leads 170 = .ok (.bipush 8, 2) := by decide +kernel
theorem dX10_leads_172 : decode cX10_leads 172 = .ok (.aload_n 0, 1) := by decide +kernel
theorem dX10_leads_173 : decode cX10_leads 173 = .ok (.getfield 26, 3) := by decide +kernel
theorem dX10_leads_176 : decode cX10_leads 176 = .ok (.iload_n 3, 1) := by decide +kernel
theorem dX10_leads_177 : decode cX10_leads 177 = .ok (.iaload, 1) := by decide +kernel
theorem dX10_leads_178 : decode cX10_leads 178 = .ok (.imul, 1) := by decide +kernel
theorem dX10_leads_179 : decode cX10_leads 179 = .ok (.iload 4, 2) := by decide +kernel
theorem dX10_leads_181 : decode cX10_leads 181 = .ok (.invokevirtual 250, 3) := by decide +kernel
theorem dX10_leads_184 : decode cX10_leads 184 = .ok (.goto 5, 3) := by decide +kernel
theorem dX10_leads_187 : decode cX10_leads 187 = .ok (.bipush (-2), 2) := by decide +kernel
theorem dX10_leads_189 : decode cX10_leads 189 = .ok (.ireturn, 1) := by decide +kernel
theorem dX10_leads_190 : decode cX10_leads 190 = .ok (.iload_n 1, 1) := by decide +kernel
theorem dX10_leads_191 : decode cX10_leads 191 = .ok (.iload 6, 2) := by decide +kernel
theorem dX10_leads_193 : decode cX10_leads 193 = .ok (.aload_n 0, 1) := by decide +kernel
theorem dX10_leads_194 : decode cX10_leads 194 = .ok (.getfield 29, 3) := by decide +kernel
theorem dX10_leads_197 : decode cX10_leads 197 = .ok (.iload_n 3, 1) := by decide +kernel
theorem dX10_leads_198 : decode cX10_leads 198 = .ok (.iaload, 1) := by decide +kernel
theorem dX10_leads_199 : decode cX10_leads 199 = .ok (.iadd, 1) := by decide +kernel
theorem dX10_leads_200 : decode cX10_leads 200 = .ok (.if_icmp .ne 34, 3) := by decide +kernel
theorem dX10_leads_203 : decode cX10_leads 203 = .ok (.aload_n 0, 1) := by decide +kernel
theorem dX10_leads_204 : decode cX10_leads 204 = .ok (.getfield 26, 3) := by decide +kernel
theorem dX10_leads_207 : decode cX10_leads 207 = .ok (.iload_n 3, 1) := by decide +kernel
theorem dX10_leads_208 : decode cX10_leads 208 = .ok (.iaload, 1) := by decide +kernel
theorem dX10_leads_209 : decode cX10_leads 209 = .ok (.iload 5, 2) := by decide +kernel
theorem dX10_leads_211 : decode cX10_leads 211 = .ok (.if_icmp .ne 23, 3) := by decide +kernel
theorem dX10_leads_214 : decode cX10_leads 214 = .ok (.aload_n 0, 1) := by decide +kernel
theorem dX10_leads_215 : decode cX10_leads 215 = .ok (.getfield 13, 3) := by decide +kernel
theorem dX10_leads_218 : decode cX10_leads 218 = .ok (.iload_n 2, 1) := by decide +kernel
theorem dX10_leads_219 : decode cX10_leads 219 = .ok (.iaload, 1) := by decide +kernel
theorem dX10_leads_220 : decode cX10_leads 220 = .ok (.iload 5, 2) := by decide +kernel
theorem dX10_leads_222 : decode cX10_leads 222 = .ok (.ishr, 1) := by decide +kernel
theorem dX10_leads_223 : decode cX10_leads 223 = .ok (.iconst 1, 1) := by decide +kernel
theorem dX10_leads_224 : decode cX10_leads 224 = .ok (.iand, 1) := by decide +kernel
theorem dX10_leads_225 : decode cX10_leads 225 = .ok (.iconst 1, 1) := by decide +kernel
theorem dX10_leads_226 : decode cX10_leads 226 = .ok (.if_icmp .ne 8, 3) := by decide +kernel
theorem dX10_leads_229 : decode cX10_leads 229 = .ok (.bipush 90, 2) := by decide +kernel
theorem dX10_leads_231 : decode cX10_leads 231 = .ok (.goto 5, 3) := by decide +kernel
theorem dX10_leads_234 : decode cX10_leads 234 = .ok (.bipush (-2), 2) := by decide +kernel
theorem dX10_leads_236 : decode cX10_leads 236 = .ok (.ireturn, 1) := by decide +kernel
theorem dX10_leads_237 : decode cX10_leads 237 = .ok (.iload_n 1, 1) := by decide +kernel
theorem dX10_leads_238 : decode cX10_leads 238 = .ok (.iload 6, 2) := by decide +kernel
theorem dX10_leads_240 : decode cX10_leads 240 = .ok (.aload_n 0, 1) := by decide +kernel
theorem dX10_leads_241 : decode cX10_leads 241 = .ok (.getfield 29, 3) := by decide +kernel
theorem dX10_leads_244 : decode cX10_leads 244 = .ok (.iload_n 3, 1) := by decide +kernel
theorem dX10_leads_245 : decode cX10_leads 245 = .ok (.iaload, 1) := by decide +kernel
theorem dX10_leads_246 : decode cX10_leads 246 = .ok (.iadd, 1) := by decide +kernel
theorem dX10_leads_247 : decode cX10_leads 247 = .ok (.if_icmp .ne 10, 3) := by decide +kernel
theorem dX10_leads_250 : decode cX10_leads 250 = .ok (.bipush 80, 2) := by decide +kernel
theorem dX10_leads_252 : decode cX10_leads 252 = .ok (.iload_n 2, 1) := by decide +kernel
theorem dX10_leads_253 : decode cX10_leads 253 = .ok (.iadd, 1) := by decide +kernel
theorem dX10_leads_254 : decode cX10_leads 254 = .ok (.goto 5, 3) := by decide +kernel
theorem dX10_leads_257 : decode cX10_leads 257 = .ok (.bipush (-2), 2) := by decide +kernel
theorem dX10_leads_259 : decode cX10_leads 259 = .ok (.ireturn, 1) := by decide +kernel
theorem dX10_leads_260 : decode cX10_leads 260 = .ok (.bipush (-2), 2) := by decide +kernel
theorem dX10_leads_262 : decode cX10_leads 262 = .ok (.ireturn, 1) := by decide +kernel
theorem dX10_into_0 : decode cX10_into 0 = .ok (.aload_n 0, 1) := by decide +kernel
theorem dX10_into_1 : decode cX10_into 1 = .ok (.getfield 52, 3) := by decide +kernel
theorem dX10_into_4 : decode cX10_into 4 = .ok (.iload_n 1, 1) := by decide +kernel
theorem dX10_into_5 : decode cX10_into 5 = .ok (.iaload, 1) := by decide +kernel
theorem dX10_into_6 : decode cX10_into 6 = .ok (.iload_n 2, 1) := by decide +kernel
theorem dX10_into_7 : decode cX10_into 7 = .ok (.ishr, 1) := by decide +kernel
theorem dX10_into_8 : decode cX10_into 8 = .ok (.iconst 1, 1) := by decide +kernel
theorem dX10_into_9 : decode cX10_into 9 = .ok (.iand, 1) := by decide +kernel
theorem dX10_into_10 : decode cX10_into 10 = .ok (.iconst 1, 1) := by decide +kernel
theorem dX10_into_11 : decode cX10_into 11 = .ok (.if_icmp .ne 8, 3) := by decide +kernel
theorem dX10_into_14 : decode cX10_into 14 = .ok (.bipush (-2), 2) := by decide +kernel
theorem dX10_into_16 : decode cX10_into 16 = .ok (.goto 4, 3) := by decide +kernel
theorem dX10_into_19 : decode cX10_into 19 = .ok (.iload_n 1, 1) := by decide +kernel
theorem dX10_into_20 : decode cX10_into 20 = .ok (.ireturn, 1) := by decide +kernel
theorem dX10_measures_0 : decode cX10_measures 0 = .ok (.iconst 0, 1) := by decide +kernel
theorem dX10_measures_1 : decode cX10_measures 1 = .ok (.istore_n 3, 1) := by decide +kernel
theorem dX10_measures_2 : decode cX10_measures 2 = .ok (.iload_n 3, 1) := by decide +kernel
theorem dX10_measures_3 : decode cX10_measures 3 = .ok (.bipush 90, 2) := by decide +kernel
theorem dX10_measures_5 : decode cX10_measures 5 = .ok (.if_icmp .ge 17, 3) := by decide +kernel
theorem dX10_measures_8 : decode cX10_measures 8 = .ok (.aload_n 0, 1) := by decide +kernel
theorem dX10_measures_9 : decode cX10_measures 9 = .ok (.getfield 65, 3) := by decide +kernel
theorem dX10_measures_12 : decode cX10_measures 12 = .ok (.iload_n 3, 1) := by decide +kernel
theorem dX10_measures_13 : decode cX10_measures 13 = .ok (.ldc 254, 2) := by decide +kernel
theorem dX10_measures_15 : decode cX10_measures 15 = .ok (.iastore, 1) := by decide +kernel
theorem dX10_measures_16 : decode cX10_measures 16 = .ok (.iinc 3 1, 3) := by decide +kernel
theorem dX10_measures_19 : decode cX10_measures 19 = .ok (.goto (-17), 3) := by decide +kernel
theorem dX10_measures_22 : decode cX10_measures 22 = .ok (.aload_n 0, 1) := by decide +kernel
theorem dX10_measures_23 : decode cX10_measures 23 = .ok (.getfield 65, 3) := by decide +kernel
theorem dX10_measures_26 : decode cX10_measures 26 = .ok (.bipush 90, 2) := by decide +kernel
theorem dX10_measures_28 : decode cX10_measures 28 = .ok (.iconst 0, 1) := by decide +kernel
theorem dX10_measures_29 : decode cX10_measures 29 = .ok (.iastore, 1) := by decide +kernel
theorem dX10_measures_30 : decode cX10_measures 30 = .ok (.iconst 1, 1) := by decide +kernel
theorem dX10_measures_31 : decode cX10_measures 31 = .ok (.istore_n 3, 1) := by decide +kernel
theorem dX10_measures_32 : decode cX10_measures 32 = .ok (.iload_n 3, 1) := by decide +kernel
theorem dX10_measures_33 : decode cX10_measures 33 = .ok (.ifCond .eq 144, 3) := by decide +kernel
theorem dX10_measures_36 : decode cX10_measures 36 = .ok (.iconst 0, 1) := by decide +kernel
theorem dX10_measures_37 : decode cX10_measures 37 = .ok (.istore_n 3, 1) := by decide +kernel
theorem dX10_measures_38 : decode cX10_measures 38 = .ok (.iconst 0, 1) := by decide +kernel
theorem dX10_measures_39 : decode cX10_measures 39 = .ok (.istore 4, 2) := by decide +kernel
theorem dX10_measures_41 : decode cX10_measures 41 = .ok (.iload 4, 2) := by decide +kernel
theorem dX10_measures_43 : decode cX10_measures 43 = .ok (.bipush 90, 2) := by decide +kernel
theorem dX10_measures_45 : decode cX10_measures 45 = .ok (.if_icmp .ge 129, 3) := by decide +kernel
theorem dX10_measures_48 : decode cX10_measures 48 = .ok (.iconst 0, 1) := by decide +kernel
theorem dX10_measures_49 : decode cX10_measures 49 = .ok (.istore 5, 2) := by decide +kernel
theorem dX10_measures_51 : decode cX10_measures 51 = .ok (.iload 5, 2) := by decide +kernel
theorem dX10_measures_53 : decode cX10_measures 53 = .ok (.aload_n 0, 1) := by decide +kernel
theorem dX10_measures_54 : decode cX10_measures 54 = .ok (.getfield 86, 3) := by decide +kernel
theorem dX10_measures_57 : decode cX10_measures 57 = .ok (.if_icmp .ge 111, 3) := by decide +kernel
theorem dX10_measures_60 : decode cX10_measures 60 = .ok (.bipush 12, 2) := by decide +kernel
theorem dX10_measures_62 : decode cX10_measures 62 = .ok (.iload 5, 2) := by decide +kernel
theorem dX10_measures_64 : decode cX10_measures 64 = .ok (.imul, 1) := by decide +kernel
theorem dX10_measures_65 : decode cX10_measures 65 = .ok (.istore 6, 2) := by decide +kernel
theorem dX10_measures_67 : decode cX10_measures 67 = .ok (.iload 6, 2) := by decide +kernel
theorem dX10_measures_69 : decode cX10_measures 69 = .ok (.bipush 12, 2) := by decide +kernel
theorem dX10_measures_71 : decode cX10_measures 71 = .ok (.iload 5, 2) := by decide +kernel
theorem dX10_measures_73 : decode cX10_measures 73 = .ok (.imul, 1) := by decide +kernel
theorem dX10_measures_74 : decode cX10_measures 74 = .ok (.aload_n 0, 1) := by decide +kernel
theorem dX10_measures_75 : decode cX10_measures 75 = .ok (.getfield 17, 3) := by decide +kernel
theorem dX10_measures_78 : decode cX10_measures 78 = .ok (.iload 5, 2) := by decide +kernel
theorem dX10_measures_80 : decode cX10_measures 80 = .ok (.iaload, 1) := by decide +kernel
theorem dX10_measures_81 : decode cX10_measures 81 = .ok (.iadd, 1) := by decide +kernel
theorem dX10_measures_82 : decode cX10_measures 82 = .ok (.if_icmp .ge 80, 3) := by decide +kernel
theorem dX10_measures_85 : decode cX10_measures 85 = .ok (.aload_n 0, 1) := by decide +kernel
theorem dX10_measures_86 : decode cX10_measures 86 = .ok (.getfield 61, 3) := by decide +kernel
theorem dX10_measures_89 : decode cX10_measures 89 = .ok (.iload 5, 2) := by decide +kernel
theorem dX10_measures_91 : decode cX10_measures 91 = .ok (.baload, 1) := by decide +kernel
theorem dX10_measures_92 : decode cX10_measures 92 = .ok (.ifCond .eq 70, 3) := by decide +kernel
theorem dX10_measures_95 : decode cX10_measures 95 = .ok (.aload_n 0, 1) := by decide +kernel
theorem dX10_measures_96 : decode cX10_measures 96 = .ok (.iload 4, 2) := by decide +kernel
theorem dX10_measures_98 : decode cX10_measures 98 = .ok (.iload 5, 2) := by decide +kernel
theorem dX10_measures_100 : decode cX10_measures 100 = .ok (.iload 6, 2) := by decide +kernel
theorem dX10_measures_102 : decode cX10_measures 102 = .ok (.iload_n 1, 1) := by decide +kernel
theorem dX10_measures_103 : decode cX10_measures 103 = .ok (.iload_n 2, 1) := by decide +kernel
theorem dX10_measures_104 : decode cX10_measures 104 = .ok (.invokevirtual 255, 3) := by decide +kernel
theorem dX10_measures_107 : decode cX10_measures 107 = .ok (.istore 7, 2) := by decide +kernel
theorem dX10_measures_109 : decode cX10_measures 109 = .ok (.iload 7, 2) := by decide +kernel
theorem dX10_measures_111 : decode cX10_measures 111 = .ok (.bipush (-2), 2) := by decide +kernel
theorem dX10_measures_113 : decode cX10_measures 113 = .ok (.if_icmp .eq 43, 3) := by decide +kernel
theorem dX10_measures_116 : decode cX10_measures 116 = .ok (.aload_n 0, 1) := by decide +kernel
theorem dX10_measures_117 : decode cX10_measures 117 = .ok (.getfield 65, 3) := by decide +kernel
theorem dX10_measures_120 : decode cX10_measures 120 = .ok (.iload 7, 2) := by decide +kernel
theorem dX10_measures_122 : decode cX10_measures 122 = .ok (.iaload, 1) := by decide +kernel
theorem dX10_measures_123 : decode cX10_measures 123 = .ok (.iconst 1, 1) := by decide +kernel
theorem dX10_measures_124 : decode cX10_measures 124 = .ok (.iadd, 1) := by decide +kernel
theorem dX10_measures_125 : decode cX10_measures 125 = .ok (.aload_n 0, 1) := by decide +kernel
theorem dX10_measures_126 : decode cX10_measures 126 = .ok (.getfield 65, 3) := by decide +kernel
theorem dX10_measures_129 : decode cX10_measures 129 = .ok (.iload 4, 2) := by decide +kernel
theorem dX10_measures_131 : decode cX10_measures 131 = .ok (.iaload, 1) := by decide +kernel
theorem dX10_measures_132 : decode cX10_measures 132 = .ok (.if_icmp .lt 6, 3) := by decide +kernel
theorem dX10_measures_135 : decode cX10_measures 135 = .ok (.goto 21, 3) := by decide +kernel
theorem dX10_measures_138 : decode cX10_measures 138 = .ok (.aload_n 0, 1) := by decide +kernel
theorem dX10_measures_139 : decode cX10_measures 139 = .ok (.getfield 65, 3) := by decide +kernel
theorem dX10_measures_142 : decode cX10_measures 142 = .ok (.iload 4, 2) := by decide +kernel
theorem dX10_measures_144 : decode cX10_measures 144 = .ok (.aload_n 0, 1) := by decide +kernel
theorem dX10_measures_145 : decode cX10_measures 145 = .ok (.getfield 65, 3) := by decide +kernel
theorem dX10_measures_148 : decode cX10_measures 148 = .ok (.iload 7, 2) := by decide +kernel
theorem dX10_measures_150 : decode cX10_measures 150 = .ok (.iaload, 1) := by decide +kernel
theorem dX10_measures_151 : decode cX10_measures 151 = .ok (.iconst 1, 1) := by decide +kernel
theorem dX10_measures_152 : decode cX10_measures 152 = .ok (.iadd, 1) := by decide +kernel
theorem dX10_measures_153 : decode cX10_measures 153 = .ok (.iastore, 1) := by decide +kernel
theorem dX10_measures_154 : decode cX10_measures 154 = .ok (.iconst 1, 1) := by decide +kernel
theorem dX10_measures_155 : decode cX10_measures 155 = .ok (.istore_n 3, 1) := by decide +kernel
theorem dX10_measures_156 : decode cX10_measures 156 = .ok (.iinc 6 1, 3) := by decide +kernel
theorem dX10_measures_159 : decode cX10_measures 159 = .ok (.goto (-92), 3) := by decide +kernel
theorem dX10_measures_162 : decode cX10_measures 162 = .ok (.iinc 5 1, 3) := by decide +kernel
theorem dX10_measures_165 : decode cX10_measures 165 = .ok (.goto (-114), 3) := by decide +kernel
theorem dX10_measures_168 : decode cX10_measures 168 = .ok (.iinc 4 1, 3) := by decide +kernel
theorem dX10_measures_171 : decode cX10_measures 171 = .ok (.goto (-130), 3) := by decide +kernel
theorem dX10_measures_174 : decode cX10_measures 174 = .ok (.goto (-142), 3) := by decide +kernel
theorem dX10_measures_177 : decode cX10_measures 177 = .ok (.return_, 1) := by decide +kernel
theorem dX10_way_0 : decode cX10_way 0 = .ok (.aload_n 0, 1) := by decide +kernel
theorem dX10_way_1 : decode cX10_way 1 = .ok (.iconst 0, 1) := by decide +kernel
theorem dX10_way_2 : decode cX10_way 2 = .ok (.putfield 80, 3) := by decide +kernel
theorem dX10_way_5 : decode cX10_way 5 = .ok (.iload_n 1, 1) := by decide +kernel
theorem dX10_way_6 : decode cX10_way 6 = .ok (.invokestatic 228, 3) := by decide +kernel
theorem dX10_way_9 : decode cX10_way 9 = .ok (.ifCond .eq 10, 3) := by decide +kernel
theorem dX10_way_12 : decode cX10_way 12 = .ok (.iload_n 2, 1) := by decide +kernel
theorem dX10_way_13 : decode cX10_way 13 = .ok (.invokestatic 228, 3) := by decide +kernel
theorem dX10_way_16 : decode cX10_way 16 = .ok (.ifCond .ne 9, 3) := by decide +kernel
theorem dX10_way_19 : decode cX10_way 19 = .ok (.aload_n 0, 1) := by decide +kernel
theorem dX10_way_20 : decode cX10_way 20 = .ok (.iconst 2, 1) := by decide +kernel
theorem dX10_way_21 : decode cX10_way 21 = .ok (.invokevirtual 94, 3) := by decide +kernel
theorem dX10_way_24 : decode cX10_way 24 = .ok (.ireturn, 1) := by decide +kernel
theorem dX10_way_25 : decode cX10_way 25 = .ok (.aload_n 0, 1) := by decide +kernel
theorem dX10_way_26 : decode cX10_way 26 = .ok (.invokevirtual 241, 3) := by decide +kernel
theorem dX10_way_29 : decode cX10_way 29 = .ok (.aload_n 0, 1) := by decide +kernel
theorem dX10_way_30 : decode cX10_way 30 = .ok (.iload_n 1, 1) := by decide +kernel
theorem dX10_way_31 : decode cX10_way 31 = .ok (.iload_n 2, 1) := by decide +kernel
theorem dX10_way_32 : decode cX10_way 32 = .ok (.invokevirtual 259, 3) := by decide +kernel
theorem dX10_way_35 : decode cX10_way 35 = .ok (.ldc 254, 2) := by decide +kernel
theorem dX10_way_37 : decode cX10_way 37 = .ok (.istore_n 3, 1) := by decide +kernel
theorem dX10_way_38 : decode cX10_way 38 = .ok (.iconst (-1), 1) := by decide +kernel
theorem dX10_way_39 : decode cX10_way 39 = .ok (.istore 4, 2) := by decide +kernel
theorem dX10_way_41 : decode cX10_way 41 = .ok (.bipush (-2), 2) := by decide +kernel
theorem dX10_way_43 : decode cX10_way 43 = .ok (.istore 5, 2) := by decide +kernel
theorem dX10_way_45 : decode cX10_way 45 = .ok (.iconst 0, 1) := by decide +kernel
theorem dX10_way_46 : decode cX10_way 46 = .ok (.istore 6, 2) := by decide +kernel
theorem dX10_way_48 : decode cX10_way 48 = .ok (.iload 6, 2) := by decide +kernel
theorem dX10_way_50 : decode cX10_way 50 = .ok (.aload_n 0, 1) := by decide +kernel
theorem dX10_way_51 : decode cX10_way 51 = .ok (.getfield 86, 3) := by decide +kernel
theorem dX10_way_54 : decode cX10_way 54 = .ok (.if_icmp .ge 164, 3) := by decide +kernel
theorem dX10_way_57 : decode cX10_way 57 = .ok (.bipush 12, 2) := by decide +kernel
theorem dX10_way_59 : decode cX10_way 59 = .ok (.iload 6, 2) := by decide +kernel
theorem dX10_way_61 : decode cX10_way 61 = .ok (.imul, 1) := by decide +kernel
theorem dX10_way_62 : decode cX10_way 62 = .ok (.istore 7, 2) := by decide +kernel
theorem dX10_way_64 : decode cX10_way 64 = .ok (.iload 7, 2) := by decide +kernel
theorem dX10_way_66 : decode cX10_way 66 = .ok (.bipush 12, 2) := by decide +kernel
theorem dX10_way_68 : decode cX10_way 68 = .ok (.iload 6, 2) := by decide +kernel
theorem dX10_way_70 : decode cX10_way 70 = .ok (.imul, 1) := by decide +kernel
theorem dX10_way_71 : decode cX10_way 71 = .ok (.aload_n 0, 1) := by decide +kernel
theorem dX10_way_72 : decode cX10_way 72 = .ok (.getfield 17, 3) := by decide +kernel
theorem dX10_way_75 : decode cX10_way 75 = .ok (.iload 6, 2) := by decide +kernel
theorem dX10_way_77 : decode cX10_way 77 = .ok (.iaload, 1) := by decide +kernel
theorem dX10_way_78 : decode cX10_way 78 = .ok (.iadd, 1) := by decide +kernel
theorem dX10_way_79 : decode cX10_way 79 = .ok (.if_icmp .ge 133, 3) := by decide +kernel
theorem dX10_way_82 : decode cX10_way 82 = .ok (.aload_n 0, 1) := by decide +kernel
theorem dX10_way_83 : decode cX10_way 83 = .ok (.getfield 61, 3) := by decide +kernel
theorem dX10_way_86 : decode cX10_way 86 = .ok (.iload 6, 2) := by decide +kernel
theorem dX10_way_88 : decode cX10_way 88 = .ok (.baload, 1) := by decide +kernel
theorem dX10_way_89 : decode cX10_way 89 = .ok (.ifCond .eq 123, 3) := by decide +kernel
theorem dX10_way_92 : decode cX10_way 92 = .ok (.aload_n 0, 1) := by decide +kernel
theorem dX10_way_93 : decode cX10_way 93 = .ok (.getfield 23, 3) := by decide +kernel
theorem dX10_way_96 : decode cX10_way 96 = .ok (.iload 7, 2) := by decide +kernel
theorem dX10_way_98 : decode cX10_way 98 = .ok (.iaload, 1) := by decide +kernel
theorem dX10_way_99 : decode cX10_way 99 = .ok (.ifCond .ne 107, 3) := by decide +kernel
theorem dX10_way_102 : decode cX10_way 102 = .ok (.aload_n 0, 1) := by decide +kernel
theorem dX10_way_103 : decode cX10_way 103 = .ok (.getfield 26, 3) := by decide +kernel
theorem dX10_way_106 : decode cX10_way 106 = .ok (.iload 7, 2) := by decide +kernel
theorem dX10_way_108 : decode cX10_way 108 = .ok (.iaload, 1) := by decide +kernel
theorem dX10_way_109 : decode cX10_way 109 = .ok (.iload_n 1, 1) := by decide +kernel
theorem dX10_way_110 : decode cX10_way 110 = .ok (.if_icmp .ne 96, 3) := by decide +kernel
theorem dX10_way_113 : decode cX10_way 113 = .ok (.aload_n 0, 1) := by decide +kernel
theorem dX10_way_114 : decode cX10_way 114 = .ok (.getfield 13, 3) := by decide +kernel
theorem dX10_way_117 : decode cX10_way 117 = .ok (.iload 6, 2) := by decide +kernel
theorem dX10_way_119 : decode cX10_way 119 = .ok (.iaload, 1) := by decide +kernel
theorem dX10_way_120 : decode cX10_way 120 = .ok (.iload_n 1, 1) := by decide +kernel
theorem dX10_way_121 : decode cX10_way 121 = .ok (.ishr, 1) := by decide +kernel
theorem dX10_way_122 : decode cX10_way 122 = .ok (.iconst 1, 1) := by decide +kernel
theorem dX10_way_123 : decode cX10_way 123 = .ok (.iand, 1) := by decide +kernel
theorem dX10_way_124 : decode cX10_way 124 = .ok (.ifCond .eq 82, 3) := by decide +kernel
theorem dX10_way_127 : decode cX10_way 127 = .ok (.aload_n 0, 1) := by decide +kernel
theorem dX10_way_128 : decode cX10_way 128 = .ok (.getfield 65, 3) := by decide +kernel
theorem dX10_way_131 : decode cX10_way 131 = .ok (.bipush 8, 2) := by decide +kernel
theorem dX10_way_133 : decode cX10_way 133 = .ok (.iload 6, 2) := by decide +kernel
theorem dX10_way_135 : decode cX10_way 135 = .ok (.imul, 1) := by decide +kernel
theorem dX10_way_136 : decode cX10_way 136 = .ok (.aload_n 0, 1) := by decide +kernel
theorem dX10_way_137 : decode cX10_way 137 = .ok (.getfield 29, 3) := by decide +kernel
theorem dX10_way_140 : decode cX10_way 140 = .ok (.iload 7, 2) := by decide +kernel
theorem dX10_way_142 : decode cX10_way 142 = .ok (.iaload, 1) := by decide +kernel
theorem dX10_way_143 : decode cX10_way 143 = .ok (.iadd, 1) := by decide +kernel
theorem dX10_way_144 : decode cX10_way 144 = .ok (.iaload, 1) := by decide +kernel
theorem dX10_way_145 : decode cX10_way 145 = .ok (.iconst 1, 1) := by decide +kernel
theorem dX10_way_146 : decode cX10_way 146 = .ok (.iadd, 1) := by decide +kernel
theorem dX10_way_147 : decode cX10_way 147 = .ok (.iload_n 3, 1) := by decide +kernel
theorem dX10_way_148 : decode cX10_way 148 = .ok (.if_icmp .lt 6, 3) := by decide +kernel
theorem dX10_way_151 : decode cX10_way 151 = .ok (.goto 55, 3) := by decide +kernel
theorem dX10_way_154 : decode cX10_way 154 = .ok (.aload_n 0, 1) := by decide +kernel
theorem dX10_way_155 : decode cX10_way 155 = .ok (.getfield 65, 3) := by decide +kernel
theorem dX10_way_158 : decode cX10_way 158 = .ok (.bipush 8, 2) := by decide +kernel
theorem dX10_way_160 : decode cX10_way 160 = .ok (.iload 6, 2) := by decide +kernel
theorem dX10_way_162 : decode cX10_way 162 = .ok (.imul, 1) := by decide +kernel
theorem dX10_way_163 : decode cX10_way 163 = .ok (.aload_n 0, 1) := by decide +kernel
theorem dX10_way_164 : decode cX10_way 164 = .ok (.getfield 29, 3) := by decide +kernel
theorem dX10_way_167 : decode cX10_way 167 = .ok (.iload 7, 2) := by decide +kernel
theorem dX10_way_169 : decode cX10_way 169 = .ok (.iaload, 1) := by decide +kernel
theorem dX10_way_170 : decode cX10_way 170 = .ok (.iadd, 1) := by decide +kernel
theorem dX10_way_171 : decode cX10_way 171 = .ok (.iaload, 1) := by decide +kernel
theorem dX10_way_172 : decode cX10_way 172 = .ok (.iconst 1, 1) := by decide +kernel
theorem dX10_way_173 : decode cX10_way 173 = .ok (.iadd, 1) := by decide +kernel
theorem dX10_way_174 : decode cX10_way 174 = .ok (.istore_n 3, 1) := by decide +kernel
theorem dX10_way_175 : decode cX10_way 175 = .ok (.bipush 100, 2) := by decide +kernel
theorem dX10_way_177 : decode cX10_way 177 = .ok (.iload 6, 2) := by decide +kernel
theorem dX10_way_179 : decode cX10_way 179 = .ok (.imul, 1) := by decide +kernel
theorem dX10_way_180 : decode cX10_way 180 = .ok (.iload 7, 2) := by decide +kernel
theorem dX10_way_182 : decode cX10_way 182 = .ok (.iadd, 1) := by decide +kernel
theorem dX10_way_183 : decode cX10_way 183 = .ok (.bipush 12, 2) := by decide +kernel
theorem dX10_way_185 : decode cX10_way 185 = .ok (.iload 6, 2) := by decide +kernel
theorem dX10_way_187 : decode cX10_way 187 = .ok (.imul, 1) := by decide +kernel
theorem dX10_way_188 : decode cX10_way 188 = .ok (.isub, 1) := by decide +kernel
theorem dX10_way_189 : decode cX10_way 189 = .ok (.istore 4, 2) := by decide +kernel
theorem dX10_way_191 : decode cX10_way 191 = .ok (.bipush 8, 2) := by decide +kernel
theorem dX10_way_193 : decode cX10_way 193 = .ok (.iload 6, 2) := by decide +kernel
theorem dX10_way_195 : decode cX10_way 195 = .ok (.imul, 1) := by decide +kernel
theorem dX10_way_196 : decode cX10_way 196 = .ok (.aload_n 0, 1) := by decide +kernel
theorem dX10_way_197 : decode cX10_way 197 = .ok (.getfield 29, 3) := by decide +kernel
theorem dX10_way_200 : decode cX10_way 200 = .ok (.iload 7, 2) := by decide +kernel
theorem dX10_way_202 : decode cX10_way 202 = .ok (.iaload, 1) := by decide +kernel
theorem dX10_way_203 : decode cX10_way 203 = .ok (.iadd, 1) := by decide +kernel
theorem dX10_way_204 : decode cX10_way 204 = .ok (.istore 5, 2) := by decide +kernel
theorem dX10_way_206 : decode cX10_way 206 = .ok (.iinc 7 1, 3) := by decide +kernel
theorem dX10_way_209 : decode cX10_way 209 = .ok (.goto (-145), 3) := by decide +kernel
theorem dX10_way_212 : decode cX10_way 212 = .ok (.iinc 6 1, 3) := by decide +kernel
theorem dX10_way_215 : decode cX10_way 215 = .ok (.goto (-167), 3) := by decide +kernel
theorem dX10_way_218 : decode cX10_way 218 = .ok (.iload_n 3, 1) := by decide +kernel
theorem dX10_way_219 : decode cX10_way 219 = .ok (.ldc 254, 2) := by decide +kernel
theorem dX10_way_221 : decode cX10_way 221 = .ok (.if_icmp .lt 10, 3) := by decide +kernel
theorem dX10_way_224 : decode cX10_way 224 = .ok (.aload_n 0, 1) := by decide +kernel
theorem dX10_way_225 : decode cX10_way 225 = .ok (.bipush (-2), 2) := by decide +kernel
theorem dX10_way_227 : decode cX10_way 227 = .ok (.invokevirtual 98, 3) := by decide +kernel
theorem dX10_way_230 : decode cX10_way 230 = .ok (.ireturn, 1) := by decide +kernel
theorem dX10_way_231 : decode cX10_way 231 = .ok (.aload_n 0, 1) := by decide +kernel
theorem dX10_way_232 : decode cX10_way 232 = .ok (.iconst 0, 1) := by decide +kernel
theorem dX10_way_233 : decode cX10_way 233 = .ok (.putfield 262, 3) := by decide +kernel
theorem dX10_way_236 : decode cX10_way 236 = .ok (.aload_n 0, 1) := by decide +kernel
theorem dX10_way_237 : decode cX10_way 237 = .ok (.getfield 68, 3) := by decide +kernel
theorem dX10_way_240 : decode cX10_way 240 = .ok (.aload_n 0, 1) := by decide +kernel
theorem dX10_way_241 : decode cX10_way 241 = .ok (.getfield 262, 3) := by decide +kernel
theorem dX10_way_244 : decode cX10_way 244 = .ok (.iload 4, 2) := by decide +kernel
theorem dX10_way_246 : decode cX10_way 246 = .ok (.iastore, 1) := by decide +kernel
theorem dX10_way_247 : decode cX10_way 247 = .ok (.aload_n 0, 1) := by decide +kernel
theorem dX10_way_248 : decode cX10_way 248 = .ok (.dup, 1) := by decide +kernel
theorem dX10_way_249 : decode cX10_way 249 = .ok (.getfield 262, 3) := by decide +kernel
theorem dX10_way_252 : decode cX10_way 252 = .ok (.iconst 1, 1) := by decide +kernel
theorem dX10_way_253 : decode cX10_way 253 = .ok (.iadd, 1) := by decide +kernel
theorem dX10_way_254 : decode cX10_way 254 = .ok (.putfield 262, 3) := by decide +kernel
theorem dX10_way_257 : decode cX10_way 257 = .ok (.iload 5, 2) := by decide +kernel
theorem dX10_way_259 : decode cX10_way 259 = .ok (.bipush 90, 2) := by decide +kernel
theorem dX10_way_261 : decode cX10_way 261 = .ok (.if_icmp .eq 26, 3) := by decide +kernel
theorem dX10_way_264 : decode cX10_way 264 = .ok (.aload_n 0, 1) := by decide +kernel
theorem dX10_way_265 : decode cX10_way 265 = .ok (.iload 5, 2) := by decide +kernel
theorem dX10_way_267 : decode cX10_way 267 = .ok (.iload_n 1, 1) := by decide +kernel
theorem dX10_way_268 : decode cX10_way 268 = .ok (.iload_n 2, 1) := by decide +kernel
theorem dX10_way_269 : decode cX10_way 269 = .ok (.invokevirtual 265, 3) := by decide +kernel
theorem dX10_way_272 : decode cX10_way 272 = .ok (.istore 5, 2) := by decide +kernel
theorem dX10_way_274 : decode cX10_way 274 = .ok (.aload_n 0, 1) := by decide +kernel
theorem dX10_way_275 : decode cX10_way 275 = .ok (.dup, 1) := by decide +kernel
theorem dX10_way_276 : decode cX10_way 276 = .ok (.getfield 262, 3) := by decide +kernel
theorem dX10_way_279 : decode cX10_way 279 = .ok (.iconst 1, 1) := by decide +kernel
theorem dX10_way_280 : decode cX10_way 280 = .ok (.iadd, 1) := by decide +kernel
theorem dX10_way_281 : decode cX10_way 281 = .ok (.putfield 262, 3) := by decide +kernel
theorem dX10_way_284 : decode cX10_way 284 = .ok (.goto (-27), 3) := by decide +kernel
theorem dX10_way_287 : decode cX10_way 287 = .ok (.aload_n 0, 1) := by decide +kernel
theorem dX10_way_288 : decode cX10_way 288 = .ok (.iload_n 3, 1) := by decide +kernel
theorem dX10_way_289 : decode cX10_way 289 = .ok (.invokevirtual 98, 3) := by decide +kernel
theorem dX10_way_292 : decode cX10_way 292 = .ok (.ireturn, 1) := by decide +kernel
theorem dX10_follows_0 : decode cX10_follows 0 = .ok (.iconst 0, 1) := by decide +kernel
theorem dX10_follows_1 : decode cX10_follows 1 = .ok (.istore 4, 2) := by decide +kernel
theorem dX10_follows_3 : decode cX10_follows 3 = .ok (.iload 4, 2) := by decide +kernel
theorem dX10_follows_5 : decode cX10_follows 5 = .ok (.aload_n 0, 1) := by decide +kernel
theorem dX10_follows_6 : decode cX10_follows 6 = .ok (.getfield 86, 3) := by decide +kernel
theorem dX10_follows_9 : decode cX10_follows 9 = .ok (.if_icmp .ge 117, 3) := by decide +kernel
theorem dX10_follows_12 : decode cX10_follows 12 = .ok (.bipush 12, 2) := by decide +kernel
theorem dX10_follows_14 : decode cX10_follows 14 = .ok (.iload 4, 2) := by decide +kernel
theorem dX10_follows_16 : decode cX10_follows 16 = .ok (.imul, 1) := by decide +kernel
theorem dX10_follows_17 : decode cX10_follows 17 = .ok (.istore 5, 2) := by decide +kernel
theorem dX10_follows_19 : decode cX10_follows 19 = .ok (.iload 5, 2) := by decide +kernel
theorem dX10_follows_21 : decode cX10_follows 21 = .ok (.bipush 12, 2) := by decide +kernel
theorem dX10_follows_23 : decode cX10_follows 23 = .ok (.iload 4, 2) := by decide +kernel
theorem dX10_follows_25 : decode cX10_follows 25 = .ok (.imul, 1) := by decide +kernel
theorem dX10_follows_26 : decode cX10_follows 26 = .ok (.aload_n 0, 1) := by decide +kernel
theorem dX10_follows_27 : decode cX10_follows 27 = .ok (.getfield 17, 3) := by decide +kernel
theorem dX10_follows_30 : decode cX10_follows 30 = .ok (.iload 4, 2) := by decide +kernel
theorem dX10_follows_32 : decode cX10_follows 32 = .ok (.iaload, 1) := by decide +kernel
theorem dX10_follows_33 : decode cX10_follows 33 = .ok (.iadd, 1) := by decide +kernel
theorem dX10_follows_34 : decode cX10_follows 34 = .ok (.if_icmp .ge 86, 3) := by decide +kernel
theorem dX10_follows_37 : decode cX10_follows 37 = .ok (.aload_n 0, 1) := by decide +kernel
theorem dX10_follows_38 : decode cX10_follows 38 = .ok (.getfield 61, 3) := by decide +kernel
theorem dX10_follows_41 : decode cX10_follows 41 = .ok (.iload 4, 2) := by decide +kernel
theorem dX10_follows_43 : decode cX10_follows 43 = .ok (.baload, 1) := by decide +kernel
theorem dX10_follows_44 : decode cX10_follows 44 = .ok (.ifCond .eq 76, 3) := by decide +kernel
theorem dX10_follows_47 : decode cX10_follows 47 = .ok (.aload_n 0, 1) := by decide +kernel
theorem dX10_follows_48 : decode cX10_follows 48 = .ok (.iload_n 1, 1) := by decide +kernel
theorem dX10_follows_49 : decode cX10_follows 49 = .ok (.iload 4, 2) := by decide +kernel
theorem dX10_follows_51 : decode cX10_follows 51 = .ok (.iload 5, 2) := by decide +kernel
theorem dX10_follows_53 : decode cX10_follows 53 = .ok (.iload_n 2, 1) := by decide +kernel
theorem dX10_follows_54 : decode cX10_follows 54 = .ok (.iload_n 3, 1) := by decide +kernel
theorem dX10_follows_55 : decode cX10_follows 55 = .ok (.invokevirtual 255, 3) := by decide +kernel
theorem dX10_follows_58 : decode cX10_follows 58 = .ok (.istore 6, 2) := by decide +kernel
theorem dX10_follows_60 : decode cX10_follows 60 = .ok (.iload 6, 2) := by decide +kernel
theorem dX10_follows_62 : decode cX10_follows 62 = .ok (.bipush (-2), 2) := by decide +kernel
theorem dX10_follows_64 : decode cX10_follows 64 = .ok (.if_icmp .eq 50, 3) := by decide +kernel
theorem dX10_follows_67 : decode cX10_follows 67 = .ok (.aload_n 0, 1) := by decide +kernel
theorem dX10_follows_68 : decode cX10_follows 68 = .ok (.getfield 65, 3) := by decide +kernel
theorem dX10_follows_71 : decode cX10_follows 71 = .ok (.iload 6, 2) := by decide +kernel
theorem dX10_follows_73 : decode cX10_follows 73 = .ok (.iaload, 1) := by decide +kernel
theorem dX10_follows_74 : decode cX10_follows 74 = .ok (.iconst 1, 1) := by decide +kernel
theorem dX10_follows_75 : decode cX10_follows 75 = .ok (.iadd, 1) := by decide +kernel
theorem dX10_follows_76 : decode cX10_follows 76 = .ok (.aload_n 0, 1) := by decide +kernel
theorem dX10_follows_77 : decode cX10_follows 77 = .ok (.getfield 65, 3) := by decide +kernel
theorem dX10_follows_80 : decode cX10_follows 80 = .ok (.iload_n 1, 1) := by decide +kernel
theorem dX10_follows_81 : decode cX10_follows 81 = .ok (.iaload, 1) := by decide +kernel
theorem dX10_follows_82 : decode cX10_follows 82 = .ok (.if_icmp .eq 6, 3) := by decide +kernel
theorem dX10_follows_85 : decode cX10_follows 85 = .ok (.goto 29, 3) := by decide +kernel
theorem dX10_follows_88 : decode cX10_follows 88 = .ok (.aload_n 0, 1) := by decide +kernel
theorem dX10_follows_89 : decode cX10_follows 89 = .ok (.getfield 68, 3) := by decide +kernel
theorem dX10_follows_92 : decode cX10_follows 92 = .ok (.aload_n 0, 1) := by decide +kernel
theorem dX10_follows_93 : decode cX10_follows 93 = .ok (.getfield 262, 3) := by decide +kernel
theorem dX10_follows_96 : decode cX10_follows 96 = .ok (.bipush 100, 2) := by decide +kernel
theorem dX10_follows_98 : decode cX10_follows 98 = .ok (.iload 4, 2) := by decide +kernel
theorem dX10_follows_100 : decode cX10_follows 100 = .ok (.imul, 1) := by decide +kernel
theorem dX10_follows_101 : decode cX10_follows 101 = .ok (.iload 5, 2) := by decide +kernel
theorem dX10_follows_103 : decode cX10_follows 103 = .ok (.iadd, 1) := by decide +kernel
theorem dX10_follows_104 : decode cX10_follows 104 = .ok (.bipush 12, 2) := by decide +kernel
theorem dX10_follows_106 : decode cX10_follows 106 = .ok (.iload 4, 2) := by decide +kernel
theorem dX10_follows_108 : decode cX10_follows 108 = .ok (.imul, 1) := by decide +kernel
theorem dX10_follows_109 : decode cX10_follows 109 = .ok (.isub, 1) := by decide +kernel
theorem dX10_follows_110 : decode cX10_follows 110 = .ok (.iastore, 1) := by decide +kernel
theorem dX10_follows_111 : decode cX10_follows 111 = .ok (.iload 6, 2) := by decide +kernel
theorem dX10_follows_113 : decode cX10_follows 113 = .ok (.ireturn, 1) := by decide +kernel
theorem dX10_follows_114 : decode cX10_follows 114 = .ok (.iinc 5 1, 3) := by decide +kernel
theorem dX10_follows_117 : decode cX10_follows 117 = .ok (.goto (-98), 3) := by decide +kernel
theorem dX10_follows_120 : decode cX10_follows 120 = .ok (.iinc 4 1, 3) := by decide +kernel
theorem dX10_follows_123 : decode cX10_follows 123 = .ok (.goto (-120), 3) := by decide +kernel
theorem dX10_follows_126 : decode cX10_follows 126 = .ok (.bipush 90, 2) := by decide +kernel
theorem dX10_follows_128 : decode cX10_follows 128 = .ok (.ireturn, 1) := by decide +kernel
theorem dX10_step_0 : decode cX10_step 0 = .ok (.aload_n 0, 1) := by decide +kernel
theorem dX10_step_1 : decode cX10_step 1 = .ok (.iload_n 1, 1) := by decide +kernel
theorem dX10_step_2 : decode cX10_step 2 = .ok (.ifCond .lt 11, 3) := by decide +kernel
theorem dX10_step_5 : decode cX10_step 5 = .ok (.iload_n 1, 1) := by decide +kernel
theorem dX10_step_6 : decode cX10_step 6 = .ok (.aload_n 0, 1) := by decide +kernel
theorem dX10_step_7 : decode cX10_step 7 = .ok (.getfield 262, 3) := by decide +kernel
theorem dX10_step_10 : decode cX10_step 10 = .ok (.if_icmp .lt 7, 3) := by decide +kernel
theorem dX10_step_13 : decode cX10_step 13 = .ok (.iconst 1, 1) := by decide +kernel
theorem dX10_step_14 : decode cX10_step 14 = .ok (.goto 4, 3) := by decide +kernel
theorem dX10_step_17 : decode cX10_step 17 = .ok (.iconst 0, 1) := by decide +kernel
theorem dX10_step_18 : decode cX10_step 18 = .ok (.putfield 80, 3) := by decide +kernel
theorem dX10_step_21 : decode cX10_step 21 = .ok (.aload_n 0, 1) := by decide +kernel
theorem dX10_step_22 : decode cX10_step 22 = .ok (.getfield 80, 3) := by decide +kernel
theorem dX10_step_25 : decode cX10_step 25 = .ok (.ifCond .le 7, 3) := by decide +kernel
theorem dX10_step_28 : decode cX10_step 28 = .ok (.iconst 0, 1) := by decide +kernel
theorem dX10_step_29 : decode cX10_step 29 = .ok (.goto 9, 3) := by decide +kernel
theorem dX10_step_32 : decode cX10_step 32 = .ok (.aload_n 0, 1) := by decide +kernel
theorem dX10_step_33 : decode cX10_step 33 = .ok (.getfield 68, 3) := by decide +kernel
theorem dX10_step_36 : decode cX10_step 36 = .ok (.iload_n 1, 1) := by decide +kernel
theorem dX10_step_37 : decode cX10_step 37 = .ok (.iaload, 1) := by decide +kernel
theorem dX10_step_38 : decode cX10_step 38 = .ok (.ireturn, 1) := by decide +kernel
theorem dX10_neededOf_0 : decode cX10_neededOf 0 = .ok (.iconst 0, 1) := by decide +kernel
theorem dX10_neededOf_1 : decode cX10_neededOf 1 = .ok (.istore_n 2, 1) := by decide +kernel
theorem dX10_neededOf_2 : decode cX10_neededOf 2 = .ok (.bipush 12, 2) := by decide +kernel
theorem dX10_neededOf_4 : decode cX10_neededOf 4 = .ok (.iload_n 1, 1) := by decide +kernel
theorem dX10_neededOf_5 : decode cX10_neededOf 5 = .ok (.imul, 1) := by decide +kernel
theorem dX10_neededOf_6 : decode cX10_neededOf 6 = .ok (.istore_n 3, 1) := by decide +kernel
theorem dX10_neededOf_7 : decode cX10_neededOf 7 = .ok (.iload_n 3, 1) := by decide +kernel
theorem dX10_neededOf_8 : decode cX10_neededOf 8 = .ok (.bipush 12, 2) := by decide +kernel
theorem dX10_neededOf_10 : decode cX10_neededOf 10 = .ok (.iload_n 1, 1) := by decide +kernel
theorem dX10_neededOf_11 : decode cX10_neededOf 11 = .ok (.imul, 1) := by decide +kernel
theorem dX10_neededOf_12 : decode cX10_neededOf 12 = .ok (.aload_n 0, 1) := by decide +kernel
theorem dX10_neededOf_13 : decode cX10_neededOf 13 = .ok (.getfield 17, 3) := by decide +kernel
theorem dX10_neededOf_16 : decode cX10_neededOf 16 = .ok (.iload_n 1, 1) := by decide +kernel
theorem dX10_neededOf_17 : decode cX10_neededOf 17 = .ok (.iaload, 1) := by decide +kernel
theorem dX10_neededOf_18 : decode cX10_neededOf 18 = .ok (.iadd, 1) := by decide +kernel
theorem dX10_neededOf_19 : decode cX10_neededOf 19 = .ok (.if_icmp .ge 52, 3) := by decide +kernel
theorem dX10_neededOf_22 : decode cX10_neededOf 22 = .ok (.aload_n 0, 1) := by decide +kernel
theorem dX10_neededOf_23 : decode cX10_neededOf 23 = .ok (.getfield 61, 3) := by decide +kernel
theorem dX10_neededOf_26 : decode cX10_neededOf 26 = .ok (.iload_n 1, 1) := by decide +kernel
theorem dX10_neededOf_27 : decode cX10_neededOf 27 = .ok (.baload, 1) := by decide +kernel
theorem dX10_neededOf_28 : decode cX10_neededOf 28 = .ok (.ifCond .eq 43, 3) := by decide +kernel
theorem dX10_neededOf_31 : decode cX10_neededOf 31 = .ok (.iload_n 2, 1) := by decide +kernel
theorem dX10_neededOf_32 : decode cX10_neededOf 32 = .ok (.aload_n 0, 1) := by decide +kernel
theorem dX10_neededOf_33 : decode cX10_neededOf 33 = .ok (.getfield 23, 3) := by decide +kernel
theorem dX10_neededOf_36 : decode cX10_neededOf 36 = .ok (.iload_n 3, 1) := by decide +kernel
theorem dX10_neededOf_37 : decode cX10_neededOf 37 = .ok (.iaload, 1) := by decide +kernel
theorem dX10_neededOf_38 : decode cX10_neededOf 38 = .ok (.ifCond .eq 13, 3) := by decide +kernel
theorem dX10_neededOf_41 : decode cX10_neededOf 41 = .ok (.aload_n 0, 1) := by decide +kernel
theorem dX10_neededOf_42 : decode cX10_neededOf 42 = .ok (.getfield 23, 3) := by decide +kernel
theorem dX10_neededOf_45 : decode cX10_neededOf 45 = .ok (.iload_n 3, 1) := by decide +kernel
theorem dX10_neededOf_46 : decode cX10_neededOf 46 = .ok (.iaload, 1) := by decide +kernel
theorem dX10_neededOf_47 : decode cX10_neededOf 47 = .ok (.iconst 3, 1) := by decide +kernel
theorem dX10_neededOf_48 : decode cX10_neededOf 48 = .ok (.if_icmp .ne 14, 3) := by decide +kernel
theorem dX10_neededOf_51 : decode cX10_neededOf 51 = .ok (.iconst 1, 1) := by decide +kernel
theorem dX10_neededOf_52 : decode cX10_neededOf 52 = .ok (.aload_n 0, 1) := by decide +kernel
theorem dX10_neededOf_53 : decode cX10_neededOf 53 = .ok (.getfield 26, 3) := by decide +kernel
theorem dX10_neededOf_56 : decode cX10_neededOf 56 = .ok (.iload_n 3, 1) := by decide +kernel
theorem dX10_neededOf_57 : decode cX10_neededOf 57 = .ok (.iaload, 1) := by decide +kernel
theorem dX10_neededOf_58 : decode cX10_neededOf 58 = .ok (.ishl, 1) := by decide +kernel
theorem dX10_neededOf_59 : decode cX10_neededOf 59 = .ok (.goto 4, 3) := by decide +kernel
theorem dX10_neededOf_62 : decode cX10_neededOf 62 = .ok (.iconst 0, 1) := by decide +kernel
theorem dX10_neededOf_63 : decode cX10_neededOf 63 = .ok (.ior, 1) := by decide +kernel
theorem dX10_neededOf_64 : decode cX10_neededOf 64 = .ok (.istore_n 2, 1) := by decide +kernel
theorem dX10_neededOf_65 : decode cX10_neededOf 65 = .ok (.iinc 3 1, 3) := by decide +kernel
theorem dX10_neededOf_68 : decode cX10_neededOf 68 = .ok (.goto (-61), 3) := by decide +kernel
theorem dX10_neededOf_71 : decode cX10_neededOf 71 = .ok (.iload_n 2, 1) := by decide +kernel
theorem dX10_neededOf_72 : decode cX10_neededOf 72 = .ok (.ireturn, 1) := by decide +kernel
theorem dX10_needed_0 : decode cX10_needed 0 = .ok (.aload_n 0, 1) := by decide +kernel
theorem dX10_needed_1 : decode cX10_needed 1 = .ok (.iconst 0, 1) := by decide +kernel
theorem dX10_needed_2 : decode cX10_needed 2 = .ok (.putfield 80, 3) := by decide +kernel
theorem dX10_needed_5 : decode cX10_needed 5 = .ok (.aload_n 0, 1) := by decide +kernel
theorem dX10_needed_6 : decode cX10_needed 6 = .ok (.iload_n 1, 1) := by decide +kernel
theorem dX10_needed_7 : decode cX10_needed 7 = .ok (.invokevirtual 101, 3) := by decide +kernel
theorem dX10_needed_10 : decode cX10_needed 10 = .ok (.ifCond .ne 5, 3) := by decide +kernel
theorem dX10_needed_13 : decode cX10_needed 13 = .ok (.iconst (-1), 1) := by decide +kernel
theorem dX10_needed_14 : decode cX10_needed 14 = .ok (.ireturn, 1) := by decide +kernel
theorem dX10_needed_15 : decode cX10_needed 15 = .ok (.aload_n 0, 1) := by decide +kernel
theorem dX10_needed_16 : decode cX10_needed 16 = .ok (.invokevirtual 231, 3) := by decide +kernel
theorem dX10_needed_19 : decode cX10_needed 19 = .ok (.aload_n 0, 1) := by decide +kernel
theorem dX10_needed_20 : decode cX10_needed 20 = .ok (.iload_n 1, 1) := by decide +kernel
theorem dX10_needed_21 : decode cX10_needed 21 = .ok (.invokevirtual 269, 3) := by decide +kernel
theorem dX10_needed_24 : decode cX10_needed 24 = .ok (.ireturn, 1) := by decide +kernel
theorem dX10_idle_0 : decode cX10_idle 0 = .ok (.aload_n 0, 1) := by decide +kernel
theorem dX10_idle_1 : decode cX10_idle 1 = .ok (.iconst 0, 1) := by decide +kernel
theorem dX10_idle_2 : decode cX10_idle 2 = .ok (.putfield 80, 3) := by decide +kernel
theorem dX10_idle_5 : decode cX10_idle 5 = .ok (.aload_n 0, 1) := by decide +kernel
theorem dX10_idle_6 : decode cX10_idle 6 = .ok (.iload_n 1, 1) := by decide +kernel
theorem dX10_idle_7 : decode cX10_idle 7 = .ok (.invokevirtual 101, 3) := by decide +kernel
theorem dX10_idle_10 : decode cX10_idle 10 = .ok (.ifCond .ne 5, 3) := by decide +kernel
theorem dX10_idle_13 : decode cX10_idle 13 = .ok (.iconst (-1), 1) := by decide +kernel
theorem dX10_idle_14 : decode cX10_idle 14 = .ok (.ireturn, 1) := by decide +kernel
theorem dX10_idle_15 : decode cX10_idle 15 = .ok (.aload_n 0, 1) := by decide +kernel
theorem dX10_idle_16 : decode cX10_idle 16 = .ok (.invokevirtual 231, 3) := by decide +kernel
theorem dX10_idle_19 : decode cX10_idle 19 = .ok (.aload_n 0, 1) := by decide +kernel
theorem dX10_idle_20 : decode cX10_idle 20 = .ok (.getfield 13, 3) := by decide +kernel
theorem dX10_idle_23 : decode cX10_idle 23 = .ok (.iload_n 1, 1) := by decide +kernel
theorem dX10_idle_24 : decode cX10_idle 24 = .ok (.iaload, 1) := by decide +kernel
theorem dX10_idle_25 : decode cX10_idle 25 = .ok (.aload_n 0, 1) := by decide +kernel
theorem dX10_idle_26 : decode cX10_idle 26 = .ok (.iload_n 1, 1) := by decide +kernel
theorem dX10_idle_27 : decode cX10_idle 27 = .ok (.invokevirtual 269, 3) := by decide +kernel
theorem dX10_idle_30 : decode cX10_idle 30 = .ok (.iconst (-1), 1) := by decide +kernel
theorem dX10_idle_31 : decode cX10_idle 31 = .ok (.ixor, 1) := by decide +kernel
theorem dX10_idle_32 : decode cX10_idle 32 = .ok (.iand, 1) := by decide +kernel
theorem dX10_idle_33 : decode cX10_idle 33 = .ok (.ireturn, 1) := by decide +kernel
theorem dX10_lacking_0 : decode cX10_lacking 0 = .ok (.aload_n 0, 1) := by decide +kernel
theorem dX10_lacking_1 : decode cX10_lacking 1 = .ok (.iconst 0, 1) := by decide +kernel
theorem dX10_lacking_2 : decode cX10_lacking 2 = .ok (.putfield 80, 3) := by decide +kernel
theorem dX10_lacking_5 : decode cX10_lacking 5 = .ok (.aload_n 0, 1) := by decide +kernel
theorem dX10_lacking_6 : decode cX10_lacking 6 = .ok (.iload_n 1, 1) := by decide +kernel
theorem dX10_lacking_7 : decode cX10_lacking 7 = .ok (.invokevirtual 101, 3) := by decide +kernel
theorem dX10_lacking_10 : decode cX10_lacking 10 = .ok (.ifCond .ne 5, 3) := by decide +kernel
theorem dX10_lacking_13 : decode cX10_lacking 13 = .ok (.iconst (-1), 1) := by decide +kernel
theorem dX10_lacking_14 : decode cX10_lacking 14 = .ok (.ireturn, 1) := by decide +kernel
theorem dX10_lacking_15 : decode cX10_lacking 15 = .ok (.aload_n 0, 1) := by decide +kernel
theorem dX10_lacking_16 : decode cX10_lacking 16 = .ok (.invokevirtual 231, 3) := by decide +kernel
theorem dX10_lacking_19 : decode cX10_lacking 19 = .ok (.aload_n 0, 1) := by decide +kernel
theorem dX10_lacking_20 : decode cX10_lacking 20 = .ok (.iload_n 1, 1) := by decide +kernel
theorem dX10_lacking_21 : decode cX10_lacking 21 = .ok (.invokevirtual 269, 3) := by decide +kernel
theorem dX10_lacking_24 : decode cX10_lacking 24 = .ok (.aload_n 0, 1) := by decide +kernel
theorem dX10_lacking_25 : decode cX10_lacking 25 = .ok (.getfield 13, 3) := by decide +kernel
theorem dX10_lacking_28 : decode cX10_lacking 28 = .ok (.iload_n 1, 1) := by decide +kernel
theorem dX10_lacking_29 : decode cX10_lacking 29 = .ok (.iaload, 1) := by decide +kernel
theorem dX10_lacking_30 : decode cX10_lacking 30 = .ok (.iconst (-1), 1) := by decide +kernel
theorem dX10_lacking_31 : decode cX10_lacking 31 = .ok (.ixor, 1) := by decide +kernel
theorem dX10_lacking_32 : decode cX10_lacking 32 = .ok (.iand, 1) := by decide +kernel
theorem dX10_lacking_33 : decode cX10_lacking 33 = .ok (.ireturn, 1) := by decide +kernel
theorem dX10_helped_0 : decode cX10_helped 0 = .ok (.aload_n 0, 1) := by decide +kernel
theorem dX10_helped_1 : decode cX10_helped 1 = .ok (.iconst 0, 1) := by decide +kernel
theorem dX10_helped_2 : decode cX10_helped 2 = .ok (.putfield 80, 3) := by decide +kernel
theorem dX10_helped_5 : decode cX10_helped 5 = .ok (.aload_n 0, 1) := by decide +kernel
theorem dX10_helped_6 : decode cX10_helped 6 = .ok (.iload_n 1, 1) := by decide +kernel
theorem dX10_helped_7 : decode cX10_helped 7 = .ok (.invokevirtual 101, 3) := by decide +kernel
theorem dX10_helped_10 : decode cX10_helped 10 = .ok (.ifCond .ne 5, 3) := by decide +kernel
theorem dX10_helped_13 : decode cX10_helped 13 = .ok (.iconst (-1), 1) := by decide +kernel
theorem dX10_helped_14 : decode cX10_helped 14 = .ok (.ireturn, 1) := by decide +kernel
theorem dX10_helped_15 : decode cX10_helped 15 = .ok (.aload_n 0, 1) := by decide +kernel
theorem dX10_helped_16 : decode cX10_helped 16 = .ok (.invokevirtual 231, 3) := by decide +kernel
theorem dX10_helped_19 : decode cX10_helped 19 = .ok (.aload_n 0, 1) := by decide +kernel
theorem dX10_helped_20 : decode cX10_helped 20 = .ok (.getfield 61, 3) := by decide +kernel
theorem dX10_helped_23 : decode cX10_helped 23 = .ok (.iload_n 1, 1) := by decide +kernel
theorem dX10_helped_24 : decode cX10_helped 24 = .ok (.baload, 1) := by decide +kernel
theorem dX10_helped_25 : decode cX10_helped 25 = .ok (.ifCond .ne 5, 3) := by decide +kernel
theorem dX10_helped_28 : decode cX10_helped 28 = .ok (.iconst 0, 1) := by decide +kernel
theorem dX10_helped_29 : decode cX10_helped 29 = .ok (.ireturn, 1) := by decide +kernel
theorem dX10_helped_30 : decode cX10_helped 30 = .ok (.iconst 0, 1) := by decide +kernel
theorem dX10_helped_31 : decode cX10_helped 31 = .ok (.istore_n 2, 1) := by decide +kernel
theorem dX10_helped_32 : decode cX10_helped 32 = .ok (.iconst (-1), 1) := by decide +kernel
theorem dX10_helped_33 : decode cX10_helped 33 = .ok (.istore_n 3, 1) := by decide +kernel
theorem dX10_helped_34 : decode cX10_helped 34 = .ok (.iload_n 2, 1) := by decide +kernel
theorem dX10_helped_35 : decode cX10_helped 35 = .ok (.iload_n 3, 1) := by decide +kernel
theorem dX10_helped_36 : decode cX10_helped 36 = .ok (.if_icmp .eq 102, 3) := by decide +kernel
theorem dX10_helped_39 : decode cX10_helped 39 = .ok (.iload_n 2, 1) := by decide +kernel
theorem dX10_helped_40 : decode cX10_helped 40 = .ok (.istore_n 3, 1) := by decide +kernel
theorem dX10_helped_41 : decode cX10_helped 41 = .ok (.iconst 0, 1) := by decide +kernel
theorem dX10_helped_42 : decode cX10_helped 42 = .ok (.istore 4, 2) := by decide +kernel
theorem dX10_helped_44 : decode cX10_helped 44 = .ok (.iload 4, 2) := by decide +kernel
theorem dX10_helped_46 : decode cX10_helped 46 = .ok (.aload_n 0, 1) := by decide +kernel
theorem dX10_helped_47 : decode cX10_helped 47 = .ok (.getfield 86, 3) := by decide +kernel
theorem dX10_helped_50 : decode cX10_helped 50 = .ok (.if_icmp .ge 85, 3) := by decide +kernel
theorem dX10_helped_53 : decode cX10_helped 53 = .ok (.iload 4, 2) := by decide +kernel
theorem dX10_helped_55 : decode cX10_helped 55 = .ok (.iload_n 1, 1) := by decide +kernel
theorem dX10_helped_56 : decode cX10_helped 56 = .ok (.if_icmp .eq 15, 3) := by decide +kernel
theorem dX10_helped_59 : decode cX10_helped 59 = .ok (.iload_n 2, 1) := by decide +kernel
theorem dX10_helped_60 : decode cX10_helped 60 = .ok (.iload 4, 2) := by decide +kernel
theorem dX10_helped_62 : decode cX10_helped 62 = .ok (.ishr, 1) := by decide +kernel
theorem dX10_helped_63 : decode cX10_helped 63 = .ok (.iconst 1, 1) := by decide +kernel
theorem dX10_helped_64 : decode cX10_helped 64 = .ok (.iand, 1) := by decide +kernel
theorem dX10_helped_65 : decode cX10_helped 65 = .ok (.ifCond .ne 6, 3) := by decide +kernel
theorem dX10_helped_68 : decode cX10_helped 68 = .ok (.goto 61, 3) := by decide +kernel
theorem dX10_helped_71 : decode cX10_helped 71 = .ok (.bipush 12, 2) := by decide +kernel
theorem dX10_helped_73 : decode cX10_helped 73 = .ok (.iload 4, 2) := by decide +kernel
theorem dX10_helped_75 : decode cX10_helped 75 = .ok (.imul, 1) := by decide +kernel
theorem dX10_helped_76 : decode cX10_helped 76 = .ok (.istore 5, 2) := by decide +kernel
theorem dX10_helped_78 : decode cX10_helped 78 = .ok (.iload 5, 2) := by decide +kernel
theorem dX10_helped_80 : decode cX10_helped 80 = .ok (.bipush 12, 2) := by decide +kernel
theorem dX10_helped_82 : decode cX10_helped 82 = .ok (.iload 4, 2) := by decide +kernel
theorem dX10_helped_84 : decode cX10_helped 84 = .ok (.imul, 1) := by decide +kernel
theorem dX10_helped_85 : decode cX10_helped 85 = .ok (.aload_n 0, 1) := by decide +kernel
theorem dX10_helped_86 : decode cX10_helped 86 = .ok (.getfield 17, 3) := by decide +kernel
theorem dX10_helped_89 : decode cX10_helped 89 = .ok (.iload 4, 2) := by decide +kernel
theorem dX10_helped_91 : decode cX10_helped 91 = .ok (.iaload, 1) := by decide +kernel
theorem dX10_helped_92 : decode cX10_helped 92 = .ok (.iadd, 1) := by decide +kernel
theorem dX10_helped_93 : decode cX10_helped 93 = .ok (.if_icmp .ge 36, 3) := by decide +kernel
theorem dX10_helped_96 : decode cX10_helped 96 = .ok (.iload_n 2, 1) := by decide +kernel
theorem dX10_helped_97 : decode cX10_helped 97 = .ok (.aload_n 0, 1) := by decide +kernel
theorem dX10_helped_98 : decode cX10_helped 98 = .ok (.getfield 23, 3) := by decide +kernel
theorem dX10_helped_101 : decode cX10_helped 101 = .ok (.iload 5, 2) := by decide +kernel
theorem dX10_helped_103 : decode cX10_helped 103 = .ok (.iaload, 1) := by decide +kernel
theorem dX10_helped_104 : decode cX10_helped 104 = .ok (.iconst 2, 1) := by decide +kernel
theorem dX10_helped_105 : decode cX10_helped 105 = .ok (.if_icmp .ne 15, 3) := by decide +kernel
theorem dX10_helped_108 : decode cX10_helped 108 = .ok (.iconst 1, 1) := by decide +kernel
theorem dX10_helped_109 : decode cX10_helped 109 = .ok (.aload_n 0, 1) := by decide +kernel
theorem dX10_helped_110 : decode cX10_helped 110 = .ok (.getfield 26, 3) := by decide +kernel
theorem dX10_helped_113 : decode cX10_helped 113 = .ok (.iload 5, 2) := by decide +kernel
theorem dX10_helped_115 : decode cX10_helped 115 = .ok (.iaload, 1) := by decide +kernel
theorem dX10_helped_116 : decode cX10_helped 116 = .ok (.ishl, 1) := by decide +kernel
theorem dX10_helped_117 : decode cX10_helped 117 = .ok (.goto 4, 3) := by decide +kernel
theorem dX10_helped_120 : decode cX10_helped 120 = .ok (.iconst 0, 1) := by decide +kernel
theorem dX10_helped_121 : decode cX10_helped 121 = .ok (.ior, 1) := by decide +kernel
theorem dX10_helped_122 : decode cX10_helped 122 = .ok (.istore_n 2, 1) := by decide +kernel
theorem dX10_helped_123 : decode cX10_helped 123 = .ok (.iinc 5 1, 3) := by decide +kernel
theorem dX10_helped_126 : decode cX10_helped 126 = .ok (.goto (-48), 3) := by decide +kernel
theorem dX10_helped_129 : decode cX10_helped 129 = .ok (.iinc 4 1, 3) := by decide +kernel
theorem dX10_helped_132 : decode cX10_helped 132 = .ok (.goto (-88), 3) := by decide +kernel
theorem dX10_helped_135 : decode cX10_helped 135 = .ok (.goto (-101), 3) := by decide +kernel
theorem dX10_helped_138 : decode cX10_helped 138 = .ok (.iconst 0, 1) := by decide +kernel
theorem dX10_helped_139 : decode cX10_helped 139 = .ok (.istore 4, 2) := by decide +kernel
theorem dX10_helped_141 : decode cX10_helped 141 = .ok (.iconst 0, 1) := by decide +kernel
theorem dX10_helped_142 : decode cX10_helped 142 = .ok (.istore 5, 2) := by decide +kernel
theorem dX10_helped_144 : decode cX10_helped 144 = .ok (.iload 5, 2) := by decide +kernel
theorem dX10_helped_146 : decode cX10_helped 146 = .ok (.aload_n 0, 1) := by decide +kernel
theorem dX10_helped_147 : decode cX10_helped 147 = .ok (.getfield 86, 3) := by decide +kernel
theorem dX10_helped_150 : decode cX10_helped 150 = .ok (.if_icmp .ge 42, 3) := by decide +kernel
theorem dX10_helped_153 : decode cX10_helped 153 = .ok (.iload 4, 2) := by decide +kernel
theorem dX10_helped_155 : decode cX10_helped 155 = .ok (.iload_n 2, 1) := by decide +kernel
theorem dX10_helped_156 : decode cX10_helped 156 = .ok (.iload 5, 2) := by decide +kernel
theorem dX10_helped_158 : decode cX10_helped 158 = .ok (.ishr, 1) := by decide +kernel
theorem dX10_helped_159 : decode cX10_helped 159 = .ok (.iconst 1, 1) := by decide +kernel
theorem dX10_helped_160 : decode cX10_helped 160 = .ok (.iand, 1) := by decide +kernel
theorem dX10_helped_161 : decode cX10_helped 161 = .ok (.iconst 1, 1) := by decide +kernel
theorem dX10_helped_162 : decode cX10_helped 162 = .ok (.if_icmp .ne 20, 3) := by decide +kernel
theorem dX10_helped_165 : decode cX10_helped 165 = .ok (.aload_n 0, 1) := by decide +kernel
theorem dX10_helped_166 : decode cX10_helped 166 = .ok (.getfield 13, 3) := by decide +kernel
theorem dX10_helped_169 : decode cX10_helped 169 = .ok (.iload 5, 2) := by decide +kernel
theorem dX10_helped_171 : decode cX10_helped 171 = .ok (.iaload, 1) := by decide +kernel
theorem dX10_helped_172 : decode cX10_helped 172 = .ok (.aload_n 0, 1) := by decide +kernel
theorem dX10_helped_173 : decode cX10_helped 173 = .ok (.iload 5, 2) := by decide +kernel
theorem dX10_helped_175 : decode cX10_helped 175 = .ok (.invokevirtual 269, 3) := by decide +kernel
theorem dX10_helped_178 : decode cX10_helped 178 = .ok (.iand, 1) := by decide +kernel
theorem dX10_helped_179 : decode cX10_helped 179 = .ok (.goto 4, 3) := by decide +kernel
theorem dX10_helped_182 : decode cX10_helped 182 = .ok (.iconst 0, 1) := by decide +kernel
theorem dX10_helped_183 : decode cX10_helped 183 = .ok (.ior, 1) := by decide +kernel
theorem dX10_helped_184 : decode cX10_helped 184 = .ok (.istore 4, 2) := by decide +kernel
theorem dX10_helped_186 : decode cX10_helped 186 = .ok (.iinc 5 1, 3) := by decide +kernel
theorem dX10_helped_189 : decode cX10_helped 189 = .ok (.goto (-45), 3) := by decide +kernel
theorem dX10_helped_192 : decode cX10_helped 192 = .ok (.iload 4, 2) := by decide +kernel
theorem dX10_helped_194 : decode cX10_helped 194 = .ok (.aload_n 0, 1) := by decide +kernel
theorem dX10_helped_195 : decode cX10_helped 195 = .ok (.getfield 13, 3) := by decide +kernel
theorem dX10_helped_198 : decode cX10_helped 198 = .ok (.iload_n 1, 1) := by decide +kernel
theorem dX10_helped_199 : decode cX10_helped 199 = .ok (.iaload, 1) := by decide +kernel
theorem dX10_helped_200 : decode cX10_helped 200 = .ok (.iconst (-1), 1) := by decide +kernel
theorem dX10_helped_201 : decode cX10_helped 201 = .ok (.ixor, 1) := by decide +kernel
theorem dX10_helped_202 : decode cX10_helped 202 = .ok (.iand, 1) := by decide +kernel
theorem dX10_helped_203 : decode cX10_helped 203 = .ok (.ireturn, 1) := by decide +kernel
theorem dX10_trim_0 : decode cX10_trim 0 = .ok (.aload_n 0, 1) := by decide +kernel
theorem dX10_trim_1 : decode cX10_trim 1 = .ok (.iconst 0, 1) := by decide +kernel
theorem dX10_trim_2 : decode cX10_trim 2 = .ok (.putfield 80, 3) := by decide +kernel
theorem dX10_trim_5 : decode cX10_trim 5 = .ok (.aload_n 0, 1) := by decide +kernel
theorem dX10_trim_6 : decode cX10_trim 6 = .ok (.invokevirtual 231, 3) := by decide +kernel
theorem dX10_trim_9 : decode cX10_trim 9 = .ok (.iconst 0, 1) := by decide +kernel
theorem dX10_trim_10 : decode cX10_trim 10 = .ok (.istore_n 1, 1) := by decide +kernel
theorem dX10_trim_11 : decode cX10_trim 11 = .ok (.iconst 0, 1) := by decide +kernel
theorem dX10_trim_12 : decode cX10_trim 12 = .ok (.istore_n 2, 1) := by decide +kernel
theorem dX10_trim_13 : decode cX10_trim 13 = .ok (.iload_n 2, 1) := by decide +kernel
theorem dX10_trim_14 : decode cX10_trim 14 = .ok (.aload_n 0, 1) := by decide +kernel
theorem dX10_trim_15 : decode cX10_trim 15 = .ok (.getfield 86, 3) := by decide +kernel
theorem dX10_trim_18 : decode cX10_trim 18 = .ok (.if_icmp .ge 43, 3) := by decide +kernel
theorem dX10_trim_21 : decode cX10_trim 21 = .ok (.aload_n 0, 1) := by decide +kernel
theorem dX10_trim_22 : decode cX10_trim 22 = .ok (.getfield 13, 3) := by decide +kernel
theorem dX10_trim_25 : decode cX10_trim 25 = .ok (.iload_n 2, 1) := by decide +kernel
theorem dX10_trim_26 : decode cX10_trim 26 = .ok (.iaload, 1) := by decide +kernel
theorem dX10_trim_27 : decode cX10_trim 27 = .ok (.aload_n 0, 1) := by decide +kernel
theorem dX10_trim_28 : decode cX10_trim 28 = .ok (.iload_n 2, 1) := by decide +kernel
theorem dX10_trim_29 : decode cX10_trim 29 = .ok (.invokevirtual 269, 3) := by decide +kernel
theorem dX10_trim_32 : decode cX10_trim 32 = .ok (.iconst (-1), 1) := by decide +kernel
theorem dX10_trim_33 : decode cX10_trim 33 = .ok (.ixor, 1) := by decide +kernel
theorem dX10_trim_34 : decode cX10_trim 34 = .ok (.iand, 1) := by decide +kernel
theorem dX10_trim_35 : decode cX10_trim 35 = .ok (.istore_n 3, 1) := by decide +kernel
theorem dX10_trim_36 : decode cX10_trim 36 = .ok (.iload_n 1, 1) := by decide +kernel
theorem dX10_trim_37 : decode cX10_trim 37 = .ok (.iload_n 3, 1) := by decide +kernel
theorem dX10_trim_38 : decode cX10_trim 38 = .ok (.invokestatic 244, 3) := by decide +kernel
theorem dX10_trim_41 : decode cX10_trim 41 = .ok (.iadd, 1) := by decide +kernel
theorem dX10_trim_42 : decode cX10_trim 42 = .ok (.istore_n 1, 1) := by decide +kernel
theorem dX10_trim_43 : decode cX10_trim 43 = .ok (.aload_n 0, 1) := by decide +kernel
theorem dX10_trim_44 : decode cX10_trim 44 = .ok (.getfield 13, 3) := by decide +kernel
theorem dX10_trim_47 : decode cX10_trim 47 = .ok (.iload_n 2, 1) := by decide +kernel
theorem dX10_trim_48 : decode cX10_trim 48 = .ok (.dup2, 1) := by decide +kernel
theorem dX10_trim_49 : decode cX10_trim 49 = .ok (.iaload, 1) := by decide +kernel
theorem dX10_trim_50 : decode cX10_trim 50 = .ok (.iload_n 3, 1) := by decide +kernel
theorem dX10_trim_51 : decode cX10_trim 51 = .ok (.iconst (-1), 1) := by decide +kernel
theorem dX10_trim_52 : decode cX10_trim 52 = .ok (.ixor, 1) := by decide +kernel
theorem dX10_trim_53 : decode cX10_trim 53 = .ok (.iand, 1) := by decide +kernel
theorem dX10_trim_54 : decode cX10_trim 54 = .ok (.iastore, 1) := by decide +kernel
theorem dX10_trim_55 : decode cX10_trim 55 = .ok (.iinc 2 1, 3) := by decide +kernel
theorem dX10_trim_58 : decode cX10_trim 58 = .ok (.goto (-45), 3) := by decide +kernel
theorem dX10_trim_61 : decode cX10_trim 61 = .ok (.iload_n 1, 1) := by decide +kernel
theorem dX10_trim_62 : decode cX10_trim 62 = .ok (.ireturn, 1) := by decide +kernel
theorem dX10_turns_0 : decode cX10_turns 0 = .ok (.aload_n 0, 1) := by decide +kernel
theorem dX10_turns_1 : decode cX10_turns 1 = .ok (.getfield 13, 3) := by decide +kernel
theorem dX10_turns_4 : decode cX10_turns 4 = .ok (.iload_n 1, 1) := by decide +kernel
theorem dX10_turns_5 : decode cX10_turns 5 = .ok (.bipush 100, 2) := by decide +kernel
theorem dX10_turns_7 : decode cX10_turns 7 = .ok (.idiv, 1) := by decide +kernel
theorem dX10_turns_8 : decode cX10_turns 8 = .ok (.dup2, 1) := by decide +kernel
theorem dX10_turns_9 : decode cX10_turns 9 = .ok (.iaload, 1) := by decide +kernel
theorem dX10_turns_10 : decode cX10_turns 10 = .ok (.iconst 1, 1) := by decide +kernel
theorem dX10_turns_11 : decode cX10_turns 11 = .ok (.iload_n 1, 1) := by decide +kernel
theorem dX10_turns_12 : decode cX10_turns 12 = .ok (.bipush 100, 2) := by decide +kernel
theorem dX10_turns_14 : decode cX10_turns 14 = .ok (.irem, 1) := by decide +kernel
theorem dX10_turns_15 : decode cX10_turns 15 = .ok (.ishl, 1) := by decide +kernel
theorem dX10_turns_16 : decode cX10_turns 16 = .ok (.ixor, 1) := by decide +kernel
theorem dX10_turns_17 : decode cX10_turns 17 = .ok (.iastore, 1) := by decide +kernel
theorem dX10_turns_18 : decode cX10_turns 18 = .ok (.return_, 1) := by decide +kernel
theorem dX10_isWell_0 : decode cX10_isWell 0 = .ok (.aload_n 0, 1) := by decide +kernel
theorem dX10_isWell_1 : decode cX10_isWell 1 = .ok (.invokevirtual 241, 3) := by decide +kernel
theorem dX10_isWell_4 : decode cX10_isWell 4 = .ok (.iconst 1, 1) := by decide +kernel
theorem dX10_isWell_5 : decode cX10_isWell 5 = .ok (.istore_n 1, 1) := by decide +kernel
theorem dX10_isWell_6 : decode cX10_isWell 6 = .ok (.iconst 0, 1) := by decide +kernel
theorem dX10_isWell_7 : decode cX10_isWell 7 = .ok (.istore_n 2, 1) := by decide +kernel
theorem dX10_isWell_8 : decode cX10_isWell 8 = .ok (.iload_n 2, 1) := by decide +kernel
theorem dX10_isWell_9 : decode cX10_isWell 9 = .ok (.bipush 16, 2) := by decide +kernel
theorem dX10_isWell_11 : decode cX10_isWell 11 = .ok (.if_icmp .ge 34, 3) := by decide +kernel
theorem dX10_isWell_14 : decode cX10_isWell 14 = .ok (.iload_n 1, 1) := by decide +kernel
theorem dX10_isWell_15 : decode cX10_isWell 15 = .ok (.ifCond .eq 22, 3) := by decide +kernel
theorem dX10_isWell_18 : decode cX10_isWell 18 = .ok (.aload_n 0, 1) := by decide +kernel
theorem dX10_isWell_19 : decode cX10_isWell 19 = .ok (.getfield 58, 3) := by decide +kernel
theorem dX10_isWell_22 : decode cX10_isWell 22 = .ok (.iload_n 2, 1) := by decide +kernel
theorem dX10_isWell_23 : decode cX10_isWell 23 = .ok (.iaload, 1) := by decide +kernel
theorem dX10_isWell_24 : decode cX10_isWell 24 = .ok (.aload_n 0, 1) := by decide +kernel
theorem dX10_isWell_25 : decode cX10_isWell 25 = .ok (.getfield 77, 3) := by decide +kernel
theorem dX10_isWell_28 : decode cX10_isWell 28 = .ok (.iload_n 2, 1) := by decide +kernel
theorem dX10_isWell_29 : decode cX10_isWell 29 = .ok (.iaload, 1) := by decide +kernel
theorem dX10_isWell_30 : decode cX10_isWell 30 = .ok (.if_icmp .ne 7, 3) := by decide +kernel
theorem dX10_isWell_33 : decode cX10_isWell 33 = .ok (.iconst 1, 1) := by decide +kernel
theorem dX10_isWell_34 : decode cX10_isWell 34 = .ok (.goto 4, 3) := by decide +kernel
theorem dX10_isWell_37 : decode cX10_isWell 37 = .ok (.iconst 0, 1) := by decide +kernel
theorem dX10_isWell_38 : decode cX10_isWell 38 = .ok (.istore_n 1, 1) := by decide +kernel
theorem dX10_isWell_39 : decode cX10_isWell 39 = .ok (.iinc 2 1, 3) := by decide +kernel
theorem dX10_isWell_42 : decode cX10_isWell 42 = .ok (.goto (-34), 3) := by decide +kernel
theorem dX10_isWell_45 : decode cX10_isWell 45 = .ok (.iload_n 1, 1) := by decide +kernel
theorem dX10_isWell_46 : decode cX10_isWell 46 = .ok (.ireturn, 1) := by decide +kernel
theorem dX10_cure_0 : decode cX10_cure 0 = .ok (.aload_n 0, 1) := by decide +kernel
theorem dX10_cure_1 : decode cX10_cure 1 = .ok (.iconst 0, 1) := by decide +kernel
theorem dX10_cure_2 : decode cX10_cure 2 = .ok (.putfield 80, 3) := by decide +kernel
theorem dX10_cure_5 : decode cX10_cure 5 = .ok (.aload_n 0, 1) := by decide +kernel
theorem dX10_cure_6 : decode cX10_cure 6 = .ok (.invokevirtual 241, 3) := by decide +kernel
theorem dX10_cure_9 : decode cX10_cure 9 = .ok (.iconst 0, 1) := by decide +kernel
theorem dX10_cure_10 : decode cX10_cure 10 = .ok (.istore_n 1, 1) := by decide +kernel
theorem dX10_cure_11 : decode cX10_cure 11 = .ok (.iload_n 1, 1) := by decide +kernel
theorem dX10_cure_12 : decode cX10_cure 12 = .ok (.bipush 16, 2) := by decide +kernel
theorem dX10_cure_14 : decode cX10_cure 14 = .ok (.if_icmp .ge 28, 3) := by decide +kernel
theorem dX10_cure_17 : decode cX10_cure 17 = .ok (.aload_n 0, 1) := by decide +kernel
theorem dX10_cure_18 : decode cX10_cure 18 = .ok (.getfield 77, 3) := by decide +kernel
theorem dX10_cure_21 : decode cX10_cure 21 = .ok (.iload_n 1, 1) := by decide +kernel
theorem dX10_cure_22 : decode cX10_cure 22 = .ok (.aload_n 0, 1) := by decide +kernel
theorem dX10_cure_23 : decode cX10_cure 23 = .ok (.getfield 58, 3) := by decide +kernel
theorem dX10_cure_26 : decode cX10_cure 26 = .ok (.iload_n 1, 1) := by decide +kernel
theorem dX10_cure_27 : decode cX10_cure 27 = .ok (.iaload, 1) := by decide +kernel
theorem dX10_cure_28 : decode cX10_cure 28 = .ok (.aload_n 0, 1) := by decide +kernel
theorem dX10_cure_29 : decode cX10_cure 29 = .ok (.getfield 20, 3) := by decide +kernel
theorem dX10_cure_32 : decode cX10_cure 32 = .ok (.iload_n 1, 1) := by decide +kernel
theorem dX10_cure_33 : decode cX10_cure 33 = .ok (.iaload, 1) := by decide +kernel
theorem dX10_cure_34 : decode cX10_cure 34 = .ok (.iand, 1) := by decide +kernel
theorem dX10_cure_35 : decode cX10_cure 35 = .ok (.iastore, 1) := by decide +kernel
theorem dX10_cure_36 : decode cX10_cure 36 = .ok (.iinc 1 1, 3) := by decide +kernel
theorem dX10_cure_39 : decode cX10_cure 39 = .ok (.goto (-28), 3) := by decide +kernel
theorem dX10_cure_42 : decode cX10_cure 42 = .ok (.aload_n 0, 1) := by decide +kernel
theorem dX10_cure_43 : decode cX10_cure 43 = .ok (.invokevirtual 247, 3) := by decide +kernel
theorem dX10_cure_46 : decode cX10_cure 46 = .ok (.ifCond .ne 14, 3) := by decide +kernel
theorem dX10_cure_49 : decode cX10_cure 49 = .ok (.aload_n 0, 1) := by decide +kernel
theorem dX10_cure_50 : decode cX10_cure 50 = .ok (.iconst 0, 1) := by decide +kernel
theorem dX10_cure_51 : decode cX10_cure 51 = .ok (.putfield 272, 3) := by decide +kernel
theorem dX10_cure_54 : decode cX10_cure 54 = .ok (.aload_n 0, 1) := by decide +kernel
theorem dX10_cure_55 : decode cX10_cure 55 = .ok (.iconst 0, 1) := by decide +kernel
theorem dX10_cure_56 : decode cX10_cure 56 = .ok (.invokevirtual 98, 3) := by decide +kernel
theorem dX10_cure_59 : decode cX10_cure 59 = .ok (.ireturn, 1) := by decide +kernel
theorem dX10_cure_60 : decode cX10_cure 60 = .ok (.iconst 0, 1) := by decide +kernel
theorem dX10_cure_61 : decode cX10_cure 61 = .ok (.istore_n 1, 1) := by decide +kernel
theorem dX10_cure_62 : decode cX10_cure 62 = .ok (.iconst 0, 1) := by decide +kernel
theorem dX10_cure_63 : decode cX10_cure 63 = .ok (.istore_n 2, 1) := by decide +kernel
theorem dX10_cure_64 : decode cX10_cure 64 = .ok (.iload_n 2, 1) := by decide +kernel
theorem dX10_cure_65 : decode cX10_cure 65 = .ok (.aload_n 0, 1) := by decide +kernel
theorem dX10_cure_66 : decode cX10_cure 66 = .ok (.getfield 86, 3) := by decide +kernel
theorem dX10_cure_69 : decode cX10_cure 69 = .ok (.if_icmp .ge 79, 3) := by decide +kernel
theorem dX10_cure_72 : decode cX10_cure 72 = .ok (.aload_n 0, 1) := by decide +kernel
theorem dX10_cure_73 : decode cX10_cure 73 = .ok (.getfield 13, 3) := by decide +kernel
theorem dX10_cure_76 : decode cX10_cure 76 = .ok (.iload_n 2, 1) := by decide +kernel
theorem dX10_cure_77 : decode cX10_cure 77 = .ok (.iaload, 1) := by decide +kernel
theorem dX10_cure_78 : decode cX10_cure 78 = .ok (.aload_n 0, 1) := by decide +kernel
theorem dX10_cure_79 : decode cX10_cure 79 = .ok (.iload_n 2, 1) := by decide +kernel
theorem dX10_cure_80 : decode cX10_cure 80 = .ok (.invokevirtual 269, 3) := by decide +kernel
theorem dX10_cure_83 : decode cX10_cure 83 = .ok (.iand, 1) := by decide +kernel
theorem dX10_cure_84 : decode cX10_cure 84 = .ok (.istore_n 3, 1) := by decide +kernel
theorem dX10_cure_85 : decode cX10_cure 85 = .ok (.iconst 0, 1) := by decide +kernel
theorem dX10_cure_86 : decode cX10_cure 86 = .ok (.istore 4, 2) := by decide +kernel
theorem dX10_cure_88 : decode cX10_cure 88 = .ok (.iload 4, 2) := by decide +kernel
theorem dX10_cure_90 : decode cX10_cure 90 = .ok (.bipush 16, 2) := by decide +kernel
theorem dX10_cure_92 : decode cX10_cure 92 = .ok (.if_icmp .ge 50, 3) := by decide +kernel
theorem dX10_cure_95 : decode cX10_cure 95 = .ok (.iload_n 3, 1) := by decide +kernel
theorem dX10_cure_96 : decode cX10_cure 96 = .ok (.iload 4, 2) := by decide +kernel
theorem dX10_cure_98 : decode cX10_cure 98 = .ok (.ishr, 1) := by decide +kernel
theorem dX10_cure_99 : decode cX10_cure 99 = .ok (.iconst 1, 1) := by decide +kernel
theorem dX10_cure_100 : decode cX10_cure 100 = .ok (.iand, 1) := by decide +kernel
theorem dX10_cure_101 : decode cX10_cure 101 = .ok (.ifCond .ne 6, 3) := by decide +kernel
theorem dX10_cure_104 : decode cX10_cure 104 = .ok (.goto 32, 3) := by decide +kernel
theorem dX10_cure_107 : decode cX10_cure 107 = .ok (.iload_n 1, 1) := by decide +kernel
theorem dX10_cure_108 : decode cX10_cure 108 = .ok (.bipush 10, 2) := by decide +kernel
theorem dX10_cure_110 : decode cX10_cure 110 = .ok (.if_icmp .ne 10, 3) := by decide +kernel
theorem dX10_cure_113 : decode cX10_cure 113 = .ok (.aload_n 0, 1) := by decide +kernel
theorem dX10_cure_114 : decode cX10_cure 114 = .ok (.bipush 6, 2) := by decide +kernel
theorem dX10_cure_116 : decode cX10_cure 116 = .ok (.invokevirtual 94, 3) := by decide +kernel
theorem dX10_cure_119 : decode cX10_cure 119 = .ok (.ireturn, 1) := by decide +kernel
theorem dX10_cure_120 : decode cX10_cure 120 = .ok (.aload_n 0, 1) := by decide +kernel
theorem dX10_cure_121 : decode cX10_cure 121 = .ok (.getfield 71, 3) := by decide +kernel
theorem dX10_cure_124 : decode cX10_cure 124 = .ok (.iload_n 1, 1) := by decide +kernel
theorem dX10_cure_125 : decode cX10_cure 125 = .ok (.bipush 100, 2) := by decide +kernel
theorem dX10_cure_127 : decode cX10_cure 127 = .ok (.iload_n 2, 1) := by decide +kernel
theorem dX10_cure_128 : decode cX10_cure 128 = .ok (.imul, 1) := by decide +kernel
theorem dX10_cure_129 : decode cX10_cure 129 = .ok (.iload 4, 2) := by decide +kernel
theorem dX10_cure_131 : decode cX10_cure 131 = .ok (.iadd, 1) := by decide +kernel
theorem dX10_cure_132 : decode cX10_cure 132 = .ok (.iastore, 1) := by decide +kernel
theorem dX10_cure_133 : decode cX10_cure 133 = .ok (.iinc 1 1, 3) := by decide +kernel
theorem dX10_cure_136 : decode cX10_cure 136 = .ok (.iinc 4 1, 3) := by decide +kernel
theorem dX10_cure_139 : decode cX10_cure 139 = .ok (.goto (-51), 3) := by decide +kernel
theorem dX10_cure_142 : decode cX10_cure 142 = .ok (.iinc 2 1, 3) := by decide +kernel
theorem dX10_cure_145 : decode cX10_cure 145 = .ok (.goto (-81), 3) := by decide +kernel
theorem dX10_cure_148 : decode cX10_cure 148 = .ok (.iconst (-1), 1) := by decide +kernel
theorem dX10_cure_149 : decode cX10_cure 149 = .ok (.istore_n 2, 1) := by decide +kernel
theorem dX10_cure_150 : decode cX10_cure 150 = .ok (.iconst 1, 1) := by decide +kernel
theorem dX10_cure_151 : decode cX10_cure 151 = .ok (.istore_n 3, 1) := by decide +kernel
theorem dX10_cure_152 : decode cX10_cure 152 = .ok (.iload_n 3, 1) := by decide +kernel
theorem dX10_cure_153 : decode cX10_cure 153 = .ok (.iconst 1, 1) := by decide +kernel
theorem dX10_cure_154 : decode cX10_cure 154 = .ok (.iload_n 1, 1) := by decide +kernel
theorem dX10_cure_155 : decode cX10_cure 155 = .ok (.ishl, 1) := by decide +kernel
theorem dX10_cure_156 : decode cX10_cure 156 = .ok (.if_icmp .ge 128, 3) := by decide +kernel
theorem dX10_cure_159 : decode cX10_cure 159 = .ok (.iload_n 2, 1) := by decide +kernel
theorem dX10_cure_160 : decode cX10_cure 160 = .ok (.iconst (-1), 1) := by decide +kernel
theorem dX10_cure_161 : decode cX10_cure 161 = .ok (.if_icmp .eq 36, 3) := by decide +kernel
theorem dX10_cure_164 : decode cX10_cure 164 = .ok (.iload_n 3, 1) := by decide +kernel
theorem dX10_cure_165 : decode cX10_cure 165 = .ok (.invokestatic 244, 3) := by decide +kernel
theorem dX10_cure_168 : decode cX10_cure 168 = .ok (.iload_n 2, 1) := by decide +kernel
theorem dX10_cure_169 : decode cX10_cure 169 = .ok (.invokestatic 244, 3) := by decide +kernel
theorem dX10_cure_172 : decode cX10_cure 172 = .ok (.if_icmp .gt 106, 3) := by decide +kernel
theorem dX10_cure_175 : decode cX10_cure 175 = .ok (.iload_n 3, 1) := by decide +kernel
theorem dX10_cure_176 : decode cX10_cure 176 = .ok (.invokestatic 244, 3) := by decide +kernel
theorem dX10_cure_179 : decode cX10_cure 179 = .ok (.iload_n 2, 1) := by decide +kernel
theorem dX10_cure_180 : decode cX10_cure 180 = .ok (.invokestatic 244, 3) := by decide +kernel
theorem dX10_cure_183 : decode cX10_cure 183 = .ok (.if_icmp .ne 14, 3) := by decide +kernel
theorem dX10_cure_186 : decode cX10_cure 186 = .ok (.iload_n 3, 1) := by decide +kernel
theorem dX10_cure_187 : decode cX10_cure 187 = .ok (.iload_n 2, 1) := by decide +kernel
theorem dX10_cure_188 : decode cX10_cure 188 = .ok (.invokestatic 275, 3) := by decide +kernel
theorem dX10_cure_191 : decode cX10_cure 191 = .ok (.ifCond .ne 6, 3) := by decide +kernel
theorem dX10_cure_194 : decode cX10_cure 194 = .ok (.goto 84, 3) := by decide +kernel
theorem dX10_cure_197 : decode cX10_cure 197 = .ok (.iconst 0, 1) := by decide +kernel
theorem dX10_cure_198 : decode cX10_cure 198 = .ok (.istore 4, 2) := by decide +kernel
theorem dX10_cure_200 : decode cX10_cure 200 = .ok (.iload 4, 2) := by decide +kernel
theorem dX10_cure_202 : decode cX10_cure 202 = .ok (.iload_n 1, 1) := by decide +kernel
theorem dX10_cure_203 : decode cX10_cure 203 = .ok (.if_icmp .ge 30, 3) := by decide +kernel
theorem dX10_cure_206 : decode cX10_cure 206 = .ok (.iload_n 3, 1) := by decide +kernel
theorem dX10_cure_207 : decode cX10_cure 207 = .ok (.iload 4, 2) := by decide +kernel
theorem dX10_cure_209 : decode cX10_cure 209 = .ok (.ishr, 1) := by decide +kernel
theorem dX10_cure_210 : decode cX10_cure 210 = .ok (.iconst 1, 1) := by decide +kernel
theorem dX10_cure_211 : decode cX10_cure 211 = .ok (.iand, 1) := by decide +kernel
theorem dX10_cure_212 : decode cX10_cure 212 = .ok (.iconst 1, 1) := by decide +kernel
theorem dX10_cure_213 : decode cX10_cure 213 = .ok (.if_icmp .ne 14, 3) := by decide +kernel
theorem dX10_cure_216 : decode cX10_cure 216 = .ok (.aload_n 0, 1) := by decide +kernel
theorem dX10_cure_217 : decode cX10_cure 217 = .ok (.aload_n 0, 1) := by decide +kernel
theorem dX10_cure_218 : decode cX10_cure 218 = .ok (.getfield 71, 3) := by decide +kernel
theorem dX10_cure_221 : decode cX10_cure 221 = .ok (.iload 4, 2) := by decide +kernel
theorem dX10_cure_223 : decode cX10_cure 223 = .ok (.iaload, 1) := by decide +kernel
theorem dX10_cure_224 : decode cX10_cure 224 = .ok (.invokevirtual 278, 3) := by decide +kernel
theorem dX10_cure_227 : decode cX10_cure 227 = .ok (.iinc 4 1, 3) := by decide +kernel
theorem dX10_cure_230 : decode cX10_cure 230 = .ok (.goto (-30), 3) := by decide +kernel
theorem dX10_cure_233 : decode cX10_cure 233 = .ok (.aload_n 0, 1) := by decide +kernel
theorem dX10_cure_234 : decode cX10_cure 234 = .ok (.invokevirtual 281, 3) := by decide +kernel
theorem dX10_cure_237 : decode cX10_cure 237 = .ok (.ifCond .eq 5, 3) := by decide +kernel
theorem dX10_cure_240 : decode cX10_cure 240 = .ok (.iload_n 3, 1) := by decide +kernel
theorem dX10_cure_241 : decode cX10_cure 241 = .ok (.istore_n 2, 1) := by decide +kernel
theorem dX10_cure_242 : decode cX10_cure 242 = .ok (.iconst 0, 1) := by decide +kernel
theorem dX10_cure_243 : decode cX10_cure 243 = .ok (.istore 4, 2) := by decide +kernel
theorem dX10_cure_245 : decode cX10_cure 245 = .ok (.iload 4, 2) := by decide +kernel
theorem dX10_cure_247 : decode cX10_cure 247 = .ok (.iload_n 1, 1) := by decide +kernel
theorem dX10_cure_248 : decode cX10_cure 248 = .ok (.if_icmp .ge 30, 3) := by decide +kernel
theorem dX10_cure_251 : decode cX10_cure 251 = .ok (.iload_n 3, 1) := by decide +kernel
theorem dX10_cure_252 : decode cX10_cure 252 = .ok (.iload 4, 2) := by decide +kernel
theorem dX10_cure_254 : decode cX10_cure 254 = .ok (.ishr, 1) := by decide +kernel
theorem dX10_cure_255 : decode cX10_cure 255 = .ok (.iconst 1, 1) := by decide +kernel
theorem dX10_cure_256 : decode cX10_cure 256 = .ok (.iand, 1) := by decide +kernel
theorem dX10_cure_257 : decode cX10_cure 257 = .ok (.iconst 1, 1) := by decide +kernel
theorem dX10_cure_258 : decode cX10_cure 258 = .ok (.if_icmp .ne 14, 3) := by decide +kernel
theorem dX10_cure_261 : decode cX10_cure 261 = .ok (.aload_n 0, 1) := by decide +kernel
theorem dX10_cure_262 : decode cX10_cure 262 = .ok (.aload_n 0, 1) := by decide +kernel
theorem dX10_cure_263 : decode cX10_cure 263 = .ok (.getfield 71, 3) := by decide +kernel
theorem dX10_cure_266 : decode cX10_cure 266 = .ok (.iload 4, 2) := by decide +kernel
theorem dX10_cure_268 : decode cX10_cure 268 = .ok (.iaload, 1) := by decide +kernel
theorem dX10_cure_269 : decode cX10_cure 269 = .ok (.invokevirtual 278, 3) := by decide +kernel
theorem dX10_cure_272 : decode cX10_cure 272 = .ok (.iinc 4 1, 3) := by decide +kernel
theorem dX10_cure_275 : decode cX10_cure 275 = .ok (.goto (-30), 3) := by decide +kernel
theorem dX10_cure_278 : decode cX10_cure 278 = .ok (.iinc 3 1, 3) := by decide +kernel
theorem dX10_cure_281 : decode cX10_cure 281 = .ok (.goto (-129), 3) := by decide +kernel
theorem dX10_cure_284 : decode cX10_cure 284 = .ok (.iload_n 2, 1) := by decide +kernel
theorem dX10_cure_285 : decode cX10_cure 285 = .ok (.iconst (-1), 1) := by decide +kernel
theorem dX10_cure_286 : decode cX10_cure 286 = .ok (.if_icmp .ne 9, 3) := by decide +kernel
theorem dX10_cure_289 : decode cX10_cure 289 = .ok (.aload_n 0, 1) := by decide +kernel
theorem dX10_cure_290 : decode cX10_cure 290 = .ok (.iconst 5, 1) := by decide +kernel
theorem dX10_cure_291 : decode cX10_cure 291 = .ok (.invokevirtual 94, 3) := by decide +kernel
theorem dX10_cure_294 : decode cX10_cure 294 = .ok (.ireturn, 1) := by decide +kernel
theorem dX10_cure_295 : decode cX10_cure 295 = .ok (.aload_n 0, 1) := by decide +kernel
theorem dX10_cure_296 : decode cX10_cure 296 = .ok (.iconst 0, 1) := by decide +kernel
theorem dX10_cure_297 : decode cX10_cure 297 = .ok (.putfield 272, 3) := by decide +kernel
theorem dX10_cure_300 : decode cX10_cure 300 = .ok (.iconst 0, 1) := by decide +kernel
theorem dX10_cure_301 : decode cX10_cure 301 = .ok (.istore_n 3, 1) := by decide +kernel
theorem dX10_cure_302 : decode cX10_cure 302 = .ok (.iload_n 3, 1) := by decide +kernel
theorem dX10_cure_303 : decode cX10_cure 303 = .ok (.iload_n 1, 1) := by decide +kernel
theorem dX10_cure_304 : decode cX10_cure 304 = .ok (.if_icmp .ge 45, 3) := by decide +kernel
theorem dX10_cure_307 : decode cX10_cure 307 = .ok (.iload_n 2, 1) := by decide +kernel
theorem dX10_cure_308 : decode cX10_cure 308 = .ok (.iload_n 3, 1) := by decide +kernel
theorem dX10_cure_309 : decode cX10_cure 309 = .ok (.ishr, 1) := by decide +kernel
theorem dX10_cure_310 : decode cX10_cure 310 = .ok (.iconst 1, 1) := by decide +kernel
theorem dX10_cure_311 : decode cX10_cure 311 = .ok (.iand, 1) := by decide +kernel
theorem dX10_cure_312 : decode cX10_cure 312 = .ok (.ifCond .ne 6, 3) := by decide +kernel
theorem dX10_cure_315 : decode cX10_cure 315 = .ok (.goto 28, 3) := by decide +kernel
theorem dX10_cure_318 : decode cX10_cure 318 = .ok (.aload_n 0, 1) := by decide +kernel
theorem dX10_cure_319 : decode cX10_cure 319 = .ok (.getfield 74, 3) := by decide +kernel
theorem dX10_cure_322 : decode cX10_cure 322 = .ok (.aload_n 0, 1) := by decide +kernel
theorem dX10_cure_323 : decode cX10_cure 323 = .ok (.getfield 272, 3) := by decide +kernel
theorem dX10_cure_326 : decode cX10_cure 326 = .ok (.aload_n 0, 1) := by decide +kernel
theorem dX10_cure_327 : decode cX10_cure 327 = .ok (.getfield 71, 3) := by decide +kernel
theorem dX10_cure_330 : decode cX10_cure 330 = .ok (.iload_n 3, 1) := by decide +kernel
theorem dX10_cure_331 : decode cX10_cure 331 = .ok (.iaload, 1) := by decide +kernel
theorem dX10_cure_332 : decode cX10_cure 332 = .ok (.iastore, 1) := by decide +kernel
theorem dX10_cure_333 : decode cX10_cure 333 = .ok (.aload_n 0, 1) := by decide +kernel
theorem dX10_cure_334 : decode cX10_cure 334 = .ok (.dup, 1) := by decide +kernel
theorem dX10_cure_335 : decode cX10_cure 335 = .ok (.getfield 272, 3) := by decide +kernel
theorem dX10_cure_338 : decode cX10_cure 338 = .ok (.iconst 1, 1) := by decide +kernel
theorem dX10_cure_339 : decode cX10_cure 339 = .ok (.iadd, 1) := by decide +kernel
theorem dX10_cure_340 : decode cX10_cure 340 = .ok (.putfield 272, 3) := by decide +kernel
theorem dX10_cure_343 : decode cX10_cure 343 = .ok (.iinc 3 1, 3) := by decide +kernel
theorem dX10_cure_346 : decode cX10_cure 346 = .ok (.goto (-44), 3) := by decide +kernel
theorem dX10_cure_349 : decode cX10_cure 349 = .ok (.aload_n 0, 1) := by decide +kernel
theorem dX10_cure_350 : decode cX10_cure 350 = .ok (.aload_n 0, 1) := by decide +kernel
theorem dX10_cure_351 : decode cX10_cure 351 = .ok (.getfield 272, 3) := by decide +kernel
theorem dX10_cure_354 : decode cX10_cure 354 = .ok (.invokevirtual 98, 3) := by decide +kernel
theorem dX10_cure_357 : decode cX10_cure 357 = .ok (.ireturn, 1) := by decide +kernel
theorem dX10_isAhead_0 : decode cX10_isAhead 0 = .ok (.iload_n 0, 1) := by decide +kernel
theorem dX10_isAhead_1 : decode cX10_isAhead 1 = .ok (.iload_n 1, 1) := by decide +kernel
theorem dX10_isAhead_2 : decode cX10_isAhead 2 = .ok (.ixor, 1) := by decide +kernel
theorem dX10_isAhead_3 : decode cX10_isAhead 3 = .ok (.istore_n 2, 1) := by decide +kernel
theorem dX10_isAhead_4 : decode cX10_isAhead 4 = .ok (.iload_n 2, 1) := by decide +kernel
theorem dX10_isAhead_5 : decode cX10_isAhead 5 = .ok (.iload_n 2, 1) := by decide +kernel
theorem dX10_isAhead_6 : decode cX10_isAhead 6 = .ok (.ineg, 1) := by decide +kernel
theorem dX10_isAhead_7 : decode cX10_isAhead 7 = .ok (.iand, 1) := by decide +kernel
theorem dX10_isAhead_8 : decode cX10_isAhead 8 = .ok (.iload_n 0, 1) := by decide +kernel
theorem dX10_isAhead_9 : decode cX10_isAhead 9 = .ok (.iand, 1) := by decide +kernel
theorem dX10_isAhead_10 : decode cX10_isAhead 10 = .ok (.ifCond .eq 7, 3) := by decide +kernel
theorem dX10_isAhead_13 : decode cX10_isAhead 13 = .ok (.iconst 1, 1) := by decide +kernel
theorem dX10_isAhead_14 : decode cX10_isAhead 14 = .ok (.goto 4, 3) := by decide +kernel
theorem dX10_isAhead_17 : decode cX10_isAhead 17 = .ok (.iconst 0, 1) := by decide +kernel
theorem dX10_isAhead_18 : decode cX10_isAhead 18 = .ok (.ireturn, 1) := by decide +kernel
theorem dX10_cured_0 : decode cX10_cured 0 = .ok (.aload_n 0, 1) := by decide +kernel
theorem dX10_cured_1 : decode cX10_cured 1 = .ok (.iconst 0, 1) := by decide +kernel
theorem dX10_cured_2 : decode cX10_cured 2 = .ok (.putfield 80, 3) := by decide +kernel
theorem dX10_cured_5 : decode cX10_cured 5 = .ok (.iload_n 1, 1) := by decide +kernel
theorem dX10_cured_6 : decode cX10_cured 6 = .ok (.ifCond .lt 20, 3) := by decide +kernel
theorem dX10_cured_9 : decode cX10_cured 9 = .ok (.iload_n 1, 1) := by decide +kernel
theorem dX10_cured_10 : decode cX10_cured 10 = .ok (.aload_n 0, 1) := by decide +kernel
theorem dX10_cured_11 : decode cX10_cured 11 = .ok (.getfield 272, 3) := by decide +kernel
theorem dX10_cured_14 : decode cX10_cured 14 = .ok (.if_icmp .ge 12, 3) := by decide +kernel
theorem dX10_cured_17 : decode cX10_cured 17 = .ok (.aload_n 0, 1) := by decide +kernel
theorem dX10_cured_18 : decode cX10_cured 18 = .ok (.getfield 74, 3) := by decide +kernel
theorem dX10_cured_21 : decode cX10_cured 21 = .ok (.iload_n 1, 1) := by decide +kernel
theorem dX10_cured_22 : decode cX10_cured 22 = .ok (.iaload, 1) := by decide +kernel
theorem dX10_cured_23 : decode cX10_cured 23 = .ok (.goto 4, 3) := by decide +kernel
theorem dX10_cured_26 : decode cX10_cured 26 = .ok (.iconst (-1), 1) := by decide +kernel
theorem dX10_cured_27 : decode cX10_cured 27 = .ok (.ireturn, 1) := by decide +kernel
theorem dX10_without_0 : decode cX10_without 0 = .ok (.aload_n 0, 1) := by decide +kernel
theorem dX10_without_1 : decode cX10_without 1 = .ok (.iconst 0, 1) := by decide +kernel
theorem dX10_without_2 : decode cX10_without 2 = .ok (.putfield 80, 3) := by decide +kernel
theorem dX10_without_5 : decode cX10_without 5 = .ok (.aload_n 0, 1) := by decide +kernel
theorem dX10_without_6 : decode cX10_without 6 = .ok (.iload_n 1, 1) := by decide +kernel
theorem dX10_without_7 : decode cX10_without 7 = .ok (.invokevirtual 101, 3) := by decide +kernel
theorem dX10_without_10 : decode cX10_without 10 = .ok (.ifCond .ne 9, 3) := by decide +kernel
theorem dX10_without_13 : decode cX10_without 13 = .ok (.aload_n 0, 1) := by decide +kernel
theorem dX10_without_14 : decode cX10_without 14 = .ok (.iconst 1, 1) := by decide +kernel
theorem dX10_without_15 : decode cX10_without 15 = .ok (.invokevirtual 94, 3) := by decide +kernel
theorem dX10_without_18 : decode cX10_without 18 = .ok (.ireturn, 1) := by decide +kernel
theorem dX10_without_19 : decode cX10_without 19 = .ok (.iload_n 2, 1) := by decide +kernel
theorem dX10_without_20 : decode cX10_without 20 = .ok (.invokestatic 228, 3) := by decide +kernel
theorem dX10_without_23 : decode cX10_without 23 = .ok (.ifCond .ne 9, 3) := by decide +kernel
theorem dX10_without_26 : decode cX10_without 26 = .ok (.aload_n 0, 1) := by decide +kernel
theorem dX10_without_27 : decode cX10_without 27 = .ok (.iconst 2, 1) := by decide +kernel
theorem dX10_without_28 : decode cX10_without 28 = .ok (.invokevirtual 94, 3) := by decide +kernel
theorem dX10_without_31 : decode cX10_without 31 = .ok (.ireturn, 1) := by decide +kernel
theorem dX10_without_32 : decode cX10_without 32 = .ok (.aload_n 0, 1) := by decide +kernel
theorem dX10_without_33 : decode cX10_without 33 = .ok (.bipush 100, 2) := by decide +kernel
theorem dX10_without_35 : decode cX10_without 35 = .ok (.iload_n 1, 1) := by decide +kernel
theorem dX10_without_36 : decode cX10_without 36 = .ok (.imul, 1) := by decide +kernel
theorem dX10_without_37 : decode cX10_without 37 = .ok (.iload_n 2, 1) := by decide +kernel
theorem dX10_without_38 : decode cX10_without 38 = .ok (.iadd, 1) := by decide +kernel
theorem dX10_without_39 : decode cX10_without 39 = .ok (.invokevirtual 278, 3) := by decide +kernel
theorem dX10_without_42 : decode cX10_without 42 = .ok (.aload_n 0, 1) := by decide +kernel
theorem dX10_without_43 : decode cX10_without 43 = .ok (.invokevirtual 241, 3) := by decide +kernel
theorem dX10_without_46 : decode cX10_without 46 = .ok (.aload_n 0, 1) := by decide +kernel
theorem dX10_without_47 : decode cX10_without 47 = .ok (.invokevirtual 247, 3) := by decide +kernel
theorem dX10_without_50 : decode cX10_without 50 = .ok (.istore_n 3, 1) := by decide +kernel
theorem dX10_without_51 : decode cX10_without 51 = .ok (.aload_n 0, 1) := by decide +kernel
theorem dX10_without_52 : decode cX10_without 52 = .ok (.bipush 100, 2) := by decide +kernel
theorem dX10_without_54 : decode cX10_without 54 = .ok (.iload_n 1, 1) := by decide +kernel
theorem dX10_without_55 : decode cX10_without 55 = .ok (.imul, 1) := by decide +kernel
theorem dX10_without_56 : decode cX10_without 56 = .ok (.iload_n 2, 1) := by decide +kernel
theorem dX10_without_57 : decode cX10_without 57 = .ok (.iadd, 1) := by decide +kernel
theorem dX10_without_58 : decode cX10_without 58 = .ok (.invokevirtual 278, 3) := by decide +kernel
theorem dX10_without_61 : decode cX10_without 61 = .ok (.aload_n 0, 1) := by decide +kernel
theorem dX10_without_62 : decode cX10_without 62 = .ok (.iload_n 3, 1) := by decide +kernel
theorem dX10_without_63 : decode cX10_without 63 = .ok (.invokevirtual 98, 3) := by decide +kernel
theorem dX10_without_66 : decode cX10_without 66 = .ok (.ireturn, 1) := by decide +kernel
theorem dX10_key_0 : decode cX10_key 0 = .ok (.aload_n 0, 1) := by decide +kernel
theorem dX10_key_1 : decode cX10_key 1 = .ok (.iconst 0, 1) := by decide +kernel
theorem dX10_key_2 : decode cX10_key 2 = .ok (.putfield 80, 3) := by decide +kernel
theorem dX10_key_5 : decode cX10_key 5 = .ok (.aload_n 0, 1) := by decide +kernel
theorem dX10_key_6 : decode cX10_key 6 = .ok (.invokevirtual 241, 3) := by decide +kernel
theorem dX10_key_9 : decode cX10_key 9 = .ok (.aload_n 0, 1) := by decide +kernel
theorem dX10_key_10 : decode cX10_key 10 = .ok (.invokevirtual 247, 3) := by decide +kernel
theorem dX10_key_13 : decode cX10_key 13 = .ok (.istore_n 1, 1) := by decide +kernel
theorem dX10_key_14 : decode cX10_key 14 = .ok (.iload_n 1, 1) := by decide +kernel
theorem dX10_key_15 : decode cX10_key 15 = .ok (.ifCond .ne 9, 3) := by decide +kernel
theorem dX10_key_18 : decode cX10_key 18 = .ok (.aload_n 0, 1) := by decide +kernel
theorem dX10_key_19 : decode cX10_key 19 = .ok (.iconst 5, 1) := by decide +kernel
theorem dX10_key_20 : decode cX10_key 20 = .ok (.invokevirtual 94, 3) := by decide +kernel
theorem dX10_key_23 : decode cX10_key 23 = .ok (.ireturn, 1) := by decide +kernel
theorem dX10_key_24 : decode cX10_key 24 = .ok (.bipush (-2), 2) := by decide +kernel
theorem dX10_key_26 : decode cX10_key 26 = .ok (.istore_n 2, 1) := by decide +kernel
theorem dX10_key_27 : decode cX10_key 27 = .ok (.iconst 0, 1) := by decide +kernel
theorem dX10_key_28 : decode cX10_key 28 = .ok (.istore_n 3, 1) := by decide +kernel
theorem dX10_key_29 : decode cX10_key 29 = .ok (.iconst 0, 1) := by decide +kernel
theorem dX10_key_30 : decode cX10_key 30 = .ok (.istore 4, 2) := by decide +kernel
theorem dX10_key_32 : decode cX10_key 32 = .ok (.iload 4, 2) := by decide +kernel
theorem dX10_key_34 : decode cX10_key 34 = .ok (.aload_n 0, 1) := by decide +kernel
theorem dX10_key_35 : decode cX10_key 35 = .ok (.getfield 86, 3) := by decide +kernel
theorem dX10_key_38 : decode cX10_key 38 = .ok (.if_icmp .ge 100, 3) := by decide +kernel
theorem dX10_key_41 : decode cX10_key 41 = .ok (.iconst 0, 1) := by decide +kernel
theorem dX10_key_42 : decode cX10_key 42 = .ok (.istore 5, 2) := by decide +kernel
theorem dX10_key_44 : decode cX10_key 44 = .ok (.iload 5, 2) := by decide +kernel
theorem dX10_key_46 : decode cX10_key 46 = .ok (.bipush 16, 2) := by decide +kernel
theorem dX10_key_48 : decode cX10_key 48 = .ok (.if_icmp .ge 84, 3) := by decide +kernel
theorem dX10_key_51 : decode cX10_key 51 = .ok (.aload_n 0, 1) := by decide +kernel
theorem dX10_key_52 : decode cX10_key 52 = .ok (.getfield 13, 3) := by decide +kernel
theorem dX10_key_55 : decode cX10_key 55 = .ok (.iload 4, 2) := by decide +kernel
theorem dX10_key_57 : decode cX10_key 57 = .ok (.iaload, 1) := by decide +kernel
theorem dX10_key_58 : decode cX10_key 58 = .ok (.iload 5, 2) := by decide +kernel
theorem dX10_key_60 : decode cX10_key 60 = .ok (.ishr, 1) := by decide +kernel
theorem dX10_key_61 : decode cX10_key 61 = .ok (.iconst 1, 1) := by decide +kernel
theorem dX10_key_62 : decode cX10_key 62 = .ok (.iand, 1) := by decide +kernel
theorem dX10_key_63 : decode cX10_key 63 = .ok (.ifCond .ne 6, 3) := by decide +kernel
theorem dX10_key_66 : decode cX10_key 66 = .ok (.goto 60, 3) := by decide +kernel
theorem dX10_key_69 : decode cX10_key 69 = .ok (.aload_n 0, 1) := by decide +kernel
theorem dX10_key_70 : decode cX10_key 70 = .ok (.bipush 100, 2) := by decide +kernel
theorem dX10_key_72 : decode cX10_key 72 = .ok (.iload 4, 2) := by decide +kernel
theorem dX10_key_74 : decode cX10_key 74 = .ok (.imul, 1) := by decide +kernel
theorem dX10_key_75 : decode cX10_key 75 = .ok (.iload 5, 2) := by decide +kernel
theorem dX10_key_77 : decode cX10_key 77 = .ok (.iadd, 1) := by decide +kernel
theorem dX10_key_78 : decode cX10_key 78 = .ok (.invokevirtual 278, 3) := by decide +kernel
theorem dX10_key_81 : decode cX10_key 81 = .ok (.aload_n 0, 1) := by decide +kernel
theorem dX10_key_82 : decode cX10_key 82 = .ok (.invokevirtual 241, 3) := by decide +kernel
theorem dX10_key_85 : decode cX10_key 85 = .ok (.iload_n 1, 1) := by decide +kernel
theorem dX10_key_86 : decode cX10_key 86 = .ok (.aload_n 0, 1) := by decide +kernel
theorem dX10_key_87 : decode cX10_key 87 = .ok (.invokevirtual 247, 3) := by decide +kernel
theorem dX10_key_90 : decode cX10_key 90 = .ok (.isub, 1) := by decide +kernel
theorem dX10_key_91 : decode cX10_key 91 = .ok (.istore 6, 2) := by decide +kernel
theorem dX10_key_93 : decode cX10_key 93 = .ok (.aload_n 0, 1) := by decide +kernel
theorem dX10_key_94 : decode cX10_key 94 = .ok (.bipush 100, 2) := by decide +kernel
theorem dX10_key_96 : decode cX10_key 96 = .ok (.iload 4, 2) := by decide +kernel
theorem dX10_key_98 : decode cX10_key 98 = .ok (.imul, 1) := by decide +kernel
theorem dX10_key_99 : decode cX10_key 99 = .ok (.iload 5, 2) := by decide +kernel
theorem dX10_key_101 : decode cX10_key 101 = .ok (.iadd, 1) := by decide +kernel
theorem dX10_key_102 : decode cX10_key 102 = .ok (.invokevirtual 278, 3) := by decide +kernel
theorem dX10_key_105 : decode cX10_key 105 = .ok (.iload 6, 2) := by decide +kernel
theorem dX10_key_107 : decode cX10_key 107 = .ok (.iload_n 3, 1) := by decide +kernel
theorem dX10_key_108 : decode cX10_key 108 = .ok (.if_icmp .gt 6, 3) := by decide +kernel
theorem dX10_key_111 : decode cX10_key 111 = .ok (.goto 15, 3) := by decide +kernel
theorem dX10_key_114 : decode cX10_key 114 = .ok (.iload 6, 2) := by decide +kernel
theorem dX10_key_116 : decode cX10_key 116 = .ok (.istore_n 3, 1) := by decide +kernel
theorem dX10_key_117 : decode cX10_key 117 = .ok (.bipush 100, 2) := by decide +kernel
theorem dX10_key_119 : decode cX10_key 119 = .ok (.iload 4, 2) := by decide +kernel
theorem dX10_key_121 : decode cX10_key 121 = .ok (.imul, 1) := by decide +kernel
theorem dX10_key_122 : decode cX10_key 122 = .ok (.iload 5, 2) := by decide +kernel
theorem dX10_key_124 : decode cX10_key 124 = .ok (.iadd, 1) := by decide +kernel
theorem dX10_key_125 : decode cX10_key 125 = .ok (.istore_n 2, 1) := by decide +kernel
theorem dX10_key_126 : decode cX10_key 126 = .ok (.iinc 5 1, 3) := by decide +kernel
theorem dX10_key_129 : decode cX10_key 129 = .ok (.goto (-85), 3) := by decide +kernel
theorem dX10_key_132 : decode cX10_key 132 = .ok (.iinc 4 1, 3) := by decide +kernel
theorem dX10_key_135 : decode cX10_key 135 = .ok (.goto (-103), 3) := by decide +kernel
theorem dX10_key_138 : decode cX10_key 138 = .ok (.aload_n 0, 1) := by decide +kernel
theorem dX10_key_139 : decode cX10_key 139 = .ok (.iload_n 2, 1) := by decide +kernel
theorem dX10_key_140 : decode cX10_key 140 = .ok (.invokevirtual 98, 3) := by decide +kernel
theorem dX10_key_143 : decode cX10_key 143 = .ok (.ireturn, 1) := by decide +kernel
theorem dX10_count_0 : decode cX10_count 0 = .ok (.aload_n 0, 1) := by decide +kernel
theorem dX10_count_1 : decode cX10_count 1 = .ok (.iconst 0, 1) := by decide +kernel
theorem dX10_count_2 : decode cX10_count 2 = .ok (.putfield 80, 3) := by decide +kernel
theorem dX10_count_5 : decode cX10_count 5 = .ok (.iconst 0, 1) := by decide +kernel
theorem dX10_count_6 : decode cX10_count 6 = .ok (.istore_n 2, 1) := by decide +kernel
theorem dX10_count_7 : decode cX10_count 7 = .ok (.iload_n 1, 1) := by decide +kernel
theorem dX10_count_8 : decode cX10_count 8 = .ok (.tableswitch 131 0 4 #[36, 41, 68, 98, 126], 36) := by decide +kernel
theorem dX10_count_44 : decode cX10_count 44 = .ok (.aload_n 0, 1) := by decide +kernel
theorem dX10_count_45 : decode cX10_count 45 = .ok (.getfield 86, 3) := by decide +kernel
theorem dX10_count_48 : decode cX10_count 48 = .ok (.ireturn, 1) := by decide +kernel
theorem dX10_count_49 : decode cX10_count 49 = .ok (.iconst 0, 1) := by decide +kernel
theorem dX10_count_50 : decode cX10_count 50 = .ok (.istore_n 3, 1) := by decide +kernel
theorem dX10_count_51 : decode cX10_count 51 = .ok (.iload_n 3, 1) := by decide +kernel
theorem dX10_count_52 : decode cX10_count 52 = .ok (.aload_n 0, 1) := by decide +kernel
theorem dX10_count_53 : decode cX10_count 53 = .ok (.getfield 86, 3) := by decide +kernel
theorem dX10_count_56 : decode cX10_count 56 = .ok (.if_icmp .ge 18, 3) := by decide +kernel
theorem dX10_count_59 : decode cX10_count 59 = .ok (.iload_n 2, 1) := by decide +kernel
theorem dX10_count_60 : decode cX10_count 60 = .ok (.aload_n 0, 1) := by decide +kernel
theorem dX10_count_61 : decode cX10_count 61 = .ok (.getfield 17, 3) := by decide +kernel
theorem dX10_count_64 : decode cX10_count 64 = .ok (.iload_n 3, 1) := by decide +kernel
theorem dX10_count_65 : decode cX10_count 65 = .ok (.iaload, 1) := by decide +kernel
theorem dX10_count_66 : decode cX10_count 66 = .ok (.iadd, 1) := by decide +kernel
theorem dX10_count_67 : decode cX10_count 67 = .ok (.istore_n 2, 1) := by decide +kernel
theorem dX10_count_68 : decode cX10_count 68 = .ok (.iinc 3 1, 3) := by decide +kernel
theorem dX10_count_71 : decode cX10_count 71 = .ok (.goto (-20), 3) := by decide +kernel
theorem dX10_count_74 : decode cX10_count 74 = .ok (.iload_n 2, 1) := by decide +kernel
theorem dX10_count_75 : decode cX10_count 75 = .ok (.ireturn, 1) := by decide +kernel
theorem dX10_count_76 : decode cX10_count 76 = .ok (.iconst 0, 1) := by decide +kernel
theorem dX10_count_77 : decode cX10_count 77 = .ok (.istore_n 3, 1) := by decide +kernel
theorem dX10_count_78 : decode cX10_count 78 = .ok (.iload_n 3, 1) := by decide +kernel
theorem dX10_count_79 : decode cX10_count 79 = .ok (.aload_n 0, 1) := by decide +kernel
theorem dX10_count_80 : decode cX10_count 80 = .ok (.getfield 86, 3) := by decide +kernel
theorem dX10_count_83 : decode cX10_count 83 = .ok (.if_icmp .ge 21, 3) := by decide +kernel
theorem dX10_count_86 : decode cX10_count 86 = .ok (.iload_n 2, 1) := by decide +kernel
theorem dX10_count_87 : decode cX10_count 87 = .ok (.aload_n 0, 1) := by decide +kernel
theorem dX10_count_88 : decode cX10_count 88 = .ok (.getfield 13, 3) := by decide +kernel
theorem dX10_count_91 : decode cX10_count 91 = .ok (.iload_n 3, 1) := by decide +kernel
theorem dX10_count_92 : decode cX10_count 92 = .ok (.iaload, 1) := by decide +kernel
theorem dX10_count_93 : decode cX10_count 93 = .ok (.invokestatic 244, 3) := by decide +kernel
theorem dX10_count_96 : decode cX10_count 96 = .ok (.iadd, 1) := by decide +kernel
theorem dX10_count_97 : decode cX10_count 97 = .ok (.istore_n 2, 1) := by decide +kernel
theorem dX10_count_98 : decode cX10_count 98 = .ok (.iinc 3 1, 3) := by decide +kernel
theorem dX10_count_101 : decode cX10_count 101 = .ok (.goto (-23), 3) := by decide +kernel
theorem dX10_count_104 : decode cX10_count 104 = .ok (.iload_n 2, 1) := by decide +kernel
theorem dX10_count_105 : decode cX10_count 105 = .ok (.ireturn, 1) := by decide +kernel
theorem dX10_count_106 : decode cX10_count 106 = .ok (.iconst 0, 1) := by decide +kernel
theorem dX10_count_107 : decode cX10_count 107 = .ok (.istore_n 3, 1) := by decide +kernel
theorem dX10_count_108 : decode cX10_count 108 = .ok (.iload_n 3, 1) := by decide +kernel
theorem dX10_count_109 : decode cX10_count 109 = .ok (.bipush 16, 2) := by decide +kernel
theorem dX10_count_111 : decode cX10_count 111 = .ok (.if_icmp .ge 21, 3) := by decide +kernel
theorem dX10_count_114 : decode cX10_count 114 = .ok (.iload_n 2, 1) := by decide +kernel
theorem dX10_count_115 : decode cX10_count 115 = .ok (.aload_n 0, 1) := by decide +kernel
theorem dX10_count_116 : decode cX10_count 116 = .ok (.getfield 20, 3) := by decide +kernel
theorem dX10_count_119 : decode cX10_count 119 = .ok (.iload_n 3, 1) := by decide +kernel
theorem dX10_count_120 : decode cX10_count 120 = .ok (.iaload, 1) := by decide +kernel
theorem dX10_count_121 : decode cX10_count 121 = .ok (.invokestatic 244, 3) := by decide +kernel
theorem dX10_count_124 : decode cX10_count 124 = .ok (.iadd, 1) := by decide +kernel
theorem dX10_count_125 : decode cX10_count 125 = .ok (.istore_n 2, 1) := by decide +kernel
theorem dX10_count_126 : decode cX10_count 126 = .ok (.iinc 3 1, 3) := by decide +kernel
theorem dX10_count_129 : decode cX10_count 129 = .ok (.goto (-21), 3) := by decide +kernel
theorem dX10_count_132 : decode cX10_count 132 = .ok (.iload_n 2, 1) := by decide +kernel
theorem dX10_count_133 : decode cX10_count 133 = .ok (.ireturn, 1) := by decide +kernel
theorem dX10_count_134 : decode cX10_count 134 = .ok (.aload_n 0, 1) := by decide +kernel
theorem dX10_count_135 : decode cX10_count 135 = .ok (.getfield 219, 3) := by decide +kernel
theorem dX10_count_138 : decode cX10_count 138 = .ok (.ireturn, 1) := by decide +kernel
theorem dX10_count_139 : decode cX10_count 139 = .ok (.iconst (-1), 1) := by decide +kernel
theorem dX10_count_140 : decode cX10_count 140 = .ok (.ireturn, 1) := by decide +kernel
theorem dX10_trouble_0 : decode cX10_trouble 0 = .ok (.aload_n 0, 1) := by decide +kernel
theorem dX10_trouble_1 : decode cX10_trouble 1 = .ok (.iconst 0, 1) := by decide +kernel
theorem dX10_trouble_2 : decode cX10_trouble 2 = .ok (.putfield 80, 3) := by decide +kernel
theorem dX10_trouble_5 : decode cX10_trouble 5 = .ok (.aload_n 0, 1) := by decide +kernel
theorem dX10_trouble_6 : decode cX10_trouble 6 = .ok (.getfield 83, 3) := by decide +kernel
theorem dX10_trouble_9 : decode cX10_trouble 9 = .ok (.ireturn, 1) := by decide +kernel
theorem dJ6_bitCount_0f7a4_0 : decode cJ6_bitCount_0f7a4 0 = .ok (.iload_n 0, 1) := by decide +kernel
theorem dJ6_bitCount_0f7a4_1 : decode cJ6_bitCount_0f7a4 1 = .ok (.iload_n 0, 1) := by decide +kernel
theorem dJ6_bitCount_0f7a4_2 : decode cJ6_bitCount_0f7a4 2 = .ok (.iconst 1, 1) := by decide +kernel
theorem dJ6_bitCount_0f7a4_3 : decode cJ6_bitCount_0f7a4 3 = .ok (.iushr, 1) := by decide +kernel
theorem dJ6_bitCount_0f7a4_4 : decode cJ6_bitCount_0f7a4 4 = .ok (.ldc_w 265, 3) := by decide +kernel
theorem dJ6_bitCount_0f7a4_7 : decode cJ6_bitCount_0f7a4 7 = .ok (.iand, 1) := by decide +kernel
theorem dJ6_bitCount_0f7a4_8 : decode cJ6_bitCount_0f7a4 8 = .ok (.isub, 1) := by decide +kernel
theorem dJ6_bitCount_0f7a4_9 : decode cJ6_bitCount_0f7a4 9 = .ok (.istore_n 0, 1) := by decide +kernel
theorem dJ6_bitCount_0f7a4_10 : decode cJ6_bitCount_0f7a4 10 = .ok (.iload_n 0, 1) := by decide +kernel
theorem dJ6_bitCount_0f7a4_11 : decode cJ6_bitCount_0f7a4 11 = .ok (.ldc_w 266, 3) := by decide +kernel
theorem dJ6_bitCount_0f7a4_14 : decode cJ6_bitCount_0f7a4 14 = .ok (.iand, 1) := by decide +kernel
theorem dJ6_bitCount_0f7a4_15 : decode cJ6_bitCount_0f7a4 15 = .ok (.iload_n 0, 1) := by decide +kernel
theorem dJ6_bitCount_0f7a4_16 : decode cJ6_bitCount_0f7a4 16 = .ok (.iconst 2, 1) := by decide +kernel
theorem dJ6_bitCount_0f7a4_17 : decode cJ6_bitCount_0f7a4 17 = .ok (.iushr, 1) := by decide +kernel
theorem dJ6_bitCount_0f7a4_18 : decode cJ6_bitCount_0f7a4 18 = .ok (.ldc_w 266, 3) := by decide +kernel
theorem dJ6_bitCount_0f7a4_21 : decode cJ6_bitCount_0f7a4 21 = .ok (.iand, 1) := by decide +kernel
theorem dJ6_bitCount_0f7a4_22 : decode cJ6_bitCount_0f7a4 22 = .ok (.iadd, 1) := by decide +kernel
theorem dJ6_bitCount_0f7a4_23 : decode cJ6_bitCount_0f7a4 23 = .ok (.istore_n 0, 1) := by decide +kernel
theorem dJ6_bitCount_0f7a4_24 : decode cJ6_bitCount_0f7a4 24 = .ok (.iload_n 0, 1) := by decide +kernel
theorem dJ6_bitCount_0f7a4_25 : decode cJ6_bitCount_0f7a4 25 = .ok (.iload_n 0, 1) := by decide +kernel
theorem dJ6_bitCount_0f7a4_26 : decode cJ6_bitCount_0f7a4 26 = .ok (.iconst 4, 1) := by decide +kernel
theorem dJ6_bitCount_0f7a4_27 : decode cJ6_bitCount_0f7a4 27 = .ok (.iushr, 1) := by decide +kernel
theorem dJ6_bitCount_0f7a4_28 : decode cJ6_bitCount_0f7a4 28 = .ok (.iadd, 1) := by decide +kernel
theorem dJ6_bitCount_0f7a4_29 : decode cJ6_bitCount_0f7a4 29 = .ok (.ldc_w 267, 3) := by decide +kernel
theorem dJ6_bitCount_0f7a4_32 : decode cJ6_bitCount_0f7a4 32 = .ok (.iand, 1) := by decide +kernel
theorem dJ6_bitCount_0f7a4_33 : decode cJ6_bitCount_0f7a4 33 = .ok (.istore_n 0, 1) := by decide +kernel
theorem dJ6_bitCount_0f7a4_34 : decode cJ6_bitCount_0f7a4 34 = .ok (.iload_n 0, 1) := by decide +kernel
theorem dJ6_bitCount_0f7a4_35 : decode cJ6_bitCount_0f7a4 35 = .ok (.iload_n 0, 1) := by decide +kernel
theorem dJ6_bitCount_0f7a4_36 : decode cJ6_bitCount_0f7a4 36 = .ok (.bipush 8, 2) := by decide +kernel
theorem dJ6_bitCount_0f7a4_38 : decode cJ6_bitCount_0f7a4 38 = .ok (.iushr, 1) := by decide +kernel
theorem dJ6_bitCount_0f7a4_39 : decode cJ6_bitCount_0f7a4 39 = .ok (.iadd, 1) := by decide +kernel
theorem dJ6_bitCount_0f7a4_40 : decode cJ6_bitCount_0f7a4 40 = .ok (.istore_n 0, 1) := by decide +kernel
theorem dJ6_bitCount_0f7a4_41 : decode cJ6_bitCount_0f7a4 41 = .ok (.iload_n 0, 1) := by decide +kernel
theorem dJ6_bitCount_0f7a4_42 : decode cJ6_bitCount_0f7a4 42 = .ok (.iload_n 0, 1) := by decide +kernel
theorem dJ6_bitCount_0f7a4_43 : decode cJ6_bitCount_0f7a4 43 = .ok (.bipush 16, 2) := by decide +kernel
theorem dJ6_bitCount_0f7a4_45 : decode cJ6_bitCount_0f7a4 45 = .ok (.iushr, 1) := by decide +kernel
theorem dJ6_bitCount_0f7a4_46 : decode cJ6_bitCount_0f7a4 46 = .ok (.iadd, 1) := by decide +kernel
theorem dJ6_bitCount_0f7a4_47 : decode cJ6_bitCount_0f7a4 47 = .ok (.istore_n 0, 1) := by decide +kernel
theorem dJ6_bitCount_0f7a4_48 : decode cJ6_bitCount_0f7a4 48 = .ok (.iload_n 0, 1) := by decide +kernel
theorem dJ6_bitCount_0f7a4_49 : decode cJ6_bitCount_0f7a4 49 = .ok (.bipush 63, 2) := by decide +kernel
theorem dJ6_bitCount_0f7a4_51 : decode cJ6_bitCount_0f7a4 51 = .ok (.iand, 1) := by decide +kernel
theorem dJ6_bitCount_0f7a4_52 : decode cJ6_bitCount_0f7a4 52 = .ok (.ireturn, 1) := by decide +kernel
theorem dJ9_min_7cf53_0 : decode cJ9_min_7cf53 0 = .ok (.iload_n 0, 1) := by decide +kernel
theorem dJ9_min_7cf53_1 : decode cJ9_min_7cf53 1 = .ok (.iload_n 1, 1) := by decide +kernel
theorem dJ9_min_7cf53_2 : decode cJ9_min_7cf53 2 = .ok (.if_icmp .gt 7, 3) := by decide +kernel
theorem dJ9_min_7cf53_5 : decode cJ9_min_7cf53 5 = .ok (.iload_n 0, 1) := by decide +kernel
theorem dJ9_min_7cf53_6 : decode cJ9_min_7cf53 6 = .ok (.goto 4, 3) := by decide +kernel
theorem dJ9_min_7cf53_9 : decode cJ9_min_7cf53 9 = .ok (.iload_n 1, 1) := by decide +kernel
theorem dJ9_min_7cf53_10 : decode cJ9_min_7cf53 10 = .ok (.ireturn, 1) := by decide +kernel
theorem dJ0_length_8abf5_0 : decode cJ0_length_8abf5 0 = .ok (.aload_n 0, 1) := by decide +kernel
theorem dJ0_length_8abf5_1 : decode cJ0_length_8abf5 1 = .ok (.getfield 9, 3) := by decide +kernel
theorem dJ0_length_8abf5_4 : decode cJ0_length_8abf5 4 = .ok (.arraylength, 1) := by decide +kernel
theorem dJ0_length_8abf5_5 : decode cJ0_length_8abf5 5 = .ok (.aload_n 0, 1) := by decide +kernel
theorem dJ0_length_8abf5_6 : decode cJ0_length_8abf5 6 = .ok (.invokevirtual 335, 3) := by decide +kernel
theorem dJ0_length_8abf5_9 : decode cJ0_length_8abf5 9 = .ok (.ishr, 1) := by decide +kernel
theorem dJ0_length_8abf5_10 : decode cJ0_length_8abf5 10 = .ok (.ireturn, 1) := by decide +kernel
theorem dJ0_charAt_5068e_0 : decode cJ0_charAt_5068e 0 = .ok (.aload_n 0, 1) := by decide +kernel
theorem dJ0_charAt_5068e_1 : decode cJ0_charAt_5068e 1 = .ok (.invokevirtual 492, 3) := by decide +kernel
theorem dJ0_charAt_5068e_4 : decode cJ0_charAt_5068e 4 = .ok (.ifCond .eq 12, 3) := by decide +kernel
theorem dJ0_charAt_5068e_7 : decode cJ0_charAt_5068e 7 = .ok (.aload_n 0, 1) := by decide +kernel
theorem dJ0_charAt_5068e_8 : decode cJ0_charAt_5068e 8 = .ok (.getfield 9, 3) := by decide +kernel
theorem dJ0_charAt_5068e_11 : decode cJ0_charAt_5068e 11 = .ok (.iload_n 1, 1) := by decide +kernel
theorem dJ0_charAt_5068e_12 : decode cJ0_charAt_5068e 12 = .ok (.invokestatic 495, 3) := by decide +kernel
theorem dJ0_charAt_5068e_15 : decode cJ0_charAt_5068e 15 = .ok (.ireturn, 1) := by decide +kernel
theorem dJ0_charAt_5068e_16 : decode cJ0_charAt_5068e 16 = .ok (.aload_n 0, 1) := by decide +kernel
theorem dJ0_charAt_5068e_17 : decode cJ0_charAt_5068e 17 = .ok (.getfield 9, 3) := by decide +kernel
theorem dJ0_charAt_5068e_20 : decode cJ0_charAt_5068e 20 = .ok (.iload_n 1, 1) := by decide +kernel
theorem dJ0_charAt_5068e_21 : decode cJ0_charAt_5068e 21 = .ok (.invokestatic 498, 3) := by decide +kernel
theorem dJ0_charAt_5068e_24 : decode cJ0_charAt_5068e 24 = .ok (.ireturn, 1) := by decide +kernel
theorem dJ0_coder_7d493_0 : decode cJ0_coder_7d493 0 = .ok (.getstatic 38, 3) := by decide +kernel
theorem dJ0_coder_7d493_3 : decode cJ0_coder_7d493 3 = .ok (.ifCond .eq 10, 3) := by decide +kernel
theorem dJ0_coder_7d493_6 : decode cJ0_coder_7d493 6 = .ok (.aload_n 0, 1) := by decide +kernel
theorem dJ0_coder_7d493_7 : decode cJ0_coder_7d493 7 = .ok (.getfield 15, 3) := by decide +kernel
theorem dJ0_coder_7d493_10 : decode cJ0_coder_7d493 10 = .ok (.goto 4, 3) := by decide +kernel
theorem dJ0_coder_7d493_13 : decode cJ0_coder_7d493 13 = .ok (.iconst 1, 1) := by decide +kernel
theorem dJ0_coder_7d493_14 : decode cJ0_coder_7d493 14 = .ok (.ireturn, 1) := by decide +kernel
theorem dJ0_isLatin1_aae02_0 : decode cJ0_isLatin1_aae02 0 = .ok (.getstatic 38, 3) := by decide +kernel
theorem dJ0_isLatin1_aae02_3 : decode cJ0_isLatin1_aae02 3 = .ok (.ifCond .eq 14, 3) := by decide +kernel
theorem dJ0_isLatin1_aae02_6 : decode cJ0_isLatin1_aae02 6 = .ok (.aload_n 0, 1) := by decide +kernel
theorem dJ0_isLatin1_aae02_7 : decode cJ0_isLatin1_aae02 7 = .ok (.getfield 15, 3) := by decide +kernel
theorem dJ0_isLatin1_aae02_10 : decode cJ0_isLatin1_aae02 10 = .ok (.ifCond .ne 7, 3) := by decide +kernel
theorem dJ0_isLatin1_aae02_13 : decode cJ0_isLatin1_aae02 13 = .ok (.iconst 1, 1) := by decide +kernel
theorem dJ0_isLatin1_aae02_14 : decode cJ0_isLatin1_aae02 14 = .ok (.goto 4, 3) := by decide +kernel
theorem dJ0_isLatin1_aae02_17 : decode cJ0_isLatin1_aae02 17 = .ok (.iconst 0, 1) := by decide +kernel
theorem dJ0_isLatin1_aae02_18 : decode cJ0_isLatin1_aae02 18 = .ok (.ireturn, 1) := by decide +kernel
theorem dJ0_checkIndex_df160_0 : decode cJ0_checkIndex_df160 0 = .ok (.iload_n 0, 1) := by decide +kernel
theorem dJ0_checkIndex_df160_1 : decode cJ0_checkIndex_df160 1 = .ok (.iload_n 1, 1) := by decide +kernel
theorem dJ0_checkIndex_df160_2 : decode cJ0_checkIndex_df160 2 = .ok (.getstatic 1053, 3) := by decide +kernel
theorem dJ0_checkIndex_df160_5 : decode cJ0_checkIndex_df160 5 = .ok (.invokestatic 1059, 3) := by decide +kernel
theorem dJ0_checkIndex_df160_8 : decode cJ0_checkIndex_df160 8 = .ok (.pop, 1) := by decide +kernel
theorem dJ0_checkIndex_df160_9 : decode cJ0_checkIndex_df160 9 = .ok (.return_, 1) := by decide +kernel
theorem dJ1_charAt_3b067_0 : decode cJ1_charAt_3b067 0 = .ok (.iload_n 1, 1) := by decide +kernel
theorem dJ1_charAt_3b067_1 : decode cJ1_charAt_3b067 1 = .ok (.aload_n 0, 1) := by decide +kernel
theorem dJ1_charAt_3b067_2 : decode cJ1_charAt_3b067 2 = .ok (.arraylength, 1) := by decide +kernel
theorem dJ1_charAt_3b067_3 : decode cJ1_charAt_3b067 3 = .ok (.invokestatic 9, 3) := by decide +kernel
theorem dJ1_charAt_3b067_6 : decode cJ1_charAt_3b067 6 = .ok (.aload_n 0, 1) := by decide +kernel
theorem dJ1_charAt_3b067_7 : decode cJ1_charAt_3b067 7 = .ok (.iload_n 1, 1) := by decide +kernel
theorem dJ1_charAt_3b067_8 : decode cJ1_charAt_3b067 8 = .ok (.baload, 1) := by decide +kernel
theorem dJ1_charAt_3b067_9 : decode cJ1_charAt_3b067 9 = .ok (.sipush 255, 3) := by decide +kernel
theorem dJ1_charAt_3b067_12 : decode cJ1_charAt_3b067 12 = .ok (.iand, 1) := by decide +kernel
theorem dJ1_charAt_3b067_13 : decode cJ1_charAt_3b067 13 = .ok (.i2c, 1) := by decide +kernel
theorem dJ1_charAt_3b067_14 : decode cJ1_charAt_3b067 14 = .ok (.ireturn, 1) := by decide +kernel
theorem dJ2_getChar_3b067_0 : decode cJ2_getChar_3b067 0 = .ok (.getstatic 44, 3) := by decide +kernel
theorem dJ2_getChar_3b067_3 : decode cJ2_getChar_3b067 3 = .ok (.ifCond .ne 25, 3) := by decide +kernel
theorem dJ2_getChar_3b067_6 : decode cJ2_getChar_3b067 6 = .ok (.iload_n 1, 1) := by decide +kernel
theorem dJ2_getChar_3b067_7 : decode cJ2_getChar_3b067 7 = .ok (.ifCond .lt 11, 3) := by decide +kernel
theorem dJ2_getChar_3b067_10 : decode cJ2_getChar_3b067 10 = .ok (.iload_n 1, 1) := by decide +kernel
theorem dJ2_getChar_3b067_11 : decode cJ2_getChar_3b067 11 = .ok (.aload_n 0, 1) := by decide +kernel
theorem dJ2_getChar_3b067_12 : decode cJ2_getChar_3b067 12 = .ok (.invokestatic 48, 3) := by decide +kernel
theorem dJ2_getChar_3b067_15 : decode cJ2_getChar_3b067 15 = .ok (.if_icmp .lt 13, 3) := by decide +kernel
theorem dJ2_getChar_3b067_18 : decode cJ2_getChar_3b067 18 = .ok (.new 52, 3) := by decide +kernel
theorem dJ2_getChar_3b067_21 : decode cJ2_getChar_3b067 21 = .ok (.dup, 1) := by decide +kernel
theorem dJ2_getChar_3b067_22 : decode cJ2_getChar_3b067 22 = .ok (.ldc 54, 2) := by decide +kernel
theorem dJ2_getChar_3b067_24 : decode cJ2_getChar_3b067 24 = .ok (.invokespecial 56, 3) := by decide +kernel
theorem dJ2_getChar_3b067_27 : decode cJ2_getChar_3b067 27 = .ok (.athrow, 1) := by decide +kernel
theorem dJ2_getChar_3b067_28 : decode cJ2_getChar_3b067 28 = .ok (.iload_n 1, 1) := by decide +kernel
theorem dJ2_getChar_3b067_29 : decode cJ2_getChar_3b067 29 = .ok (.iconst 1, 1) := by decide +kernel
theorem dJ2_getChar_3b067_30 : decode cJ2_getChar_3b067 30 = .ok (.ishl, 1) := by decide +kernel
theorem dJ2_getChar_3b067_31 : decode cJ2_getChar_3b067 31 = .ok (.istore_n 1, 1) := by decide +kernel
theorem dJ2_getChar_3b067_32 : decode cJ2_getChar_3b067 32 = .ok (.aload_n 0, 1) := by decide +kernel
theorem dJ2_getChar_3b067_33 : decode cJ2_getChar_3b067 33 = .ok (.iload_n 1, 1) := by decide +kernel
theorem dJ2_getChar_3b067_34 : decode cJ2_getChar_3b067 34 = .ok (.iinc 1 1, 3) := by decide +kernel
theorem dJ2_getChar_3b067_37 : decode cJ2_getChar_3b067 37 = .ok (.baload, 1) := by decide +kernel
theorem dJ2_getChar_3b067_38 : decode cJ2_getChar_3b067 38 = .ok (.sipush 255, 3) := by decide +kernel
theorem dJ2_getChar_3b067_41 : decode cJ2_getChar_3b067 41 = .ok (.iand, 1) := by decide +kernel
theorem dJ2_getChar_3b067_42 : decode cJ2_getChar_3b067 42 = .ok (.getstatic 59, 3) := by decide +kernel
theorem dJ2_getChar_3b067_45 : decode cJ2_getChar_3b067 45 = .ok (.ishl, 1) := by decide +kernel
theorem dJ2_getChar_3b067_46 : decode cJ2_getChar_3b067 46 = .ok (.aload_n 0, 1) := by decide +kernel
theorem dJ2_getChar_3b067_47 : decode cJ2_getChar_3b067 47 = .ok (.iload_n 1, 1) := by decide +kernel
theorem dJ2_getChar_3b067_48 : decode cJ2_getChar_3b067 48 = .ok (.baload, 1) := by decide +kernel
theorem dJ2_getChar_3b067_49 : decode cJ2_getChar_3b067 49 = .ok (.sipush 255, 3) := by decide +kernel
theorem dJ2_getChar_3b067_52 : decode cJ2_getChar_3b067 52 = .ok (.iand, 1) := by decide +kernel
theorem dJ2_getChar_3b067_53 : decode cJ2_getChar_3b067 53 = .ok (.getstatic 63, 3) := by decide +kernel
theorem dJ2_getChar_3b067_56 : decode cJ2_getChar_3b067 56 = .ok (.ishl, 1) := by decide +kernel
theorem dJ2_getChar_3b067_57 : decode cJ2_getChar_3b067 57 = .ok (.ior, 1) := by decide +kernel
theorem dJ2_getChar_3b067_58 : decode cJ2_getChar_3b067 58 = .ok (.i2c, 1) := by decide +kernel
theorem dJ2_getChar_3b067_59 : decode cJ2_getChar_3b067 59 = .ok (.ireturn, 1) := by decide +kernel
theorem dJ2_length_9d52b_0 : decode cJ2_length_9d52b 0 = .ok (.aload_n 0, 1) := by decide +kernel
theorem dJ2_length_9d52b_1 : decode cJ2_length_9d52b 1 = .ok (.arraylength, 1) := by decide +kernel
theorem dJ2_length_9d52b_2 : decode cJ2_length_9d52b 2 = .ok (.iconst 1, 1) := by decide +kernel
theorem dJ2_length_9d52b_3 : decode cJ2_length_9d52b 3 = .ok (.ishr, 1) := by decide +kernel
theorem dJ2_length_9d52b_4 : decode cJ2_length_9d52b 4 = .ok (.ireturn, 1) := by decide +kernel
theorem dJ2_charAt_3b067_0 : decode cJ2_charAt_3b067 0 = .ok (.iload_n 1, 1) := by decide +kernel
theorem dJ2_charAt_3b067_1 : decode cJ2_charAt_3b067 1 = .ok (.aload_n 0, 1) := by decide +kernel
theorem dJ2_charAt_3b067_2 : decode cJ2_charAt_3b067 2 = .ok (.invokestatic 67, 3) := by decide +kernel
theorem dJ2_charAt_3b067_5 : decode cJ2_charAt_3b067 5 = .ok (.aload_n 0, 1) := by decide +kernel
theorem dJ2_charAt_3b067_6 : decode cJ2_charAt_3b067 6 = .ok (.iload_n 1, 1) := by decide +kernel
theorem dJ2_charAt_3b067_7 : decode cJ2_charAt_3b067 7 = .ok (.invokestatic 71, 3) := by decide +kernel
theorem dJ2_charAt_3b067_10 : decode cJ2_charAt_3b067 10 = .ok (.ireturn, 1) := by decide +kernel
theorem dJ2_checkIndex_2214a_0 : decode cJ2_checkIndex_2214a 0 = .ok (.iload_n 0, 1) := by decide +kernel
theorem dJ2_checkIndex_2214a_1 : decode cJ2_checkIndex_2214a 1 = .ok (.aload_n 1, 1) := by decide +kernel
theorem dJ2_checkIndex_2214a_2 : decode cJ2_checkIndex_2214a 2 = .ok (.invokestatic 48, 3) := by decide +kernel
theorem dJ2_checkIndex_2214a_5 : decode cJ2_checkIndex_2214a 5 = .ok (.invokestatic 414, 3) := by decide +kernel
theorem dJ2_checkIndex_2214a_8 : decode cJ2_checkIndex_2214a 8 = .ok (.return_, 1) := by decide +kernel
theorem dJ7_fill_53178_0 : decode cJ7_fill_53178 0 = .ok (.iconst 0, 1) := by decide +kernel
theorem dJ7_fill_53178_1 : decode cJ7_fill_53178 1 = .ok (.istore_n 2, 1) := by decide +kernel
theorem dJ7_fill_53178_2 : decode cJ7_fill_53178 2 = .ok (.aload_n 0, 1) := by decide +kernel
theorem dJ7_fill_53178_3 : decode cJ7_fill_53178 3 = .ok (.arraylength, 1) := by decide +kernel
theorem dJ7_fill_53178_4 : decode cJ7_fill_53178 4 = .ok (.istore_n 3, 1) := by decide +kernel
theorem dJ7_fill_53178_5 : decode cJ7_fill_53178 5 = .ok (.iload_n 2, 1) := by decide +kernel
theorem dJ7_fill_53178_6 : decode cJ7_fill_53178 6 = .ok (.iload_n 3, 1) := by decide +kernel
theorem dJ7_fill_53178_7 : decode cJ7_fill_53178 7 = .ok (.if_icmp .ge 13, 3) := by decide +kernel
theorem dJ7_fill_53178_10 : decode cJ7_fill_53178 10 = .ok (.aload_n 0, 1) := by decide +kernel
theorem dJ7_fill_53178_11 : decode cJ7_fill_53178 11 = .ok (.iload_n 2, 1) := by decide +kernel
theorem dJ7_fill_53178_12 : decode cJ7_fill_53178 12 = .ok (.iload_n 1, 1) := by decide +kernel
theorem dJ7_fill_53178_13 : decode cJ7_fill_53178 13 = .ok (.iastore, 1) := by decide +kernel
theorem dJ7_fill_53178_14 : decode cJ7_fill_53178 14 = .ok (.iinc 2 1, 3) := by decide +kernel
theorem dJ7_fill_53178_17 : decode cJ7_fill_53178 17 = .ok (.goto (-12), 3) := by decide +kernel
theorem dJ7_fill_53178_20 : decode cJ7_fill_53178 20 = .ok (.return_, 1) := by decide +kernel
theorem dJ3_checkIndex_8e157_0 : decode cJ3_checkIndex_8e157 0 = .ok (.iload_n 0, 1) := by decide +kernel
theorem dJ3_checkIndex_8e157_1 : decode cJ3_checkIndex_8e157 1 = .ok (.ifCond .lt 8, 3) := by decide +kernel
theorem dJ3_checkIndex_8e157_4 : decode cJ3_checkIndex_8e157 4 = .ok (.iload_n 0, 1) := by decide +kernel
theorem dJ3_checkIndex_8e157_5 : decode cJ3_checkIndex_8e157 5 = .ok (.iload_n 1, 1) := by decide +kernel
theorem dJ3_checkIndex_8e157_6 : decode cJ3_checkIndex_8e157 6 = .ok (.if_icmp .lt 10, 3) := by decide +kernel
theorem dJ3_checkIndex_8e157_9 : decode cJ3_checkIndex_8e157 9 = .ok (.aload_n 2, 1) := by decide +kernel
theorem dJ3_checkIndex_8e157_10 : decode cJ3_checkIndex_8e157 10 = .ok (.iload_n 0, 1) := by decide +kernel
theorem dJ3_checkIndex_8e157_11 : decode cJ3_checkIndex_8e157 11 = .ok (.iload_n 1, 1) := by decide +kernel
theorem dJ3_checkIndex_8e157_12 : decode cJ3_checkIndex_8e157 12 = .ok (.invokestatic 95, 3) := by decide +kernel
theorem dJ3_checkIndex_8e157_15 : decode cJ3_checkIndex_8e157 15 = .ok (.athrow, 1) := by decide +kernel
theorem dJ3_checkIndex_8e157_16 : decode cJ3_checkIndex_8e157 16 = .ok (.iload_n 0, 1) := by decide +kernel
theorem dJ3_checkIndex_8e157_17 : decode cJ3_checkIndex_8e157 17 = .ok (.ireturn, 1) := by decide +kernel
theorem dL_step_0 : decode cL_step 0 = .ok (.aload_n 2, 1) := by decide +kernel
theorem dL_step_1 : decode cL_step 1 = .ok (.iconst 0, 1) := by decide +kernel
theorem dL_step_2 : decode cL_step 2 = .ok (.aload_n 0, 1) := by decide +kernel
theorem dL_step_3 : decode cL_step 3 = .ok (.iload_n 1, 1) := by decide +kernel
theorem dL_step_4 : decode cL_step 4 = .ok (.invokevirtual 7, 3) := by decide +kernel
theorem dL_step_7 : decode cL_step 7 = .ok (.i2l, 1) := by decide +kernel
theorem dL_step_8 : decode cL_step 8 = .ok (.lastore, 1) := by decide +kernel
theorem dL_step_9 : decode cL_step 9 = .ok (.goto 6, 3) := by decide +kernel
theorem dL_step_12 : decode cL_step 12 = .ok (.astore_n 3, 1) := by decide +kernel
theorem dL_step_13 : decode cL_step 13 = .ok (.iconst 1, 1) := by decide +kernel
theorem dL_step_14 : decode cL_step 14 = .ok (.ireturn, 1) := by decide +kernel
theorem dL_step_15 : decode cL_step 15 = .ok (.iconst 0, 1) := by decide +kernel
theorem dL_step_16 : decode cL_step 16 = .ok (.ireturn, 1) := by decide +kernel
theorem dL_law_0 : decode cL_law 0 = .ok (.new 8, 3) := by decide +kernel
theorem dL_law_3 : decode cL_law 3 = .ok (.dup, 1) := by decide +kernel
theorem dL_law_4 : decode cL_law 4 = .ok (.invokespecial 15, 3) := by decide +kernel
theorem dL_law_7 : decode cL_law 7 = .ok (.astore_n 1, 1) := by decide +kernel
theorem dL_law_8 : decode cL_law 8 = .ok (.new 16, 3) := by decide +kernel
theorem dL_law_11 : decode cL_law 11 = .ok (.dup, 1) := by decide +kernel
theorem dL_law_12 : decode cL_law 12 = .ok (.invokespecial 18, 3) := by decide +kernel
theorem dL_law_15 : decode cL_law 15 = .ok (.astore_n 2, 1) := by decide +kernel
theorem dL_law_16 : decode cL_law 16 = .ok (.iconst 1, 1) := by decide +kernel
theorem dL_law_17 : decode cL_law 17 = .ok (.newarray .long, 2) := by decide +kernel
theorem dL_law_19 : decode cL_law 19 = .ok (.astore_n 3, 1) := by decide +kernel
theorem dL_law_20 : decode cL_law 20 = .ok (.iconst 0, 1) := by decide +kernel
theorem dL_law_21 : decode cL_law 21 = .ok (.istore 4, 2) := by decide +kernel
theorem dL_law_23 : decode cL_law 23 = .ok (.iload 4, 2) := by decide +kernel
theorem dL_law_25 : decode cL_law 25 = .ok (.aload_n 0, 1) := by decide +kernel
theorem dL_law_26 : decode cL_law 26 = .ok (.arraylength, 1) := by decide +kernel
theorem dL_law_27 : decode cL_law 27 = .ok (.bipush 6, 2) := by decide +kernel
theorem dL_law_29 : decode cL_law 29 = .ok (.isub, 1) := by decide +kernel
theorem dL_law_30 : decode cL_law 30 = .ok (.if_icmp .gt 979, 3) := by decide +kernel
theorem dL_law_33 : decode cL_law 33 = .ok (.aload_n 0, 1) := by decide +kernel
theorem dL_law_34 : decode cL_law 34 = .ok (.iload 4, 2) := by decide +kernel
theorem dL_law_36 : decode cL_law 36 = .ok (.iaload, 1) := by decide +kernel
theorem dL_law_37 : decode cL_law 37 = .ok (.bipush 31, 2) := by decide +kernel
theorem dL_law_39 : decode cL_law 39 = .ok (.iand, 1) := by decide +kernel
theorem dL_law_40 : decode cL_law 40 = .ok (.tableswitch 963 0 27 #[128, 153, 190, 263, 300, 313, 326, 375, 440, 477, 502, 527, 552, 565, 606, 631, 668, 724, 749, 774, 799, 824, 837, 850, 875, 912, 925, 950], 128) := by decide +kernel
theorem dL_law_168 : decode cL_law 168 = .ok (.aload_n 1, 1) := by decide +kernel
theorem dL_law_169 : decode cL_law 169 = .ok (.aload_n 0, 1) := by decide +kernel
theorem dL_law_170 : decode cL_law 170 = .ok (.iload 4, 2) := by decide +kernel
theorem dL_law_172 : decode cL_law 172 = .ok (.iconst 1, 1) := by decide +kernel
theorem dL_law_173 : decode cL_law 173 = .ok (.iadd, 1) := by decide +kernel
theorem dL_law_174 : decode cL_law 174 = .ok (.iaload, 1) := by decide +kernel
theorem dL_law_175 : decode cL_law 175 = .ok (.invokevirtual 19, 3) := by decide +kernel
theorem dL_law_178 : decode cL_law 178 = .ok (.aload_n 2, 1) := by decide +kernel
theorem dL_law_179 : decode cL_law 179 = .ok (.aload_n 0, 1) := by decide +kernel
theorem dL_law_180 : decode cL_law 180 = .ok (.iload 4, 2) := by decide +kernel
theorem dL_law_182 : decode cL_law 182 = .ok (.iconst 1, 1) := by decide +kernel
theorem dL_law_183 : decode cL_law 183 = .ok (.iadd, 1) := by decide +kernel
theorem dL_law_184 : decode cL_law 184 = .ok (.iaload, 1) := by decide +kernel
theorem dL_law_185 : decode cL_law 185 = .ok (.invokevirtual 22, 3) := by decide +kernel
theorem dL_law_188 : decode cL_law 188 = .ok (.if_icmp .eq 815, 3) := by decide +kernel
theorem dL_law_191 : decode cL_law 191 = .ok (.iconst 0, 1) := by decide +kernel
theorem dL_law_192 : decode cL_law 192 = .ok (.ireturn, 1) := by decide +kernel
theorem dL_law_193 : decode cL_law 193 = .ok (.aload_n 1, 1) := by decide +kernel
theorem dL_law_194 : decode cL_law 194 = .ok (.aload_n 0, 1) := by decide +kernel
theorem dL_law_195 : decode cL_law 195 = .ok (.iload 4, 2) := by decide +kernel
theorem dL_law_197 : decode cL_law 197 = .ok (.iconst 1, 1) := by decide +kernel
theorem dL_law_198 : decode cL_law 198 = .ok (.iadd, 1) := by decide +kernel
theorem dL_law_199 : decode cL_law 199 = .ok (.iaload, 1) := by decide +kernel
theorem dL_law_200 : decode cL_law 200 = .ok (.aload_n 0, 1) := by decide +kernel
theorem dL_law_201 : decode cL_law 201 = .ok (.iload 4, 2) := by decide +kernel
theorem dL_law_203 : decode cL_law 203 = .ok (.iconst 2, 1) := by decide +kernel
theorem dL_law_204 : decode cL_law 204 = .ok (.iadd, 1) := by decide +kernel
theorem dL_law_205 : decode cL_law 205 = .ok (.iaload, 1) := by decide +kernel
theorem dL_law_206 : decode cL_law 206 = .ok (.invokevirtual 23, 3) := by decide +kernel
theorem dL_law_209 : decode cL_law 209 = .ok (.aload_n 2, 1) := by decide +kernel
theorem dL_law_210 : decode cL_law 210 = .ok (.aload_n 0, 1) := by decide +kernel
theorem dL_law_211 : decode cL_law 211 = .ok (.iload 4, 2) := by decide +kernel
theorem dL_law_213 : decode cL_law 213 = .ok (.iconst 1, 1) := by decide +kernel
theorem dL_law_214 : decode cL_law 214 = .ok (.iadd, 1) := by decide +kernel
theorem dL_law_215 : decode cL_law 215 = .ok (.iaload, 1) := by decide +kernel
theorem dL_law_216 : decode cL_law 216 = .ok (.aload_n 0, 1) := by decide +kernel
theorem dL_law_217 : decode cL_law 217 = .ok (.iload 4, 2) := by decide +kernel
theorem dL_law_219 : decode cL_law 219 = .ok (.iconst 2, 1) := by decide +kernel
theorem dL_law_220 : decode cL_law 220 = .ok (.iadd, 1) := by decide +kernel
theorem dL_law_221 : decode cL_law 221 = .ok (.iaload, 1) := by decide +kernel
theorem dL_law_222 : decode cL_law 222 = .ok (.invokevirtual 27, 3) := by decide +kernel
theorem dL_law_225 : decode cL_law 225 = .ok (.if_icmp .eq 778, 3) := by decide +kernel
theorem dL_law_228 : decode cL_law 228 = .ok (.iconst 0, 1) := by decide +kernel
theorem dL_law_229 : decode cL_law 229 = .ok (.ireturn, 1) := by decide +kernel
theorem dL_law_230 : decode cL_law 230 = .ok (.aload_n 1, 1) := by decide +kernel
theorem dL_law_231 : decode cL_law 231 = .ok (.aload_n 0, 1) := by decide +kernel
theorem dL_law_232 : decode cL_law 232 = .ok (.iload 4, 2) := by decide +kernel
theorem dL_law_234 : decode cL_law 234 = .ok (.iconst 1, 1) := by decide +kernel
theorem dL_law_235 : decode cL_law 235 = .ok (.iadd, 1) := by decide +kernel
theorem dL_law_236 : decode cL_law 236 = .ok (.iaload, 1) := by decide +kernel
theorem dL_law_237 : decode cL_law 237 = .ok (.aload_n 0, 1) := by decide +kernel
theorem dL_law_238 : decode cL_law 238 = .ok (.iload 4, 2) := by decide +kernel
theorem dL_law_240 : decode cL_law 240 = .ok (.iconst 2, 1) := by decide +kernel
theorem dL_law_241 : decode cL_law 241 = .ok (.iadd, 1) := by decide +kernel
theorem dL_law_242 : decode cL_law 242 = .ok (.iaload, 1) := by decide +kernel
theorem dL_law_243 : decode cL_law 243 = .ok (.aload_n 0, 1) := by decide +kernel
theorem dL_law_244 : decode cL_law 244 = .ok (.iload 4, 2) := by decide +kernel
theorem dL_law_246 : decode cL_law 246 = .ok (.iconst 3, 1) := by decide +kernel
theorem dL_law_247 : decode cL_law 247 = .ok (.iadd, 1) := by decide +kernel
theorem dL_law_248 : decode cL_law 248 = .ok (.iaload, 1) := by decide +kernel
theorem dL_law_249 : decode cL_law 249 = .ok (.aload_n 0, 1) := by decide +kernel
theorem dL_law_250 : decode cL_law 250 = .ok (.iload 4, 2) := by decide +kernel
theorem dL_law_252 : decode cL_law 252 = .ok (.iconst 4, 1) := by decide +kernel
theorem dL_law_253 : decode cL_law 253 = .ok (.iadd, 1) := by decide +kernel
theorem dL_law_254 : decode cL_law 254 = .ok (.iaload, 1) := by decide +kernel
theorem dL_law_255 : decode cL_law 255 = .ok (.aload_n 0, 1) := by decide +kernel
theorem dL_law_256 : decode cL_law 256 = .ok (.iload 4, 2) := by decide +kernel
theorem dL_law_258 : decode cL_law 258 = .ok (.iconst 5, 1) := by decide +kernel
theorem dL_law_259 : decode cL_law 259 = .ok (.iadd, 1) := by decide +kernel
theorem dL_law_260 : decode cL_law 260 = .ok (.iaload, 1) := by decide +kernel
theorem dL_law_261 : decode cL_law 261 = .ok (.invokevirtual 28, 3) := by decide +kernel
theorem dL_law_264 : decode cL_law 264 = .ok (.aload_n 2, 1) := by decide +kernel
theorem dL_law_265 : decode cL_law 265 = .ok (.aload_n 0, 1) := by decide +kernel
theorem dL_law_266 : decode cL_law 266 = .ok (.iload 4, 2) := by decide +kernel
theorem dL_law_268 : decode cL_law 268 = .ok (.iconst 1, 1) := by decide +kernel
theorem dL_law_269 : decode cL_law 269 = .ok (.iadd, 1) := by decide +kernel
theorem dL_law_270 : decode cL_law 270 = .ok (.iaload, 1) := by decide +kernel
theorem dL_law_271 : decode cL_law 271 = .ok (.aload_n 0, 1) := by decide +kernel
theorem dL_law_272 : decode cL_law 272 = .ok (.iload 4, 2) := by decide +kernel
theorem dL_law_274 : decode cL_law 274 = .ok (.iconst 2, 1) := by decide +kernel
theorem dL_law_275 : decode cL_law 275 = .ok (.iadd, 1) := by decide +kernel
theorem dL_law_276 : decode cL_law 276 = .ok (.iaload, 1) := by decide +kernel
theorem dL_law_277 : decode cL_law 277 = .ok (.aload_n 0, 1) := by decide +kernel
theorem dL_law_278 : decode cL_law 278 = .ok (.iload 4, 2) := by decide +kernel
theorem dL_law_280 : decode cL_law 280 = .ok (.iconst 3, 1) := by decide +kernel
theorem dL_law_281 : decode cL_law 281 = .ok (.iadd, 1) := by decide +kernel
theorem dL_law_282 : decode cL_law 282 = .ok (.iaload, 1) := by decide +kernel
theorem dL_law_283 : decode cL_law 283 = .ok (.aload_n 0, 1) := by decide +kernel
theorem dL_law_284 : decode cL_law 284 = .ok (.iload 4, 2) := by decide +kernel
theorem dL_law_286 : decode cL_law 286 = .ok (.iconst 4, 1) := by decide +kernel
theorem dL_law_287 : decode cL_law 287 = .ok (.iadd, 1) := by decide +kernel
theorem dL_law_288 : decode cL_law 288 = .ok (.iaload, 1) := by decide +kernel
theorem dL_law_289 : decode cL_law 289 = .ok (.aload_n 0, 1) := by decide +kernel
theorem dL_law_290 : decode cL_law 290 = .ok (.iload 4, 2) := by decide +kernel
theorem dL_law_292 : decode cL_law 292 = .ok (.iconst 5, 1) := by decide +kernel
theorem dL_law_293 : decode cL_law 293 = .ok (.iadd, 1) := by decide +kernel
theorem dL_law_294 : decode cL_law 294 = .ok (.iaload, 1) := by decide +kernel
theorem dL_law_295 : decode cL_law 295 = .ok (.invokevirtual 32, 3) := by decide +kernel
theorem dL_law_298 : decode cL_law 298 = .ok (.if_icmp .eq 705, 3) := by decide +kernel
theorem dL_law_301 : decode cL_law 301 = .ok (.iconst 0, 1) := by decide +kernel
theorem dL_law_302 : decode cL_law 302 = .ok (.ireturn, 1) := by decide +kernel
theorem dL_law_303 : decode cL_law 303 = .ok (.aload_n 1, 1) := by decide +kernel
theorem dL_law_304 : decode cL_law 304 = .ok (.aload_n 0, 1) := by decide +kernel
theorem dL_law_305 : decode cL_law 305 = .ok (.iload 4, 2) := by decide +kernel
theorem dL_law_307 : decode cL_law 307 = .ok (.iconst 1, 1) := by decide +kernel
theorem dL_law_308 : decode cL_law 308 = .ok (.iadd, 1) := by decide +kernel
theorem dL_law_309 : decode cL_law 309 = .ok (.iaload, 1) := by decide +kernel
theorem dL_law_310 : decode cL_law 310 = .ok (.aload_n 0, 1) := by decide +kernel
theorem dL_law_311 : decode cL_law 311 = .ok (.iload 4, 2) := by decide +kernel
theorem dL_law_313 : decode cL_law 313 = .ok (.iconst 2, 1) := by decide +kernel
theorem dL_law_314 : decode cL_law 314 = .ok (.iadd, 1) := by decide +kernel
theorem dL_law_315 : decode cL_law 315 = .ok (.iaload, 1) := by decide +kernel
theorem dL_law_316 : decode cL_law 316 = .ok (.invokevirtual 33, 3) := by decide +kernel
theorem dL_law_319 : decode cL_law 319 = .ok (.aload_n 2, 1) := by decide +kernel
theorem dL_law_320 : decode cL_law 320 = .ok (.aload_n 0, 1) := by decide +kernel
theorem dL_law_321 : decode cL_law 321 = .ok (.iload 4, 2) := by decide +kernel
theorem dL_law_323 : decode cL_law 323 = .ok (.iconst 1, 1) := by decide +kernel
theorem dL_law_324 : decode cL_law 324 = .ok (.iadd, 1) := by decide +kernel
theorem dL_law_325 : decode cL_law 325 = .ok (.iaload, 1) := by decide +kernel
theorem dL_law_326 : decode cL_law 326 = .ok (.aload_n 0, 1) := by decide +kernel
theorem dL_law_327 : decode cL_law 327 = .ok (.iload 4, 2) := by decide +kernel
theorem dL_law_329 : decode cL_law 329 = .ok (.iconst 2, 1) := by decide +kernel
theorem dL_law_330 : decode cL_law 330 = .ok (.iadd, 1) := by decide +kernel
theorem dL_law_331 : decode cL_law 331 = .ok (.iaload, 1) := by decide +kernel
theorem dL_law_332 : decode cL_law 332 = .ok (.invokevirtual 37, 3) := by decide +kernel
theorem dL_law_335 : decode cL_law 335 = .ok (.if_icmp .eq 668, 3) := by decide +kernel
theorem dL_law_338 : decode cL_law 338 = .ok (.iconst 0, 1) := by decide +kernel
theorem dL_law_339 : decode cL_law 339 = .ok (.ireturn, 1) := by decide +kernel
theorem dL_law_340 : decode cL_law 340 = .ok (.aload_n 1, 1) := by decide +kernel
theorem dL_law_341 : decode cL_law 341 = .ok (.invokevirtual 38, 3) := by decide +kernel
theorem dL_law_344 : decode cL_law 344 = .ok (.aload_n 2, 1) := by decide +kernel
theorem dL_law_345 : decode cL_law 345 = .ok (.invokevirtual 42, 3) := by decide +kernel
theorem dL_law_348 : decode cL_law 348 = .ok (.if_icmp .eq 655, 3) := by decide +kernel
theorem dL_law_351 : decode cL_law 351 = .ok (.iconst 0, 1) := by decide +kernel
theorem dL_law_352 : decode cL_law 352 = .ok (.ireturn, 1) := by decide +kernel
theorem dL_law_353 : decode cL_law 353 = .ok (.aload_n 1, 1) := by decide +kernel
theorem dL_law_354 : decode cL_law 354 = .ok (.invokevirtual 43, 3) := by decide +kernel
theorem dL_law_357 : decode cL_law 357 = .ok (.aload_n 2, 1) := by decide +kernel
theorem dL_law_358 : decode cL_law 358 = .ok (.invokevirtual 46, 3) := by decide +kernel
theorem dL_law_361 : decode cL_law 361 = .ok (.if_icmp .eq 642, 3) := by decide +kernel
theorem dL_law_364 : decode cL_law 364 = .ok (.iconst 0, 1) := by decide +kernel
theorem dL_law_365 : decode cL_law 365 = .ok (.ireturn, 1) := by decide +kernel
theorem dL_law_366 : decode cL_law 366 = .ok (.aload_n 1, 1) := by decide +kernel
theorem dL_law_367 : decode cL_law 367 = .ok (.aload_n 0, 1) := by decide +kernel
theorem dL_law_368 : decode cL_law 368 = .ok (.iload 4, 2) := by decide +kernel
theorem dL_law_370 : decode cL_law 370 = .ok (.iconst 1, 1) := by decide +kernel
theorem dL_law_371 : decode cL_law 371 = .ok (.iadd, 1) := by decide +kernel
theorem dL_law_372 : decode cL_law 372 = .ok (.iaload, 1) := by decide +kernel
theorem dL_law_373 : decode cL_law 373 = .ok (.aload_n 0, 1) := by decide +kernel
theorem dL_law_374 : decode cL_law 374 = .ok (.iload 4, 2) := by decide +kernel
theorem dL_law_376 : decode cL_law 376 = .ok (.iconst 2, 1) := by decide +kernel
theorem dL_law_377 : decode cL_law 377 = .ok (.iadd, 1) := by decide +kernel
theorem dL_law_378 : decode cL_law 378 = .ok (.iaload, 1) := by decide +kernel
theorem dL_law_379 : decode cL_law 379 = .ok (.aload_n 0, 1) := by decide +kernel
theorem dL_law_380 : decode cL_law 380 = .ok (.iload 4, 2) := by decide +kernel
theorem dL_law_382 : decode cL_law 382 = .ok (.iconst 3, 1) := by decide +kernel
theorem dL_law_383 : decode cL_law 383 = .ok (.iadd, 1) := by decide +kernel
theorem dL_law_384 : decode cL_law 384 = .ok (.iaload, 1) := by decide +kernel
theorem dL_law_385 : decode cL_law 385 = .ok (.invokevirtual 47, 3) := by decide +kernel
theorem dL_law_388 : decode cL_law 388 = .ok (.aload_n 2, 1) := by decide +kernel
theorem dL_law_389 : decode cL_law 389 = .ok (.aload_n 0, 1) := by decide +kernel
theorem dL_law_390 : decode cL_law 390 = .ok (.iload 4, 2) := by decide +kernel
theorem dL_law_392 : decode cL_law 392 = .ok (.iconst 1, 1) := by decide +kernel
theorem dL_law_393 : decode cL_law 393 = .ok (.iadd, 1) := by decide +kernel
theorem dL_law_394 : decode cL_law 394 = .ok (.iaload, 1) := by decide +kernel
theorem dL_law_395 : decode cL_law 395 = .ok (.aload_n 0, 1) := by decide +kernel
theorem dL_law_396 : decode cL_law 396 = .ok (.iload 4, 2) := by decide +kernel
theorem dL_law_398 : decode cL_law 398 = .ok (.iconst 2, 1) := by decide +kernel
theorem dL_law_399 : decode cL_law 399 = .ok (.iadd, 1) := by decide +kernel
theorem dL_law_400 : decode cL_law 400 = .ok (.iaload, 1) := by decide +kernel
theorem dL_law_401 : decode cL_law 401 = .ok (.aload_n 0, 1) := by decide +kernel
theorem dL_law_402 : decode cL_law 402 = .ok (.iload 4, 2) := by decide +kernel
theorem dL_law_404 : decode cL_law 404 = .ok (.iconst 3, 1) := by decide +kernel
theorem dL_law_405 : decode cL_law 405 = .ok (.iadd, 1) := by decide +kernel
theorem dL_law_406 : decode cL_law 406 = .ok (.iaload, 1) := by decide +kernel
theorem dL_law_407 : decode cL_law 407 = .ok (.invokevirtual 51, 3) := by decide +kernel
theorem dL_law_410 : decode cL_law 410 = .ok (.if_icmp .eq 593, 3) := by decide +kernel
theorem dL_law_413 : decode cL_law 413 = .ok (.iconst 0, 1) := by decide +kernel
theorem dL_law_414 : decode cL_law 414 = .ok (.ireturn, 1) := by decide +kernel
theorem dL_law_415 : decode cL_law 415 = .ok (.aload_n 1, 1) := by decide +kernel
theorem dL_law_416 : decode cL_law 416 = .ok (.aload_n 0, 1) := by decide +kernel
theorem dL_law_417 : decode cL_law 417 = .ok (.iload 4, 2) := by decide +kernel
theorem dL_law_419 : decode cL_law 419 = .ok (.iconst 1, 1) := by decide +kernel
theorem dL_law_420 : decode cL_law 420 = .ok (.iadd, 1) := by decide +kernel
theorem dL_law_421 : decode cL_law 421 = .ok (.iaload, 1) := by decide +kernel
theorem dL_law_422 : decode cL_law 422 = .ok (.aload_n 0, 1) := by decide +kernel
theorem dL_law_423 : decode cL_law 423 = .ok (.iload 4, 2) := by decide +kernel
theorem dL_law_425 : decode cL_law 425 = .ok (.iconst 2, 1) := by decide +kernel
theorem dL_law_426 : decode cL_law 426 = .ok (.iadd, 1) := by decide +kernel
theorem dL_law_427 : decode cL_law 427 = .ok (.iaload, 1) := by decide +kernel
theorem dL_law_428 : decode cL_law 428 = .ok (.aload_n 0, 1) := by decide +kernel
theorem dL_law_429 : decode cL_law 429 = .ok (.iload 4, 2) := by decide +kernel
theorem dL_law_431 : decode cL_law 431 = .ok (.iconst 3, 1) := by decide +kernel
theorem dL_law_432 : decode cL_law 432 = .ok (.iadd, 1) := by decide +kernel
theorem dL_law_433 : decode cL_law 433 = .ok (.iaload, 1) := by decide +kernel
theorem dL_law_434 : decode cL_law 434 = .ok (.ifCond .eq 7, 3) := by decide +kernel
theorem dL_law_437 : decode cL_law 437 = .ok (.iconst 1, 1) := by decide +kernel
theorem dL_law_438 : decode cL_law 438 = .ok (.goto 4, 3) := by decide +kernel
theorem dL_law_441 : decode cL_law 441 = .ok (.iconst 0, 1) := by decide +kernel
theorem dL_law_442 : decode cL_law 442 = .ok (.invokevirtual 52, 3) := by decide +kernel
theorem dL_law_445 : decode cL_law 445 = .ok (.aload_n 2, 1) := by decide +kernel
theorem dL_law_446 : decode cL_law 446 = .ok (.aload_n 0, 1) := by decide +kernel
theorem dL_law_447 : decode cL_law 447 = .ok (.iload 4, 2) := by decide +kernel
theorem dL_law_449 : decode cL_law 449 = .ok (.iconst 1, 1) := by decide +kernel
theorem dL_law_450 : decode cL_law 450 = .ok (.iadd, 1) := by decide +kernel
theorem dL_law_451 : decode cL_law 451 = .ok (.iaload, 1) := by decide +kernel
theorem dL_law_452 : decode cL_law 452 = .ok (.aload_n 0, 1) := by decide +kernel
theorem dL_law_453 : decode cL_law 453 = .ok (.iload 4, 2) := by decide +kernel
theorem dL_law_455 : decode cL_law 455 = .ok (.iconst 2, 1) := by decide +kernel
theorem dL_law_456 : decode cL_law 456 = .ok (.iadd, 1) := by decide +kernel
theorem dL_law_457 : decode cL_law 457 = .ok (.iaload, 1) := by decide +kernel
theorem dL_law_458 : decode cL_law 458 = .ok (.aload_n 0, 1) := by decide +kernel
theorem dL_law_459 : decode cL_law 459 = .ok (.iload 4, 2) := by decide +kernel
theorem dL_law_461 : decode cL_law 461 = .ok (.iconst 3, 1) := by decide +kernel
theorem dL_law_462 : decode cL_law 462 = .ok (.iadd, 1) := by decide +kernel
theorem dL_law_463 : decode cL_law 463 = .ok (.iaload, 1) := by decide +kernel
theorem dL_law_464 : decode cL_law 464 = .ok (.ifCond .eq 7, 3) := by decide +kernel
theorem dL_law_467 : decode cL_law 467 = .ok (.iconst 1, 1) := by decide +kernel
theorem dL_law_468 : decode cL_law 468 = .ok (.goto 4, 3) := by decide +kernel
theorem dL_law_471 : decode cL_law 471 = .ok (.iconst 0, 1) := by decide +kernel
theorem dL_law_472 : decode cL_law 472 = .ok (.invokevirtual 56, 3) := by decide +kernel
theorem dL_law_475 : decode cL_law 475 = .ok (.if_icmp .eq 528, 3) := by decide +kernel
theorem dL_law_478 : decode cL_law 478 = .ok (.iconst 0, 1) := by decide +kernel
theorem dL_law_479 : decode cL_law 479 = .ok (.ireturn, 1) := by decide +kernel
theorem dL_law_480 : decode cL_law 480 = .ok (.aload_n 1, 1) := by decide +kernel
theorem dL_law_481 : decode cL_law 481 = .ok (.aload_n 0, 1) := by decide +kernel
theorem dL_law_482 : decode cL_law 482 = .ok (.iload 4, 2) := by decide +kernel
theorem dL_law_484 : decode cL_law 484 = .ok (.iconst 1, 1) := by decide +kernel
theorem dL_law_485 : decode cL_law 485 = .ok (.iadd, 1) := by decide +kernel
theorem dL_law_486 : decode cL_law 486 = .ok (.iaload, 1) := by decide +kernel
theorem dL_law_487 : decode cL_law 487 = .ok (.aload_n 0, 1) := by decide +kernel
theorem dL_law_488 : decode cL_law 488 = .ok (.iload 4, 2) := by decide +kernel
theorem dL_law_490 : decode cL_law 490 = .ok (.iconst 2, 1) := by decide +kernel
theorem dL_law_491 : decode cL_law 491 = .ok (.iadd, 1) := by decide +kernel
theorem dL_law_492 : decode cL_law 492 = .ok (.iaload, 1) := by decide +kernel
theorem dL_law_493 : decode cL_law 493 = .ok (.invokevirtual 57, 3) := by decide +kernel
theorem dL_law_496 : decode cL_law 496 = .ok (.aload_n 2, 1) := by decide +kernel
theorem dL_law_497 : decode cL_law 497 = .ok (.aload_n 0, 1) := by decide +kernel
theorem dL_law_498 : decode cL_law 498 = .ok (.iload 4, 2) := by decide +kernel
theorem dL_law_500 : decode cL_law 500 = .ok (.iconst 1, 1) := by decide +kernel
theorem dL_law_501 : decode cL_law 501 = .ok (.iadd, 1) := by decide +kernel
theorem dL_law_502 : decode cL_law 502 = .ok (.iaload, 1) := by decide +kernel
theorem dL_law_503 : decode cL_law 503 = .ok (.aload_n 0, 1) := by decide +kernel
theorem dL_law_504 : decode cL_law 504 = .ok (.iload 4, 2) := by decide +kernel
theorem dL_law_506 : decode cL_law 506 = .ok (.iconst 2, 1) := by decide +kernel
theorem dL_law_507 : decode cL_law 507 = .ok (.iadd, 1) := by decide +kernel
theorem dL_law_508 : decode cL_law 508 = .ok (.iaload, 1) := by decide +kernel
theorem dL_law_509 : decode cL_law 509 = .ok (.invokevirtual 60, 3) := by decide +kernel
theorem dL_law_512 : decode cL_law 512 = .ok (.if_icmp .eq 491, 3) := by decide +kernel
theorem dL_law_515 : decode cL_law 515 = .ok (.iconst 0, 1) := by decide +kernel
theorem dL_law_516 : decode cL_law 516 = .ok (.ireturn, 1) := by decide +kernel
theorem dL_law_517 : decode cL_law 517 = .ok (.aload_n 1, 1) := by decide +kernel
theorem dL_law_518 : decode cL_law 518 = .ok (.aload_n 0, 1) := by decide +kernel
theorem dL_law_519 : decode cL_law 519 = .ok (.iload 4, 2) := by decide +kernel
theorem dL_law_521 : decode cL_law 521 = .ok (.iconst 1, 1) := by decide +kernel
theorem dL_law_522 : decode cL_law 522 = .ok (.iadd, 1) := by decide +kernel
theorem dL_law_523 : decode cL_law 523 = .ok (.iaload, 1) := by decide +kernel
theorem dL_law_524 : decode cL_law 524 = .ok (.invokevirtual 61, 3) := by decide +kernel
theorem dL_law_527 : decode cL_law 527 = .ok (.aload_n 2, 1) := by decide +kernel
theorem dL_law_528 : decode cL_law 528 = .ok (.aload_n 0, 1) := by decide +kernel
theorem dL_law_529 : decode cL_law 529 = .ok (.iload 4, 2) := by decide +kernel
theorem dL_law_531 : decode cL_law 531 = .ok (.iconst 1, 1) := by decide +kernel
theorem dL_law_532 : decode cL_law 532 = .ok (.iadd, 1) := by decide +kernel
theorem dL_law_533 : decode cL_law 533 = .ok (.iaload, 1) := by decide +kernel
theorem dL_law_534 : decode cL_law 534 = .ok (.invokevirtual 64, 3) := by decide +kernel
theorem dL_law_537 : decode cL_law 537 = .ok (.if_icmp .eq 466, 3) := by decide +kernel
theorem dL_law_540 : decode cL_law 540 = .ok (.iconst 0, 1) := by decide +kernel
theorem dL_law_541 : decode cL_law 541 = .ok (.ireturn, 1) := by decide +kernel
theorem dL_law_542 : decode cL_law 542 = .ok (.aload_n 1, 1) := by decide +kernel
theorem dL_law_543 : decode cL_law 543 = .ok (.aload_n 0, 1) := by decide +kernel
theorem dL_law_544 : decode cL_law 544 = .ok (.iload 4, 2) := by decide +kernel
theorem dL_law_546 : decode cL_law 546 = .ok (.iconst 1, 1) := by decide +kernel
theorem dL_law_547 : decode cL_law 547 = .ok (.iadd, 1) := by decide +kernel
theorem dL_law_548 : decode cL_law 548 = .ok (.iaload, 1) := by decide +kernel
theorem dL_law_549 : decode cL_law 549 = .ok (.invokevirtual 65, 3) := by decide +kernel
theorem dL_law_552 : decode cL_law 552 = .ok (.aload_n 2, 1) := by decide +kernel
theorem dL_law_553 : decode cL_law 553 = .ok (.aload_n 0, 1) := by decide +kernel
theorem dL_law_554 : decode cL_law 554 = .ok (.iload 4, 2) := by decide +kernel
theorem dL_law_556 : decode cL_law 556 = .ok (.iconst 1, 1) := by decide +kernel
theorem dL_law_557 : decode cL_law 557 = .ok (.iadd, 1) := by decide +kernel
theorem dL_law_558 : decode cL_law 558 = .ok (.iaload, 1) := by decide +kernel
theorem dL_law_559 : decode cL_law 559 = .ok (.invokevirtual 68, 3) := by decide +kernel
theorem dL_law_562 : decode cL_law 562 = .ok (.if_icmp .eq 441, 3) := by decide +kernel
theorem dL_law_565 : decode cL_law 565 = .ok (.iconst 0, 1) := by decide +kernel
theorem dL_law_566 : decode cL_law 566 = .ok (.ireturn, 1) := by decide +kernel
theorem dL_law_567 : decode cL_law 567 = .ok (.aload_n 1, 1) := by decide +kernel
theorem dL_law_568 : decode cL_law 568 = .ok (.aload_n 0, 1) := by decide +kernel
theorem dL_law_569 : decode cL_law 569 = .ok (.iload 4, 2) := by decide +kernel
theorem dL_law_571 : decode cL_law 571 = .ok (.iconst 1, 1) := by decide +kernel
theorem dL_law_572 : decode cL_law 572 = .ok (.iadd, 1) := by decide +kernel
theorem dL_law_573 : decode cL_law 573 = .ok (.iaload, 1) := by decide +kernel
theorem dL_law_574 : decode cL_law 574 = .ok (.invokevirtual 69, 3) := by decide +kernel
theorem dL_law_577 : decode cL_law 577 = .ok (.aload_n 2, 1) := by decide +kernel
theorem dL_law_578 : decode cL_law 578 = .ok (.aload_n 0, 1) := by decide +kernel
theorem dL_law_579 : decode cL_law 579 = .ok (.iload 4, 2) := by decide +kernel
theorem dL_law_581 : decode cL_law 581 = .ok (.iconst 1, 1) := by decide +kernel
theorem dL_law_582 : decode cL_law 582 = .ok (.iadd, 1) := by decide +kernel
theorem dL_law_583 : decode cL_law 583 = .ok (.iaload, 1) := by decide +kernel
theorem dL_law_584 : decode cL_law 584 = .ok (.invokevirtual 72, 3) := by decide +kernel
theorem dL_law_587 : decode cL_law 587 = .ok (.if_icmp .eq 416, 3) := by decide +kernel
theorem dL_law_590 : decode cL_law 590 = .ok (.iconst 0, 1) := by decide +kernel
theorem dL_law_591 : decode cL_law 591 = .ok (.ireturn, 1) := by decide +kernel
theorem dL_law_592 : decode cL_law 592 = .ok (.aload_n 1, 1) := by decide +kernel
theorem dL_law_593 : decode cL_law 593 = .ok (.invokevirtual 73, 3) := by decide +kernel
theorem dL_law_596 : decode cL_law 596 = .ok (.aload_n 2, 1) := by decide +kernel
theorem dL_law_597 : decode cL_law 597 = .ok (.invokevirtual 76, 3) := by decide +kernel
theorem dL_law_600 : decode cL_law 600 = .ok (.if_icmp .eq 403, 3) := by decide +kernel
theorem dL_law_603 : decode cL_law 603 = .ok (.iconst 0, 1) := by decide +kernel
theorem dL_law_604 : decode cL_law 604 = .ok (.ireturn, 1) := by decide +kernel
theorem dL_law_605 : decode cL_law 605 = .ok (.aload_n 1, 1) := by decide +kernel
theorem dL_law_606 : decode cL_law 606 = .ok (.aload_n 0, 1) := by decide +kernel
theorem dL_law_607 : decode cL_law 607 = .ok (.iload 4, 2) := by decide +kernel
theorem dL_law_609 : decode cL_law 609 = .ok (.iconst 1, 1) := by decide +kernel
theorem dL_law_610 : decode cL_law 610 = .ok (.iadd, 1) := by decide +kernel
theorem dL_law_611 : decode cL_law 611 = .ok (.iaload, 1) := by decide +kernel
theorem dL_law_612 : decode cL_law 612 = .ok (.ifCond .eq 7, 3) := by decide +kernel
theorem dL_law_615 : decode cL_law 615 = .ok (.iconst 1, 1) := by decide +kernel
theorem dL_law_616 : decode cL_law 616 = .ok (.goto 4, 3) := by decide +kernel
theorem dL_law_619 : decode cL_law 619 = .ok (.iconst 0, 1) := by decide +kernel
theorem dL_law_620 : decode cL_law 620 = .ok (.invokevirtual 77, 3) := by decide +kernel
theorem dL_law_623 : decode cL_law 623 = .ok (.aload_n 2, 1) := by decide +kernel
theorem dL_law_624 : decode cL_law 624 = .ok (.aload_n 0, 1) := by decide +kernel
theorem dL_law_625 : decode cL_law 625 = .ok (.iload 4, 2) := by decide +kernel
theorem dL_law_627 : decode cL_law 627 = .ok (.iconst 1, 1) := by decide +kernel
theorem dL_law_628 : decode cL_law 628 = .ok (.iadd, 1) := by decide +kernel
theorem dL_law_629 : decode cL_law 629 = .ok (.iaload, 1) := by decide +kernel
theorem dL_law_630 : decode cL_law 630 = .ok (.ifCond .eq 7, 3) := by decide +kernel
theorem dL_law_633 : decode cL_law 633 = .ok (.iconst 1, 1) := by decide +kernel
theorem dL_law_634 : decode cL_law 634 = .ok (.goto 4, 3) := by decide +kernel
theorem dL_law_637 : decode cL_law 637 = .ok (.iconst 0, 1) := by decide +kernel
theorem dL_law_638 : decode cL_law 638 = .ok (.invokevirtual 81, 3) := by decide +kernel
theorem dL_law_641 : decode cL_law 641 = .ok (.if_icmp .eq 362, 3) := by decide +kernel
theorem dL_law_644 : decode cL_law 644 = .ok (.iconst 0, 1) := by decide +kernel
theorem dL_law_645 : decode cL_law 645 = .ok (.ireturn, 1) := by decide +kernel
theorem dL_law_646 : decode cL_law 646 = .ok (.aload_n 1, 1) := by decide +kernel
theorem dL_law_647 : decode cL_law 647 = .ok (.aload_n 0, 1) := by decide +kernel
theorem dL_law_648 : decode cL_law 648 = .ok (.iload 4, 2) := by decide +kernel
theorem dL_law_650 : decode cL_law 650 = .ok (.iconst 1, 1) := by decide +kernel
theorem dL_law_651 : decode cL_law 651 = .ok (.iadd, 1) := by decide +kernel
theorem dL_law_652 : decode cL_law 652 = .ok (.iaload, 1) := by decide +kernel
theorem dL_law_653 : decode cL_law 653 = .ok (.invokevirtual 82, 3) := by decide +kernel
theorem dL_law_656 : decode cL_law 656 = .ok (.aload_n 2, 1) := by decide +kernel
theorem dL_law_657 : decode cL_law 657 = .ok (.aload_n 0, 1) := by decide +kernel
theorem dL_law_658 : decode cL_law 658 = .ok (.iload 4, 2) := by decide +kernel
theorem dL_law_660 : decode cL_law 660 = .ok (.iconst 1, 1) := by decide +kernel
theorem dL_law_661 : decode cL_law 661 = .ok (.iadd, 1) := by decide +kernel
theorem dL_law_662 : decode cL_law 662 = .ok (.iaload, 1) := by decide +kernel
theorem dL_law_663 : decode cL_law 663 = .ok (.invokevirtual 85, 3) := by decide +kernel
theorem dL_law_666 : decode cL_law 666 = .ok (.if_icmp .eq 337, 3) := by decide +kernel
theorem dL_law_669 : decode cL_law 669 = .ok (.iconst 0, 1) := by decide +kernel
theorem dL_law_670 : decode cL_law 670 = .ok (.ireturn, 1) := by decide +kernel
theorem dL_law_671 : decode cL_law 671 = .ok (.aload_n 1, 1) := by decide +kernel
theorem dL_law_672 : decode cL_law 672 = .ok (.aload_n 0, 1) := by decide +kernel
theorem dL_law_673 : decode cL_law 673 = .ok (.iload 4, 2) := by decide +kernel
theorem dL_law_675 : decode cL_law 675 = .ok (.iconst 1, 1) := by decide +kernel
theorem dL_law_676 : decode cL_law 676 = .ok (.iadd, 1) := by decide +kernel
theorem dL_law_677 : decode cL_law 677 = .ok (.iaload, 1) := by decide +kernel
theorem dL_law_678 : decode cL_law 678 = .ok (.aload_n 0, 1) := by decide +kernel
theorem dL_law_679 : decode cL_law 679 = .ok (.iload 4, 2) := by decide +kernel
theorem dL_law_681 : decode cL_law 681 = .ok (.iconst 2, 1) := by decide +kernel
theorem dL_law_682 : decode cL_law 682 = .ok (.iadd, 1) := by decide +kernel
theorem dL_law_683 : decode cL_law 683 = .ok (.iaload, 1) := by decide +kernel
theorem dL_law_684 : decode cL_law 684 = .ok (.invokevirtual 86, 3) := by decide +kernel
theorem dL_law_687 : decode cL_law 687 = .ok (.aload_n 2, 1) := by decide +kernel
theorem dL_law_688 : decode cL_law 688 = .ok (.aload_n 0, 1) := by decide +kernel
theorem dL_law_689 : decode cL_law 689 = .ok (.iload 4, 2) := by decide +kernel
theorem dL_law_691 : decode cL_law 691 = .ok (.iconst 1, 1) := by decide +kernel
theorem dL_law_692 : decode cL_law 692 = .ok (.iadd, 1) := by decide +kernel
theorem dL_law_693 : decode cL_law 693 = .ok (.iaload, 1) := by decide +kernel
theorem dL_law_694 : decode cL_law 694 = .ok (.aload_n 0, 1) := by decide +kernel
theorem dL_law_695 : decode cL_law 695 = .ok (.iload 4, 2) := by decide +kernel
theorem dL_law_697 : decode cL_law 697 = .ok (.iconst 2, 1) := by decide +kernel
theorem dL_law_698 : decode cL_law 698 = .ok (.iadd, 1) := by decide +kernel
theorem dL_law_699 : decode cL_law 699 = .ok (.iaload, 1) := by decide +kernel
theorem dL_law_700 : decode cL_law 700 = .ok (.invokevirtual 89, 3) := by decide +kernel
theorem dL_law_703 : decode cL_law 703 = .ok (.if_icmp .eq 300, 3) := by decide +kernel
theorem dL_law_706 : decode cL_law 706 = .ok (.iconst 0, 1) := by decide +kernel
theorem dL_law_707 : decode cL_law 707 = .ok (.ireturn, 1) := by decide +kernel
theorem dL_law_708 : decode cL_law 708 = .ok (.aload_n 1, 1) := by decide +kernel
theorem dL_law_709 : decode cL_law 709 = .ok (.aload_n 0, 1) := by decide +kernel
theorem dL_law_710 : decode cL_law 710 = .ok (.iload 4, 2) := by decide +kernel
theorem dL_law_712 : decode cL_law 712 = .ok (.iconst 1, 1) := by decide +kernel
theorem dL_law_713 : decode cL_law 713 = .ok (.iadd, 1) := by decide +kernel
theorem dL_law_714 : decode cL_law 714 = .ok (.iaload, 1) := by decide +kernel
theorem dL_law_715 : decode cL_law 715 = .ok (.aload_n 3, 1) := by decide +kernel
theorem dL_law_716 : decode cL_law 716 = .ok (.invokestatic 90, 3) := by decide +kernel
theorem dL_law_719 : decode cL_law 719 = .ok (.istore 5, 2) := by decide +kernel
theorem dL_law_721 : decode cL_law 721 = .ok (.aload_n 2, 1) := by decide +kernel
theorem dL_law_722 : decode cL_law 722 = .ok (.aload_n 0, 1) := by decide +kernel
theorem dL_law_723 : decode cL_law 723 = .ok (.iload 4, 2) := by decide +kernel
theorem dL_law_725 : decode cL_law 725 = .ok (.iconst 1, 1) := by decide +kernel
theorem dL_law_726 : decode cL_law 726 = .ok (.iadd, 1) := by decide +kernel
theorem dL_law_727 : decode cL_law 727 = .ok (.iaload, 1) := by decide +kernel
theorem dL_law_728 : decode cL_law 728 = .ok (.invokevirtual 95, 3) := by decide +kernel
theorem dL_law_731 : decode cL_law 731 = .ok (.istore 6, 2) := by decide +kernel
theorem dL_law_733 : decode cL_law 733 = .ok (.aload_n 2, 1) := by decide +kernel
theorem dL_law_734 : decode cL_law 734 = .ok (.invokevirtual 96, 3) := by decide +kernel
theorem dL_law_737 : decode cL_law 737 = .ok (.iload 5, 2) := by decide +kernel
theorem dL_law_739 : decode cL_law 739 = .ok (.if_icmp .eq 5, 3) := by decide +kernel
theorem dL_law_742 : decode cL_law 742 = .ok (.iconst 0, 1) := by decide +kernel
theorem dL_law_743 : decode cL_law 743 = .ok (.ireturn, 1) := by decide +kernel
theorem dL_law_744 : decode cL_law 744 = .ok (.iload 5, 2) := by decide +kernel
theorem dL_law_746 : decode cL_law 746 = .ok (.ifCond .ne 15, 3) := by decide +kernel
theorem dL_law_749 : decode cL_law 749 = .ok (.aload_n 3, 1) := by decide +kernel
theorem dL_law_750 : decode cL_law 750 = .ok (.iconst 0, 1) := by decide +kernel
theorem dL_law_751 : decode cL_law 751 = .ok (.laload, 1) := by decide +kernel
theorem dL_law_752 : decode cL_law 752 = .ok (.iload 6, 2) := by decide +kernel
theorem dL_law_754 : decode cL_law 754 = .ok (.i2l, 1) := by decide +kernel
theorem dL_law_755 : decode cL_law 755 = .ok (.lcmp, 1) := by decide +kernel
theorem dL_law_756 : decode cL_law 756 = .ok (.ifCond .eq 5, 3) := by decide +kernel
theorem dL_law_759 : decode cL_law 759 = .ok (.iconst 0, 1) := by decide +kernel
theorem dL_law_760 : decode cL_law 760 = .ok (.ireturn, 1) := by decide +kernel
theorem dL_law_761 : decode cL_law 761 = .ok (.goto 242, 3) := by decide +kernel
theorem dL_law_764 : decode cL_law 764 = .ok (.aload_n 1, 1) := by decide +kernel
theorem dL_law_765 : decode cL_law 765 = .ok (.aload_n 0, 1) := by decide +kernel
theorem dL_law_766 : decode cL_law 766 = .ok (.iload 4, 2) := by decide +kernel
theorem dL_law_768 : decode cL_law 768 = .ok (.iconst 1, 1) := by decide +kernel
theorem dL_law_769 : decode cL_law 769 = .ok (.iadd, 1) := by decide +kernel
theorem dL_law_770 : decode cL_law 770 = .ok (.iaload, 1) := by decide +kernel
theorem dL_law_771 : decode cL_law 771 = .ok (.invokevirtual 99, 3) := by decide +kernel
theorem dL_law_774 : decode cL_law 774 = .ok (.aload_n 2, 1) := by decide +kernel
theorem dL_law_775 : decode cL_law 775 = .ok (.aload_n 0, 1) := by decide +kernel
theorem dL_law_776 : decode cL_law 776 = .ok (.iload 4, 2) := by decide +kernel
theorem dL_law_778 : decode cL_law 778 = .ok (.iconst 1, 1) := by decide +kernel
theorem dL_law_779 : decode cL_law 779 = .ok (.iadd, 1) := by decide +kernel
theorem dL_law_780 : decode cL_law 780 = .ok (.iaload, 1) := by decide +kernel
theorem dL_law_781 : decode cL_law 781 = .ok (.invokevirtual 102, 3) := by decide +kernel
theorem dL_law_784 : decode cL_law 784 = .ok (.if_icmp .eq 219, 3) := by decide +kernel
theorem dL_law_787 : decode cL_law 787 = .ok (.iconst 0, 1) := by decide +kernel
theorem dL_law_788 : decode cL_law 788 = .ok (.ireturn, 1) := by decide +kernel
theorem dL_law_789 : decode cL_law 789 = .ok (.aload_n 1, 1) := by decide +kernel
theorem dL_law_790 : decode cL_law 790 = .ok (.aload_n 0, 1) := by decide +kernel
theorem dL_law_791 : decode cL_law 791 = .ok (.iload 4, 2) := by decide +kernel
theorem dL_law_793 : decode cL_law 793 = .ok (.iconst 1, 1) := by decide +kernel
theorem dL_law_794 : decode cL_law 794 = .ok (.iadd, 1) := by decide +kernel
theorem dL_law_795 : decode cL_law 795 = .ok (.iaload, 1) := by decide +kernel
theorem dL_law_796 : decode cL_law 796 = .ok (.invokevirtual 103, 3) := by decide +kernel
theorem dL_law_799 : decode cL_law 799 = .ok (.aload_n 2, 1) := by decide +kernel
theorem dL_law_800 : decode cL_law 800 = .ok (.aload_n 0, 1) := by decide +kernel
theorem dL_law_801 : decode cL_law 801 = .ok (.iload 4, 2) := by decide +kernel
theorem dL_law_803 : decode cL_law 803 = .ok (.iconst 1, 1) := by decide +kernel
theorem dL_law_804 : decode cL_law 804 = .ok (.iadd, 1) := by decide +kernel
theorem dL_law_805 : decode cL_law 805 = .ok (.iaload, 1) := by decide +kernel
theorem dL_law_806 : decode cL_law 806 = .ok (.invokevirtual 106, 3) := by decide +kernel
theorem dL_law_809 : decode cL_law 809 = .ok (.if_icmp .eq 194, 3) := by decide +kernel
theorem dL_law_812 : decode cL_law 812 = .ok (.iconst 0, 1) := by decide +kernel
theorem dL_law_813 : decode cL_law 813 = .ok (.ireturn, 1) := by decide +kernel
theorem dL_law_814 : decode cL_law 814 = .ok (.aload_n 1, 1) := by decide +kernel
theorem dL_law_815 : decode cL_law 815 = .ok (.aload_n 0, 1) := by decide +kernel
theorem dL_law_816 : decode cL_law 816 = .ok (.iload 4, 2) := by decide +kernel
theorem dL_law_818 : decode cL_law 818 = .ok (.iconst 1, 1) := by decide +kernel
theorem dL_law_819 : decode cL_law 819 = .ok (.iadd, 1) := by decide +kernel
theorem dL_law_820 : decode cL_law 820 = .ok (.iaload, 1) := by decide +kernel
theorem dL_law_821 : decode cL_law 821 = .ok (.invokevirtual 107, 3) := by decide +kernel
theorem dL_law_824 : decode cL_law 824 = .ok (.aload_n 2, 1) := by decide +kernel
theorem dL_law_825 : decode cL_law 825 = .ok (.aload_n 0, 1) := by decide +kernel
theorem dL_law_826 : decode cL_law 826 = .ok (.iload 4, 2) := by decide +kernel
theorem dL_law_828 : decode cL_law 828 = .ok (.iconst 1, 1) := by decide +kernel
theorem dL_law_829 : decode cL_law 829 = .ok (.iadd, 1) := by decide +kernel
theorem dL_law_830 : decode cL_law 830 = .ok (.iaload, 1) := by decide +kernel
theorem dL_law_831 : decode cL_law 831 = .ok (.invokevirtual 110, 3) := by decide +kernel
theorem dL_law_834 : decode cL_law 834 = .ok (.if_icmp .eq 169, 3) := by decide +kernel
theorem dL_law_837 : decode cL_law 837 = .ok (.iconst 0, 1) := by decide +kernel
theorem dL_law_838 : decode cL_law 838 = .ok (.ireturn, 1) := by decide +kernel
theorem dL_law_839 : decode cL_law 839 = .ok (.aload_n 1, 1) := by decide +kernel
theorem dL_law_840 : decode cL_law 840 = .ok (.aload_n 0, 1) := by decide +kernel
theorem dL_law_841 : decode cL_law 841 = .ok (.iload 4, 2) := by decide +kernel
theorem dL_law_843 : decode cL_law 843 = .ok (.iconst 1, 1) := by decide +kernel
theorem dL_law_844 : decode cL_law 844 = .ok (.iadd, 1) := by decide +kernel
theorem dL_law_845 : decode cL_law 845 = .ok (.iaload, 1) := by decide +kernel
theorem dL_law_846 : decode cL_law 846 = .ok (.invokevirtual 111, 3) := by decide +kernel
theorem dL_law_849 : decode cL_law 849 = .ok (.aload_n 2, 1) := by decide +kernel
theorem dL_law_850 : decode cL_law 850 = .ok (.aload_n 0, 1) := by decide +kernel
theorem dL_law_851 : decode cL_law 851 = .ok (.iload 4, 2) := by decide +kernel
theorem dL_law_853 : decode cL_law 853 = .ok (.iconst 1, 1) := by decide +kernel
theorem dL_law_854 : decode cL_law 854 = .ok (.iadd, 1) := by decide +kernel
theorem dL_law_855 : decode cL_law 855 = .ok (.iaload, 1) := by decide +kernel
theorem dL_law_856 : decode cL_law 856 = .ok (.invokevirtual 114, 3) := by decide +kernel
theorem dL_law_859 : decode cL_law 859 = .ok (.if_icmp .eq 144, 3) := by decide +kernel
theorem dL_law_862 : decode cL_law 862 = .ok (.iconst 0, 1) := by decide +kernel
theorem dL_law_863 : decode cL_law 863 = .ok (.ireturn, 1) := by decide +kernel
theorem dL_law_864 : decode cL_law 864 = .ok (.aload_n 1, 1) := by decide +kernel
theorem dL_law_865 : decode cL_law 865 = .ok (.invokevirtual 115, 3) := by decide +kernel
theorem dL_law_868 : decode cL_law 868 = .ok (.aload_n 2, 1) := by decide +kernel
theorem dL_law_869 : decode cL_law 869 = .ok (.invokevirtual 118, 3) := by decide +kernel
theorem dL_law_872 : decode cL_law 872 = .ok (.if_icmp .eq 131, 3) := by decide +kernel
theorem dL_law_875 : decode cL_law 875 = .ok (.iconst 0, 1) := by decide +kernel
theorem dL_law_876 : decode cL_law 876 = .ok (.ireturn, 1) := by decide +kernel
theorem dL_law_877 : decode cL_law 877 = .ok (.aload_n 1, 1) := by decide +kernel
theorem dL_law_878 : decode cL_law 878 = .ok (.invokevirtual 119, 3) := by decide +kernel
theorem dL_law_881 : decode cL_law 881 = .ok (.aload_n 2, 1) := by decide +kernel
theorem dL_law_882 : decode cL_law 882 = .ok (.invokevirtual 122, 3) := by decide +kernel
theorem dL_law_885 : decode cL_law 885 = .ok (.if_icmp .eq 118, 3) := by decide +kernel
theorem dL_law_888 : decode cL_law 888 = .ok (.iconst 0, 1) := by decide +kernel
theorem dL_law_889 : decode cL_law 889 = .ok (.ireturn, 1) := by decide +kernel
theorem dL_law_890 : decode cL_law 890 = .ok (.aload_n 1, 1) := by decide +kernel
theorem dL_law_891 : decode cL_law 891 = .ok (.aload_n 0, 1) := by decide +kernel
theorem dL_law_892 : decode cL_law 892 = .ok (.iload 4, 2) := by decide +kernel
theorem dL_law_894 : decode cL_law 894 = .ok (.iconst 1, 1) := by decide +kernel
theorem dL_law_895 : decode cL_law 895 = .ok (.iadd, 1) := by decide +kernel
theorem dL_law_896 : decode cL_law 896 = .ok (.iaload, 1) := by decide +kernel
theorem dL_law_897 : decode cL_law 897 = .ok (.invokevirtual 123, 3) := by decide +kernel
theorem dL_law_900 : decode cL_law 900 = .ok (.aload_n 2, 1) := by decide +kernel
theorem dL_law_901 : decode cL_law 901 = .ok (.aload_n 0, 1) := by decide +kernel
theorem dL_law_902 : decode cL_law 902 = .ok (.iload 4, 2) := by decide +kernel
theorem dL_law_904 : decode cL_law 904 = .ok (.iconst 1, 1) := by decide +kernel
theorem dL_law_905 : decode cL_law 905 = .ok (.iadd, 1) := by decide +kernel
theorem dL_law_906 : decode cL_law 906 = .ok (.iaload, 1) := by decide +kernel
theorem dL_law_907 : decode cL_law 907 = .ok (.invokevirtual 126, 3) := by decide +kernel
theorem dL_law_910 : decode cL_law 910 = .ok (.if_icmp .eq 93, 3) := by decide +kernel
theorem dL_law_913 : decode cL_law 913 = .ok (.iconst 0, 1) := by decide +kernel
theorem dL_law_914 : decode cL_law 914 = .ok (.ireturn, 1) := by decide +kernel
theorem dL_law_915 : decode cL_law 915 = .ok (.aload_n 1, 1) := by decide +kernel
theorem dL_law_916 : decode cL_law 916 = .ok (.aload_n 0, 1) := by decide +kernel
theorem dL_law_917 : decode cL_law 917 = .ok (.iload 4, 2) := by decide +kernel
theorem dL_law_919 : decode cL_law 919 = .ok (.iconst 1, 1) := by decide +kernel
theorem dL_law_920 : decode cL_law 920 = .ok (.iadd, 1) := by decide +kernel
theorem dL_law_921 : decode cL_law 921 = .ok (.iaload, 1) := by decide +kernel
theorem dL_law_922 : decode cL_law 922 = .ok (.aload_n 0, 1) := by decide +kernel
theorem dL_law_923 : decode cL_law 923 = .ok (.iload 4, 2) := by decide +kernel
theorem dL_law_925 : decode cL_law 925 = .ok (.iconst 2, 1) := by decide +kernel
theorem dL_law_926 : decode cL_law 926 = .ok (.iadd, 1) := by decide +kernel
theorem dL_law_927 : decode cL_law 927 = .ok (.iaload, 1) := by decide +kernel
theorem dL_law_928 : decode cL_law 928 = .ok (.invokevirtual 127, 3) := by decide +kernel
theorem dL_law_931 : decode cL_law 931 = .ok (.aload_n 2, 1) := by decide +kernel
theorem dL_law_932 : decode cL_law 932 = .ok (.aload_n 0, 1) := by decide +kernel
theorem dL_law_933 : decode cL_law 933 = .ok (.iload 4, 2) := by decide +kernel
theorem dL_law_935 : decode cL_law 935 = .ok (.iconst 1, 1) := by decide +kernel
theorem dL_law_936 : decode cL_law 936 = .ok (.iadd, 1) := by decide +kernel
theorem dL_law_937 : decode cL_law 937 = .ok (.iaload, 1) := by decide +kernel
theorem dL_law_938 : decode cL_law 938 = .ok (.aload_n 0, 1) := by decide +kernel
theorem dL_law_939 : decode cL_law 939 = .ok (.iload 4, 2) := by decide +kernel
theorem dL_law_941 : decode cL_law 941 = .ok (.iconst 2, 1) := by decide +kernel
theorem dL_law_942 : decode cL_law 942 = .ok (.iadd, 1) := by decide +kernel
theorem dL_law_943 : decode cL_law 943 = .ok (.iaload, 1) := by decide +kernel
theorem dL_law_944 : decode cL_law 944 = .ok (.invokevirtual 130, 3) := by decide +kernel
theorem dL_law_947 : decode cL_law 947 = .ok (.if_icmp .eq 56, 3) := by decide +kernel
theorem dL_law_950 : decode cL_law 950 = .ok (.iconst 0, 1) := by decide +kernel
theorem dL_law_951 : decode cL_law 951 = .ok (.ireturn, 1) := by decide +kernel
theorem dL_law_952 : decode cL_law 952 = .ok (.aload_n 1, 1) := by decide +kernel
theorem dL_law_953 : decode cL_law 953 = .ok (.invokevirtual 131, 3) := by decide +kernel
theorem dL_law_956 : decode cL_law 956 = .ok (.aload_n 2, 1) := by decide +kernel
theorem dL_law_957 : decode cL_law 957 = .ok (.invokevirtual 134, 3) := by decide +kernel
theorem dL_law_960 : decode cL_law 960 = .ok (.if_icmp .eq 43, 3) := by decide +kernel
theorem dL_law_963 : decode cL_law 963 = .ok (.iconst 0, 1) := by decide +kernel
theorem dL_law_964 : decode cL_law 964 = .ok (.ireturn, 1) := by decide +kernel
theorem dL_law_965 : decode cL_law 965 = .ok (.aload_n 1, 1) := by decide +kernel
theorem dL_law_966 : decode cL_law 966 = .ok (.aload_n 0, 1) := by decide +kernel
theorem dL_law_967 : decode cL_law 967 = .ok (.iload 4, 2) := by decide +kernel
theorem dL_law_969 : decode cL_law 969 = .ok (.iconst 1, 1) := by decide +kernel
theorem dL_law_970 : decode cL_law 970 = .ok (.iadd, 1) := by decide +kernel
theorem dL_law_971 : decode cL_law 971 = .ok (.iaload, 1) := by decide +kernel
theorem dL_law_972 : decode cL_law 972 = .ok (.invokevirtual 135, 3) := by decide +kernel
theorem dL_law_975 : decode cL_law 975 = .ok (.aload_n 2, 1) := by decide +kernel
theorem dL_law_976 : decode cL_law 976 = .ok (.aload_n 0, 1) := by decide +kernel
theorem dL_law_977 : decode cL_law 977 = .ok (.iload 4, 2) := by decide +kernel
theorem dL_law_979 : decode cL_law 979 = .ok (.iconst 1, 1) := by decide +kernel
theorem dL_law_980 : decode cL_law 980 = .ok (.iadd, 1) := by decide +kernel
theorem dL_law_981 : decode cL_law 981 = .ok (.iaload, 1) := by decide +kernel
theorem dL_law_982 : decode cL_law 982 = .ok (.invokevirtual 138, 3) := by decide +kernel
theorem dL_law_985 : decode cL_law 985 = .ok (.if_icmp .eq 18, 3) := by decide +kernel
theorem dL_law_988 : decode cL_law 988 = .ok (.iconst 0, 1) := by decide +kernel
theorem dL_law_989 : decode cL_law 989 = .ok (.ireturn, 1) := by decide +kernel
theorem dL_law_990 : decode cL_law 990 = .ok (.aload_n 1, 1) := by decide +kernel
theorem dL_law_991 : decode cL_law 991 = .ok (.invokevirtual 139, 3) := by decide +kernel
theorem dL_law_994 : decode cL_law 994 = .ok (.aload_n 2, 1) := by decide +kernel
theorem dL_law_995 : decode cL_law 995 = .ok (.invokevirtual 142, 3) := by decide +kernel
theorem dL_law_998 : decode cL_law 998 = .ok (.if_icmp .eq 5, 3) := by decide +kernel
theorem dL_law_1001 : decode cL_law 1001 = .ok (.iconst 0, 1) := by decide +kernel
theorem dL_law_1002 : decode cL_law 1002 = .ok (.ireturn, 1) := by decide +kernel
theorem dL_law_1003 : decode cL_law 1003 = .ok (.iinc 4 6, 3) := by decide +kernel
theorem dL_law_1006 : decode cL_law 1006 = .ok (.goto (-983), 3) := by decide +kernel
theorem dL_law_1009 : decode cL_law 1009 = .ok (.iconst 1, 1) := by decide +kernel
theorem dL_law_1010 : decode cL_law 1010 = .ok (.ireturn, 1) := by decide +kernel
