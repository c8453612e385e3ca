theorem d_Sim_can_48 : decode M_Sim_can.2.1 48 = .ok (.iload 7, 2) := by decide +kernel
theorem d_Sim_can_50 : decode M_Sim_can.2.1 50 = .ok (.iload 6, 2) := by decide +kernel
theorem d_Sim_can_52 : decode M_Sim_can.2.1 52 = .ok (.if_icmp .ge 45, 3) := by decide +kernel
theorem d_Sim_can_97 : decode M_Sim_can.2.1 97 = .ok (.iconst 1, 1) := by decide +kernel
theorem d_Sim_can_98 : decode M_Sim_can.2.1 98 = .ok (.ireturn, 1) := by decide +kernel
theorem d_Sim_can_55 : decode M_Sim_can.2.1 55 = .ok (.aload 5, 2) := by decide +kernel
theorem d_Sim_can_57 : decode M_Sim_can.2.1 57 = .ok (.iload 7, 2) := by decide +kernel
theorem d_Sim_can_59 : decode M_Sim_can.2.1 59 = .ok (.iaload, 1) := by decide +kernel
theorem d_Sim_can_60 : decode M_Sim_can.2.1 60 = .ok (.istore 8, 2) := by decide +kernel
theorem d_Sim_can_62 : decode M_Sim_can.2.1 62 = .ok (.aload_n 0, 1) := by decide +kernel
theorem d_Sim_can_63 : decode M_Sim_can.2.1 63 = .ok (.iload 8, 2) := by decide +kernel
theorem d_Sim_can_65 : decode M_Sim_can.2.1 65 = .ok (.invokevirtual 59, 3) := by decide +kernel
theorem d_Sim_can_68 : decode M_Sim_can.2.1 68 = .ok (.ifCond .eq 23, 3) := by decide +kernel
theorem d_Sim_can_91 : decode M_Sim_can.2.1 91 = .ok (.iinc 7 1, 3) := by decide +kernel
theorem d_Sim_can_94 : decode M_Sim_can.2.1 94 = .ok (.goto (-46), 3) := by decide +kernel
theorem d_Sim_can_71 : decode M_Sim_can.2.1 71 = .ok (.aload_n 0, 1) := by decide +kernel
theorem d_Sim_can_72 : decode M_Sim_can.2.1 72 = .ok (.getfield 21, 3) := by decide +kernel
theorem d_Sim_can_75 : decode M_Sim_can.2.1 75 = .ok (.iload 8, 2) := by decide +kernel
theorem d_Sim_can_77 : decode M_Sim_can.2.1 77 = .ok (.aaload, 1) := by decide +kernel
theorem d_Sim_can_78 : decode M_Sim_can.2.1 78 = .ok (.iconst 1, 1) := by decide +kernel
theorem d_Sim_can_79 : decode M_Sim_can.2.1 79 = .ok (.iaload, 1) := by decide +kernel
theorem d_Sim_can_80 : decode M_Sim_can.2.1 80 = .ok (.bipush 8, 2) := by decide +kernel
theorem d_Sim_can_82 : decode M_Sim_can.2.1 82 = .ok (.aload_n 3, 1) := by decide +kernel
theorem d_Sim_can_83 : decode M_Sim_can.2.1 83 = .ok (.iconst 0, 1) := by decide +kernel
theorem d_Sim_can_84 : decode M_Sim_can.2.1 84 = .ok (.iaload, 1) := by decide +kernel
theorem d_Sim_can_85 : decode M_Sim_can.2.1 85 = .ok (.imul, 1) := by decide +kernel
theorem d_Sim_can_86 : decode M_Sim_can.2.1 86 = .ok (.if_icmp .ge 5, 3) := by decide +kernel
theorem d_Sim_can_89 : decode M_Sim_can.2.1 89 = .ok (.iconst 0, 1) := by decide +kernel
theorem d_Sim_can_90 : decode M_Sim_can.2.1 90 = .ok (.ireturn, 1) := by decide +kernel
theorem d_Sim_can_0 : decode M_Sim_can.2.1 0 = .ok (.aload_n 0, 1) := by decide +kernel
theorem d_Sim_can_1 : decode M_Sim_can.2.1 1 = .ok (.getfield 27, 3) := by decide +kernel
theorem d_Sim_can_4 : decode M_Sim_can.2.1 4 = .ok (.iload_n 1, 1) := by decide +kernel
theorem d_Sim_can_5 : decode M_Sim_can.2.1 5 = .ok (.aaload, 1) := by decide +kernel
theorem d_Sim_can_6 : decode M_Sim_can.2.1 6 = .ok (.astore_n 3, 1) := by decide +kernel
theorem d_Sim_can_7 : decode M_Sim_can.2.1 7 = .ok (.aload_n 0, 1) := by decide +kernel
theorem d_Sim_can_8 : decode M_Sim_can.2.1 8 = .ok (.aload_n 3, 1) := by decide +kernel
theorem d_Sim_can_9 : decode M_Sim_can.2.1 9 = .ok (.iload_n 2, 1) := by decide +kernel
theorem d_Sim_can_10 : decode M_Sim_can.2.1 10 = .ok (.invokevirtual 55, 3) := by decide +kernel
theorem d_Sim_can_13 : decode M_Sim_can.2.1 13 = .ok (.astore 4, 2) := by decide +kernel
theorem d_Sim_can_15 : decode M_Sim_can.2.1 15 = .ok (.aload 4, 2) := by decide +kernel
theorem d_Sim_can_17 : decode M_Sim_can.2.1 17 = .ok (.ifnull 17, 3) := by decide +kernel
theorem d_Sim_can_34 : decode M_Sim_can.2.1 34 = .ok (.iconst 0, 1) := by decide +kernel
theorem d_Sim_can_35 : decode M_Sim_can.2.1 35 = .ok (.ireturn, 1) := by decide +kernel
theorem d_Sim_can_20 : decode M_Sim_can.2.1 20 = .ok (.aload_n 3, 1) := by decide +kernel
theorem d_Sim_can_21 : decode M_Sim_can.2.1 21 = .ok (.iconst 4, 1) := by decide +kernel
theorem d_Sim_can_22 : decode M_Sim_can.2.1 22 = .ok (.iaload, 1) := by decide +kernel
theorem d_Sim_can_23 : decode M_Sim_can.2.1 23 = .ok (.ifCond .eq 11, 3) := by decide +kernel
theorem d_Sim_can_26 : decode M_Sim_can.2.1 26 = .ok (.aload_n 3, 1) := by decide +kernel
theorem d_Sim_can_27 : decode M_Sim_can.2.1 27 = .ok (.bipush 7, 2) := by decide +kernel
theorem d_Sim_can_29 : decode M_Sim_can.2.1 29 = .ok (.iaload, 1) := by decide +kernel
theorem d_Sim_can_30 : decode M_Sim_can.2.1 30 = .ok (.iconst 1, 1) := by decide +kernel
theorem d_Sim_can_31 : decode M_Sim_can.2.1 31 = .ok (.if_icmp .ne 5, 3) := by decide +kernel
theorem d_Sim_can_36 : decode M_Sim_can.2.1 36 = .ok (.aload 4, 2) := by decide +kernel
theorem d_Sim_can_38 : decode M_Sim_can.2.1 38 = .ok (.astore 5, 2) := by decide +kernel
theorem d_Sim_can_40 : decode M_Sim_can.2.1 40 = .ok (.aload 5, 2) := by decide +kernel
theorem d_Sim_can_42 : decode M_Sim_can.2.1 42 = .ok (.arraylength, 1) := by decide +kernel
theorem d_Sim_can_43 : decode M_Sim_can.2.1 43 = .ok (.istore 6, 2) := by decide +kernel
theorem d_Sim_can_45 : decode M_Sim_can.2.1 45 = .ok (.iconst 0, 1) := by decide +kernel
theorem d_Sim_can_46 : decode M_Sim_can.2.1 46 = .ok (.istore 7, 2) := by decide +kernel
theorem d_Sim_goes_146 : decode M_Sim_goes.2.1 146 = .ok (.iload 7, 2) := by decide +kernel
theorem d_Sim_goes_148 : decode M_Sim_goes.2.1 148 = .ok (.iload 6, 2) := by decide +kernel
theorem d_Sim_goes_150 : decode M_Sim_goes.2.1 150 = .ok (.if_icmp .ge 29, 3) := by decide +kernel
theorem d_Sim_goes_179 : decode M_Sim_goes.2.1 179 = .ok (.aload_n 3, 1) := by decide +kernel
theorem d_Sim_goes_180 : decode M_Sim_goes.2.1 180 = .ok (.iconst 2, 1) := by decide +kernel
theorem d_Sim_goes_181 : decode M_Sim_goes.2.1 181 = .ok (.dup2, 1) := by decide +kernel
theorem d_Sim_goes_182 : decode M_Sim_goes.2.1 182 = .ok (.iaload, 1) := by decide +kernel
theorem d_Sim_goes_183 : decode M_Sim_goes.2.1 183 = .ok (.iload_n 2, 1) := by decide +kernel
theorem d_Sim_goes_184 : decode M_Sim_goes.2.1 184 = .ok (.ifCond .eq 7, 3) := by decide +kernel
theorem d_Sim_goes_191 : decode M_Sim_goes.2.1 191 = .ok (.iconst (-1), 1) := by decide +kernel
theorem d_Sim_goes_192 : decode M_Sim_goes.2.1 192 = .ok (.iadd, 1) := by decide +kernel
theorem d_Sim_goes_193 : decode M_Sim_goes.2.1 193 = .ok (.iastore, 1) := by decide +kernel
theorem d_Sim_goes_194 : decode M_Sim_goes.2.1 194 = .ok (.iconst 1, 1) := by decide +kernel
theorem d_Sim_goes_195 : decode M_Sim_goes.2.1 195 = .ok (.ireturn, 1) := by decide +kernel
theorem d_Sim_goes_187 : decode M_Sim_goes.2.1 187 = .ok (.iconst 1, 1) := by decide +kernel
theorem d_Sim_goes_188 : decode M_Sim_goes.2.1 188 = .ok (.goto 4, 3) := by decide +kernel
theorem d_Sim_goes_153 : decode M_Sim_goes.2.1 153 = .ok (.aload 5, 2) := by decide +kernel
theorem d_Sim_goes_155 : decode M_Sim_goes.2.1 155 = .ok (.iload 7, 2) := by decide +kernel
theorem d_Sim_goes_157 : decode M_Sim_goes.2.1 157 = .ok (.iaload, 1) := by decide +kernel
theorem d_Sim_goes_158 : decode M_Sim_goes.2.1 158 = .ok (.istore 8, 2) := by decide +kernel
theorem d_Sim_goes_160 : decode M_Sim_goes.2.1 160 = .ok (.aload_n 0, 1) := by decide +kernel
theorem d_Sim_goes_161 : decode M_Sim_goes.2.1 161 = .ok (.getfield 21, 3) := by decide +kernel
theorem d_Sim_goes_164 : decode M_Sim_goes.2.1 164 = .ok (.iload 8, 2) := by decide +kernel
theorem d_Sim_goes_166 : decode M_Sim_goes.2.1 166 = .ok (.aaload, 1) := by decide +kernel
theorem d_Sim_goes_167 : decode M_Sim_goes.2.1 167 = .ok (.iconst 4, 1) := by decide +kernel
theorem d_Sim_goes_168 : decode M_Sim_goes.2.1 168 = .ok (.dup2, 1) := by decide +kernel
theorem d_Sim_goes_169 : decode M_Sim_goes.2.1 169 = .ok (.iaload, 1) := by decide +kernel
theorem d_Sim_goes_170 : decode M_Sim_goes.2.1 170 = .ok (.iconst 1, 1) := by decide +kernel
theorem d_Sim_goes_171 : decode M_Sim_goes.2.1 171 = .ok (.iadd, 1) := by decide +kernel
theorem d_Sim_goes_172 : decode M_Sim_goes.2.1 172 = .ok (.iastore, 1) := by decide +kernel
theorem d_Sim_goes_173 : decode M_Sim_goes.2.1 173 = .ok (.iinc 7 1, 3) := by decide +kernel
theorem d_Sim_goes_176 : decode M_Sim_goes.2.1 176 = .ok (.goto (-30), 3) := by decide +kernel
theorem d_Sim_goes_43 : decode M_Sim_goes.2.1 43 = .ok (.iload 7, 2) := by decide +kernel
theorem d_Sim_goes_45 : decode M_Sim_goes.2.1 45 = .ok (.iload 6, 2) := by decide +kernel
theorem d_Sim_goes_47 : decode M_Sim_goes.2.1 47 = .ok (.if_icmp .ge 87, 3) := by decide +kernel
theorem d_Sim_goes_134 : decode M_Sim_goes.2.1 134 = .ok (.aload 4, 2) := by decide +kernel
theorem d_Sim_goes_136 : decode M_Sim_goes.2.1 136 = .ok (.astore 5, 2) := by decide +kernel
theorem d_Sim_goes_138 : decode M_Sim_goes.2.1 138 = .ok (.aload 5, 2) := by decide +kernel
theorem d_Sim_goes_140 : decode M_Sim_goes.2.1 140 = .ok (.arraylength, 1) := by decide +kernel
theorem d_Sim_goes_141 : decode M_Sim_goes.2.1 141 = .ok (.istore 6, 2) := by decide +kernel
theorem d_Sim_goes_143 : decode M_Sim_goes.2.1 143 = .ok (.iconst 0, 1) := by decide +kernel
theorem d_Sim_goes_144 : decode M_Sim_goes.2.1 144 = .ok (.istore 7, 2) := by decide +kernel
theorem d_Sim_goes_50 : decode M_Sim_goes.2.1 50 = .ok (.aload 5, 2) := by decide +kernel
theorem d_Sim_goes_52 : decode M_Sim_goes.2.1 52 = .ok (.iload 7, 2) := by decide +kernel
theorem d_Sim_goes_54 : decode M_Sim_goes.2.1 54 = .ok (.iaload, 1) := by decide +kernel
theorem d_Sim_goes_55 : decode M_Sim_goes.2.1 55 = .ok (.istore 8, 2) := by decide +kernel
theorem d_Sim_goes_57 : decode M_Sim_goes.2.1 57 = .ok (.aload_n 0, 1) := by decide +kernel
theorem d_Sim_goes_58 : decode M_Sim_goes.2.1 58 = .ok (.getfield 21, 3) := by decide +kernel
theorem d_Sim_goes_61 : decode M_Sim_goes.2.1 61 = .ok (.iload 8, 2) := by decide +kernel
theorem d_Sim_goes_63 : decode M_Sim_goes.2.1 63 = .ok (.aaload, 1) := by decide +kernel
theorem d_Sim_goes_64 : decode M_Sim_goes.2.1 64 = .ok (.iconst 1, 1) := by decide +kernel
theorem d_Sim_goes_65 : decode M_Sim_goes.2.1 65 = .ok (.iaload, 1) := by decide +kernel
theorem d_Sim_goes_66 : decode M_Sim_goes.2.1 66 = .ok (.bipush 8, 2) := by decide +kernel
theorem d_Sim_goes_68 : decode M_Sim_goes.2.1 68 = .ok (.aload_n 3, 1) := by decide +kernel
theorem d_Sim_goes_69 : decode M_Sim_goes.2.1 69 = .ok (.iconst 0, 1) := by decide +kernel
theorem d_Sim_goes_70 : decode M_Sim_goes.2.1 70 = .ok (.iaload, 1) := by decide +kernel
theorem d_Sim_goes_71 : decode M_Sim_goes.2.1 71 = .ok (.imul, 1) := by decide +kernel
theorem d_Sim_goes_72 : decode M_Sim_goes.2.1 72 = .ok (.if_icmp .lt 6, 3) := by decide +kernel
theorem d_Sim_goes_78 : decode M_Sim_goes.2.1 78 = .ok (.aload_n 0, 1) := by decide +kernel
theorem d_Sim_goes_79 : decode M_Sim_goes.2.1 79 = .ok (.getfield 21, 3) := by decide +kernel
theorem d_Sim_goes_82 : decode M_Sim_goes.2.1 82 = .ok (.iload 8, 2) := by decide +kernel
theorem d_Sim_goes_84 : decode M_Sim_goes.2.1 84 = .ok (.aaload, 1) := by decide +kernel
theorem d_Sim_goes_85 : decode M_Sim_goes.2.1 85 = .ok (.iconst 1, 1) := by decide +kernel
theorem d_Sim_goes_86 : decode M_Sim_goes.2.1 86 = .ok (.iconst 0, 1) := by decide +kernel
theorem d_Sim_goes_87 : decode M_Sim_goes.2.1 87 = .ok (.iastore, 1) := by decide +kernel
theorem d_Sim_goes_88 : decode M_Sim_goes.2.1 88 = .ok (.aload_n 0, 1) := by decide +kernel
theorem d_Sim_goes_89 : decode M_Sim_goes.2.1 89 = .ok (.getfield 21, 3) := by decide +kernel
theorem d_Sim_goes_92 : decode M_Sim_goes.2.1 92 = .ok (.iload 8, 2) := by decide +kernel
theorem d_Sim_goes_94 : decode M_Sim_goes.2.1 94 = .ok (.aaload, 1) := by decide +kernel
theorem d_Sim_goes_95 : decode M_Sim_goes.2.1 95 = .ok (.iconst 5, 1) := by decide +kernel
theorem d_Sim_goes_96 : decode M_Sim_goes.2.1 96 = .ok (.dup2, 1) := by decide +kernel
theorem d_Sim_goes_97 : decode M_Sim_goes.2.1 97 = .ok (.iaload, 1) := by decide +kernel
theorem d_Sim_goes_98 : decode M_Sim_goes.2.1 98 = .ok (.iconst 1, 1) := by decide +kernel
theorem d_Sim_goes_99 : decode M_Sim_goes.2.1 99 = .ok (.iadd, 1) := by decide +kernel
theorem d_Sim_goes_100 : decode M_Sim_goes.2.1 100 = .ok (.iastore, 1) := by decide +kernel
theorem d_Sim_goes_101 : decode M_Sim_goes.2.1 101 = .ok (.aload_n 3, 1) := by decide +kernel
theorem d_Sim_goes_102 : decode M_Sim_goes.2.1 102 = .ok (.iconst 1, 1) := by decide +kernel
theorem d_Sim_goes_103 : decode M_Sim_goes.2.1 103 = .ok (.dup2, 1) := by decide +kernel
theorem d_Sim_goes_104 : decode M_Sim_goes.2.1 104 = .ok (.iaload, 1) := by decide +kernel
theorem d_Sim_goes_105 : decode M_Sim_goes.2.1 105 = .ok (.iconst 2, 1) := by decide +kernel
theorem d_Sim_goes_106 : decode M_Sim_goes.2.1 106 = .ok (.idiv, 1) := by decide +kernel
theorem d_Sim_goes_107 : decode M_Sim_goes.2.1 107 = .ok (.iastore, 1) := by decide +kernel
theorem d_Sim_goes_108 : decode M_Sim_goes.2.1 108 = .ok (.aload_n 3, 1) := by decide +kernel
theorem d_Sim_goes_109 : decode M_Sim_goes.2.1 109 = .ok (.bipush 6, 2) := by decide +kernel
theorem d_Sim_goes_111 : decode M_Sim_goes.2.1 111 = .ok (.dup2, 1) := by decide +kernel
theorem d_Sim_goes_112 : decode M_Sim_goes.2.1 112 = .ok (.iaload, 1) := by decide +kernel
theorem d_Sim_goes_113 : decode M_Sim_goes.2.1 113 = .ok (.iconst 1, 1) := by decide +kernel
theorem d_Sim_goes_114 : decode M_Sim_goes.2.1 114 = .ok (.iadd, 1) := by decide +kernel
theorem d_Sim_goes_115 : decode M_Sim_goes.2.1 115 = .ok (.iastore, 1) := by decide +kernel
theorem d_Sim_goes_116 : decode M_Sim_goes.2.1 116 = .ok (.aload_n 0, 1) := by decide +kernel
theorem d_Sim_goes_117 : decode M_Sim_goes.2.1 117 = .ok (.dup, 1) := by decide +kernel
theorem d_Sim_goes_118 : decode M_Sim_goes.2.1 118 = .ok (.getfield 41, 3) := by decide +kernel
theorem d_Sim_goes_121 : decode M_Sim_goes.2.1 121 = .ok (.iconst 1, 1) := by decide +kernel
theorem d_Sim_goes_122 : decode M_Sim_goes.2.1 122 = .ok (.iadd, 1) := by decide +kernel
theorem d_Sim_goes_123 : decode M_Sim_goes.2.1 123 = .ok (.putfield 41, 3) := by decide +kernel
theorem d_Sim_goes_126 : decode M_Sim_goes.2.1 126 = .ok (.iconst 1, 1) := by decide +kernel
theorem d_Sim_goes_127 : decode M_Sim_goes.2.1 127 = .ok (.ireturn, 1) := by decide +kernel
theorem d_Sim_goes_75 : decode M_Sim_goes.2.1 75 = .ok (.goto 53, 3) := by decide +kernel
theorem d_Sim_goes_128 : decode M_Sim_goes.2.1 128 = .ok (.iinc 7 1, 3) := by decide +kernel
theorem d_Sim_goes_131 : decode M_Sim_goes.2.1 131 = .ok (.goto (-88), 3) := by decide +kernel
theorem d_Sim_goes_0 : decode M_Sim_goes.2.1 0 = .ok (.aload_n 0, 1) := by decide +kernel
theorem d_Sim_goes_1 : decode M_Sim_goes.2.1 1 = .ok (.iload_n 1, 1) := by decide +kernel
theorem d_Sim_goes_2 : decode M_Sim_goes.2.1 2 = .ok (.iload_n 2, 1) := by decide +kernel
theorem d_Sim_goes_3 : decode M_Sim_goes.2.1 3 = .ok (.invokevirtual 63, 3) := by decide +kernel
theorem d_Sim_goes_6 : decode M_Sim_goes.2.1 6 = .ok (.ifCond .ne 5, 3) := by decide +kernel
theorem d_Sim_goes_9 : decode M_Sim_goes.2.1 9 = .ok (.iconst 0, 1) := by decide +kernel
theorem d_Sim_goes_10 : decode M_Sim_goes.2.1 10 = .ok (.ireturn, 1) := by decide +kernel
theorem d_Sim_goes_11 : decode M_Sim_goes.2.1 11 = .ok (.aload_n 0, 1) := by decide +kernel
theorem d_Sim_goes_12 : decode M_Sim_goes.2.1 12 = .ok (.getfield 27, 3) := by decide +kernel
theorem d_Sim_goes_15 : decode M_Sim_goes.2.1 15 = .ok (.iload_n 1, 1) := by decide +kernel
theorem d_Sim_goes_16 : decode M_Sim_goes.2.1 16 = .ok (.aaload, 1) := by decide +kernel
theorem d_Sim_goes_17 : decode M_Sim_goes.2.1 17 = .ok (.astore_n 3, 1) := by decide +kernel
theorem d_Sim_goes_18 : decode M_Sim_goes.2.1 18 = .ok (.aload_n 3, 1) := by decide +kernel
theorem d_Sim_goes_19 : decode M_Sim_goes.2.1 19 = .ok (.bipush 7, 2) := by decide +kernel
theorem d_Sim_goes_21 : decode M_Sim_goes.2.1 21 = .ok (.iconst 1, 1) := by decide +kernel
theorem d_Sim_goes_22 : decode M_Sim_goes.2.1 22 = .ok (.iastore, 1) := by decide +kernel
theorem d_Sim_goes_23 : decode M_Sim_goes.2.1 23 = .ok (.aload_n 0, 1) := by decide +kernel
theorem d_Sim_goes_24 : decode M_Sim_goes.2.1 24 = .ok (.aload_n 3, 1) := by decide +kernel
theorem d_Sim_goes_25 : decode M_Sim_goes.2.1 25 = .ok (.iload_n 2, 1) := by decide +kernel
theorem d_Sim_goes_26 : decode M_Sim_goes.2.1 26 = .ok (.invokevirtual 55, 3) := by decide +kernel
theorem d_Sim_goes_29 : decode M_Sim_goes.2.1 29 = .ok (.astore 4, 2) := by decide +kernel
theorem d_Sim_goes_31 : decode M_Sim_goes.2.1 31 = .ok (.aload 4, 2) := by decide +kernel
theorem d_Sim_goes_33 : decode M_Sim_goes.2.1 33 = .ok (.astore 5, 2) := by decide +kernel
theorem d_Sim_goes_35 : decode M_Sim_goes.2.1 35 = .ok (.aload 5, 2) := by decide +kernel
theorem d_Sim_goes_37 : decode M_Sim_goes.2.1 37 = .ok (.arraylength, 1) := by decide +kernel
theorem d_Sim_goes_38 : decode M_Sim_goes.2.1 38 = .ok (.istore 6, 2) := by decide +kernel
theorem d_Sim_goes_40 : decode M_Sim_goes.2.1 40 = .ok (.iconst 0, 1) := by decide +kernel
theorem d_Sim_goes_41 : decode M_Sim_goes.2.1 41 = .ok (.istore 7, 2) := by decide +kernel
theorem d_Sim_carries_0 : decode M_Sim_carries.2.1 0 = .ok (.aload_n 0, 1) := by decide +kernel
theorem d_Sim_carries_1 : decode M_Sim_carries.2.1 1 = .ok (.aload_n 1, 1) := by decide +kernel
theorem d_Sim_carries_2 : decode M_Sim_carries.2.1 2 = .ok (.invokevirtual 76, 3) := by decide +kernel
theorem d_Sim_carries_5 : decode M_Sim_carries.2.1 5 = .ok (.ifCond .ne 5, 3) := by decide +kernel
theorem d_Sim_carries_8 : decode M_Sim_carries.2.1 8 = .ok (.iconst 0, 1) := by decide +kernel
theorem d_Sim_carries_9 : decode M_Sim_carries.2.1 9 = .ok (.ireturn, 1) := by decide +kernel
theorem d_Sim_carries_10 : decode M_Sim_carries.2.1 10 = .ok (.aload_n 1, 1) := by decide +kernel
theorem d_Sim_carries_11 : decode M_Sim_carries.2.1 11 = .ok (.iconst 0, 1) := by decide +kernel
theorem d_Sim_carries_12 : decode M_Sim_carries.2.1 12 = .ok (.iaload, 1) := by decide +kernel
theorem d_Sim_carries_44 : decode M_Sim_carries.2.1 44 = .ok (.aload_n 0, 1) := by decide +kernel
theorem d_Sim_carries_45 : decode M_Sim_carries.2.1 45 = .ok (.aload_n 1, 1) := by decide +kernel
theorem d_Sim_carries_46 : decode M_Sim_carries.2.1 46 = .ok (.iconst 1, 1) := by decide +kernel
theorem d_Sim_carries_47 : decode M_Sim_carries.2.1 47 = .ok (.iaload, 1) := by decide +kernel
theorem d_Sim_carries_48 : decode M_Sim_carries.2.1 48 = .ok (.iconst 1, 1) := by decide +kernel
theorem d_Sim_carries_49 : decode M_Sim_carries.2.1 49 = .ok (.invokevirtual 80, 3) := by decide +kernel
theorem d_Sim_carries_52 : decode M_Sim_carries.2.1 52 = .ok (.ireturn, 1) := by decide +kernel
theorem d_Sim_carries_53 : decode M_Sim_carries.2.1 53 = .ok (.aload_n 0, 1) := by decide +kernel
theorem d_Sim_carries_54 : decode M_Sim_carries.2.1 54 = .ok (.aload_n 1, 1) := by decide +kernel
theorem d_Sim_carries_55 : decode M_Sim_carries.2.1 55 = .ok (.iconst 1, 1) := by decide +kernel
theorem d_Sim_carries_56 : decode M_Sim_carries.2.1 56 = .ok (.iaload, 1) := by decide +kernel
theorem d_Sim_carries_57 : decode M_Sim_carries.2.1 57 = .ok (.iconst 0, 1) := by decide +kernel
theorem d_Sim_carries_58 : decode M_Sim_carries.2.1 58 = .ok (.invokevirtual 80, 3) := by decide +kernel
theorem d_Sim_carries_61 : decode M_Sim_carries.2.1 61 = .ok (.ireturn, 1) := by decide +kernel
theorem d_Sim_carries_62 : decode M_Sim_carries.2.1 62 = .ok (.aload_n 0, 1) := by decide +kernel
theorem d_Sim_carries_63 : decode M_Sim_carries.2.1 63 = .ok (.aload_n 1, 1) := by decide +kernel
theorem d_Sim_carries_64 : decode M_Sim_carries.2.1 64 = .ok (.iconst 2, 1) := by decide +kernel
theorem d_Sim_carries_65 : decode M_Sim_carries.2.1 65 = .ok (.iaload, 1) := by decide +kernel
theorem d_Sim_carries_66 : decode M_Sim_carries.2.1 66 = .ok (.aload_n 1, 1) := by decide +kernel
theorem d_Sim_carries_67 : decode M_Sim_carries.2.1 67 = .ok (.iconst 1, 1) := by decide +kernel
theorem d_Sim_carries_68 : decode M_Sim_carries.2.1 68 = .ok (.iaload, 1) := by decide +kernel
theorem d_Sim_carries_69 : decode M_Sim_carries.2.1 69 = .ok (.invokevirtual 83, 3) := by decide +kernel
theorem d_Sim_carries_72 : decode M_Sim_carries.2.1 72 = .ok (.ireturn, 1) := by decide +kernel
theorem d_Sim_carries_73 : decode M_Sim_carries.2.1 73 = .ok (.aload_n 0, 1) := by decide +kernel
theorem d_Sim_carries_74 : decode M_Sim_carries.2.1 74 = .ok (.aload_n 1, 1) := by decide +kernel
theorem d_Sim_carries_75 : decode M_Sim_carries.2.1 75 = .ok (.iconst 1, 1) := by decide +kernel
theorem d_Sim_carries_76 : decode M_Sim_carries.2.1 76 = .ok (.iaload, 1) := by decide +kernel
theorem d_Sim_carries_77 : decode M_Sim_carries.2.1 77 = .ok (.aload_n 0, 1) := by decide +kernel
theorem d_Sim_carries_78 : decode M_Sim_carries.2.1 78 = .ok (.aload_n 1, 1) := by decide +kernel
theorem d_Sim_carries_79 : decode M_Sim_carries.2.1 79 = .ok (.invokevirtual 87, 3) := by decide +kernel
theorem d_Sim_carries_82 : decode M_Sim_carries.2.1 82 = .ok (.invokevirtual 91, 3) := by decide +kernel
theorem d_Sim_carries_85 : decode M_Sim_carries.2.1 85 = .ok (.ifCond .le 7, 3) := by decide +kernel
theorem d_Sim_carries_92 : decode M_Sim_carries.2.1 92 = .ok (.iconst 0, 1) := by decide +kernel
theorem d_Sim_carries_93 : decode M_Sim_carries.2.1 93 = .ok (.ireturn, 1) := by decide +kernel
theorem d_Sim_carries_88 : decode M_Sim_carries.2.1 88 = .ok (.iconst 1, 1) := by decide +kernel
theorem d_Sim_carries_89 : decode M_Sim_carries.2.1 89 = .ok (.goto 4, 3) := by decide +kernel
theorem d_Sim_carries_94 : decode M_Sim_carries.2.1 94 = .ok (.aload_n 0, 1) := by decide +kernel
theorem d_Sim_carries_95 : decode M_Sim_carries.2.1 95 = .ok (.aload_n 1, 1) := by decide +kernel
theorem d_Sim_carries_96 : decode M_Sim_carries.2.1 96 = .ok (.iconst 1, 1) := by decide +kernel
theorem d_Sim_carries_97 : decode M_Sim_carries.2.1 97 = .ok (.iaload, 1) := by decide +kernel
theorem d_Sim_carries_98 : decode M_Sim_carries.2.1 98 = .ok (.invokevirtual 94, 3) := by decide +kernel
theorem d_Sim_carries_101 : decode M_Sim_carries.2.1 101 = .ok (.ireturn, 1) := by decide +kernel
theorem d_Sim_carries_13 : decode M_Sim_carries.2.1 13 = .ok (.tableswitch 81 0 3 #[31, 40, 49, 60], 31) := by decide +kernel
/-! the law's own glacier: can, goes, carries -/
theorem dropc {l r : List Nat} {i c : Nat} (h : l.drop i = c :: r) : i < l.length ∧ l.getD i 0 = c ∧ l.drop (i + 1) = r := by
  have h1 : i < l.length := Nat.not_le.mp fun w => by rw [List.drop_eq_nil_of_le w] at h; cases h
  rw [List.drop_eq_getElem_cons h1] at h
  injection h with h2 h3
  refine ⟨h1, ?_, h3⟩
  rw [List.getD_eq_getElem?_getD, List.getElem?_eq_getElem h1]
  exact h2
theorem drop0 {l : List Nat} {i : Nat} (h : l.drop i = []) : l.length ≤ i := List.drop_eq_nil_iff.mp h
theorem dropm {l r : List Nat} {i c n : Nat} (h : l.drop i = c :: r) (hl : ∀ q ∈ l, q < n) : c < n := hl c (List.mem_of_mem_drop (i := i) (by rw [h]; exact List.mem_cons_self))
theorem wayF_lt {Y : SM} {low up : Int32} {n : Nat} : ∀ (k i : Nat) (l : List Nat), (∀ c ∈ l, c < n) → i + k ≤ n → ∀ c ∈ wayF Y low up k i l, c < n := by
  intro k
  induction k with
  | zero =>
    intro i l hl _ c hc
    exact hl c hc
  | succ k ih =>
    intro i l hl hi c hc
    unfold wayF at hc
    by_cases h1 : sm_v Y 2 i 0 = low
    · rw [if_pos h1] at hc
      refine ih (i + 1) _ ?_ (by omega) c hc
      intro q hq
      by_cases hu : up = 0
      · rw [if_pos hu] at hq
        rcases List.mem_cons.mp hq with rfl | hq
        · omega
        · exact hl q hq
      · rw [if_neg hu] at hq
        rcases List.mem_append.mp hq with hq | hq
        · exact hl q hq
        · rw [List.mem_singleton.mp hq]
          omega
    · rw [if_neg h1] at hc
      exact ih (i + 1) l hl (by omega) c hc
theorem wayF_len {Y : SM} {low up : Int32} : ∀ (k i : Nat) (l : List Nat), (wayF Y low up k i l).length ≤ l.length + k := by
  intro k
  induction k with
  | zero => intro i l; exact Nat.le_refl _
  | succ k ih =>
    intro i l
    unfold wayF
    by_cases h1 : sm_v Y 2 i 0 = low
    · rw [if_pos h1]
      refine Nat.le_trans (ih _ _) ?_
      by_cases hu : up = 0
      · rw [if_pos hu, List.length_cons]
        omega
      · rw [if_neg hu, List.length_append, List.length_singleton]
        omega
    · rw [if_neg h1]
      have := ih (i + 1) l
      omega
theorem wayO_lt {A : AD} {Y : SM} {t : Nat} {up : Int32} {l : List Nat} (h : wayO A Y t up = some l) : (∀ c ∈ l, c < cn A 2) ∧ l.length ≤ cn A 2 := by
  unfold wayO wayR at h
  generalize (if up = 0 then sm_v Y 4 t 2 - 1 else sm_v Y 4 t 2) = low at h
  by_cases c1 : low < 0
  · rw [if_pos c1] at h
    cases h
  · rw [if_neg c1] at h
    by_cases c2 : low ≤ nI (cn A 0) - 2
    · rw [if_pos c2] at h
      cases h
      exact ⟨wayF_lt _ _ _ (fun c hc => absurd hc List.not_mem_nil) (by omega), by have := wayF_len (Y := Y) (low := low) (up := up) (cn A 2) 0 []; rw [List.length_nil] at this; omega⟩
    · rw [if_neg c2] at h
      cases h
theorem wayF_set7 {Y : SM} {t : Nat} {x low up : Int32} : ∀ (k i : Nat) (l : List Nat), wayF (sm_set Y 4 t 7 x) low up k i l = wayF Y low up k i l := by
  intro k
  have e : ∀ i, sm_v (sm_set Y 4 t 7 x) 2 i 0 = sm_v Y 2 i 0 := fun i => by
    show updR (sm_v Y) 4 t (upd (sm_v Y 4 t) 7 x) 2 i 0 = _
    unfold updR
    rw [if_neg (fun w => absurd w.1 (by decide))]
  induction k with
  | zero => intro i l; rfl
  | succ k ih =>
    intro i l
    unfold wayF
    rw [e i, ih, ih]
theorem wayO_set7 {A : AD} {Y : SM} {t : Nat} {x up : Int32} : wayO A (sm_set Y 4 t 7 x) t up = wayO A Y t up := by
  have e : sm_v (sm_set Y 4 t 7 x) 4 t 2 = sm_v Y 4 t 2 := by
    show updR (sm_v Y) 4 t (upd (sm_v Y 4 t) 7 x) 4 t 2 = _
    unfold updR
    rw [if_pos ⟨rfl, rfl⟩]
    unfold upd
    rw [if_neg (by decide)]
  unfold wayO wayR
  rw [e, wayF_set7]
def canF (Y : SM) (t : Nat) : List Nat → Int32
  | [] => 1
  | c :: r => if s_Sim_isKnown Y c = 0 then canF Y t r else if 8 * sm_v Y 4 t 0 ≤ sm_v Y 2 c 1 then canF Y t r else 0
theorem canF_01 {Y : SM} {t : Nat} : ∀ r : List Nat, canF Y t r = 0 ∨ canF Y t r = 1
  | [] => Or.inr rfl
  | c :: r => by
    unfold canF
    exact ite01 (canF_01 r) (ite01 (canF_01 r) (Or.inl rfl))
def s_Sim_can (A : AD) (Y : SM) (t : Nat) (up : Int32) : Int32 := match wayO A Y t up with
  | none => 0
  | some l => if sm_v Y 4 t 4 = 0 then 0 else if sm_v Y 4 t 7 = 1 then 0 else canF Y t l
theorem s_Sim_can_01 {A : AD} {Y : SM} {t : Nat} {up : Int32} : s_Sim_can A Y t up = 0 ∨ s_Sim_can A Y t up = 1 := by
  unfold s_Sim_can
  cases wayO A Y t up with
  | none => exact Or.inl rfl
  | some l => exact ite01 (Or.inl rfl) (ite01 (Or.inl rfl) (canF_01 l))
/-- the first bridge that is too weak -/
def fallF (Y : SM) (t : Nat) : List Nat → Option Nat
  | [] => none
  | c :: r => if sm_v Y 2 c 1 < 8 * sm_v Y 4 t 0 then some c else fallF Y t r
def fall1 (Y : SM) (c : Nat) : SM := sm_set (sm_set Y 2 c 1 0) 2 c 5 (sm_v (sm_set Y 2 c 1 0) 2 c 5 + 1)
def fall2 (Y : SM) (t : Nat) : SM := sm_set (sm_set Y 4 t 1 (sm_v Y 4 t 1 / 2)) 4 t 6 (sm_v (sm_set Y 4 t 1 (sm_v Y 4 t 1 / 2)) 4 t 6 + 1)
def fallY (Y : SM) (t c : Nat) : SM := sm_fl' (fall2 (fall1 Y c) t) (sm_fl (fall2 (fall1 Y c) t) + 1)
def crossF (Y : SM) : List Nat → SM
  | [] => Y
  | c :: r => crossF (sm_set Y 2 c 4 (sm_v Y 2 c 4 + 1)) r
def crossY (Y : SM) (t : Nat) (up : Int32) : SM := sm_set Y 4 t 2 (sm_v Y 4 t 2 + (if up = 0 then -1 else 1))
def goesL (Y : SM) (t : Nat) (up : Int32) (l : List Nat) : SM := match fallF Y t l with
  | some c => fallY Y t c
  | none => crossY (crossF Y l) t up
def s_Sim_goes (A : AD) (Y : SM) (t : Nat) (up : Int32) : Int32 × SM := if s_Sim_can A Y t up = 0 then (0, Y) else match wayO A Y t up with
  | none => (0, Y)
  | some l => (1, goesL (sm_set Y 4 t 7 1) t up l)
theorem s_Sim_goes_01 (A : AD) (Y : SM) (t : Nat) (up : Int32) : (s_Sim_goes A Y t up).1 = 0 ∨ (s_Sim_goes A Y t up).1 = 1 := by
  unfold s_Sim_goes
  by_cases h : s_Sim_can A Y t up = 0
  · rw [if_pos h]
    exact Or.inl rfl
  · rw [if_neg h]
    cases wayO A Y t up with
    | none => exact Or.inl rfl
    | some l => exact Or.inr rfl
theorem l_Sim_drills_01 {A : AD} {Y : SM} {k0 : Nat} : ∀ k i : Nat, (l_Sim_drills_25 A Y k0 k i).1 = 0 ∨ (l_Sim_drills_25 A Y k0 k i).1 = 1 := by
  intro k
  induction k with
  | zero => intro i; unfold l_Sim_drills_25; (repeat' split) <;> first | exact Or.inl rfl | exact Or.inr rfl
  | succ k ih => intro i; unfold l_Sim_drills_25; (repeat' split) <;> first | exact ih _ | exact Or.inl rfl | exact Or.inr rfl
theorem s_Sim_drills_01 (A : AD) (Y : SM) (k0 : Nat) : (s_Sim_drills A Y k0).1 = 0 ∨ (s_Sim_drills A Y k0).1 = 1 := by
  unfold s_Sim_drills
  (repeat' split) <;> first | exact l_Sim_drills_01 _ _ | exact Or.inl rfl | exact Or.inr rfl
set_option maxRecDepth 100000 in
set_option maxHeartbeats 4000000 in
theorem can_go {Γ : G9} {A : AD} {h : AH} {Y : SM} {C S z t a : Nat} {up : Int32} {l : List Nat} (hA : AOk A) (bt : t < cn A 4) (hta : tg A a = none) (hha : h a = none) (hlt : ∀ q ∈ l, q < cn A 2) (hl8 : l.length ≤ 8) : ∀ (r : List Nat) (i : Nat), l.drop i = r → i ≤ l.length → Go Γ M_Sim_can 1 C S 48 [some (.ref (ad A 6 0)), some (.int (nI t)), some (.int up), some (.ref (ad A 4 t)), some (.ref a), some (.ref a), some (.int (nI l.length)), some (.int (nI i)), none] [] (smC Γ A (hup h a (aI Γ l.length (lf l))) Y) z (RG9 (some (.int (canF Y t r))) (smC Γ A h Y)) noX := by
  intro r
  induction r with
  | nil =>
    intro i hr hi
    have hi2 := drop0 hr
    refine Go.iload_7 d_Sim_can_48 rfl ?_
    refine Go.iload_6 d_Sim_can_50 rfl ?_
    refine Go.icmp_ge (t := 97) d_Sim_can_52 (by decide) rfl (fun _ => ?_) (fun w => absurd (nI_le hi2 (by omega)) w)
    refine Go.iconst (v := 1) d_Sim_can_97 rfl (by decide) ?_
    refine Go.drop (sm_drop (up_drop hha)) ?_
    exact Go.iret d_Sim_can_98 rfl rfl ⟨rfl, rfl⟩
  | cons c r ih =>
    intro i hr hi
    obtain ⟨hil, hic, hr2⟩ := dropc hr
    have bc := dropm hr hlt
    unfold canF
    refine Go.iload_7 d_Sim_can_48 rfl ?_
    refine Go.iload_6 d_Sim_can_50 rfl ?_
    refine Go.icmp_ge (t := 97) d_Sim_can_52 (by decide) rfl (fun w => absurd w (nI_ge hil (by omega))) (fun _ => ?_)
    refine Go.aload_5 d_Sim_can_55 rfl ?_
    refine Go.iload_7 d_Sim_can_57 rfl ?_
    refine Go.iaload d_Sim_can_59 rfl ((sm_no hta).trans hup_at) (vp_in_nI hil (by omega)) ?_
    rw [nI_clamp (show i < 2 ^ 31 by omega), show lf l i = nI c from congrArg nI hic]
    refine Go.istore_8 d_Sim_can_60 rfl (by rfl) ?_
    refine Go.aload_0 d_Sim_can_62 rfl ?_
    refine Go.iload_8 d_Sim_can_63 rfl ?_
    refine Go.cv1r d_Sim_can_65 rfl l_Sim_59 k_Sim_isKnown_v (sm_obj hA) rfl (c_Sim_isKnown (c := c) rfl bc hA) rfl rfl rfl ?_
    by_cases hk : s_Sim_isKnown Y c = 0
    · rw [if_pos hk]
      refine Go.if_eq (t := 91) d_Sim_can_68 (by decide) rfl (fun _ => ?_) (fun w => absurd hk w)
      refine Go.iinc_7 d_Sim_can_91 rfl (by rfl) (nI_inc _) ?_
      refine Go.goto (t := 48) d_Sim_can_94 (by decide) ?_
      refine Go.fgt [some (.ref (ad A 6 0)), some (.int (nI t)), some (.int up), some (.ref (ad A 4 t)), some (.ref a), some (.ref a), some (.int (nI l.length)), some (.int (nI (i + 1))), none] (by repeat' (first | exact trivial | refine ⟨rfl, ?_⟩)) ?_
      exact ih (i + 1) hr2 (by omega)
    · rw [if_neg hk]
      refine Go.if_eq (t := 91) d_Sim_can_68 (by decide) rfl (fun w => absurd w hk) (fun _ => ?_)
      refine Go.aload_0 d_Sim_can_71 rfl ?_
      refine Go.getfield d_Sim_can_72 rfl f_Sim_21 (sm_obj hA) rfl ?_
      refine Go.iload_8 d_Sim_can_75 rfl ?_
      refine Go.aaldA d_Sim_can_77 rfl (sm_out hA (by decide)) (vp_in_nI bc (Nat.lt_of_le_of_lt (hA.2.2 2 (by decide)) (by decide))) ?_
      rw [nI_clamp (show c < 2 ^ 31 from Nat.lt_trans (Nat.lt_of_lt_of_le (show c < cn A 2 by first | assumption | omega) (hA.2.2 2 (by decide))) (by decide))]
      refine Go.iconst (v := 1) d_Sim_can_78 rfl (by decide) ?_
      refine Go.iaload d_Sim_can_79 rfl (sm_row hA (by decide) bc) (okI_in (by decide)) ?_
      rw [show (1 : Int32).toNatClampNeg = 1 from by decide]
      refine Go.bipush (v := 8) d_Sim_can_80 rfl (by decide) ?_
      refine Go.aload_3 d_Sim_can_82 rfl ?_
      refine Go.iconst (v := 0) d_Sim_can_83 rfl (by decide) ?_
      refine Go.iaload d_Sim_can_84 rfl (sm_row hA (by decide) bt) (okI_in (by decide)) ?_
      rw [show (0 : Int32).toNatClampNeg = 0 from by decide]
      refine Go.imul d_Sim_can_85 rfl ?_
      by_cases hb : 8 * sm_v Y 4 t 0 ≤ sm_v Y 2 c 1
      · rw [if_pos hb]
        refine Go.icmp_ge (t := 91) d_Sim_can_86 (by decide) rfl (fun _ => ?_) (fun w => absurd hb w)
        refine Go.iinc_7 d_Sim_can_91 rfl (by rfl) (nI_inc _) ?_
        refine Go.goto (t := 48) d_Sim_can_94 (by decide) ?_
        refine Go.fgt [some (.ref (ad A 6 0)), some (.int (nI t)), some (.int up), some (.ref (ad A 4 t)), some (.ref a), some (.ref a), some (.int (nI l.length)), some (.int (nI (i + 1))), none] (by repeat' (first | exact trivial | refine ⟨rfl, ?_⟩)) ?_
        exact ih (i + 1) hr2 (by omega)
      · rw [if_neg hb]
        refine Go.icmp_ge (t := 91) d_Sim_can_86 (by decide) rfl (fun w => absurd w hb) (fun _ => ?_)
        refine Go.iconst (v := 0) d_Sim_can_89 rfl (by decide) ?_
        refine Go.drop (sm_drop (up_drop hha)) ?_
        exact Go.iret d_Sim_can_90 rfl rfl ⟨rfl, rfl⟩
set_option maxRecDepth 100000 in
set_option maxHeartbeats 4000000 in
theorem c_Sim_can {Γ : G9} {A : AD} {h : AH} {Y : SM} {z t : Nat} {vt up : Int32} (et : vt = nI t) (bt : t < cn A 4) (hA : AOk A) : CallG Γ M_Sim_can 1 9 64 [.ref (ad A 6 0), .int vt, .int up] (smC Γ A h Y) z (some (.int (s_Sim_can A Y t up))) (smC Γ A h Y) := by
  subst et
  refine Call.of_go (L := [some (.ref (ad A 6 0)), some (.int (nI t)), some (.int up), none, none, none, none, none, none]) (by decide +kernel) rfl (by exact Nat.le_of_ble_eq_true rfl) ?_
  unfold s_Sim_can
  refine Go.aload_0 d_Sim_can_0 rfl ?_
  refine Go.getfield d_Sim_can_1 rfl f_Sim_27 (sm_obj hA) rfl ?_
  refine Go.iload_1 d_Sim_can_4 rfl ?_
  refine Go.aaldA d_Sim_can_5 rfl (sm_out hA (by decide)) (vp_in_nI bt (Nat.lt_of_le_of_lt (hA.2.2 4 (by decide)) (by decide))) ?_
  rw [nI_clamp (show t < 2 ^ 31 from Nat.lt_trans (Nat.lt_of_lt_of_le (show t < cn A 4 by first | assumption | omega) (hA.2.2 4 (by decide))) (by decide))]
  refine Go.astore_3 d_Sim_can_6 rfl (by rfl) ?_
  refine Go.aload_0 d_Sim_can_7 rfl ?_
  refine Go.aload_3 d_Sim_can_8 rfl ?_
  refine Go.iload_2 d_Sim_can_9 rfl ?_
  refine Go.callV (C1 := 0) (S1 := 0) (as := [.ref (ad A 4 t), .int up]) d_Sim_can_10 rfl l_Sim_55 k_Sim_way_v rfl (sm_obj hA) rfl rfl (c_Sim_way hA bt) (by decide) (by decide) (by decide) (by decide) (by exact Nat.le_of_ble_eq_true rfl) (fun _ _ _ w _ => w.elim) (fun v9 h9 z9 w9 hz9 => ?_)
  cases hw : wayO A Y t up with
  | none =>
    rw [hw] at w9
    obtain ⟨rfl, rfl⟩ := w9
    refine Go.astoreN_4 d_Sim_can_13 rfl (by rfl) ?_
    refine Go.aloadN_4 d_Sim_can_15 rfl ?_
    refine Go.ifnullN (t := 34) d_Sim_can_17 (by decide) ?_
    refine Go.iconst (v := 0) d_Sim_can_34 rfl (by decide) ?_
    exact Go.iret d_Sim_can_35 rfl rfl ⟨rfl, rfl⟩
  | some l =>
    rw [hw] at w9
    obtain ⟨a, rfl, hta, hha, rfl⟩ := w9
    obtain ⟨hlt, hl8⟩ := wayO_lt hw
    have h8 := hA.2.2 2 (by decide)
    show Go _ _ _ _ _ _ _ _ _ _ (RG9 (some (.int (if sm_v Y 4 t 4 = 0 then 0 else if sm_v Y 4 t 7 = 1 then 0 else canF Y t l))) _) _
    refine Go.astore_4 d_Sim_can_13 rfl (by rfl) ?_
    refine Go.aload_4 d_Sim_can_15 rfl ?_
    refine Go.ifnull d_Sim_can_17 rfl ?_
    refine Go.aload_3 d_Sim_can_20 rfl ?_
    refine Go.iconst (v := 4) d_Sim_can_21 rfl (by decide) ?_
    refine Go.iaload d_Sim_can_22 rfl (sm_row hA (by decide) bt) (okI_in (by decide)) ?_
    rw [show (4 : Int32).toNatClampNeg = 4 from by decide]
    by_cases c1 : sm_v Y 4 t 4 = 0
    · rw [if_pos c1]
      refine Go.if_eq (t := 34) d_Sim_can_23 (by decide) rfl (fun _ => ?_) (fun w => absurd c1 w)
      refine Go.iconst (v := 0) d_Sim_can_34 rfl (by decide) ?_
      refine Go.drop (sm_drop (up_drop hha)) ?_
      exact Go.iret d_Sim_can_35 rfl rfl ⟨rfl, rfl⟩
    rw [if_neg c1]
    refine Go.if_eq (t := 34) d_Sim_can_23 (by decide) rfl (fun w => absurd w c1) (fun _ => ?_)
    refine Go.aload_3 d_Sim_can_26 rfl ?_
    refine Go.bipush (v := 7) d_Sim_can_27 rfl (by decide) ?_
    refine Go.iaload d_Sim_can_29 rfl (sm_row hA (by decide) bt) (okI_in (by decide)) ?_
    rw [show (7 : Int32).toNatClampNeg = 7 from by decide]
    refine Go.iconst (v := 1) d_Sim_can_30 rfl (by decide) ?_
    by_cases c2 : sm_v Y 4 t 7 = 1
    · rw [if_pos c2]
      refine Go.icmp_ne (t := 36) d_Sim_can_31 (by decide) rfl (fun w => absurd w (fun w9 => w9 c2)) (fun _ => ?_)
      refine Go.iconst (v := 0) d_Sim_can_34 rfl (by decide) ?_
      refine Go.drop (sm_drop (up_drop hha)) ?_
      exact Go.iret d_Sim_can_35 rfl rfl ⟨rfl, rfl⟩
    rw [if_neg c2]
    refine Go.icmp_ne (t := 36) d_Sim_can_31 (by decide) rfl (fun _ => ?_) (fun w => absurd w c2)
    refine Go.aload_4 d_Sim_can_36 rfl ?_
    refine Go.astore_5 d_Sim_can_38 rfl (by rfl) ?_
    refine Go.aload_5 d_Sim_can_40 rfl ?_
    refine Go.alen (t := 0) (n := nI l.length) d_Sim_can_42 rfl ((sm_no hta).trans hup_at) rfl rfl ?_
    refine Go.istore_6 d_Sim_can_43 rfl (by rfl) ?_
    refine Go.iconst (v := 0) d_Sim_can_45 rfl (by decide) ?_
    refine Go.istore_7 d_Sim_can_46 rfl (by rfl) ?_
    refine Go.fgt [some (.ref (ad A 6 0)), some (.int (nI t)), some (.int up), some (.ref (ad A 4 t)), some (.ref a), some (.ref a), some (.int (nI l.length)), some (.int 0), none] (by repeat' (first | exact trivial | refine ⟨rfl, ?_⟩)) ?_
    exact can_go hA bt hta hha hlt (by omega) l 0 rfl (Nat.zero_le _)
set_option maxRecDepth 100000 in
set_option maxHeartbeats 4000000 in
theorem goes_2 {Γ : G9} {A : AD} {h : AH} {C S z t a : Nat} {up : Int32} {l : List Nat} (hA : AOk A) (bt : t < cn A 4) (hta : tg A a = none) (hha : h a = none) (hlt : ∀ q ∈ l, q < cn A 2) (hl8 : l.length ≤ 8) : ∀ (r : List Nat) (i : Nat) (Y : SM), l.drop i = r → i ≤ l.length → Go Γ M_Sim_goes 2 C S 146 [some (.ref (ad A 6 0)), some (.int (nI t)), some (.int up), some (.ref (ad A 4 t)), some (.ref a), some (.ref a), some (.int (nI l.length)), some (.int (nI i)), none] [] (smC Γ A (hup h a (aI Γ l.length (lf l))) Y) z (RG9 (some (.int 1)) (smC Γ A h (crossY (crossF Y r) t up))) noX := by
  intro r
  induction r with
  | nil =>
    intro i Y hr hi
    have hi2 := drop0 hr
    unfold crossF crossY
    refine Go.iload_7 d_Sim_goes_146 rfl ?_
    refine Go.iload_6 d_Sim_goes_148 rfl ?_
    refine Go.icmp_ge (t := 179) d_Sim_goes_150 (by decide) rfl (fun _ => ?_) (fun w => absurd (nI_le hi2 (by omega)) w)
    refine Go.aload_3 d_Sim_goes_179 rfl ?_
    refine Go.iconst (v := 2) d_Sim_goes_180 rfl (by decide) ?_
    refine Go.dup2 d_Sim_goes_181 rfl rfl rfl ?_
    refine Go.iaload d_Sim_goes_182 rfl (sm_row hA (by decide) bt) (okI_in (by decide)) ?_
    rw [show (2 : Int32).toNatClampNeg = 2 from by decide]
    refine Go.iload_2 d_Sim_goes_183 rfl ?_
    by_cases hu : up = 0
    · rw [if_pos hu]
      refine Go.if_eq (t := 191) d_Sim_goes_184 (by decide) rfl (fun _ => ?_) (fun w => absurd hu w)
      refine Go.iconst (v := (-1)) d_Sim_goes_191 rfl (by decide) ?_
      refine Go.iadd d_Sim_goes_192 rfl ?_
      refine Go.iastore d_Sim_goes_193 rfl (sm_row hA (by decide) bt) (okI_in (by decide)) ?_
      rw [show (2 : Int32).toNatClampNeg = 2 from by decide]
      refine Go.heq (sm_setup hA (by decide) bt) ?_
      refine Go.iconst (v := 1) d_Sim_goes_194 rfl (by decide) ?_
      refine Go.drop (sm_drop (up_drop hha)) ?_
      exact Go.iret d_Sim_goes_195 rfl rfl ⟨rfl, rfl⟩
    · rw [if_neg hu]
      refine Go.if_eq (t := 191) d_Sim_goes_184 (by decide) rfl (fun w => absurd w hu) (fun _ => ?_)
      refine Go.iconst (v := 1) d_Sim_goes_187 rfl (by decide) ?_
      refine Go.goto (t := 192) d_Sim_goes_188 (by decide) ?_
      refine Go.iadd d_Sim_goes_192 rfl ?_
      refine Go.iastore d_Sim_goes_193 rfl (sm_row hA (by decide) bt) (okI_in (by decide)) ?_
      rw [show (2 : Int32).toNatClampNeg = 2 from by decide]
      refine Go.heq (sm_setup hA (by decide) bt) ?_
      refine Go.iconst (v := 1) d_Sim_goes_194 rfl (by decide) ?_
      refine Go.drop (sm_drop (up_drop hha)) ?_
      exact Go.iret d_Sim_goes_195 rfl rfl ⟨rfl, rfl⟩
  | cons c r ih =>
    intro i Y hr hi
    obtain ⟨hil, hic, hr2⟩ := dropc hr
    have bc := dropm hr hlt
    unfold crossF
    refine Go.iload_7 d_Sim_goes_146 rfl ?_
    refine Go.iload_6 d_Sim_goes_148 rfl ?_
    refine Go.icmp_ge (t := 179) d_Sim_goes_150 (by decide) rfl (fun w => absurd w (nI_ge hil (by omega))) (fun _ => ?_)
    refine Go.aload_5 d_Sim_goes_153 rfl ?_
    refine Go.iload_7 d_Sim_goes_155 rfl ?_
    refine Go.iaload d_Sim_goes_157 rfl ((sm_no hta).trans hup_at) (vp_in_nI hil (by omega)) ?_
    rw [nI_clamp (show i < 2 ^ 31 by omega), show lf l i = nI c from congrArg nI hic]
    refine Go.istore_8 d_Sim_goes_158 rfl (by rfl) ?_
    refine Go.aload_0 d_Sim_goes_160 rfl ?_
    refine Go.getfield d_Sim_goes_161 rfl f_Sim_21 (sm_obj hA) rfl ?_
    refine Go.iload_8 d_Sim_goes_164 rfl ?_
    refine Go.aaldA d_Sim_goes_166 rfl (sm_out hA (by decide)) (vp_in_nI bc (Nat.lt_of_le_of_lt (hA.2.2 2 (by decide)) (by decide))) ?_
    rw [nI_clamp (show c < 2 ^ 31 from Nat.lt_trans (Nat.lt_of_lt_of_le (show c < cn A 2 by first | assumption | omega) (hA.2.2 2 (by decide))) (by decide))]
    refine Go.iconst (v := 4) d_Sim_goes_167 rfl (by decide) ?_
    refine Go.dup2 d_Sim_goes_168 rfl rfl rfl ?_
    refine Go.iaload d_Sim_goes_169 rfl (sm_row hA (by decide) bc) (okI_in (by decide)) ?_
    rw [show (4 : Int32).toNatClampNeg = 4 from by decide]
    refine Go.iconst (v := 1) d_Sim_goes_170 rfl (by decide) ?_
    refine Go.iadd d_Sim_goes_171 rfl ?_
    refine Go.iastore d_Sim_goes_172 rfl (sm_row hA (by decide) bc) (okI_in (by decide)) ?_
    rw [show (4 : Int32).toNatClampNeg = 4 from by decide]
    refine Go.heq (sm_setup hA (by decide) bc) ?_
    refine Go.iinc_7 d_Sim_goes_173 rfl (by rfl) (nI_inc _) ?_
    refine Go.goto (t := 146) d_Sim_goes_176 (by decide) ?_
    refine Go.fgt [some (.ref (ad A 6 0)), some (.int (nI t)), some (.int up), some (.ref (ad A 4 t)), some (.ref a), some (.ref a), some (.int (nI l.length)), some (.int (nI (i + 1))), none] (by repeat' (first | exact trivial | refine ⟨rfl, ?_⟩)) ?_
    exact ih (i + 1) _ hr2 (by omega)
set_option maxRecDepth 100000 in
set_option maxHeartbeats 4000000 in
theorem goes_1 {Γ : G9} {A : AD} {h : AH} {Y : SM} {C S z t a : Nat} {up : Int32} {l : List Nat} (hA : AOk A) (bt : t < cn A 4) (hta : tg A a = none) (hha : h a = none) (hlt : ∀ q ∈ l, q < cn A 2) (hl8 : l.length ≤ 8) : ∀ (r : List Nat) (i : Nat), l.drop i = r → i ≤ l.length → Go Γ M_Sim_goes 2 C S 43 [some (.ref (ad A 6 0)), some (.int (nI t)), some (.int up), some (.ref (ad A 4 t)), some (.ref a), some (.ref a), some (.int (nI l.length)), some (.int (nI i)), none] [] (smC Γ A (hup h a (aI Γ l.length (lf l))) Y) z (RG9 (some (.int 1)) (smC Γ A h (match fallF Y t r with | some c => fallY Y t c | none => crossY (crossF Y l) t up))) noX := by
  intro r
  induction r with
  | nil =>
    intro i hr hi
    have hi2 := drop0 hr
    unfold fallF
    refine Go.iload_7 d_Sim_goes_43 rfl ?_
    refine Go.iload_6 d_Sim_goes_45 rfl ?_
    refine Go.icmp_ge (t := 134) d_Sim_goes_47 (by decide) rfl (fun _ => ?_) (fun w => absurd (nI_le hi2 (by omega)) w)
    refine Go.aload_4 d_Sim_goes_134 rfl ?_
    refine Go.astore_5 d_Sim_goes_136 rfl (by rfl) ?_
    refine Go.aload_5 d_Sim_goes_138 rfl ?_
    refine Go.alen (t := 0) (n := nI l.length) d_Sim_goes_140 rfl ((sm_no hta).trans hup_at) rfl rfl ?_
    refine Go.istore_6 d_Sim_goes_141 rfl (by rfl) ?_
    refine Go.iconst (v := 0) d_Sim_goes_143 rfl (by decide) ?_
    refine Go.istore_7 d_Sim_goes_144 rfl (by rfl) ?_
    refine Go.fgt [some (.ref (ad A 6 0)), some (.int (nI t)), some (.int up), some (.ref (ad A 4 t)), some (.ref a), some (.ref a), some (.int (nI l.length)), some (.int 0), none] (by repeat' (first | exact trivial | refine ⟨rfl, ?_⟩)) ?_
    exact goes_2 hA bt hta hha hlt hl8 l 0 Y rfl (Nat.zero_le _)
  | cons c r ih =>
    intro i hr hi
    obtain ⟨hil, hic, hr2⟩ := dropc hr
    have bc := dropm hr hlt
    unfold fallF
    refine Go.iload_7 d_Sim_goes_43 rfl ?_
    refine Go.iload_6 d_Sim_goes_45 rfl ?_
    refine Go.icmp_ge (t := 134) d_Sim_goes_47 (by decide) rfl (fun w => absurd w (nI_ge hil (by omega))) (fun _ => ?_)
    refine Go.aload_5 d_Sim_goes_50 rfl ?_
    refine Go.iload_7 d_Sim_goes_52 rfl ?_
    refine Go.iaload d_Sim_goes_54 rfl ((sm_no hta).trans hup_at) (vp_in_nI hil (by omega)) ?_
    rw [nI_clamp (show i < 2 ^ 31 by omega), show lf l i = nI c from congrArg nI hic]
    refine Go.istore_8 d_Sim_goes_55 rfl (by rfl) ?_
    refine Go.aload_0 d_Sim_goes_57 rfl ?_
    refine Go.getfield d_Sim_goes_58 rfl f_Sim_21 (sm_obj hA) rfl ?_
    refine Go.iload_8 d_Sim_goes_61 rfl ?_
    refine Go.aaldA d_Sim_goes_63 rfl (sm_out hA (by decide)) (vp_in_nI bc (Nat.lt_of_le_of_lt (hA.2.2 2 (by decide)) (by decide))) ?_
    rw [nI_clamp (show c < 2 ^ 31 from Nat.lt_trans (Nat.lt_of_lt_of_le (show c < cn A 2 by first | assumption | omega) (hA.2.2 2 (by decide))) (by decide))]
    refine Go.iconst (v := 1) d_Sim_goes_64 rfl (by decide) ?_
    refine Go.iaload d_Sim_goes_65 rfl (sm_row hA (by decide) bc) (okI_in (by decide)) ?_
    rw [show (1 : Int32).toNatClampNeg = 1 from by decide]
    refine Go.bipush (v := 8) d_Sim_goes_66 rfl (by decide) ?_
    refine Go.aload_3 d_Sim_goes_68 rfl ?_
    refine Go.iconst (v := 0) d_Sim_goes_69 rfl (by decide) ?_
    refine Go.iaload d_Sim_goes_70 rfl (sm_row hA (by decide) bt) (okI_in (by decide)) ?_
    rw [show (0 : Int32).toNatClampNeg = 0 from by decide]
    refine Go.imul d_Sim_goes_71 rfl ?_
    by_cases hb : sm_v Y 2 c 1 < 8 * sm_v Y 4 t 0
    · rw [if_pos hb]
      dsimp only
      unfold fallY fall2 fall1
      refine Go.icmp_lt (t := 78) d_Sim_goes_72 (by decide) rfl (fun _ => ?_) (fun w => absurd hb w)
      refine Go.aload_0 d_Sim_goes_78 rfl ?_
      refine Go.getfield d_Sim_goes_79 rfl f_Sim_21 (sm_obj hA) rfl ?_
      refine Go.iload_8 d_Sim_goes_82 rfl ?_
      refine Go.aaldA d_Sim_goes_84 rfl (sm_out hA (by decide)) (vp_in_nI bc (Nat.lt_of_le_of_lt (hA.2.2 2 (by decide)) (by decide))) ?_
      rw [nI_clamp (show c < 2 ^ 31 from Nat.lt_trans (Nat.lt_of_lt_of_le (show c < cn A 2 by first | assumption | omega) (hA.2.2 2 (by decide))) (by decide))]
      refine Go.iconst (v := 1) d_Sim_goes_85 rfl (by decide) ?_
      refine Go.iconst (v := 0) d_Sim_goes_86 rfl (by decide) ?_
      refine Go.iastore d_Sim_goes_87 rfl (sm_row hA (by decide) bc) (okI_in (by decide)) ?_
      rw [show (1 : Int32).toNatClampNeg = 1 from by decide]
      refine Go.heq (sm_setup hA (by decide) bc) ?_
      refine Go.aload_0 d_Sim_goes_88 rfl ?_
      refine Go.getfield d_Sim_goes_89 rfl f_Sim_21 (sm_obj hA) rfl ?_
      refine Go.iload_8 d_Sim_goes_92 rfl ?_
      refine Go.aaldA d_Sim_goes_94 rfl (sm_out hA (by decide)) (vp_in_nI bc (Nat.lt_of_le_of_lt (hA.2.2 2 (by decide)) (by decide))) ?_
      rw [nI_clamp (show c < 2 ^ 31 from Nat.lt_trans (Nat.lt_of_lt_of_le (show c < cn A 2 by first | assumption | omega) (hA.2.2 2 (by decide))) (by decide))]
      refine Go.iconst (v := 5) d_Sim_goes_95 rfl (by decide) ?_
      refine Go.dup2 d_Sim_goes_96 rfl rfl rfl ?_
      refine Go.iaload d_Sim_goes_97 rfl (sm_row hA (by decide) bc) (okI_in (by decide)) ?_
      rw [show (5 : Int32).toNatClampNeg = 5 from by decide]
      refine Go.iconst (v := 1) d_Sim_goes_98 rfl (by decide) ?_
      refine Go.iadd d_Sim_goes_99 rfl ?_
      refine Go.iastore d_Sim_goes_100 rfl (sm_row hA (by decide) bc) (okI_in (by decide)) ?_
      rw [show (5 : Int32).toNatClampNeg = 5 from by decide]
      refine Go.heq (sm_setup hA (by decide) bc) ?_
      refine Go.aload_3 d_Sim_goes_101 rfl ?_
      refine Go.iconst (v := 1) d_Sim_goes_102 rfl (by decide) ?_
      refine Go.dup2 d_Sim_goes_103 rfl rfl rfl ?_
      refine Go.iaload d_Sim_goes_104 rfl (sm_row hA (by decide) bt) (okI_in (by decide)) ?_
      rw [show (1 : Int32).toNatClampNeg = 1 from by decide]
      refine Go.iconst (v := 2) d_Sim_goes_105 rfl (by decide) ?_
      refine Go.idiv d_Sim_goes_106 rfl (by decide) ?_
      refine Go.iastore d_Sim_goes_107 rfl (sm_row hA (by decide) bt) (okI_in (by decide)) ?_
      rw [show (1 : Int32).toNatClampNeg = 1 from by decide]
      refine Go.heq (sm_setup hA (by decide) bt) ?_
      refine Go.aload_3 d_Sim_goes_108 rfl ?_
      refine Go.bipush (v := 6) d_Sim_goes_109 rfl (by decide) ?_
      refine Go.dup2 d_Sim_goes_111 rfl rfl rfl ?_
      refine Go.iaload d_Sim_goes_112 rfl (sm_row hA (by decide) bt) (okI_in (by decide)) ?_
      rw [show (6 : Int32).toNatClampNeg = 6 from by decide]
      refine Go.iconst (v := 1) d_Sim_goes_113 rfl (by decide) ?_
      refine Go.iadd d_Sim_goes_114 rfl ?_
      refine Go.iastore d_Sim_goes_115 rfl (sm_row hA (by decide) bt) (okI_in (by decide)) ?_
      rw [show (6 : Int32).toNatClampNeg = 6 from by decide]
      refine Go.heq (sm_setup hA (by decide) bt) ?_
      refine Go.aload_0 d_Sim_goes_116 rfl ?_
      refine Go.dup d_Sim_goes_117 rfl rfl ?_
      refine Go.getfield d_Sim_goes_118 rfl f_Sim_41 (sm_obj hA) rfl ?_
      refine Go.iconst (v := 1) d_Sim_goes_121 rfl (by decide) ?_
      refine Go.iadd d_Sim_goes_122 rfl ?_
      refine Go.putfield d_Sim_goes_123 rfl f_Sim_41_p (Or.inl (fun C T N h => by cases h; rfl)) (sm_obj hA) (by exact Nat.le_of_ble_eq_true rfl) rfl rfl ?_
      refine Go.heq (sm_flup hA) ?_
      refine Go.iconst (v := 1) d_Sim_goes_126 rfl (by decide) ?_
      refine Go.drop (sm_drop (up_drop hha)) ?_
      exact Go.iret d_Sim_goes_127 rfl rfl ⟨rfl, rfl⟩
    · rw [if_neg hb]
      refine Go.icmp_lt (t := 78) d_Sim_goes_72 (by decide) rfl (fun w => absurd w hb) (fun _ => ?_)
      refine Go.goto (t := 128) d_Sim_goes_75 (by decide) ?_
      refine Go.iinc_7 d_Sim_goes_128 rfl (by rfl) (nI_inc _) ?_
      refine Go.goto (t := 43) d_Sim_goes_131 (by decide) ?_
      refine Go.fgt [some (.ref (ad A 6 0)), some (.int (nI t)), some (.int up), some (.ref (ad A 4 t)), some (.ref a), some (.ref a), some (.int (nI l.length)), some (.int (nI (i + 1))), none] (by repeat' (first | exact trivial | refine ⟨rfl, ?_⟩)) ?_
      exact ih (i + 1) hr2 (by omega)
set_option maxRecDepth 100000 in
set_option maxHeartbeats 4000000 in
theorem c_Sim_goes {Γ : G9} {A : AD} {h : AH} {Y : SM} {z t : Nat} {vt up : Int32} (et : vt = nI t) (bt : t < cn A 4) (hA : AOk A) : CallG Γ M_Sim_goes 2 18 128 [.ref (ad A 6 0), .int vt, .int up] (smC Γ A h Y) z (some (.int (s_Sim_goes A Y t up).1)) (smC Γ A h (s_Sim_goes A Y t up).2) := by
  subst et
  refine Call.of_go (L := [some (.ref (ad A 6 0)), some (.int (nI t)), some (.int up), none, none, none, none, none, none]) (by decide +kernel) rfl (by exact Nat.le_of_ble_eq_true rfl) ?_
  unfold s_Sim_goes
  refine Go.aload_0 d_Sim_goes_0 rfl ?_
  refine Go.iload_1 d_Sim_goes_1 rfl ?_
  refine Go.iload_2 d_Sim_goes_2 rfl ?_
  refine Go.cvG (C1 := 9) (S1 := 64) (as := [.int (nI t), .int up]) d_Sim_goes_3 rfl l_Sim_63 k_Sim_can_v rfl (sm_obj hA) rfl rfl (c_Sim_can rfl bt hA) rfl rfl (by decide) (by decide) rfl (fun z1 hz1 => ?_)
  by_cases c1 : s_Sim_can A Y t up = 0
  · rw [if_pos c1]
    refine Go.if_ne (t := 11) d_Sim_goes_6 (by decide) rfl (fun w => absurd w (fun w9 => w9 c1)) (fun _ => ?_)
    refine Go.iconst (v := 0) d_Sim_goes_9 rfl (by decide) ?_
    exact Go.iret d_Sim_goes_10 rfl rfl ⟨rfl, rfl⟩
  rw [if_neg c1]
  refine Go.if_ne (t := 11) d_Sim_goes_6 (by decide) rfl (fun _ => ?_) (fun w => absurd w c1)
  refine Go.aload_0 d_Sim_goes_11 rfl ?_
  refine Go.getfield d_Sim_goes_12 rfl f_Sim_27 (sm_obj hA) rfl ?_
  refine Go.iload_1 d_Sim_goes_15 rfl ?_
  refine Go.aaldA d_Sim_goes_16 rfl (sm_out hA (by decide)) (vp_in_nI bt (Nat.lt_of_le_of_lt (hA.2.2 4 (by decide)) (by decide))) ?_
  rw [nI_clamp (show t < 2 ^ 31 from Nat.lt_trans (Nat.lt_of_lt_of_le (show t < cn A 4 by first | assumption | omega) (hA.2.2 4 (by decide))) (by decide))]
  refine Go.astore_3 d_Sim_goes_17 rfl (by rfl) ?_
  refine Go.aload_3 d_Sim_goes_18 rfl ?_
  refine Go.bipush (v := 7) d_Sim_goes_19 rfl (by decide) ?_
  refine Go.iconst (v := 1) d_Sim_goes_21 rfl (by decide) ?_
  refine Go.iastore d_Sim_goes_22 rfl (sm_row hA (by decide) bt) (okI_in (by decide)) ?_
  rw [show (7 : Int32).toNatClampNeg = 7 from by decide]
  refine Go.heq (sm_setup hA (by decide) bt) ?_
  refine Go.aload_0 d_Sim_goes_23 rfl ?_
  refine Go.aload_3 d_Sim_goes_24 rfl ?_
  refine Go.iload_2 d_Sim_goes_25 rfl ?_
  refine Go.callV (C1 := 0) (S1 := 0) (as := [.ref (ad A 4 t), .int up]) d_Sim_goes_26 rfl l_Sim_55 k_Sim_way_v rfl (sm_obj hA) rfl rfl (c_Sim_way hA bt) (by decide) (by decide) (by decide) (by decide) (by exact Nat.le_of_ble_eq_true rfl) (fun _ _ _ w _ => w.elim) (fun v9 h9 z9 w9 hz9 => ?_)
  rw [wayO_set7] at w9
  cases hw : wayO A Y t up with
  | none => exact absurd (show s_Sim_can A Y t up = 0 by unfold s_Sim_can; rw [hw]) c1
  | some l =>
    rw [hw] at w9
    obtain ⟨a, rfl, hta, hha, rfl⟩ := w9
    obtain ⟨hlt, hl8⟩ := wayO_lt hw
    have h8 := hA.2.2 2 (by decide)
    dsimp only
    unfold goesL
    refine Go.astore_4 d_Sim_goes_29 rfl (by rfl) ?_
    refine Go.aload_4 d_Sim_goes_31 rfl ?_
    refine Go.astore_5 d_Sim_goes_33 rfl (by rfl) ?_
    refine Go.aload_5 d_Sim_goes_35 rfl ?_
    refine Go.alen (t := 0) (n := nI l.length) d_Sim_goes_37 rfl ((sm_no hta).trans hup_at) rfl rfl ?_
    refine Go.istore_6 d_Sim_goes_38 rfl (by rfl) ?_
    refine Go.iconst (v := 0) d_Sim_goes_40 rfl (by decide) ?_
    refine Go.istore_7 d_Sim_goes_41 rfl (by rfl) ?_
    refine Go.fgt [some (.ref (ad A 6 0)), some (.int (nI t)), some (.int up), some (.ref (ad A 4 t)), some (.ref a), some (.ref a), some (.int (nI l.length)), some (.int 0), none] (by repeat' (first | exact trivial | refine ⟨rfl, ?_⟩)) ?_
    exact goes_1 hA bt hta hha hlt (by omega) l 0 rfl (Nat.zero_le _)
def s_Sim_carries (A : AD) (Y : SM) (r : Nat) : Int32 × SM := if s_Sim_holds A Y r = 0 then (0, Y) else if sm_v Y 5 r 0 = 0 then s_Sim_goes A Y (sm_v Y 5 r 1).toNatClampNeg 1 else if sm_v Y 5 r 0 = 1 then s_Sim_goes A Y (sm_v Y 5 r 1).toNatClampNeg 0 else if sm_v Y 5 r 0 = 2 then s_Sim_probes Y (sm_v Y 5 r 2).toNatClampNeg (sm_v Y 5 r 1).toNatClampNeg else if sm_v Y 5 r 0 = 3 then (if (s_Sim_fills A Y (sm_v Y 5 r 1).toNatClampNeg (s_Sim_sum A Y r)).1 ≤ 0 then 0 else 1, (s_Sim_fills A Y (sm_v Y 5 r 1).toNatClampNeg (s_Sim_sum A Y r)).2) else s_Sim_drills A Y (sm_v Y 5 r 1).toNatClampNeg
set_option maxRecDepth 100000 in
set_option maxHeartbeats 4000000 in
theorem c_Sim_carries {Γ : G9} {A : AD} {h : AH} {Y : SM} {z r : Nat} (br : r < cn A 5) (hA : AOk A) (hdy : sm_dy Y < 1000000) (ho : OrdOk A (sm_v Y 5 r)) : CallG Γ M_Sim_carries 3 18 128 [.ref (ad A 6 0), .ref (ad A 5 r)] (smC Γ A h Y) z (some (.int (s_Sim_carries A Y r).1)) (smC Γ A h (s_Sim_carries A Y r).2) := by
  refine Call.of_go (L := [some (.ref (ad A 6 0)), some (.ref (ad A 5 r))]) (by decide +kernel) rfl (by exact Nat.le_of_ble_eq_true rfl) ?_
  unfold s_Sim_carries
  refine Go.aload_0 d_Sim_carries_0 rfl ?_
  refine Go.aload_1 d_Sim_carries_1 rfl ?_
  refine Go.cv1r d_Sim_carries_2 rfl l_Sim_76 k_Sim_holds_v (sm_obj hA) rfl (c_Sim_holds br hA hdy ho) rfl rfl rfl ?_
  by_cases c1 : s_Sim_holds A Y r = 0
  · rw [if_pos c1]
    refine Go.if_ne (t := 10) d_Sim_carries_5 (by decide) rfl (fun w => absurd w (fun w9 => w9 c1)) (fun _ => ?_)
    refine Go.iconst (v := 0) d_Sim_carries_8 rfl (by decide) ?_
    exact Go.iret d_Sim_carries_9 rfl rfl ⟨rfl, rfl⟩
  rw [if_neg c1]
  refine Go.if_ne (t := 10) d_Sim_carries_5 (by decide) rfl (fun _ => ?_) (fun w => absurd w c1)
  refine Go.aload_1 d_Sim_carries_10 rfl ?_
  refine Go.iconst (v := 0) d_Sim_carries_11 rfl (by decide) ?_
  refine Go.iaload d_Sim_carries_12 rfl (sm_row hA (by decide) br) (okI_in (by decide)) ?_
  rw [show (0 : Int32).toNatClampNeg = 0 from by decide]
  by_cases e0 : sm_v Y 5 r 0 = 0
  · rw [if_pos e0]
    have h1 := ho.2.2.2.2.2.1 (Or.inl e0)
    refine Go.tsw (t := 44) d_Sim_carries_13 (by rw [e0]; rfl) ?_
    refine Go.aload_0 d_Sim_carries_44 rfl ?_
    refine Go.aload_1 d_Sim_carries_45 rfl ?_
    refine Go.iconst (v := 1) d_Sim_carries_46 rfl (by decide) ?_
    refine Go.iaload d_Sim_carries_47 rfl (sm_row hA (by decide) br) (okI_in (by decide)) ?_
    rw [show (1 : Int32).toNatClampNeg = 1 from by decide]
    refine Go.iconst (v := 1) d_Sim_carries_48 rfl (by decide) ?_
    refine Go.cvG (C1 := 0) (S1 := 0) (as := [.int (sm_v Y 5 r 1), .int 1]) d_Sim_carries_49 rfl l_Sim_80 k_Sim_goes_v rfl (sm_obj hA) rfl rfl (c_Sim_goes (nI_back (okI_pos h1)) (okI_lt h1) hA) rfl rfl (by decide) (by decide) rfl (fun z1 hz1 => ?_)
    exact Go.iret d_Sim_carries_52 rfl (nb (s_Sim_goes_01 ..)) ⟨rfl, rfl⟩
  rw [if_neg e0]
  by_cases e1 : sm_v Y 5 r 0 = 1
  · rw [if_pos e1]
    have h1 := ho.2.2.2.2.2.1 (Or.inr (Or.inl e1))
    refine Go.tsw (t := 53) d_Sim_carries_13 (by rw [e1]; rfl) ?_
    refine Go.aload_0 d_Sim_carries_53 rfl ?_
    refine Go.aload_1 d_Sim_carries_54 rfl ?_
    refine Go.iconst (v := 1) d_Sim_carries_55 rfl (by decide) ?_
    refine Go.iaload d_Sim_carries_56 rfl (sm_row hA (by decide) br) (okI_in (by decide)) ?_
    rw [show (1 : Int32).toNatClampNeg = 1 from by decide]
    refine Go.iconst (v := 0) d_Sim_carries_57 rfl (by decide) ?_
    refine Go.cvG (C1 := 0) (S1 := 0) (as := [.int (sm_v Y 5 r 1), .int 0]) d_Sim_carries_58 rfl l_Sim_80 k_Sim_goes_v rfl (sm_obj hA) rfl rfl (c_Sim_goes (nI_back (okI_pos h1)) (okI_lt h1) hA) rfl rfl (by decide) (by decide) rfl (fun z1 hz1 => ?_)
    exact Go.iret d_Sim_carries_61 rfl (nb (s_Sim_goes_01 ..)) ⟨rfl, rfl⟩
  rw [if_neg e1]
  by_cases e2 : sm_v Y 5 r 0 = 2
  · rw [if_pos e2]
    obtain ⟨h1, h2⟩ := ho.2.2.2.2.2.2.1 e2
    refine Go.tsw (t := 62) d_Sim_carries_13 (by rw [e2]; rfl) ?_
    refine Go.aload_0 d_Sim_carries_62 rfl ?_
    refine Go.aload_1 d_Sim_carries_63 rfl ?_
    refine Go.iconst (v := 2) d_Sim_carries_64 rfl (by decide) ?_
    refine Go.iaload d_Sim_carries_65 rfl (sm_row hA (by decide) br) (okI_in (by decide)) ?_
    rw [show (2 : Int32).toNatClampNeg = 2 from by decide]
    refine Go.aload_1 d_Sim_carries_66 rfl ?_
    refine Go.iconst (v := 1) d_Sim_carries_67 rfl (by decide) ?_
    refine Go.iaload d_Sim_carries_68 rfl (sm_row hA (by decide) br) (okI_in (by decide)) ?_
    rw [show (1 : Int32).toNatClampNeg = 1 from by decide]
    refine Go.cv2r d_Sim_carries_69 rfl l_Sim_83 k_Sim_probes_v (sm_obj hA) rfl (c_Sim_probes (nI_back (okI_pos h2)) (okI_lt h2) (nI_back (okI_pos h1)) (okI_lt h1) hA) rfl rfl rfl ?_
    exact Go.iret d_Sim_carries_72 rfl (nb (s_Sim_probes_01 ..)) ⟨rfl, rfl⟩
  rw [if_neg e2]
  by_cases e3 : sm_v Y 5 r 0 = 3
  · rw [if_pos e3]
    have h1 := ho.2.2.2.2.2.1 (Or.inr (Or.inr e3))
    refine Go.tsw (t := 73) d_Sim_carries_13 (by rw [e3]; rfl) ?_
    refine Go.aload_0 d_Sim_carries_73 rfl ?_
    refine Go.aload_1 d_Sim_carries_74 rfl ?_
    refine Go.iconst (v := 1) d_Sim_carries_75 rfl (by decide) ?_
    refine Go.iaload d_Sim_carries_76 rfl (sm_row hA (by decide) br) (okI_in (by decide)) ?_
    rw [show (1 : Int32).toNatClampNeg = 1 from by decide]
    refine Go.aload_0 d_Sim_carries_77 rfl ?_
    refine Go.aload_1 d_Sim_carries_78 rfl ?_
    refine Go.cv1r d_Sim_carries_79 rfl l_Sim_87 k_Sim_sum_v (sm_obj hA) rfl (c_Sim_sum br hA hdy ho) rfl rfl rfl ?_
    refine Go.cv2r d_Sim_carries_82 rfl l_Sim_91 k_Sim_fills_v (sm_obj hA) rfl (c_Sim_fills (nI_back (okI_pos h1)) (okI_lt h1) hA) rfl rfl rfl ?_
    by_cases c2 : (s_Sim_fills A Y (sm_v Y 5 r 1).toNatClampNeg (s_Sim_sum A Y r)).1 ≤ 0
    · rw [if_pos c2]
      refine Go.if_le (t := 92) d_Sim_carries_85 (by decide) rfl (fun _ => ?_) (fun w => absurd c2 w)
      refine Go.iconst (v := 0) d_Sim_carries_92 rfl (by decide) ?_
      exact Go.iret d_Sim_carries_93 rfl rfl ⟨rfl, rfl⟩
    · rw [if_neg c2]
      refine Go.if_le (t := 92) d_Sim_carries_85 (by decide) rfl (fun w => absurd w c2) (fun _ => ?_)
      refine Go.iconst (v := 1) d_Sim_carries_88 rfl (by decide) ?_
      refine Go.goto (t := 93) d_Sim_carries_89 (by decide) ?_
      exact Go.iret d_Sim_carries_93 rfl rfl ⟨rfl, rfl⟩
  rw [if_neg e3]
  have e4 : sm_v Y 5 r 0 = 4 := by
    rcases ho.2.2.2.2.2.2.2.2 with w | w | w | w | w
    · exact absurd w e0
    · exact absurd w e1
    · exact absurd w e2
    · exact absurd w e3
    · exact w
  have h1 := ho.2.2.2.2.2.2.2.1 e4
  refine Go.tsw (t := 94) d_Sim_carries_13 (by rw [e4]; rfl) ?_
  refine Go.aload_0 d_Sim_carries_94 rfl ?_
  refine Go.aload_1 d_Sim_carries_95 rfl ?_
  refine Go.iconst (v := 1) d_Sim_carries_96 rfl (by decide) ?_
  refine Go.iaload d_Sim_carries_97 rfl (sm_row hA (by decide) br) (okI_in (by decide)) ?_
  rw [show (1 : Int32).toNatClampNeg = 1 from by decide]
  refine Go.cv1r d_Sim_carries_98 rfl l_Sim_94 k_Sim_drills_v (sm_obj hA) rfl (c_Sim_drills (nI_back (okI_pos h1)) (okI_lt h1) hA) rfl rfl rfl ?_
  exact Go.iret d_Sim_carries_101 rfl (nb (s_Sim_drills_01 ..)) ⟨rfl, rfl⟩
