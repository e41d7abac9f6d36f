theorem d_Minit_0 : decode b_Minit 0 = .ok (.aload_n 0, 1) := by decide +kernel
theorem d_Minit_1 : decode b_Minit 1 = .ok (.invokespecial 1, 3) := by decide +kernel
theorem d_Minit_4 : decode b_Minit 4 = .ok (.aload_n 0, 1) := by decide +kernel
theorem d_Minit_5 : decode b_Minit 5 = .ok (.bipush 8, 2) := by decide +kernel
theorem d_Minit_7 : decode b_Minit 7 = .ok (.newarray .int, 2) := by decide +kernel
theorem d_Minit_9 : decode b_Minit 9 = .ok (.dup, 1) := by decide +kernel
theorem d_Minit_10 : decode b_Minit 10 = .ok (.iconst 0, 1) := by decide +kernel
theorem d_Minit_11 : decode b_Minit 11 = .ok (.iconst 1, 1) := by decide +kernel
theorem d_Minit_12 : decode b_Minit 12 = .ok (.iastore, 1) := by decide +kernel
theorem d_Minit_13 : decode b_Minit 13 = .ok (.dup, 1) := by decide +kernel
theorem d_Minit_14 : decode b_Minit 14 = .ok (.iconst 1, 1) := by decide +kernel
theorem d_Minit_15 : decode b_Minit 15 = .ok (.iconst 1, 1) := by decide +kernel
theorem d_Minit_16 : decode b_Minit 16 = .ok (.iastore, 1) := by decide +kernel
theorem d_Minit_17 : decode b_Minit 17 = .ok (.dup, 1) := by decide +kernel
theorem d_Minit_18 : decode b_Minit 18 = .ok (.iconst 2, 1) := by decide +kernel
theorem d_Minit_19 : decode b_Minit 19 = .ok (.iconst 1, 1) := by decide +kernel
theorem d_Minit_20 : decode b_Minit 20 = .ok (.iastore, 1) := by decide +kernel
theorem d_Minit_21 : decode b_Minit 21 = .ok (.dup, 1) := by decide +kernel
theorem d_Minit_22 : decode b_Minit 22 = .ok (.iconst 3, 1) := by decide +kernel
theorem d_Minit_23 : decode b_Minit 23 = .ok (.iconst 1, 1) := by decide +kernel
theorem d_Minit_24 : decode b_Minit 24 = .ok (.iastore, 1) := by decide +kernel
theorem d_Minit_25 : decode b_Minit 25 = .ok (.dup, 1) := by decide +kernel
theorem d_Minit_26 : decode b_Minit 26 = .ok (.iconst 4, 1) := by decide +kernel
theorem d_Minit_27 : decode b_Minit 27 = .ok (.iconst 1, 1) := by decide +kernel
theorem d_Minit_28 : decode b_Minit 28 = .ok (.iastore, 1) := by decide +kernel
theorem d_Minit_29 : decode b_Minit 29 = .ok (.dup, 1) := by decide +kernel
theorem d_Minit_30 : decode b_Minit 30 = .ok (.iconst 5, 1) := by decide +kernel
theorem d_Minit_31 : decode b_Minit 31 = .ok (.iconst 1, 1) := by decide +kernel
theorem d_Minit_32 : decode b_Minit 32 = .ok (.iastore, 1) := by decide +kernel
theorem d_Minit_33 : decode b_Minit 33 = .ok (.dup, 1) := by decide +kernel
theorem d_Minit_34 : decode b_Minit 34 = .ok (.bipush 6, 2) := by decide +kernel
theorem d_Minit_36 : decode b_Minit 36 = .ok (.iconst 1, 1) := by decide +kernel
theorem d_Minit_37 : decode b_Minit 37 = .ok (.iastore, 1) := by decide +kernel
theorem d_Minit_38 : decode b_Minit 38 = .ok (.dup, 1) := by decide +kernel
theorem d_Minit_39 : decode b_Minit 39 = .ok (.bipush 7, 2) := by decide +kernel
theorem d_Minit_41 : decode b_Minit 41 = .ok (.iconst 1, 1) := by decide +kernel
theorem d_Minit_42 : decode b_Minit 42 = .ok (.iastore, 1) := by decide +kernel
theorem d_Minit_43 : decode b_Minit 43 = .ok (.putfield 7, 3) := by decide +kernel
theorem d_Minit_46 : decode b_Minit 46 = .ok (.aload_n 0, 1) := by decide +kernel
theorem d_Minit_47 : decode b_Minit 47 = .ok (.bipush 8, 2) := by decide +kernel
theorem d_Minit_49 : decode b_Minit 49 = .ok (.newarray .int, 2) := by decide +kernel
theorem d_Minit_51 : decode b_Minit 51 = .ok (.dup, 1) := by decide +kernel
theorem d_Minit_52 : decode b_Minit 52 = .ok (.iconst 0, 1) := by decide +kernel
theorem d_Minit_53 : decode b_Minit 53 = .ok (.iconst 1, 1) := by decide +kernel
theorem d_Minit_54 : decode b_Minit 54 = .ok (.iastore, 1) := by decide +kernel
theorem d_Minit_55 : decode b_Minit 55 = .ok (.dup, 1) := by decide +kernel
theorem d_Minit_56 : decode b_Minit 56 = .ok (.iconst 1, 1) := by decide +kernel
theorem d_Minit_57 : decode b_Minit 57 = .ok (.iconst 1, 1) := by decide +kernel
theorem d_Minit_58 : decode b_Minit 58 = .ok (.iastore, 1) := by decide +kernel
theorem d_Minit_59 : decode b_Minit 59 = .ok (.dup, 1) := by decide +kernel
theorem d_Minit_60 : decode b_Minit 60 = .ok (.iconst 2, 1) := by decide +kernel
theorem d_Minit_61 : decode b_Minit 61 = .ok (.iconst 1, 1) := by decide +kernel
theorem d_Minit_62 : decode b_Minit 62 = .ok (.iastore, 1) := by decide +kernel
theorem d_Minit_63 : decode b_Minit 63 = .ok (.dup, 1) := by decide +kernel
theorem d_Minit_64 : decode b_Minit 64 = .ok (.iconst 3, 1) := by decide +kernel
theorem d_Minit_65 : decode b_Minit 65 = .ok (.iconst 1, 1) := by decide +kernel
theorem d_Minit_66 : decode b_Minit 66 = .ok (.iastore, 1) := by decide +kernel
theorem d_Minit_67 : decode b_Minit 67 = .ok (.dup, 1) := by decide +kernel
theorem d_Minit_68 : decode b_Minit 68 = .ok (.iconst 4, 1) := by decide +kernel
theorem d_Minit_69 : decode b_Minit 69 = .ok (.iconst 1, 1) := by decide +kernel
theorem d_Minit_70 : decode b_Minit 70 = .ok (.iastore, 1) := by decide +kernel
theorem d_Minit_71 : decode b_Minit 71 = .ok (.dup, 1) := by decide +kernel
theorem d_Minit_72 : decode b_Minit 72 = .ok (.iconst 5, 1) := by decide +kernel
theorem d_Minit_73 : decode b_Minit 73 = .ok (.iconst 1, 1) := by decide +kernel
theorem d_Minit_74 : decode b_Minit 74 = .ok (.iastore, 1) := by decide +kernel
theorem d_Minit_75 : decode b_Minit 75 = .ok (.dup, 1) := by decide +kernel
theorem d_Minit_76 : decode b_Minit 76 = .ok (.bipush 6, 2) := by decide +kernel
theorem d_Minit_78 : decode b_Minit 78 = .ok (.iconst 1, 1) := by decide +kernel
theorem d_Minit_79 : decode b_Minit 79 = .ok (.iastore, 1) := by decide +kernel
theorem d_Minit_80 : decode b_Minit 80 = .ok (.dup, 1) := by decide +kernel
theorem d_Minit_81 : decode b_Minit 81 = .ok (.bipush 7, 2) := by decide +kernel
theorem d_Minit_83 : decode b_Minit 83 = .ok (.iconst 1, 1) := by decide +kernel
theorem d_Minit_84 : decode b_Minit 84 = .ok (.iastore, 1) := by decide +kernel
theorem d_Minit_85 : decode b_Minit 85 = .ok (.putfield 13, 3) := by decide +kernel
theorem d_Minit_88 : decode b_Minit 88 = .ok (.aload_n 0, 1) := by decide +kernel
theorem d_Minit_89 : decode b_Minit 89 = .ok (.bipush 8, 2) := by decide +kernel
theorem d_Minit_91 : decode b_Minit 91 = .ok (.newarray .int, 2) := by decide +kernel
theorem d_Minit_93 : decode b_Minit 93 = .ok (.putfield 16, 3) := by decide +kernel
theorem d_Minit_96 : decode b_Minit 96 = .ok (.aload_n 0, 1) := by decide +kernel
theorem d_Minit_97 : decode b_Minit 97 = .ok (.bipush 8, 2) := by decide +kernel
theorem d_Minit_99 : decode b_Minit 99 = .ok (.newarray .boolean, 2) := by decide +kernel
theorem d_Minit_101 : decode b_Minit 101 = .ok (.putfield 19, 3) := by decide +kernel
theorem d_Minit_104 : decode b_Minit 104 = .ok (.aload_n 0, 1) := by decide +kernel
theorem d_Minit_105 : decode b_Minit 105 = .ok (.bipush 8, 2) := by decide +kernel
theorem d_Minit_107 : decode b_Minit 107 = .ok (.newarray .boolean, 2) := by decide +kernel
theorem d_Minit_109 : decode b_Minit 109 = .ok (.putfield 23, 3) := by decide +kernel
theorem d_Minit_112 : decode b_Minit 112 = .ok (.aload_n 0, 1) := by decide +kernel
theorem d_Minit_113 : decode b_Minit 113 = .ok (.bipush 32, 2) := by decide +kernel
theorem d_Minit_115 : decode b_Minit 115 = .ok (.newarray .int, 2) := by decide +kernel
theorem d_Minit_117 : decode b_Minit 117 = .ok (.putfield 26, 3) := by decide +kernel
theorem d_Minit_120 : decode b_Minit 120 = .ok (.aload_n 0, 1) := by decide +kernel
theorem d_Minit_121 : decode b_Minit 121 = .ok (.iconst 4, 1) := by decide +kernel
theorem d_Minit_122 : decode b_Minit 122 = .ok (.newarray .int, 2) := by decide +kernel
theorem d_Minit_124 : decode b_Minit 124 = .ok (.putfield 29, 3) := by decide +kernel
theorem d_Minit_127 : decode b_Minit 127 = .ok (.aload_n 0, 1) := by decide +kernel
theorem d_Minit_128 : decode b_Minit 128 = .ok (.iconst 4, 1) := by decide +kernel
theorem d_Minit_129 : decode b_Minit 129 = .ok (.newarray .int, 2) := by decide +kernel
theorem d_Minit_131 : decode b_Minit 131 = .ok (.dup, 1) := by decide +kernel
theorem d_Minit_132 : decode b_Minit 132 = .ok (.iconst 0, 1) := by decide +kernel
theorem d_Minit_133 : decode b_Minit 133 = .ok (.iconst 1, 1) := by decide +kernel
theorem d_Minit_134 : decode b_Minit 134 = .ok (.iastore, 1) := by decide +kernel
theorem d_Minit_135 : decode b_Minit 135 = .ok (.dup, 1) := by decide +kernel
theorem d_Minit_136 : decode b_Minit 136 = .ok (.iconst 1, 1) := by decide +kernel
theorem d_Minit_137 : decode b_Minit 137 = .ok (.iconst 1, 1) := by decide +kernel
theorem d_Minit_138 : decode b_Minit 138 = .ok (.iastore, 1) := by decide +kernel
theorem d_Minit_139 : decode b_Minit 139 = .ok (.dup, 1) := by decide +kernel
theorem d_Minit_140 : decode b_Minit 140 = .ok (.iconst 2, 1) := by decide +kernel
theorem d_Minit_141 : decode b_Minit 141 = .ok (.iconst 1, 1) := by decide +kernel
theorem d_Minit_142 : decode b_Minit 142 = .ok (.iastore, 1) := by decide +kernel
theorem d_Minit_143 : decode b_Minit 143 = .ok (.dup, 1) := by decide +kernel
theorem d_Minit_144 : decode b_Minit 144 = .ok (.iconst 3, 1) := by decide +kernel
theorem d_Minit_145 : decode b_Minit 145 = .ok (.iconst 1, 1) := by decide +kernel
theorem d_Minit_146 : decode b_Minit 146 = .ok (.iastore, 1) := by decide +kernel
theorem d_Minit_147 : decode b_Minit 147 = .ok (.putfield 32, 3) := by decide +kernel
theorem d_Minit_150 : decode b_Minit 150 = .ok (.aload_n 0, 1) := by decide +kernel
theorem d_Minit_151 : decode b_Minit 151 = .ok (.iconst 4, 1) := by decide +kernel
theorem d_Minit_152 : decode b_Minit 152 = .ok (.newarray .int, 2) := by decide +kernel
theorem d_Minit_154 : decode b_Minit 154 = .ok (.putfield 35, 3) := by decide +kernel
theorem d_Minit_157 : decode b_Minit 157 = .ok (.aload_n 0, 1) := by decide +kernel
theorem d_Minit_158 : decode b_Minit 158 = .ok (.iconst 4, 1) := by decide +kernel
theorem d_Minit_159 : decode b_Minit 159 = .ok (.newarray .boolean, 2) := by decide +kernel
theorem d_Minit_161 : decode b_Minit 161 = .ok (.putfield 38, 3) := by decide +kernel
theorem d_Minit_164 : decode b_Minit 164 = .ok (.aload_n 0, 1) := by decide +kernel
theorem d_Minit_165 : decode b_Minit 165 = .ok (.iconst 4, 1) := by decide +kernel
theorem d_Minit_166 : decode b_Minit 166 = .ok (.newarray .int, 2) := by decide +kernel
theorem d_Minit_168 : decode b_Minit 168 = .ok (.putfield 41, 3) := by decide +kernel
theorem d_Minit_171 : decode b_Minit 171 = .ok (.aload_n 0, 1) := by decide +kernel
theorem d_Minit_172 : decode b_Minit 172 = .ok (.iconst 4, 1) := by decide +kernel
theorem d_Minit_173 : decode b_Minit 173 = .ok (.newarray .int, 2) := by decide +kernel
theorem d_Minit_175 : decode b_Minit 175 = .ok (.putfield 44, 3) := by decide +kernel
theorem d_Minit_178 : decode b_Minit 178 = .ok (.aload_n 0, 1) := by decide +kernel
theorem d_Minit_179 : decode b_Minit 179 = .ok (.iconst 4, 1) := by decide +kernel
theorem d_Minit_180 : decode b_Minit 180 = .ok (.newarray .int, 2) := by decide +kernel
theorem d_Minit_182 : decode b_Minit 182 = .ok (.dup, 1) := by decide +kernel
theorem d_Minit_183 : decode b_Minit 183 = .ok (.iconst 0, 1) := by decide +kernel
theorem d_Minit_184 : decode b_Minit 184 = .ok (.iconst (-1), 1) := by decide +kernel
theorem d_Minit_185 : decode b_Minit 185 = .ok (.iastore, 1) := by decide +kernel
theorem d_Minit_186 : decode b_Minit 186 = .ok (.dup, 1) := by decide +kernel
theorem d_Minit_187 : decode b_Minit 187 = .ok (.iconst 1, 1) := by decide +kernel
theorem d_Minit_188 : decode b_Minit 188 = .ok (.iconst (-1), 1) := by decide +kernel
theorem d_Minit_189 : decode b_Minit 189 = .ok (.iastore, 1) := by decide +kernel
theorem d_Minit_190 : decode b_Minit 190 = .ok (.dup, 1) := by decide +kernel
theorem d_Minit_191 : decode b_Minit 191 = .ok (.iconst 2, 1) := by decide +kernel
theorem d_Minit_192 : decode b_Minit 192 = .ok (.iconst (-1), 1) := by decide +kernel
theorem d_Minit_193 : decode b_Minit 193 = .ok (.iastore, 1) := by decide +kernel
theorem d_Minit_194 : decode b_Minit 194 = .ok (.dup, 1) := by decide +kernel
theorem d_Minit_195 : decode b_Minit 195 = .ok (.iconst 3, 1) := by decide +kernel
theorem d_Minit_196 : decode b_Minit 196 = .ok (.iconst (-1), 1) := by decide +kernel
theorem d_Minit_197 : decode b_Minit 197 = .ok (.iastore, 1) := by decide +kernel
theorem d_Minit_198 : decode b_Minit 198 = .ok (.putfield 47, 3) := by decide +kernel
theorem d_Minit_201 : decode b_Minit 201 = .ok (.aload_n 0, 1) := by decide +kernel
theorem d_Minit_202 : decode b_Minit 202 = .ok (.bipush 48, 2) := by decide +kernel
theorem d_Minit_204 : decode b_Minit 204 = .ok (.newarray .int, 2) := by decide +kernel
theorem d_Minit_206 : decode b_Minit 206 = .ok (.putfield 50, 3) := by decide +kernel
theorem d_Minit_209 : decode b_Minit 209 = .ok (.return_, 1) := by decide +kernel
theorem d_m_isIn_0 : decode b_m_isIn 0 = .ok (.iload_n 0, 1) := by decide +kernel
theorem d_m_isIn_1 : decode b_m_isIn 1 = .ok (.iload_n 1, 1) := by decide +kernel
theorem d_m_isIn_2 : decode b_m_isIn 2 = .ok (.if_icmp .lt 12, 3) := by decide +kernel
theorem d_m_isIn_5 : decode b_m_isIn 5 = .ok (.iload_n 0, 1) := by decide +kernel
theorem d_m_isIn_6 : decode b_m_isIn 6 = .ok (.iload_n 2, 1) := by decide +kernel
theorem d_m_isIn_7 : decode b_m_isIn 7 = .ok (.if_icmp .gt 7, 3) := by decide +kernel
theorem d_m_isIn_10 : decode b_m_isIn 10 = .ok (.iconst 1, 1) := by decide +kernel
theorem d_m_isIn_11 : decode b_m_isIn 11 = .ok (.goto 4, 3) := by decide +kernel
theorem d_m_isIn_14 : decode b_m_isIn 14 = .ok (.iconst 0, 1) := by decide +kernel
theorem d_m_isIn_15 : decode b_m_isIn 15 = .ok (.ireturn, 1) := by decide +kernel
theorem d_m_set_0 : decode b_m_set 0 = .ok (.iload_n 1, 1) := by decide +kernel
theorem d_m_set_1 : decode b_m_set 1 = .ok (.iconst 0, 1) := by decide +kernel
theorem d_m_set_2 : decode b_m_set 2 = .ok (.bipush 7, 2) := by decide +kernel
theorem d_m_set_4 : decode b_m_set 4 = .ok (.invokestatic 57, 3) := by decide +kernel
theorem d_m_set_7 : decode b_m_set 7 = .ok (.ifCond .eq 30, 3) := by decide +kernel
theorem d_m_set_10 : decode b_m_set 10 = .ok (.iload_n 2, 1) := by decide +kernel
theorem d_m_set_11 : decode b_m_set 11 = .ok (.iconst 0, 1) := by decide +kernel
theorem d_m_set_12 : decode b_m_set 12 = .ok (.iload_n 1, 1) := by decide +kernel
theorem d_m_set_13 : decode b_m_set 13 = .ok (.ifCond .ne 7, 3) := by decide +kernel
theorem d_m_set_16 : decode b_m_set 16 = .ok (.iconst 0, 1) := by decide +kernel
theorem d_m_set_17 : decode b_m_set 17 = .ok (.goto 4, 3) := by decide +kernel
theorem d_m_set_20 : decode b_m_set 20 = .ok (.iconst 1, 1) := by decide +kernel
theorem d_m_set_21 : decode b_m_set 21 = .ok (.invokestatic 57, 3) := by decide +kernel
theorem d_m_set_24 : decode b_m_set 24 = .ok (.ifCond .eq 13, 3) := by decide +kernel
theorem d_m_set_27 : decode b_m_set 27 = .ok (.iload_n 3, 1) := by decide +kernel
theorem d_m_set_28 : decode b_m_set 28 = .ok (.iconst 1, 1) := by decide +kernel
theorem d_m_set_29 : decode b_m_set 29 = .ok (.ldc 61, 2) := by decide +kernel
theorem d_m_set_31 : decode b_m_set 31 = .ok (.invokestatic 57, 3) := by decide +kernel
theorem d_m_set_34 : decode b_m_set 34 = .ok (.ifCond .ne 5, 3) := by decide +kernel
theorem d_m_set_37 : decode b_m_set 37 = .ok (.iconst 0, 1) := by decide +kernel
theorem d_m_set_38 : decode b_m_set 38 = .ok (.ireturn, 1) := by decide +kernel
theorem d_m_set_39 : decode b_m_set 39 = .ok (.aload_n 0, 1) := by decide +kernel
theorem d_m_set_40 : decode b_m_set 40 = .ok (.getfield 16, 3) := by decide +kernel
theorem d_m_set_43 : decode b_m_set 43 = .ok (.iload_n 1, 1) := by decide +kernel
theorem d_m_set_44 : decode b_m_set 44 = .ok (.iload_n 2, 1) := by decide +kernel
theorem d_m_set_45 : decode b_m_set 45 = .ok (.iastore, 1) := by decide +kernel
theorem d_m_set_46 : decode b_m_set 46 = .ok (.aload_n 0, 1) := by decide +kernel
theorem d_m_set_47 : decode b_m_set 47 = .ok (.getfield 7, 3) := by decide +kernel
theorem d_m_set_50 : decode b_m_set 50 = .ok (.iload_n 1, 1) := by decide +kernel
theorem d_m_set_51 : decode b_m_set 51 = .ok (.iload_n 3, 1) := by decide +kernel
theorem d_m_set_52 : decode b_m_set 52 = .ok (.iastore, 1) := by decide +kernel
theorem d_m_set_53 : decode b_m_set 53 = .ok (.aload_n 0, 1) := by decide +kernel
theorem d_m_set_54 : decode b_m_set 54 = .ok (.getfield 13, 3) := by decide +kernel
theorem d_m_set_57 : decode b_m_set 57 = .ok (.iload_n 1, 1) := by decide +kernel
theorem d_m_set_58 : decode b_m_set 58 = .ok (.iload_n 3, 1) := by decide +kernel
theorem d_m_set_59 : decode b_m_set 59 = .ok (.iastore, 1) := by decide +kernel
theorem d_m_set_60 : decode b_m_set 60 = .ok (.aload_n 0, 1) := by decide +kernel
theorem d_m_set_61 : decode b_m_set 61 = .ok (.getfield 19, 3) := by decide +kernel
theorem d_m_set_64 : decode b_m_set 64 = .ok (.iload_n 1, 1) := by decide +kernel
theorem d_m_set_65 : decode b_m_set 65 = .ok (.iload 4, 2) := by decide +kernel
theorem d_m_set_67 : decode b_m_set 67 = .ok (.bastore, 1) := by decide +kernel
theorem d_m_set_68 : decode b_m_set 68 = .ok (.aload_n 0, 1) := by decide +kernel
theorem d_m_set_69 : decode b_m_set 69 = .ok (.getfield 23, 3) := by decide +kernel
theorem d_m_set_72 : decode b_m_set 72 = .ok (.iload_n 1, 1) := by decide +kernel
theorem d_m_set_73 : decode b_m_set 73 = .ok (.iconst 0, 1) := by decide +kernel
theorem d_m_set_74 : decode b_m_set 74 = .ok (.bastore, 1) := by decide +kernel
theorem d_m_set_75 : decode b_m_set 75 = .ok (.iconst 1, 1) := by decide +kernel
theorem d_m_set_76 : decode b_m_set 76 = .ok (.ireturn, 1) := by decide +kernel
theorem d_m_turn_0 : decode b_m_turn 0 = .ok (.iload_n 1, 1) := by decide +kernel
theorem d_m_turn_1 : decode b_m_turn 1 = .ok (.iconst 0, 1) := by decide +kernel
theorem d_m_turn_2 : decode b_m_turn 2 = .ok (.bipush 7, 2) := by decide +kernel
theorem d_m_turn_4 : decode b_m_turn 4 = .ok (.invokestatic 57, 3) := by decide +kernel
theorem d_m_turn_7 : decode b_m_turn 7 = .ok (.ifCond .eq 13, 3) := by decide +kernel
theorem d_m_turn_10 : decode b_m_turn 10 = .ok (.aload_n 0, 1) := by decide +kernel
theorem d_m_turn_11 : decode b_m_turn 11 = .ok (.getfield 23, 3) := by decide +kernel
theorem d_m_turn_14 : decode b_m_turn 14 = .ok (.iload_n 1, 1) := by decide +kernel
theorem d_m_turn_15 : decode b_m_turn 15 = .ok (.baload, 1) := by decide +kernel
theorem d_m_turn_16 : decode b_m_turn 16 = .ok (.iload_n 2, 1) := by decide +kernel
theorem d_m_turn_17 : decode b_m_turn 17 = .ok (.if_icmp .ne 5, 3) := by decide +kernel
theorem d_m_turn_20 : decode b_m_turn 20 = .ok (.iconst 0, 1) := by decide +kernel
theorem d_m_turn_21 : decode b_m_turn 21 = .ok (.ireturn, 1) := by decide +kernel
theorem d_m_turn_22 : decode b_m_turn 22 = .ok (.aload_n 0, 1) := by decide +kernel
theorem d_m_turn_23 : decode b_m_turn 23 = .ok (.getfield 23, 3) := by decide +kernel
theorem d_m_turn_26 : decode b_m_turn 26 = .ok (.iload_n 1, 1) := by decide +kernel
theorem d_m_turn_27 : decode b_m_turn 27 = .ok (.iload_n 2, 1) := by decide +kernel
theorem d_m_turn_28 : decode b_m_turn 28 = .ok (.bastore, 1) := by decide +kernel
theorem d_m_turn_29 : decode b_m_turn 29 = .ok (.iconst 1, 1) := by decide +kernel
theorem d_m_turn_30 : decode b_m_turn 30 = .ok (.ireturn, 1) := by decide +kernel
theorem d_m_gate_0 : decode b_m_gate 0 = .ok (.iload_n 1, 1) := by decide +kernel
theorem d_m_gate_1 : decode b_m_gate 1 = .ok (.iconst 0, 1) := by decide +kernel
theorem d_m_gate_2 : decode b_m_gate 2 = .ok (.iconst 3, 1) := by decide +kernel
theorem d_m_gate_3 : decode b_m_gate 3 = .ok (.invokestatic 57, 3) := by decide +kernel
theorem d_m_gate_6 : decode b_m_gate 6 = .ok (.ifCond .eq 25, 3) := by decide +kernel
theorem d_m_gate_9 : decode b_m_gate 9 = .ok (.iload_n 2, 1) := by decide +kernel
theorem d_m_gate_10 : decode b_m_gate 10 = .ok (.iconst 0, 1) := by decide +kernel
theorem d_m_gate_11 : decode b_m_gate 11 = .ok (.sipush 255, 3) := by decide +kernel
theorem d_m_gate_14 : decode b_m_gate 14 = .ok (.invokestatic 57, 3) := by decide +kernel
theorem d_m_gate_17 : decode b_m_gate 17 = .ok (.ifCond .eq 14, 3) := by decide +kernel
theorem d_m_gate_20 : decode b_m_gate 20 = .ok (.iload_n 3, 1) := by decide +kernel
theorem d_m_gate_21 : decode b_m_gate 21 = .ok (.iconst 1, 1) := by decide +kernel
theorem d_m_gate_22 : decode b_m_gate 22 = .ok (.sipush 1000, 3) := by decide +kernel
theorem d_m_gate_25 : decode b_m_gate 25 = .ok (.invokestatic 57, 3) := by decide +kernel
theorem d_m_gate_28 : decode b_m_gate 28 = .ok (.ifCond .ne 5, 3) := by decide +kernel
theorem d_m_gate_31 : decode b_m_gate 31 = .ok (.iconst 0, 1) := by decide +kernel
theorem d_m_gate_32 : decode b_m_gate 32 = .ok (.ireturn, 1) := by decide +kernel
theorem d_m_gate_33 : decode b_m_gate 33 = .ok (.aload_n 0, 1) := by decide +kernel
theorem d_m_gate_34 : decode b_m_gate 34 = .ok (.getfield 29, 3) := by decide +kernel
theorem d_m_gate_37 : decode b_m_gate 37 = .ok (.iload_n 1, 1) := by decide +kernel
theorem d_m_gate_38 : decode b_m_gate 38 = .ok (.iload_n 2, 1) := by decide +kernel
theorem d_m_gate_39 : decode b_m_gate 39 = .ok (.iastore, 1) := by decide +kernel
theorem d_m_gate_40 : decode b_m_gate 40 = .ok (.aload_n 0, 1) := by decide +kernel
theorem d_m_gate_41 : decode b_m_gate 41 = .ok (.getfield 32, 3) := by decide +kernel
theorem d_m_gate_44 : decode b_m_gate 44 = .ok (.iload_n 1, 1) := by decide +kernel
theorem d_m_gate_45 : decode b_m_gate 45 = .ok (.iload_n 3, 1) := by decide +kernel
theorem d_m_gate_46 : decode b_m_gate 46 = .ok (.iastore, 1) := by decide +kernel
theorem d_m_gate_47 : decode b_m_gate 47 = .ok (.iconst 1, 1) := by decide +kernel
theorem d_m_gate_48 : decode b_m_gate 48 = .ok (.ireturn, 1) := by decide +kernel
theorem d_m_clear_0 : decode b_m_clear 0 = .ok (.iload_n 1, 1) := by decide +kernel
theorem d_m_clear_1 : decode b_m_clear 1 = .ok (.iconst 0, 1) := by decide +kernel
theorem d_m_clear_2 : decode b_m_clear 2 = .ok (.sipush 255, 3) := by decide +kernel
theorem d_m_clear_5 : decode b_m_clear 5 = .ok (.invokestatic 57, 3) := by decide +kernel
theorem d_m_clear_8 : decode b_m_clear 8 = .ok (.ifCond .ne 5, 3) := by decide +kernel
theorem d_m_clear_11 : decode b_m_clear 11 = .ok (.iconst (-1), 1) := by decide +kernel
theorem d_m_clear_12 : decode b_m_clear 12 = .ok (.ireturn, 1) := by decide +kernel
theorem d_m_clear_13 : decode b_m_clear 13 = .ok (.aload_n 0, 1) := by decide +kernel
theorem d_m_clear_14 : decode b_m_clear 14 = .ok (.getfield 62, 3) := by decide +kernel
theorem d_m_clear_17 : decode b_m_clear 17 = .ok (.iload_n 1, 1) := by decide +kernel
theorem d_m_clear_18 : decode b_m_clear 18 = .ok (.iand, 1) := by decide +kernel
theorem d_m_clear_19 : decode b_m_clear 19 = .ok (.istore_n 2, 1) := by decide +kernel
theorem d_m_clear_20 : decode b_m_clear 20 = .ok (.iconst 0, 1) := by decide +kernel
theorem d_m_clear_21 : decode b_m_clear 21 = .ok (.istore_n 3, 1) := by decide +kernel
theorem d_m_clear_22 : decode b_m_clear 22 = .ok (.iload_n 3, 1) := by decide +kernel
theorem d_m_clear_23 : decode b_m_clear 23 = .ok (.bipush 8, 2) := by decide +kernel
theorem d_m_clear_25 : decode b_m_clear 25 = .ok (.if_icmp .ge 27, 3) := by decide +kernel
theorem d_m_clear_28 : decode b_m_clear 28 = .ok (.aload_n 0, 1) := by decide +kernel
theorem d_m_clear_29 : decode b_m_clear 29 = .ok (.getfield 26, 3) := by decide +kernel
theorem d_m_clear_32 : decode b_m_clear 32 = .ok (.iconst 4, 1) := by decide +kernel
theorem d_m_clear_33 : decode b_m_clear 33 = .ok (.iload_n 3, 1) := by decide +kernel
theorem d_m_clear_34 : decode b_m_clear 34 = .ok (.imul, 1) := by decide +kernel
theorem d_m_clear_35 : decode b_m_clear 35 = .ok (.iconst 3, 1) := by decide +kernel
theorem d_m_clear_36 : decode b_m_clear 36 = .ok (.iadd, 1) := by decide +kernel
theorem d_m_clear_37 : decode b_m_clear 37 = .ok (.dup2, 1) := by decide +kernel
theorem d_m_clear_38 : decode b_m_clear 38 = .ok (.iaload, 1) := by decide +kernel
theorem d_m_clear_39 : decode b_m_clear 39 = .ok (.iload_n 2, 1) := by decide +kernel
theorem d_m_clear_40 : decode b_m_clear 40 = .ok (.iload_n 3, 1) := by decide +kernel
theorem d_m_clear_41 : decode b_m_clear 41 = .ok (.ishr, 1) := by decide +kernel
theorem d_m_clear_42 : decode b_m_clear 42 = .ok (.iconst 1, 1) := by decide +kernel
theorem d_m_clear_43 : decode b_m_clear 43 = .ok (.iand, 1) := by decide +kernel
theorem d_m_clear_44 : decode b_m_clear 44 = .ok (.iadd, 1) := by decide +kernel
theorem d_m_clear_45 : decode b_m_clear 45 = .ok (.iastore, 1) := by decide +kernel
theorem d_m_clear_46 : decode b_m_clear 46 = .ok (.iinc 3 1, 3) := by decide +kernel
theorem d_m_clear_49 : decode b_m_clear 49 = .ok (.goto (-27), 3) := by decide +kernel
theorem d_m_clear_52 : decode b_m_clear 52 = .ok (.aload_n 0, 1) := by decide +kernel
theorem d_m_clear_53 : decode b_m_clear 53 = .ok (.dup, 1) := by decide +kernel
theorem d_m_clear_54 : decode b_m_clear 54 = .ok (.getfield 62, 3) := by decide +kernel
theorem d_m_clear_57 : decode b_m_clear 57 = .ok (.iload_n 2, 1) := by decide +kernel
theorem d_m_clear_58 : decode b_m_clear 58 = .ok (.isub, 1) := by decide +kernel
theorem d_m_clear_59 : decode b_m_clear 59 = .ok (.putfield 62, 3) := by decide +kernel
theorem d_m_clear_62 : decode b_m_clear 62 = .ok (.iload_n 2, 1) := by decide +kernel
theorem d_m_clear_63 : decode b_m_clear 63 = .ok (.ireturn, 1) := by decide +kernel
theorem d_m_event_0 : decode b_m_event 0 = .ok (.aload_n 0, 1) := by decide +kernel
theorem d_m_event_1 : decode b_m_event 1 = .ok (.getfield 23, 3) := by decide +kernel
theorem d_m_event_4 : decode b_m_event 4 = .ok (.iload_n 1, 1) := by decide +kernel
theorem d_m_event_5 : decode b_m_event 5 = .ok (.baload, 1) := by decide +kernel
theorem d_m_event_6 : decode b_m_event 6 = .ok (.ifCond .ne 5, 3) := by decide +kernel
theorem d_m_event_9 : decode b_m_event 9 = .ok (.iconst 0, 1) := by decide +kernel
theorem d_m_event_10 : decode b_m_event 10 = .ok (.ireturn, 1) := by decide +kernel
theorem d_m_event_11 : decode b_m_event 11 = .ok (.aload_n 0, 1) := by decide +kernel
theorem d_m_event_12 : decode b_m_event 12 = .ok (.getfield 13, 3) := by decide +kernel
theorem d_m_event_15 : decode b_m_event 15 = .ok (.iload_n 1, 1) := by decide +kernel
theorem d_m_event_16 : decode b_m_event 16 = .ok (.dup2, 1) := by decide +kernel
theorem d_m_event_17 : decode b_m_event 17 = .ok (.iaload, 1) := by decide +kernel
theorem d_m_event_18 : decode b_m_event 18 = .ok (.iconst 1, 1) := by decide +kernel
theorem d_m_event_19 : decode b_m_event 19 = .ok (.isub, 1) := by decide +kernel
theorem d_m_event_20 : decode b_m_event 20 = .ok (.iastore, 1) := by decide +kernel
theorem d_m_event_21 : decode b_m_event 21 = .ok (.aload_n 0, 1) := by decide +kernel
theorem d_m_event_22 : decode b_m_event 22 = .ok (.getfield 13, 3) := by decide +kernel
theorem d_m_event_25 : decode b_m_event 25 = .ok (.iload_n 1, 1) := by decide +kernel
theorem d_m_event_26 : decode b_m_event 26 = .ok (.iaload, 1) := by decide +kernel
theorem d_m_event_27 : decode b_m_event 27 = .ok (.ifCond .le 5, 3) := by decide +kernel
theorem d_m_event_30 : decode b_m_event 30 = .ok (.iconst 0, 1) := by decide +kernel
theorem d_m_event_31 : decode b_m_event 31 = .ok (.ireturn, 1) := by decide +kernel
theorem d_m_event_32 : decode b_m_event 32 = .ok (.aload_n 0, 1) := by decide +kernel
theorem d_m_event_33 : decode b_m_event 33 = .ok (.getfield 13, 3) := by decide +kernel
theorem d_m_event_36 : decode b_m_event 36 = .ok (.iload_n 1, 1) := by decide +kernel
theorem d_m_event_37 : decode b_m_event 37 = .ok (.aload_n 0, 1) := by decide +kernel
theorem d_m_event_38 : decode b_m_event 38 = .ok (.getfield 7, 3) := by decide +kernel
theorem d_m_event_41 : decode b_m_event 41 = .ok (.iload_n 1, 1) := by decide +kernel
theorem d_m_event_42 : decode b_m_event 42 = .ok (.iaload, 1) := by decide +kernel
theorem d_m_event_43 : decode b_m_event 43 = .ok (.iastore, 1) := by decide +kernel
theorem d_m_event_44 : decode b_m_event 44 = .ok (.aload_n 0, 1) := by decide +kernel
theorem d_m_event_45 : decode b_m_event 45 = .ok (.getfield 23, 3) := by decide +kernel
theorem d_m_event_48 : decode b_m_event 48 = .ok (.iload_n 1, 1) := by decide +kernel
theorem d_m_event_49 : decode b_m_event 49 = .ok (.aload_n 0, 1) := by decide +kernel
theorem d_m_event_50 : decode b_m_event 50 = .ok (.getfield 19, 3) := by decide +kernel
theorem d_m_event_53 : decode b_m_event 53 = .ok (.iload_n 1, 1) := by decide +kernel
theorem d_m_event_54 : decode b_m_event 54 = .ok (.baload, 1) := by decide +kernel
theorem d_m_event_55 : decode b_m_event 55 = .ok (.ifCond .ne 7, 3) := by decide +kernel
theorem d_m_event_58 : decode b_m_event 58 = .ok (.iconst 1, 1) := by decide +kernel
theorem d_m_event_59 : decode b_m_event 59 = .ok (.goto 4, 3) := by decide +kernel
theorem d_m_event_62 : decode b_m_event 62 = .ok (.iconst 0, 1) := by decide +kernel
theorem d_m_event_63 : decode b_m_event 63 = .ok (.bastore, 1) := by decide +kernel
theorem d_m_event_64 : decode b_m_event 64 = .ok (.aload_n 0, 1) := by decide +kernel
theorem d_m_event_65 : decode b_m_event 65 = .ok (.getfield 26, 3) := by decide +kernel
theorem d_m_event_68 : decode b_m_event 68 = .ok (.iconst 4, 1) := by decide +kernel
theorem d_m_event_69 : decode b_m_event 69 = .ok (.iload_n 1, 1) := by decide +kernel
theorem d_m_event_70 : decode b_m_event 70 = .ok (.imul, 1) := by decide +kernel
theorem d_m_event_71 : decode b_m_event 71 = .ok (.dup2, 1) := by decide +kernel
theorem d_m_event_72 : decode b_m_event 72 = .ok (.iaload, 1) := by decide +kernel
theorem d_m_event_73 : decode b_m_event 73 = .ok (.iconst 1, 1) := by decide +kernel
theorem d_m_event_74 : decode b_m_event 74 = .ok (.iadd, 1) := by decide +kernel
theorem d_m_event_75 : decode b_m_event 75 = .ok (.iastore, 1) := by decide +kernel
theorem d_m_event_76 : decode b_m_event 76 = .ok (.aload_n 0, 1) := by decide +kernel
theorem d_m_event_77 : decode b_m_event 77 = .ok (.getfield 26, 3) := by decide +kernel
theorem d_m_event_80 : decode b_m_event 80 = .ok (.iconst 4, 1) := by decide +kernel
theorem d_m_event_81 : decode b_m_event 81 = .ok (.iload_n 1, 1) := by decide +kernel
theorem d_m_event_82 : decode b_m_event 82 = .ok (.imul, 1) := by decide +kernel
theorem d_m_event_83 : decode b_m_event 83 = .ok (.iconst 1, 1) := by decide +kernel
theorem d_m_event_84 : decode b_m_event 84 = .ok (.iadd, 1) := by decide +kernel
theorem d_m_event_85 : decode b_m_event 85 = .ok (.dup2, 1) := by decide +kernel
theorem d_m_event_86 : decode b_m_event 86 = .ok (.iaload, 1) := by decide +kernel
theorem d_m_event_87 : decode b_m_event 87 = .ok (.aload_n 0, 1) := by decide +kernel
theorem d_m_event_88 : decode b_m_event 88 = .ok (.getfield 62, 3) := by decide +kernel
theorem d_m_event_91 : decode b_m_event 91 = .ok (.iload_n 1, 1) := by decide +kernel
theorem d_m_event_92 : decode b_m_event 92 = .ok (.ishr, 1) := by decide +kernel
theorem d_m_event_93 : decode b_m_event 93 = .ok (.iconst 1, 1) := by decide +kernel
theorem d_m_event_94 : decode b_m_event 94 = .ok (.iand, 1) := by decide +kernel
theorem d_m_event_95 : decode b_m_event 95 = .ok (.iadd, 1) := by decide +kernel
theorem d_m_event_96 : decode b_m_event 96 = .ok (.iastore, 1) := by decide +kernel
theorem d_m_event_97 : decode b_m_event 97 = .ok (.aload_n 0, 1) := by decide +kernel
theorem d_m_event_98 : decode b_m_event 98 = .ok (.dup, 1) := by decide +kernel
theorem d_m_event_99 : decode b_m_event 99 = .ok (.getfield 62, 3) := by decide +kernel
theorem d_m_event_102 : decode b_m_event 102 = .ok (.iconst 1, 1) := by decide +kernel
theorem d_m_event_103 : decode b_m_event 103 = .ok (.iload_n 1, 1) := by decide +kernel
theorem d_m_event_104 : decode b_m_event 104 = .ok (.ishl, 1) := by decide +kernel
theorem d_m_event_105 : decode b_m_event 105 = .ok (.ior, 1) := by decide +kernel
theorem d_m_event_106 : decode b_m_event 106 = .ok (.putfield 62, 3) := by decide +kernel
theorem d_m_event_109 : decode b_m_event 109 = .ok (.iconst 1, 1) := by decide +kernel
theorem d_m_event_110 : decode b_m_event 110 = .ok (.ireturn, 1) := by decide +kernel
theorem d_m_asks_0 : decode b_m_asks 0 = .ok (.aload_n 0, 1) := by decide +kernel
theorem d_m_asks_1 : decode b_m_asks 1 = .ok (.getfield 62, 3) := by decide +kernel
theorem d_m_asks_4 : decode b_m_asks 4 = .ok (.aload_n 0, 1) := by decide +kernel
theorem d_m_asks_5 : decode b_m_asks 5 = .ok (.getfield 29, 3) := by decide +kernel
theorem d_m_asks_8 : decode b_m_asks 8 = .ok (.iload_n 1, 1) := by decide +kernel
theorem d_m_asks_9 : decode b_m_asks 9 = .ok (.iaload, 1) := by decide +kernel
theorem d_m_asks_10 : decode b_m_asks 10 = .ok (.iand, 1) := by decide +kernel
theorem d_m_asks_11 : decode b_m_asks 11 = .ok (.ifCond .eq 7, 3) := by decide +kernel
theorem d_m_asks_14 : decode b_m_asks 14 = .ok (.iconst 1, 1) := by decide +kernel
theorem d_m_asks_15 : decode b_m_asks 15 = .ok (.goto 4, 3) := by decide +kernel
theorem d_m_asks_18 : decode b_m_asks 18 = .ok (.iconst 0, 1) := by decide +kernel
theorem d_m_asks_19 : decode b_m_asks 19 = .ok (.ireturn, 1) := by decide +kernel
theorem d_m_serve_0 : decode b_m_serve 0 = .ok (.aload_n 0, 1) := by decide +kernel
theorem d_m_serve_1 : decode b_m_serve 1 = .ok (.iload_n 1, 1) := by decide +kernel
theorem d_m_serve_2 : decode b_m_serve 2 = .ok (.invokevirtual 65, 3) := by decide +kernel
theorem d_m_serve_5 : decode b_m_serve 5 = .ok (.ifCond .ne 14, 3) := by decide +kernel
theorem d_m_serve_8 : decode b_m_serve 8 = .ok (.aload_n 0, 1) := by decide +kernel
theorem d_m_serve_9 : decode b_m_serve 9 = .ok (.getfield 44, 3) := by decide +kernel
theorem d_m_serve_12 : decode b_m_serve 12 = .ok (.iload_n 1, 1) := by decide +kernel
theorem d_m_serve_13 : decode b_m_serve 13 = .ok (.dup2, 1) := by decide +kernel
theorem d_m_serve_14 : decode b_m_serve 14 = .ok (.iaload, 1) := by decide +kernel
theorem d_m_serve_15 : decode b_m_serve 15 = .ok (.iconst 1, 1) := by decide +kernel
theorem d_m_serve_16 : decode b_m_serve 16 = .ok (.iadd, 1) := by decide +kernel
theorem d_m_serve_17 : decode b_m_serve 17 = .ok (.iastore, 1) := by decide +kernel
theorem d_m_serve_18 : decode b_m_serve 18 = .ok (.return_, 1) := by decide +kernel
theorem d_m_serve_19 : decode b_m_serve 19 = .ok (.iconst 0, 1) := by decide +kernel
theorem d_m_serve_20 : decode b_m_serve 20 = .ok (.istore_n 2, 1) := by decide +kernel
theorem d_m_serve_21 : decode b_m_serve 21 = .ok (.aload_n 0, 1) := by decide +kernel
theorem d_m_serve_22 : decode b_m_serve 22 = .ok (.getfield 62, 3) := by decide +kernel
theorem d_m_serve_25 : decode b_m_serve 25 = .ok (.aload_n 0, 1) := by decide +kernel
theorem d_m_serve_26 : decode b_m_serve 26 = .ok (.getfield 29, 3) := by decide +kernel
theorem d_m_serve_29 : decode b_m_serve 29 = .ok (.iload_n 1, 1) := by decide +kernel
theorem d_m_serve_30 : decode b_m_serve 30 = .ok (.iaload, 1) := by decide +kernel
theorem d_m_serve_31 : decode b_m_serve 31 = .ok (.iand, 1) := by decide +kernel
theorem d_m_serve_32 : decode b_m_serve 32 = .ok (.iconst 1, 1) := by decide +kernel
theorem d_m_serve_33 : decode b_m_serve 33 = .ok (.iload_n 2, 1) := by decide +kernel
theorem d_m_serve_34 : decode b_m_serve 34 = .ok (.ishl, 1) := by decide +kernel
theorem d_m_serve_35 : decode b_m_serve 35 = .ok (.iand, 1) := by decide +kernel
theorem d_m_serve_36 : decode b_m_serve 36 = .ok (.ifCond .ne 9, 3) := by decide +kernel
theorem d_m_serve_39 : decode b_m_serve 39 = .ok (.iinc 2 1, 3) := by decide +kernel
theorem d_m_serve_42 : decode b_m_serve 42 = .ok (.goto (-21), 3) := by decide +kernel
theorem d_m_serve_45 : decode b_m_serve 45 = .ok (.aload_n 0, 1) := by decide +kernel
theorem d_m_serve_46 : decode b_m_serve 46 = .ok (.dup, 1) := by decide +kernel
theorem d_m_serve_47 : decode b_m_serve 47 = .ok (.getfield 62, 3) := by decide +kernel
theorem d_m_serve_50 : decode b_m_serve 50 = .ok (.iconst 1, 1) := by decide +kernel
theorem d_m_serve_51 : decode b_m_serve 51 = .ok (.iload_n 2, 1) := by decide +kernel
theorem d_m_serve_52 : decode b_m_serve 52 = .ok (.ishl, 1) := by decide +kernel
theorem d_m_serve_53 : decode b_m_serve 53 = .ok (.isub, 1) := by decide +kernel
theorem d_m_serve_54 : decode b_m_serve 54 = .ok (.putfield 62, 3) := by decide +kernel
theorem d_m_serve_57 : decode b_m_serve 57 = .ok (.aload_n 0, 1) := by decide +kernel
theorem d_m_serve_58 : decode b_m_serve 58 = .ok (.getfield 26, 3) := by decide +kernel
theorem d_m_serve_61 : decode b_m_serve 61 = .ok (.iconst 4, 1) := by decide +kernel
theorem d_m_serve_62 : decode b_m_serve 62 = .ok (.iload_n 2, 1) := by decide +kernel
theorem d_m_serve_63 : decode b_m_serve 63 = .ok (.imul, 1) := by decide +kernel
theorem d_m_serve_64 : decode b_m_serve 64 = .ok (.iconst 2, 1) := by decide +kernel
theorem d_m_serve_65 : decode b_m_serve 65 = .ok (.iadd, 1) := by decide +kernel
theorem d_m_serve_66 : decode b_m_serve 66 = .ok (.dup2, 1) := by decide +kernel
theorem d_m_serve_67 : decode b_m_serve 67 = .ok (.iaload, 1) := by decide +kernel
theorem d_m_serve_68 : decode b_m_serve 68 = .ok (.iconst 1, 1) := by decide +kernel
theorem d_m_serve_69 : decode b_m_serve 69 = .ok (.iadd, 1) := by decide +kernel
theorem d_m_serve_70 : decode b_m_serve 70 = .ok (.iastore, 1) := by decide +kernel
theorem d_m_serve_71 : decode b_m_serve 71 = .ok (.aload_n 0, 1) := by decide +kernel
theorem d_m_serve_72 : decode b_m_serve 72 = .ok (.getfield 41, 3) := by decide +kernel
theorem d_m_serve_75 : decode b_m_serve 75 = .ok (.iload_n 1, 1) := by decide +kernel
theorem d_m_serve_76 : decode b_m_serve 76 = .ok (.dup2, 1) := by decide +kernel
theorem d_m_serve_77 : decode b_m_serve 77 = .ok (.iaload, 1) := by decide +kernel
theorem d_m_serve_78 : decode b_m_serve 78 = .ok (.iconst 1, 1) := by decide +kernel
theorem d_m_serve_79 : decode b_m_serve 79 = .ok (.iadd, 1) := by decide +kernel
theorem d_m_serve_80 : decode b_m_serve 80 = .ok (.iastore, 1) := by decide +kernel
theorem d_m_serve_81 : decode b_m_serve 81 = .ok (.aload_n 0, 1) := by decide +kernel
theorem d_m_serve_82 : decode b_m_serve 82 = .ok (.getfield 47, 3) := by decide +kernel
theorem d_m_serve_85 : decode b_m_serve 85 = .ok (.iload_n 1, 1) := by decide +kernel
theorem d_m_serve_86 : decode b_m_serve 86 = .ok (.aload_n 0, 1) := by decide +kernel
theorem d_m_serve_87 : decode b_m_serve 87 = .ok (.getfield 69, 3) := by decide +kernel
theorem d_m_serve_90 : decode b_m_serve 90 = .ok (.iastore, 1) := by decide +kernel
theorem d_m_serve_91 : decode b_m_serve 91 = .ok (.iconst 3, 1) := by decide +kernel
theorem d_m_serve_92 : decode b_m_serve 92 = .ok (.aload_n 0, 1) := by decide +kernel
theorem d_m_serve_93 : decode b_m_serve 93 = .ok (.getfield 72, 3) := by decide +kernel
theorem d_m_serve_96 : decode b_m_serve 96 = .ok (.bipush 16, 2) := by decide +kernel
theorem d_m_serve_98 : decode b_m_serve 98 = .ok (.irem, 1) := by decide +kernel
theorem d_m_serve_99 : decode b_m_serve 99 = .ok (.imul, 1) := by decide +kernel
theorem d_m_serve_100 : decode b_m_serve 100 = .ok (.istore_n 3, 1) := by decide +kernel
theorem d_m_serve_101 : decode b_m_serve 101 = .ok (.aload_n 0, 1) := by decide +kernel
theorem d_m_serve_102 : decode b_m_serve 102 = .ok (.getfield 50, 3) := by decide +kernel
theorem d_m_serve_105 : decode b_m_serve 105 = .ok (.iload_n 3, 1) := by decide +kernel
theorem d_m_serve_106 : decode b_m_serve 106 = .ok (.iload_n 2, 1) := by decide +kernel
theorem d_m_serve_107 : decode b_m_serve 107 = .ok (.iastore, 1) := by decide +kernel
theorem d_m_serve_108 : decode b_m_serve 108 = .ok (.aload_n 0, 1) := by decide +kernel
theorem d_m_serve_109 : decode b_m_serve 109 = .ok (.getfield 50, 3) := by decide +kernel
theorem d_m_serve_112 : decode b_m_serve 112 = .ok (.iload_n 3, 1) := by decide +kernel
theorem d_m_serve_113 : decode b_m_serve 113 = .ok (.iconst 1, 1) := by decide +kernel
theorem d_m_serve_114 : decode b_m_serve 114 = .ok (.iadd, 1) := by decide +kernel
theorem d_m_serve_115 : decode b_m_serve 115 = .ok (.iload_n 1, 1) := by decide +kernel
theorem d_m_serve_116 : decode b_m_serve 116 = .ok (.iastore, 1) := by decide +kernel
theorem d_m_serve_117 : decode b_m_serve 117 = .ok (.aload_n 0, 1) := by decide +kernel
theorem d_m_serve_118 : decode b_m_serve 118 = .ok (.getfield 50, 3) := by decide +kernel
theorem d_m_serve_121 : decode b_m_serve 121 = .ok (.iload_n 3, 1) := by decide +kernel
theorem d_m_serve_122 : decode b_m_serve 122 = .ok (.iconst 2, 1) := by decide +kernel
theorem d_m_serve_123 : decode b_m_serve 123 = .ok (.iadd, 1) := by decide +kernel
theorem d_m_serve_124 : decode b_m_serve 124 = .ok (.aload_n 0, 1) := by decide +kernel
theorem d_m_serve_125 : decode b_m_serve 125 = .ok (.getfield 69, 3) := by decide +kernel
theorem d_m_serve_128 : decode b_m_serve 128 = .ok (.iastore, 1) := by decide +kernel
theorem d_m_serve_129 : decode b_m_serve 129 = .ok (.aload_n 0, 1) := by decide +kernel
theorem d_m_serve_130 : decode b_m_serve 130 = .ok (.dup, 1) := by decide +kernel
theorem d_m_serve_131 : decode b_m_serve 131 = .ok (.getfield 72, 3) := by decide +kernel
theorem d_m_serve_134 : decode b_m_serve 134 = .ok (.iconst 1, 1) := by decide +kernel
theorem d_m_serve_135 : decode b_m_serve 135 = .ok (.iadd, 1) := by decide +kernel
theorem d_m_serve_136 : decode b_m_serve 136 = .ok (.putfield 72, 3) := by decide +kernel
theorem d_m_serve_139 : decode b_m_serve 139 = .ok (.return_, 1) := by decide +kernel
theorem d_m_tick_0 : decode b_m_tick 0 = .ok (.aload_n 0, 1) := by decide +kernel
theorem d_m_tick_1 : decode b_m_tick 1 = .ok (.dup, 1) := by decide +kernel
theorem d_m_tick_2 : decode b_m_tick 2 = .ok (.getfield 69, 3) := by decide +kernel
theorem d_m_tick_5 : decode b_m_tick 5 = .ok (.iconst 1, 1) := by decide +kernel
theorem d_m_tick_6 : decode b_m_tick 6 = .ok (.iadd, 1) := by decide +kernel
theorem d_m_tick_7 : decode b_m_tick 7 = .ok (.putfield 69, 3) := by decide +kernel
theorem d_m_tick_10 : decode b_m_tick 10 = .ok (.iconst 0, 1) := by decide +kernel
theorem d_m_tick_11 : decode b_m_tick 11 = .ok (.istore_n 1, 1) := by decide +kernel
theorem d_m_tick_12 : decode b_m_tick 12 = .ok (.iconst 0, 1) := by decide +kernel
theorem d_m_tick_13 : decode b_m_tick 13 = .ok (.istore_n 2, 1) := by decide +kernel
theorem d_m_tick_14 : decode b_m_tick 14 = .ok (.iload_n 2, 1) := by decide +kernel
theorem d_m_tick_15 : decode b_m_tick 15 = .ok (.bipush 8, 2) := by decide +kernel
theorem d_m_tick_17 : decode b_m_tick 17 = .ok (.if_icmp .ge 36, 3) := by decide +kernel
theorem d_m_tick_20 : decode b_m_tick 20 = .ok (.aload_n 0, 1) := by decide +kernel
theorem d_m_tick_21 : decode b_m_tick 21 = .ok (.getfield 16, 3) := by decide +kernel
theorem d_m_tick_24 : decode b_m_tick 24 = .ok (.iload_n 2, 1) := by decide +kernel
theorem d_m_tick_25 : decode b_m_tick 25 = .ok (.iaload, 1) := by decide +kernel
theorem d_m_tick_26 : decode b_m_tick 26 = .ok (.ifCond .eq 7, 3) := by decide +kernel
theorem d_m_tick_29 : decode b_m_tick 29 = .ok (.iload_n 1, 1) := by decide +kernel
theorem d_m_tick_30 : decode b_m_tick 30 = .ok (.ifCond .eq 15, 3) := by decide +kernel
theorem d_m_tick_33 : decode b_m_tick 33 = .ok (.aload_n 0, 1) := by decide +kernel
theorem d_m_tick_34 : decode b_m_tick 34 = .ok (.iload_n 2, 1) := by decide +kernel
theorem d_m_tick_35 : decode b_m_tick 35 = .ok (.invokevirtual 75, 3) := by decide +kernel
theorem d_m_tick_38 : decode b_m_tick 38 = .ok (.ifCond .eq 7, 3) := by decide +kernel
theorem d_m_tick_41 : decode b_m_tick 41 = .ok (.iconst 1, 1) := by decide +kernel
theorem d_m_tick_42 : decode b_m_tick 42 = .ok (.goto 4, 3) := by decide +kernel
theorem d_m_tick_45 : decode b_m_tick 45 = .ok (.iconst 0, 1) := by decide +kernel
theorem d_m_tick_46 : decode b_m_tick 46 = .ok (.istore_n 1, 1) := by decide +kernel
theorem d_m_tick_47 : decode b_m_tick 47 = .ok (.iinc 2 1, 3) := by decide +kernel
theorem d_m_tick_50 : decode b_m_tick 50 = .ok (.goto (-36), 3) := by decide +kernel
theorem d_m_tick_53 : decode b_m_tick 53 = .ok (.iconst 0, 1) := by decide +kernel
theorem d_m_tick_54 : decode b_m_tick 54 = .ok (.istore_n 2, 1) := by decide +kernel
theorem d_m_tick_55 : decode b_m_tick 55 = .ok (.iload_n 2, 1) := by decide +kernel
theorem d_m_tick_56 : decode b_m_tick 56 = .ok (.iconst 4, 1) := by decide +kernel
theorem d_m_tick_57 : decode b_m_tick 57 = .ok (.if_icmp .ge 63, 3) := by decide +kernel
theorem d_m_tick_60 : decode b_m_tick 60 = .ok (.aload_n 0, 1) := by decide +kernel
theorem d_m_tick_61 : decode b_m_tick 61 = .ok (.getfield 38, 3) := by decide +kernel
theorem d_m_tick_64 : decode b_m_tick 64 = .ok (.iload_n 2, 1) := by decide +kernel
theorem d_m_tick_65 : decode b_m_tick 65 = .ok (.aload_n 0, 1) := by decide +kernel
theorem d_m_tick_66 : decode b_m_tick 66 = .ok (.getfield 35, 3) := by decide +kernel
theorem d_m_tick_69 : decode b_m_tick 69 = .ok (.iload_n 2, 1) := by decide +kernel
theorem d_m_tick_70 : decode b_m_tick 70 = .ok (.iaload, 1) := by decide +kernel
theorem d_m_tick_71 : decode b_m_tick 71 = .ok (.iconst 1, 1) := by decide +kernel
theorem d_m_tick_72 : decode b_m_tick 72 = .ok (.if_icmp .ne 7, 3) := by decide +kernel
theorem d_m_tick_75 : decode b_m_tick 75 = .ok (.iconst 1, 1) := by decide +kernel
theorem d_m_tick_76 : decode b_m_tick 76 = .ok (.goto 4, 3) := by decide +kernel
theorem d_m_tick_79 : decode b_m_tick 79 = .ok (.iconst 0, 1) := by decide +kernel
theorem d_m_tick_80 : decode b_m_tick 80 = .ok (.bastore, 1) := by decide +kernel
theorem d_m_tick_81 : decode b_m_tick 81 = .ok (.aload_n 0, 1) := by decide +kernel
theorem d_m_tick_82 : decode b_m_tick 82 = .ok (.getfield 35, 3) := by decide +kernel
theorem d_m_tick_85 : decode b_m_tick 85 = .ok (.iload_n 2, 1) := by decide +kernel
theorem d_m_tick_86 : decode b_m_tick 86 = .ok (.iaload, 1) := by decide +kernel
theorem d_m_tick_87 : decode b_m_tick 87 = .ok (.ifCond .le 13, 3) := by decide +kernel
theorem d_m_tick_90 : decode b_m_tick 90 = .ok (.aload_n 0, 1) := by decide +kernel
theorem d_m_tick_91 : decode b_m_tick 91 = .ok (.getfield 35, 3) := by decide +kernel
theorem d_m_tick_94 : decode b_m_tick 94 = .ok (.iload_n 2, 1) := by decide +kernel
theorem d_m_tick_95 : decode b_m_tick 95 = .ok (.dup2, 1) := by decide +kernel
theorem d_m_tick_96 : decode b_m_tick 96 = .ok (.iaload, 1) := by decide +kernel
theorem d_m_tick_97 : decode b_m_tick 97 = .ok (.iconst 1, 1) := by decide +kernel
theorem d_m_tick_98 : decode b_m_tick 98 = .ok (.isub, 1) := by decide +kernel
theorem d_m_tick_99 : decode b_m_tick 99 = .ok (.iastore, 1) := by decide +kernel
theorem d_m_tick_100 : decode b_m_tick 100 = .ok (.aload_n 0, 1) := by decide +kernel
theorem d_m_tick_101 : decode b_m_tick 101 = .ok (.getfield 38, 3) := by decide +kernel
theorem d_m_tick_104 : decode b_m_tick 104 = .ok (.iload_n 2, 1) := by decide +kernel
theorem d_m_tick_105 : decode b_m_tick 105 = .ok (.baload, 1) := by decide +kernel
theorem d_m_tick_106 : decode b_m_tick 106 = .ok (.ifCond .eq 8, 3) := by decide +kernel
theorem d_m_tick_109 : decode b_m_tick 109 = .ok (.aload_n 0, 1) := by decide +kernel
theorem d_m_tick_110 : decode b_m_tick 110 = .ok (.iload_n 2, 1) := by decide +kernel
theorem d_m_tick_111 : decode b_m_tick 111 = .ok (.invokevirtual 78, 3) := by decide +kernel
theorem d_m_tick_114 : decode b_m_tick 114 = .ok (.iinc 2 1, 3) := by decide +kernel
theorem d_m_tick_117 : decode b_m_tick 117 = .ok (.goto (-62), 3) := by decide +kernel
theorem d_m_tick_120 : decode b_m_tick 120 = .ok (.iconst 0, 1) := by decide +kernel
theorem d_m_tick_121 : decode b_m_tick 121 = .ok (.istore_n 2, 1) := by decide +kernel
theorem d_m_tick_122 : decode b_m_tick 122 = .ok (.iload_n 2, 1) := by decide +kernel
theorem d_m_tick_123 : decode b_m_tick 123 = .ok (.iconst 4, 1) := by decide +kernel
theorem d_m_tick_124 : decode b_m_tick 124 = .ok (.if_icmp .ge 38, 3) := by decide +kernel
theorem d_m_tick_127 : decode b_m_tick 127 = .ok (.aload_n 0, 1) := by decide +kernel
theorem d_m_tick_128 : decode b_m_tick 128 = .ok (.getfield 35, 3) := by decide +kernel
theorem d_m_tick_131 : decode b_m_tick 131 = .ok (.iload_n 2, 1) := by decide +kernel
theorem d_m_tick_132 : decode b_m_tick 132 = .ok (.iaload, 1) := by decide +kernel
theorem d_m_tick_133 : decode b_m_tick 133 = .ok (.ifCond .ne 23, 3) := by decide +kernel
theorem d_m_tick_136 : decode b_m_tick 136 = .ok (.aload_n 0, 1) := by decide +kernel
theorem d_m_tick_137 : decode b_m_tick 137 = .ok (.iload_n 2, 1) := by decide +kernel
theorem d_m_tick_138 : decode b_m_tick 138 = .ok (.invokevirtual 65, 3) := by decide +kernel
theorem d_m_tick_141 : decode b_m_tick 141 = .ok (.ifCond .eq 15, 3) := by decide +kernel
theorem d_m_tick_144 : decode b_m_tick 144 = .ok (.aload_n 0, 1) := by decide +kernel
theorem d_m_tick_145 : decode b_m_tick 145 = .ok (.getfield 35, 3) := by decide +kernel
theorem d_m_tick_148 : decode b_m_tick 148 = .ok (.iload_n 2, 1) := by decide +kernel
theorem d_m_tick_149 : decode b_m_tick 149 = .ok (.aload_n 0, 1) := by decide +kernel
theorem d_m_tick_150 : decode b_m_tick 150 = .ok (.getfield 32, 3) := by decide +kernel
theorem d_m_tick_153 : decode b_m_tick 153 = .ok (.iload_n 2, 1) := by decide +kernel
theorem d_m_tick_154 : decode b_m_tick 154 = .ok (.iaload, 1) := by decide +kernel
theorem d_m_tick_155 : decode b_m_tick 155 = .ok (.iastore, 1) := by decide +kernel
theorem d_m_tick_156 : decode b_m_tick 156 = .ok (.iinc 2 1, 3) := by decide +kernel
theorem d_m_tick_159 : decode b_m_tick 159 = .ok (.goto (-37), 3) := by decide +kernel
theorem d_m_tick_162 : decode b_m_tick 162 = .ok (.return_, 1) := by decide +kernel
theorem d_m_advance_0 : decode b_m_advance 0 = .ok (.iload_n 1, 1) := by decide +kernel
theorem d_m_advance_1 : decode b_m_advance 1 = .ok (.iconst 0, 1) := by decide +kernel
theorem d_m_advance_2 : decode b_m_advance 2 = .ok (.sipush 20000, 3) := by decide +kernel
theorem d_m_advance_5 : decode b_m_advance 5 = .ok (.invokestatic 57, 3) := by decide +kernel
theorem d_m_advance_8 : decode b_m_advance 8 = .ok (.ifCond .ne 5, 3) := by decide +kernel
theorem d_m_advance_11 : decode b_m_advance 11 = .ok (.iconst (-1), 1) := by decide +kernel
theorem d_m_advance_12 : decode b_m_advance 12 = .ok (.ireturn, 1) := by decide +kernel
theorem d_m_advance_13 : decode b_m_advance 13 = .ok (.aload_n 0, 1) := by decide +kernel
theorem d_m_advance_14 : decode b_m_advance 14 = .ok (.getfield 72, 3) := by decide +kernel
theorem d_m_advance_17 : decode b_m_advance 17 = .ok (.istore_n 2, 1) := by decide +kernel
theorem d_m_advance_18 : decode b_m_advance 18 = .ok (.iconst 0, 1) := by decide +kernel
theorem d_m_advance_19 : decode b_m_advance 19 = .ok (.istore_n 3, 1) := by decide +kernel
theorem d_m_advance_20 : decode b_m_advance 20 = .ok (.iload_n 3, 1) := by decide +kernel
theorem d_m_advance_21 : decode b_m_advance 21 = .ok (.iload_n 1, 1) := by decide +kernel
theorem d_m_advance_22 : decode b_m_advance 22 = .ok (.if_icmp .ge 13, 3) := by decide +kernel
theorem d_m_advance_25 : decode b_m_advance 25 = .ok (.aload_n 0, 1) := by decide +kernel
theorem d_m_advance_26 : decode b_m_advance 26 = .ok (.invokevirtual 82, 3) := by decide +kernel
theorem d_m_advance_29 : decode b_m_advance 29 = .ok (.iinc 3 1, 3) := by decide +kernel
theorem d_m_advance_32 : decode b_m_advance 32 = .ok (.goto (-12), 3) := by decide +kernel
theorem d_m_advance_35 : decode b_m_advance 35 = .ok (.aload_n 0, 1) := by decide +kernel
theorem d_m_advance_36 : decode b_m_advance 36 = .ok (.getfield 72, 3) := by decide +kernel
theorem d_m_advance_39 : decode b_m_advance 39 = .ok (.iload_n 2, 1) := by decide +kernel
theorem d_m_advance_40 : decode b_m_advance 40 = .ok (.isub, 1) := by decide +kernel
theorem d_m_advance_41 : decode b_m_advance 41 = .ok (.ireturn, 1) := by decide +kernel
theorem d_m_next_0 : decode b_m_next 0 = .ok (.iload_n 1, 1) := by decide +kernel
theorem d_m_next_1 : decode b_m_next 1 = .ok (.iconst 0, 1) := by decide +kernel
theorem d_m_next_2 : decode b_m_next 2 = .ok (.sipush 20000, 3) := by decide +kernel
theorem d_m_next_5 : decode b_m_next 5 = .ok (.invokestatic 57, 3) := by decide +kernel
theorem d_m_next_8 : decode b_m_next 8 = .ok (.ifCond .ne 5, 3) := by decide +kernel
theorem d_m_next_11 : decode b_m_next 11 = .ok (.iconst (-1), 1) := by decide +kernel
theorem d_m_next_12 : decode b_m_next 12 = .ok (.ireturn, 1) := by decide +kernel
theorem d_m_next_13 : decode b_m_next 13 = .ok (.aload_n 0, 1) := by decide +kernel
theorem d_m_next_14 : decode b_m_next 14 = .ok (.getfield 72, 3) := by decide +kernel
theorem d_m_next_17 : decode b_m_next 17 = .ok (.istore_n 2, 1) := by decide +kernel
theorem d_m_next_18 : decode b_m_next 18 = .ok (.iconst 0, 1) := by decide +kernel
theorem d_m_next_19 : decode b_m_next 19 = .ok (.istore_n 3, 1) := by decide +kernel
theorem d_m_next_20 : decode b_m_next 20 = .ok (.iload_n 3, 1) := by decide +kernel
theorem d_m_next_21 : decode b_m_next 21 = .ok (.iload_n 1, 1) := by decide +kernel
theorem d_m_next_22 : decode b_m_next 22 = .ok (.if_icmp .ge 21, 3) := by decide +kernel
theorem d_m_next_25 : decode b_m_next 25 = .ok (.aload_n 0, 1) := by decide +kernel
theorem d_m_next_26 : decode b_m_next 26 = .ok (.getfield 72, 3) := by decide +kernel
theorem d_m_next_29 : decode b_m_next 29 = .ok (.iload_n 2, 1) := by decide +kernel
theorem d_m_next_30 : decode b_m_next 30 = .ok (.if_icmp .ne 13, 3) := by decide +kernel
theorem d_m_next_33 : decode b_m_next 33 = .ok (.aload_n 0, 1) := by decide +kernel
theorem d_m_next_34 : decode b_m_next 34 = .ok (.invokevirtual 82, 3) := by decide +kernel
theorem d_m_next_37 : decode b_m_next 37 = .ok (.iinc 3 1, 3) := by decide +kernel
theorem d_m_next_40 : decode b_m_next 40 = .ok (.goto (-20), 3) := by decide +kernel
theorem d_m_next_43 : decode b_m_next 43 = .ok (.iload_n 3, 1) := by decide +kernel
theorem d_m_next_44 : decode b_m_next 44 = .ok (.ireturn, 1) := by decide +kernel
theorem d_m_timer_0 : decode b_m_timer 0 = .ok (.iload_n 1, 1) := by decide +kernel
theorem d_m_timer_1 : decode b_m_timer 1 = .ok (.iconst 0, 1) := by decide +kernel
theorem d_m_timer_2 : decode b_m_timer 2 = .ok (.bipush 7, 2) := by decide +kernel
theorem d_m_timer_4 : decode b_m_timer 4 = .ok (.invokestatic 57, 3) := by decide +kernel
theorem d_m_timer_7 : decode b_m_timer 7 = .ok (.ifCond .ne 5, 3) := by decide +kernel
theorem d_m_timer_10 : decode b_m_timer 10 = .ok (.iconst (-1), 1) := by decide +kernel
theorem d_m_timer_11 : decode b_m_timer 11 = .ok (.ireturn, 1) := by decide +kernel
theorem d_m_timer_12 : decode b_m_timer 12 = .ok (.iload_n 2, 1) := by decide +kernel
theorem d_m_timer_13 : decode b_m_timer 13 = .ok (.tableswitch 144 0 8 #[51, 58, 65, 72, 87, 102, 111, 122, 133], 51) := by decide +kernel
theorem d_m_timer_64 : decode b_m_timer 64 = .ok (.aload_n 0, 1) := by decide +kernel
theorem d_m_timer_65 : decode b_m_timer 65 = .ok (.getfield 13, 3) := by decide +kernel
theorem d_m_timer_68 : decode b_m_timer 68 = .ok (.iload_n 1, 1) := by decide +kernel
theorem d_m_timer_69 : decode b_m_timer 69 = .ok (.iaload, 1) := by decide +kernel
theorem d_m_timer_70 : decode b_m_timer 70 = .ok (.ireturn, 1) := by decide +kernel
theorem d_m_timer_71 : decode b_m_timer 71 = .ok (.aload_n 0, 1) := by decide +kernel
theorem d_m_timer_72 : decode b_m_timer 72 = .ok (.getfield 7, 3) := by decide +kernel
theorem d_m_timer_75 : decode b_m_timer 75 = .ok (.iload_n 1, 1) := by decide +kernel
theorem d_m_timer_76 : decode b_m_timer 76 = .ok (.iaload, 1) := by decide +kernel
theorem d_m_timer_77 : decode b_m_timer 77 = .ok (.ireturn, 1) := by decide +kernel
theorem d_m_timer_78 : decode b_m_timer 78 = .ok (.aload_n 0, 1) := by decide +kernel
theorem d_m_timer_79 : decode b_m_timer 79 = .ok (.getfield 16, 3) := by decide +kernel
theorem d_m_timer_82 : decode b_m_timer 82 = .ok (.iload_n 1, 1) := by decide +kernel
theorem d_m_timer_83 : decode b_m_timer 83 = .ok (.iaload, 1) := by decide +kernel
theorem d_m_timer_84 : decode b_m_timer 84 = .ok (.ireturn, 1) := by decide +kernel
theorem d_m_timer_85 : decode b_m_timer 85 = .ok (.aload_n 0, 1) := by decide +kernel
theorem d_m_timer_86 : decode b_m_timer 86 = .ok (.getfield 23, 3) := by decide +kernel
theorem d_m_timer_89 : decode b_m_timer 89 = .ok (.iload_n 1, 1) := by decide +kernel
theorem d_m_timer_90 : decode b_m_timer 90 = .ok (.baload, 1) := by decide +kernel
theorem d_m_timer_91 : decode b_m_timer 91 = .ok (.ifCond .eq 7, 3) := by decide +kernel
theorem d_m_timer_94 : decode b_m_timer 94 = .ok (.iconst 1, 1) := by decide +kernel
theorem d_m_timer_95 : decode b_m_timer 95 = .ok (.goto 4, 3) := by decide +kernel
theorem d_m_timer_98 : decode b_m_timer 98 = .ok (.iconst 0, 1) := by decide +kernel
theorem d_m_timer_99 : decode b_m_timer 99 = .ok (.ireturn, 1) := by decide +kernel
theorem d_m_timer_100 : decode b_m_timer 100 = .ok (.aload_n 0, 1) := by decide +kernel
theorem d_m_timer_101 : decode b_m_timer 101 = .ok (.getfield 19, 3) := by decide +kernel
theorem d_m_timer_104 : decode b_m_timer 104 = .ok (.iload_n 1, 1) := by decide +kernel
theorem d_m_timer_105 : decode b_m_timer 105 = .ok (.baload, 1) := by decide +kernel
theorem d_m_timer_106 : decode b_m_timer 106 = .ok (.ifCond .eq 7, 3) := by decide +kernel
theorem d_m_timer_109 : decode b_m_timer 109 = .ok (.iconst 1, 1) := by decide +kernel
theorem d_m_timer_110 : decode b_m_timer 110 = .ok (.goto 4, 3) := by decide +kernel
theorem d_m_timer_113 : decode b_m_timer 113 = .ok (.iconst 0, 1) := by decide +kernel
theorem d_m_timer_114 : decode b_m_timer 114 = .ok (.ireturn, 1) := by decide +kernel
theorem d_m_timer_115 : decode b_m_timer 115 = .ok (.aload_n 0, 1) := by decide +kernel
theorem d_m_timer_116 : decode b_m_timer 116 = .ok (.getfield 26, 3) := by decide +kernel
theorem d_m_timer_119 : decode b_m_timer 119 = .ok (.iconst 4, 1) := by decide +kernel
theorem d_m_timer_120 : decode b_m_timer 120 = .ok (.iload_n 1, 1) := by decide +kernel
theorem d_m_timer_121 : decode b_m_timer 121 = .ok (.imul, 1) := by decide +kernel
theorem d_m_timer_122 : decode b_m_timer 122 = .ok (.iaload, 1) := by decide +kernel
theorem d_m_timer_123 : decode b_m_timer 123 = .ok (.ireturn, 1) := by decide +kernel
theorem d_m_timer_124 : decode b_m_timer 124 = .ok (.aload_n 0, 1) := by decide +kernel
theorem d_m_timer_125 : decode b_m_timer 125 = .ok (.getfield 26, 3) := by decide +kernel
theorem d_m_timer_128 : decode b_m_timer 128 = .ok (.iconst 4, 1) := by decide +kernel
theorem d_m_timer_129 : decode b_m_timer 129 = .ok (.iload_n 1, 1) := by decide +kernel
theorem d_m_timer_130 : decode b_m_timer 130 = .ok (.imul, 1) := by decide +kernel
theorem d_m_timer_131 : decode b_m_timer 131 = .ok (.iconst 1, 1) := by decide +kernel
theorem d_m_timer_132 : decode b_m_timer 132 = .ok (.iadd, 1) := by decide +kernel
theorem d_m_timer_133 : decode b_m_timer 133 = .ok (.iaload, 1) := by decide +kernel
theorem d_m_timer_134 : decode b_m_timer 134 = .ok (.ireturn, 1) := by decide +kernel
theorem d_m_timer_135 : decode b_m_timer 135 = .ok (.aload_n 0, 1) := by decide +kernel
theorem d_m_timer_136 : decode b_m_timer 136 = .ok (.getfield 26, 3) := by decide +kernel
theorem d_m_timer_139 : decode b_m_timer 139 = .ok (.iconst 4, 1) := by decide +kernel
theorem d_m_timer_140 : decode b_m_timer 140 = .ok (.iload_n 1, 1) := by decide +kernel
theorem d_m_timer_141 : decode b_m_timer 141 = .ok (.imul, 1) := by decide +kernel
theorem d_m_timer_142 : decode b_m_timer 142 = .ok (.iconst 2, 1) := by decide +kernel
theorem d_m_timer_143 : decode b_m_timer 143 = .ok (.iadd, 1) := by decide +kernel
theorem d_m_timer_144 : decode b_m_timer 144 = .ok (.iaload, 1) := by decide +kernel
theorem d_m_timer_145 : decode b_m_timer 145 = .ok (.ireturn, 1) := by decide +kernel
theorem d_m_timer_146 : decode b_m_timer 146 = .ok (.aload_n 0, 1) := by decide +kernel
theorem d_m_timer_147 : decode b_m_timer 147 = .ok (.getfield 26, 3) := by decide +kernel
theorem d_m_timer_150 : decode b_m_timer 150 = .ok (.iconst 4, 1) := by decide +kernel
theorem d_m_timer_151 : decode b_m_timer 151 = .ok (.iload_n 1, 1) := by decide +kernel
theorem d_m_timer_152 : decode b_m_timer 152 = .ok (.imul, 1) := by decide +kernel
theorem d_m_timer_153 : decode b_m_timer 153 = .ok (.iconst 3, 1) := by decide +kernel
theorem d_m_timer_154 : decode b_m_timer 154 = .ok (.iadd, 1) := by decide +kernel
theorem d_m_timer_155 : decode b_m_timer 155 = .ok (.iaload, 1) := by decide +kernel
theorem d_m_timer_156 : decode b_m_timer 156 = .ok (.ireturn, 1) := by decide +kernel
theorem d_m_timer_157 : decode b_m_timer 157 = .ok (.iconst (-1), 1) := by decide +kernel
theorem d_m_timer_158 : decode b_m_timer 158 = .ok (.ireturn, 1) := by decide +kernel
theorem d_m_gateOf_0 : decode b_m_gateOf 0 = .ok (.iload_n 1, 1) := by decide +kernel
theorem d_m_gateOf_1 : decode b_m_gateOf 1 = .ok (.iconst 0, 1) := by decide +kernel
theorem d_m_gateOf_2 : decode b_m_gateOf 2 = .ok (.iconst 3, 1) := by decide +kernel
theorem d_m_gateOf_3 : decode b_m_gateOf 3 = .ok (.invokestatic 57, 3) := by decide +kernel
theorem d_m_gateOf_6 : decode b_m_gateOf 6 = .ok (.ifCond .ne 5, 3) := by decide +kernel
theorem d_m_gateOf_9 : decode b_m_gateOf 9 = .ok (.iconst (-1), 1) := by decide +kernel
theorem d_m_gateOf_10 : decode b_m_gateOf 10 = .ok (.ireturn, 1) := by decide +kernel
theorem d_m_gateOf_11 : decode b_m_gateOf 11 = .ok (.iload_n 2, 1) := by decide +kernel
theorem d_m_gateOf_12 : decode b_m_gateOf 12 = .ok (.tableswitch 100 0 6 #[44, 58, 65, 72, 79, 86, 93], 44) := by decide +kernel
theorem d_m_gateOf_56 : decode b_m_gateOf 56 = .ok (.aload_n 0, 1) := by decide +kernel
theorem d_m_gateOf_57 : decode b_m_gateOf 57 = .ok (.iload_n 1, 1) := by decide +kernel
theorem d_m_gateOf_58 : decode b_m_gateOf 58 = .ok (.invokevirtual 65, 3) := by decide +kernel
theorem d_m_gateOf_61 : decode b_m_gateOf 61 = .ok (.ifCond .eq 7, 3) := by decide +kernel
theorem d_m_gateOf_64 : decode b_m_gateOf 64 = .ok (.iconst 1, 1) := by decide +kernel
theorem d_m_gateOf_65 : decode b_m_gateOf 65 = .ok (.goto 4, 3) := by decide +kernel
theorem d_m_gateOf_68 : decode b_m_gateOf 68 = .ok (.iconst 0, 1) := by decide +kernel
theorem d_m_gateOf_69 : decode b_m_gateOf 69 = .ok (.ireturn, 1) := by decide +kernel
theorem d_m_gateOf_70 : decode b_m_gateOf 70 = .ok (.aload_n 0, 1) := by decide +kernel
theorem d_m_gateOf_71 : decode b_m_gateOf 71 = .ok (.getfield 35, 3) := by decide +kernel
theorem d_m_gateOf_74 : decode b_m_gateOf 74 = .ok (.iload_n 1, 1) := by decide +kernel
theorem d_m_gateOf_75 : decode b_m_gateOf 75 = .ok (.iaload, 1) := by decide +kernel
theorem d_m_gateOf_76 : decode b_m_gateOf 76 = .ok (.ireturn, 1) := by decide +kernel
theorem d_m_gateOf_77 : decode b_m_gateOf 77 = .ok (.aload_n 0, 1) := by decide +kernel
theorem d_m_gateOf_78 : decode b_m_gateOf 78 = .ok (.getfield 29, 3) := by decide +kernel
theorem d_m_gateOf_81 : decode b_m_gateOf 81 = .ok (.iload_n 1, 1) := by decide +kernel
theorem d_m_gateOf_82 : decode b_m_gateOf 82 = .ok (.iaload, 1) := by decide +kernel
theorem d_m_gateOf_83 : decode b_m_gateOf 83 = .ok (.ireturn, 1) := by decide +kernel
theorem d_m_gateOf_84 : decode b_m_gateOf 84 = .ok (.aload_n 0, 1) := by decide +kernel
theorem d_m_gateOf_85 : decode b_m_gateOf 85 = .ok (.getfield 32, 3) := by decide +kernel
theorem d_m_gateOf_88 : decode b_m_gateOf 88 = .ok (.iload_n 1, 1) := by decide +kernel
theorem d_m_gateOf_89 : decode b_m_gateOf 89 = .ok (.iaload, 1) := by decide +kernel
theorem d_m_gateOf_90 : decode b_m_gateOf 90 = .ok (.ireturn, 1) := by decide +kernel
theorem d_m_gateOf_91 : decode b_m_gateOf 91 = .ok (.aload_n 0, 1) := by decide +kernel
theorem d_m_gateOf_92 : decode b_m_gateOf 92 = .ok (.getfield 41, 3) := by decide +kernel
theorem d_m_gateOf_95 : decode b_m_gateOf 95 = .ok (.iload_n 1, 1) := by decide +kernel
theorem d_m_gateOf_96 : decode b_m_gateOf 96 = .ok (.iaload, 1) := by decide +kernel
theorem d_m_gateOf_97 : decode b_m_gateOf 97 = .ok (.ireturn, 1) := by decide +kernel
theorem d_m_gateOf_98 : decode b_m_gateOf 98 = .ok (.aload_n 0, 1) := by decide +kernel
theorem d_m_gateOf_99 : decode b_m_gateOf 99 = .ok (.getfield 44, 3) := by decide +kernel
theorem d_m_gateOf_102 : decode b_m_gateOf 102 = .ok (.iload_n 1, 1) := by decide +kernel
theorem d_m_gateOf_103 : decode b_m_gateOf 103 = .ok (.iaload, 1) := by decide +kernel
theorem d_m_gateOf_104 : decode b_m_gateOf 104 = .ok (.ireturn, 1) := by decide +kernel
theorem d_m_gateOf_105 : decode b_m_gateOf 105 = .ok (.aload_n 0, 1) := by decide +kernel
theorem d_m_gateOf_106 : decode b_m_gateOf 106 = .ok (.getfield 47, 3) := by decide +kernel
theorem d_m_gateOf_109 : decode b_m_gateOf 109 = .ok (.iload_n 1, 1) := by decide +kernel
theorem d_m_gateOf_110 : decode b_m_gateOf 110 = .ok (.iaload, 1) := by decide +kernel
theorem d_m_gateOf_111 : decode b_m_gateOf 111 = .ok (.ireturn, 1) := by decide +kernel
theorem d_m_gateOf_112 : decode b_m_gateOf 112 = .ok (.iconst (-1), 1) := by decide +kernel
theorem d_m_gateOf_113 : decode b_m_gateOf 113 = .ok (.ireturn, 1) := by decide +kernel
theorem d_m_look_0 : decode b_m_look 0 = .ok (.iload_n 1, 1) := by decide +kernel
theorem d_m_look_1 : decode b_m_look 1 = .ok (.ifCond .ne 8, 3) := by decide +kernel
theorem d_m_look_4 : decode b_m_look 4 = .ok (.aload_n 0, 1) := by decide +kernel
theorem d_m_look_5 : decode b_m_look 5 = .ok (.getfield 62, 3) := by decide +kernel
theorem d_m_look_8 : decode b_m_look 8 = .ok (.ireturn, 1) := by decide +kernel
theorem d_m_look_9 : decode b_m_look 9 = .ok (.iload_n 1, 1) := by decide +kernel
theorem d_m_look_10 : decode b_m_look 10 = .ok (.iconst 1, 1) := by decide +kernel
theorem d_m_look_11 : decode b_m_look 11 = .ok (.if_icmp .ne 8, 3) := by decide +kernel
theorem d_m_look_14 : decode b_m_look 14 = .ok (.aload_n 0, 1) := by decide +kernel
theorem d_m_look_15 : decode b_m_look 15 = .ok (.getfield 69, 3) := by decide +kernel
theorem d_m_look_18 : decode b_m_look 18 = .ok (.ireturn, 1) := by decide +kernel
theorem d_m_look_19 : decode b_m_look 19 = .ok (.iload_n 1, 1) := by decide +kernel
theorem d_m_look_20 : decode b_m_look 20 = .ok (.iconst 2, 1) := by decide +kernel
theorem d_m_look_21 : decode b_m_look 21 = .ok (.if_icmp .ne 8, 3) := by decide +kernel
theorem d_m_look_24 : decode b_m_look 24 = .ok (.aload_n 0, 1) := by decide +kernel
theorem d_m_look_25 : decode b_m_look 25 = .ok (.getfield 72, 3) := by decide +kernel
theorem d_m_look_28 : decode b_m_look 28 = .ok (.ireturn, 1) := by decide +kernel
theorem d_m_look_29 : decode b_m_look 29 = .ok (.iload_n 1, 1) := by decide +kernel
theorem d_m_look_30 : decode b_m_look 30 = .ok (.iconst 3, 1) := by decide +kernel
theorem d_m_look_31 : decode b_m_look 31 = .ok (.if_icmp .eq 5, 3) := by decide +kernel
theorem d_m_look_34 : decode b_m_look 34 = .ok (.iconst (-1), 1) := by decide +kernel
theorem d_m_look_35 : decode b_m_look 35 = .ok (.ireturn, 1) := by decide +kernel
theorem d_m_look_36 : decode b_m_look 36 = .ok (.iconst 0, 1) := by decide +kernel
theorem d_m_look_37 : decode b_m_look 37 = .ok (.istore_n 2, 1) := by decide +kernel
theorem d_m_look_38 : decode b_m_look 38 = .ok (.iconst 0, 1) := by decide +kernel
theorem d_m_look_39 : decode b_m_look 39 = .ok (.istore_n 3, 1) := by decide +kernel
theorem d_m_look_40 : decode b_m_look 40 = .ok (.iload_n 3, 1) := by decide +kernel
theorem d_m_look_41 : decode b_m_look 41 = .ok (.bipush 8, 2) := by decide +kernel
theorem d_m_look_43 : decode b_m_look 43 = .ok (.if_icmp .ge 48, 3) := by decide +kernel
theorem d_m_look_46 : decode b_m_look 46 = .ok (.aload_n 0, 1) := by decide +kernel
theorem d_m_look_47 : decode b_m_look 47 = .ok (.getfield 23, 3) := by decide +kernel
theorem d_m_look_50 : decode b_m_look 50 = .ok (.iload_n 3, 1) := by decide +kernel
theorem d_m_look_51 : decode b_m_look 51 = .ok (.baload, 1) := by decide +kernel
theorem d_m_look_52 : decode b_m_look 52 = .ok (.ifCond .eq 33, 3) := by decide +kernel
theorem d_m_look_55 : decode b_m_look 55 = .ok (.aload_n 0, 1) := by decide +kernel
theorem d_m_look_56 : decode b_m_look 56 = .ok (.getfield 16, 3) := by decide +kernel
theorem d_m_look_59 : decode b_m_look 59 = .ok (.iload_n 3, 1) := by decide +kernel
theorem d_m_look_60 : decode b_m_look 60 = .ok (.iaload, 1) := by decide +kernel
theorem d_m_look_61 : decode b_m_look 61 = .ok (.ifCond .ne 24, 3) := by decide +kernel
theorem d_m_look_64 : decode b_m_look 64 = .ok (.iload_n 2, 1) := by decide +kernel
theorem d_m_look_65 : decode b_m_look 65 = .ok (.ifCond .eq 13, 3) := by decide +kernel
theorem d_m_look_68 : decode b_m_look 68 = .ok (.aload_n 0, 1) := by decide +kernel
theorem d_m_look_69 : decode b_m_look 69 = .ok (.getfield 13, 3) := by decide +kernel
theorem d_m_look_72 : decode b_m_look 72 = .ok (.iload_n 3, 1) := by decide +kernel
theorem d_m_look_73 : decode b_m_look 73 = .ok (.iaload, 1) := by decide +kernel
theorem d_m_look_74 : decode b_m_look 74 = .ok (.iload_n 2, 1) := by decide +kernel
theorem d_m_look_75 : decode b_m_look 75 = .ok (.if_icmp .ge 10, 3) := by decide +kernel
theorem d_m_look_78 : decode b_m_look 78 = .ok (.aload_n 0, 1) := by decide +kernel
theorem d_m_look_79 : decode b_m_look 79 = .ok (.getfield 13, 3) := by decide +kernel
theorem d_m_look_82 : decode b_m_look 82 = .ok (.iload_n 3, 1) := by decide +kernel
theorem d_m_look_83 : decode b_m_look 83 = .ok (.iaload, 1) := by decide +kernel
theorem d_m_look_84 : decode b_m_look 84 = .ok (.istore_n 2, 1) := by decide +kernel
theorem d_m_look_85 : decode b_m_look 85 = .ok (.iinc 3 1, 3) := by decide +kernel
theorem d_m_look_88 : decode b_m_look 88 = .ok (.goto (-48), 3) := by decide +kernel
theorem d_m_look_91 : decode b_m_look 91 = .ok (.iload_n 2, 1) := by decide +kernel
theorem d_m_look_92 : decode b_m_look 92 = .ok (.ireturn, 1) := by decide +kernel
theorem d_m_served_0 : decode b_m_served 0 = .ok (.iload_n 1, 1) := by decide +kernel
theorem d_m_served_1 : decode b_m_served 1 = .ok (.iconst 0, 1) := by decide +kernel
theorem d_m_served_2 : decode b_m_served 2 = .ok (.bipush 15, 2) := by decide +kernel
theorem d_m_served_4 : decode b_m_served 4 = .ok (.invokestatic 57, 3) := by decide +kernel
theorem d_m_served_7 : decode b_m_served 7 = .ok (.ifCond .eq 20, 3) := by decide +kernel
theorem d_m_served_10 : decode b_m_served 10 = .ok (.iload_n 1, 1) := by decide +kernel
theorem d_m_served_11 : decode b_m_served 11 = .ok (.aload_n 0, 1) := by decide +kernel
theorem d_m_served_12 : decode b_m_served 12 = .ok (.getfield 72, 3) := by decide +kernel
theorem d_m_served_15 : decode b_m_served 15 = .ok (.if_icmp .ge 12, 3) := by decide +kernel
theorem d_m_served_18 : decode b_m_served 18 = .ok (.iload_n 2, 1) := by decide +kernel
theorem d_m_served_19 : decode b_m_served 19 = .ok (.iconst 0, 1) := by decide +kernel
theorem d_m_served_20 : decode b_m_served 20 = .ok (.iconst 2, 1) := by decide +kernel
theorem d_m_served_21 : decode b_m_served 21 = .ok (.invokestatic 57, 3) := by decide +kernel
theorem d_m_served_24 : decode b_m_served 24 = .ok (.ifCond .ne 5, 3) := by decide +kernel
theorem d_m_served_27 : decode b_m_served 27 = .ok (.iconst (-1), 1) := by decide +kernel
theorem d_m_served_28 : decode b_m_served 28 = .ok (.ireturn, 1) := by decide +kernel
theorem d_m_served_29 : decode b_m_served 29 = .ok (.aload_n 0, 1) := by decide +kernel
theorem d_m_served_30 : decode b_m_served 30 = .ok (.getfield 50, 3) := by decide +kernel
theorem d_m_served_33 : decode b_m_served 33 = .ok (.iconst 3, 1) := by decide +kernel
theorem d_m_served_34 : decode b_m_served 34 = .ok (.aload_n 0, 1) := by decide +kernel
theorem d_m_served_35 : decode b_m_served 35 = .ok (.getfield 72, 3) := by decide +kernel
theorem d_m_served_38 : decode b_m_served 38 = .ok (.iconst 1, 1) := by decide +kernel
theorem d_m_served_39 : decode b_m_served 39 = .ok (.isub, 1) := by decide +kernel
theorem d_m_served_40 : decode b_m_served 40 = .ok (.iload_n 1, 1) := by decide +kernel
theorem d_m_served_41 : decode b_m_served 41 = .ok (.isub, 1) := by decide +kernel
theorem d_m_served_42 : decode b_m_served 42 = .ok (.bipush 16, 2) := by decide +kernel
theorem d_m_served_44 : decode b_m_served 44 = .ok (.irem, 1) := by decide +kernel
theorem d_m_served_45 : decode b_m_served 45 = .ok (.imul, 1) := by decide +kernel
theorem d_m_served_46 : decode b_m_served 46 = .ok (.iload_n 2, 1) := by decide +kernel
theorem d_m_served_47 : decode b_m_served 47 = .ok (.iadd, 1) := by decide +kernel
theorem d_m_served_48 : decode b_m_served 48 = .ok (.iaload, 1) := by decide +kernel
theorem d_m_served_49 : decode b_m_served 49 = .ok (.ireturn, 1) := by decide +kernel
