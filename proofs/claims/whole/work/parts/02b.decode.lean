theorem dX8_within_1 : decode cX8_within 1 = .ok (.iload_n 1, 1) := by decide +kernel
theorem dX8_within_2 : decode cX8_within 2 = .ok (.if_icmp .lt 12, 3) := by decide +kernel
theorem dX8_within_5 : decode cX8_within 5 = .ok (.iload_n 0, 1) := by decide +kernel
theorem dX8_within_6 : decode cX8_within 6 = .ok (.iload_n 2, 1) := by decide +kernel
theorem dX8_within_7 : decode cX8_within 7 = .ok (.if_icmp .gt 7, 3) := by decide +kernel
theorem dX8_within_10 : decode cX8_within 10 = .ok (.iconst 1, 1) := by decide +kernel
theorem dX8_within_11 : decode cX8_within 11 = .ok (.goto 4, 3) := by decide +kernel
theorem dX8_within_14 : decode cX8_within 14 = .ok (.iconst 0, 1) := by decide +kernel
theorem dX8_within_15 : decode cX8_within 15 = .ok (.ireturn, 1) := by decide +kernel
theorem dX8_isEdition_0 : decode cX8_isEdition 0 = .ok (.iload_n 1, 1) := by decide +kernel
theorem dX8_isEdition_1 : decode cX8_isEdition 1 = .ok (.iconst 0, 1) := by decide +kernel
theorem dX8_isEdition_2 : decode cX8_isEdition 2 = .ok (.aload_n 0, 1) := by decide +kernel
theorem dX8_isEdition_3 : decode cX8_isEdition 3 = .ok (.getfield 10, 3) := by decide +kernel
theorem dX8_isEdition_6 : decode cX8_isEdition 6 = .ok (.getfield 76, 3) := by decide +kernel
theorem dX8_isEdition_9 : decode cX8_isEdition 9 = .ok (.iconst 1, 1) := by decide +kernel
theorem dX8_isEdition_10 : decode cX8_isEdition 10 = .ok (.isub, 1) := by decide +kernel
theorem dX8_isEdition_11 : decode cX8_isEdition 11 = .ok (.invokestatic 68, 3) := by decide +kernel
theorem dX8_isEdition_14 : decode cX8_isEdition 14 = .ok (.ireturn, 1) := by decide +kernel
theorem dX8_isBar_0 : decode cX8_isBar 0 = .ok (.aload_n 0, 1) := by decide +kernel
theorem dX8_isBar_1 : decode cX8_isBar 1 = .ok (.iload_n 1, 1) := by decide +kernel
theorem dX8_isBar_2 : decode cX8_isBar 2 = .ok (.invokevirtual 87, 3) := by decide +kernel
theorem dX8_isBar_5 : decode cX8_isBar 5 = .ok (.ifCond .eq 27, 3) := by decide +kernel
theorem dX8_isBar_8 : decode cX8_isBar 8 = .ok (.iload_n 2, 1) := by decide +kernel
theorem dX8_isBar_9 : decode cX8_isBar 9 = .ok (.iconst 1, 1) := by decide +kernel
theorem dX8_isBar_10 : decode cX8_isBar 10 = .ok (.aload_n 0, 1) := by decide +kernel
theorem dX8_isBar_11 : decode cX8_isBar 11 = .ok (.getfield 10, 3) := by decide +kernel
theorem dX8_isBar_14 : decode cX8_isBar 14 = .ok (.getfield 107, 3) := by decide +kernel
theorem dX8_isBar_17 : decode cX8_isBar 17 = .ok (.iload_n 1, 1) := by decide +kernel
theorem dX8_isBar_18 : decode cX8_isBar 18 = .ok (.aaload, 1) := by decide +kernel
theorem dX8_isBar_19 : decode cX8_isBar 19 = .ok (.getfield 111, 3) := by decide +kernel
theorem dX8_isBar_22 : decode cX8_isBar 22 = .ok (.invokestatic 68, 3) := by decide +kernel
theorem dX8_isBar_25 : decode cX8_isBar 25 = .ok (.ifCond .eq 7, 3) := by decide +kernel
theorem dX8_isBar_28 : decode cX8_isBar 28 = .ok (.iconst 1, 1) := by decide +kernel
theorem dX8_isBar_29 : decode cX8_isBar 29 = .ok (.goto 4, 3) := by decide +kernel
theorem dX8_isBar_32 : decode cX8_isBar 32 = .ok (.iconst 0, 1) := by decide +kernel
theorem dX8_isBar_33 : decode cX8_isBar 33 = .ok (.ireturn, 1) := by decide +kernel
theorem dX8_areOfOneWork_0 : decode cX8_areOfOneWork 0 = .ok (.aload_n 0, 1) := by decide +kernel
theorem dX8_areOfOneWork_1 : decode cX8_areOfOneWork 1 = .ok (.getfield 10, 3) := by decide +kernel
theorem dX8_areOfOneWork_4 : decode cX8_areOfOneWork 4 = .ok (.getfield 107, 3) := by decide +kernel
theorem dX8_areOfOneWork_7 : decode cX8_areOfOneWork 7 = .ok (.iload_n 1, 1) := by decide +kernel
theorem dX8_areOfOneWork_8 : decode cX8_areOfOneWork 8 = .ok (.aaload, 1) := by decide +kernel
theorem dX8_areOfOneWork_9 : decode cX8_areOfOneWork 9 = .ok (.getfield 135, 3) := by decide +kernel
theorem dX8_areOfOneWork_12 : decode cX8_areOfOneWork 12 = .ok (.aload_n 0, 1) := by decide +kernel
theorem dX8_areOfOneWork_13 : decode cX8_areOfOneWork 13 = .ok (.getfield 10, 3) := by decide +kernel
theorem dX8_areOfOneWork_16 : decode cX8_areOfOneWork 16 = .ok (.getfield 107, 3) := by decide +kernel
theorem dX8_areOfOneWork_19 : decode cX8_areOfOneWork 19 = .ok (.iload_n 2, 1) := by decide +kernel
theorem dX8_areOfOneWork_20 : decode cX8_areOfOneWork 20 = .ok (.aaload, 1) := by decide +kernel
theorem dX8_areOfOneWork_21 : decode cX8_areOfOneWork 21 = .ok (.getfield 135, 3) := by decide +kernel
theorem dX8_areOfOneWork_24 : decode cX8_areOfOneWork 24 = .ok (.if_icmp .ne 7, 3) := by decide +kernel
theorem dX8_areOfOneWork_27 : decode cX8_areOfOneWork 27 = .ok (.iconst 1, 1) := by decide +kernel
theorem dX8_areOfOneWork_28 : decode cX8_areOfOneWork 28 = .ok (.goto 4, 3) := by decide +kernel
theorem dX8_areOfOneWork_31 : decode cX8_areOfOneWork 31 = .ok (.iconst 0, 1) := by decide +kernel
theorem dX8_areOfOneWork_32 : decode cX8_areOfOneWork 32 = .ok (.ireturn, 1) := by decide +kernel
theorem dX8_isLoan_0 : decode cX8_isLoan 0 = .ok (.iload_n 1, 1) := by decide +kernel
theorem dX8_isLoan_1 : decode cX8_isLoan 1 = .ok (.iconst 0, 1) := by decide +kernel
theorem dX8_isLoan_2 : decode cX8_isLoan 2 = .ok (.aload_n 0, 1) := by decide +kernel
theorem dX8_isLoan_3 : decode cX8_isLoan 3 = .ok (.getfield 10, 3) := by decide +kernel
theorem dX8_isLoan_6 : decode cX8_isLoan 6 = .ok (.getfield 292, 3) := by decide +kernel
theorem dX8_isLoan_9 : decode cX8_isLoan 9 = .ok (.iconst 1, 1) := by decide +kernel
theorem dX8_isLoan_10 : decode cX8_isLoan 10 = .ok (.isub, 1) := by decide +kernel
theorem dX8_isLoan_11 : decode cX8_isLoan 11 = .ok (.invokestatic 68, 3) := by decide +kernel
theorem dX8_isLoan_14 : decode cX8_isLoan 14 = .ok (.ireturn, 1) := by decide +kernel
theorem dX8_isPlace_0 : decode cX8_isPlace 0 = .ok (.iload_n 1, 1) := by decide +kernel
theorem dX8_isPlace_1 : decode cX8_isPlace 1 = .ok (.invokestatic 353, 3) := by decide +kernel
theorem dX8_isPlace_4 : decode cX8_isPlace 4 = .ok (.ifCond .eq 26, 3) := by decide +kernel
theorem dX8_isPlace_7 : decode cX8_isPlace 7 = .ok (.iload_n 2, 1) := by decide +kernel
theorem dX8_isPlace_8 : decode cX8_isPlace 8 = .ok (.iconst 0, 1) := by decide +kernel
theorem dX8_isPlace_9 : decode cX8_isPlace 9 = .ok (.aload_n 0, 1) := by decide +kernel
theorem dX8_isPlace_10 : decode cX8_isPlace 10 = .ok (.getfield 42, 3) := by decide +kernel
theorem dX8_isPlace_13 : decode cX8_isPlace 13 = .ok (.iload_n 1, 1) := by decide +kernel
theorem dX8_isPlace_14 : decode cX8_isPlace 14 = .ok (.aaload, 1) := by decide +kernel
theorem dX8_isPlace_15 : decode cX8_isPlace 15 = .ok (.getfield 426, 3) := by decide +kernel
theorem dX8_isPlace_18 : decode cX8_isPlace 18 = .ok (.iconst 1, 1) := by decide +kernel
theorem dX8_isPlace_19 : decode cX8_isPlace 19 = .ok (.isub, 1) := by decide +kernel
theorem dX8_isPlace_20 : decode cX8_isPlace 20 = .ok (.invokestatic 68, 3) := by decide +kernel
theorem dX8_isPlace_23 : decode cX8_isPlace 23 = .ok (.ifCond .eq 7, 3) := by decide +kernel
theorem dX8_isPlace_26 : decode cX8_isPlace 26 = .ok (.iconst 1, 1) := by decide +kernel
theorem dX8_isPlace_27 : decode cX8_isPlace 27 = .ok (.goto 4, 3) := by decide +kernel
theorem dX8_isPlace_30 : decode cX8_isPlace 30 = .ok (.iconst 0, 1) := by decide +kernel
theorem dX8_isPlace_31 : decode cX8_isPlace 31 = .ok (.ireturn, 1) := by decide +kernel
theorem dX8_isInstrument_0 : decode cX8_isInstrument 0 = .ok (.iload_n 0, 1) := by decide +kernel
theorem dX8_isInstrument_1 : decode cX8_isInstrument 1 = .ok (.iconst 0, 1) := by decide +kernel
theorem dX8_isInstrument_2 : decode cX8_isInstrument 2 = .ok (.iconst 5, 1) := by decide +kernel
theorem dX8_isInstrument_3 : decode cX8_isInstrument 3 = .ok (.invokestatic 68, 3) := by decide +kernel
theorem dX8_isInstrument_6 : decode cX8_isInstrument 6 = .ok (.ireturn, 1) := by decide +kernel
theorem dX8_isString_0 : decode cX8_isString 0 = .ok (.iload_n 0, 1) := by decide +kernel
theorem dX8_isString_1 : decode cX8_isString 1 = .ok (.iconst 0, 1) := by decide +kernel
theorem dX8_isString_2 : decode cX8_isString 2 = .ok (.iconst 3, 1) := by decide +kernel
theorem dX8_isString_3 : decode cX8_isString 3 = .ok (.invokestatic 68, 3) := by decide +kernel
theorem dX8_isString_6 : decode cX8_isString 6 = .ok (.ireturn, 1) := by decide +kernel
theorem dX8_isBorrower_0 : decode cX8_isBorrower 0 = .ok (.iload_n 0, 1) := by decide +kernel
theorem dX8_isBorrower_1 : decode cX8_isBorrower 1 = .ok (.iconst 0, 1) := by decide +kernel
theorem dX8_isBorrower_2 : decode cX8_isBorrower 2 = .ok (.iconst 5, 1) := by decide +kernel
theorem dX8_isBorrower_3 : decode cX8_isBorrower 3 = .ok (.invokestatic 68, 3) := by decide +kernel
theorem dX8_isBorrower_6 : decode cX8_isBorrower 6 = .ok (.ireturn, 1) := by decide +kernel
theorem dX8_isBox_0 : decode cX8_isBox 0 = .ok (.iload_n 0, 1) := by decide +kernel
theorem dX8_isBox_1 : decode cX8_isBox 1 = .ok (.iconst 0, 1) := by decide +kernel
theorem dX8_isBox_2 : decode cX8_isBox 2 = .ok (.iconst 2, 1) := by decide +kernel
theorem dX8_isBox_3 : decode cX8_isBox 3 = .ok (.invokestatic 68, 3) := by decide +kernel
theorem dX8_isBox_6 : decode cX8_isBox 6 = .ok (.ireturn, 1) := by decide +kernel
theorem dX9_init_0 : decode cX9_init 0 = .ok (.aload_n 0, 1) := by decide +kernel
theorem dX9_init_1 : decode cX9_init 1 = .ok (.invokespecial 3, 3) := by decide +kernel
theorem dX9_init_4 : decode cX9_init 4 = .ok (.aload_n 0, 1) := by decide +kernel
theorem dX9_init_5 : decode cX9_init 5 = .ok (.sipush 5055, 3) := by decide +kernel
theorem dX9_init_8 : decode cX9_init 8 = .ok (.newarray .int, 2) := by decide +kernel
theorem dX9_init_10 : decode cX9_init 10 = .ok (.putfield 9, 3) := by decide +kernel
theorem dX9_init_13 : decode cX9_init 13 = .ok (.aload_n 0, 1) := by decide +kernel
theorem dX9_init_14 : decode cX9_init 14 = .ok (.sipush 5055, 3) := by decide +kernel
theorem dX9_init_17 : decode cX9_init 17 = .ok (.newarray .int, 2) := by decide +kernel
theorem dX9_init_19 : decode cX9_init 19 = .ok (.putfield 13, 3) := by decide +kernel
theorem dX9_init_22 : decode cX9_init 22 = .ok (.aload_n 0, 1) := by decide +kernel
theorem dX9_init_23 : decode cX9_init 23 = .ok (.sipush 5055, 3) := by decide +kernel
theorem dX9_init_26 : decode cX9_init 26 = .ok (.newarray .int, 2) := by decide +kernel
theorem dX9_init_28 : decode cX9_init 28 = .ok (.putfield 16, 3) := by decide +kernel
theorem dX9_init_31 : decode cX9_init 31 = .ok (.aload_n 0, 1) := by decide +kernel
theorem dX9_init_32 : decode cX9_init 32 = .ok (.ldc 19, 2) := by decide +kernel
theorem dX9_init_34 : decode cX9_init 34 = .ok (.newarray .int, 2) := by decide +kernel
theorem dX9_init_36 : decode cX9_init 36 = .ok (.putfield 20, 3) := by decide +kernel
theorem dX9_init_39 : decode cX9_init 39 = .ok (.aload_n 0, 1) := by decide +kernel
theorem dX9_init_40 : decode cX9_init 40 = .ok (.iconst 0, 1) := by decide +kernel
theorem dX9_init_41 : decode cX9_init 41 = .ok (.putfield 23, 3) := by decide +kernel
theorem dX9_init_44 : decode cX9_init 44 = .ok (.aload_n 0, 1) := by decide +kernel
theorem dX9_init_45 : decode cX9_init 45 = .ok (.bipush (-7), 2) := by decide +kernel
theorem dX9_init_47 : decode cX9_init 47 = .ok (.putfield 27, 3) := by decide +kernel
theorem dX9_init_50 : decode cX9_init 50 = .ok (.aload_n 0, 1) := by decide +kernel
theorem dX9_init_51 : decode cX9_init 51 = .ok (.iconst 0, 1) := by decide +kernel
theorem dX9_init_52 : decode cX9_init 52 = .ok (.putfield 30, 3) := by decide +kernel
theorem dX9_init_55 : decode cX9_init 55 = .ok (.aload_n 0, 1) := by decide +kernel
theorem dX9_init_56 : decode cX9_init 56 = .ok (.iconst 0, 1) := by decide +kernel
theorem dX9_init_57 : decode cX9_init 57 = .ok (.putfield 34, 3) := by decide +kernel
theorem dX9_init_60 : decode cX9_init 60 = .ok (.aload_n 0, 1) := by decide +kernel
theorem dX9_init_61 : decode cX9_init 61 = .ok (.sipush 198, 3) := by decide +kernel
theorem dX9_init_64 : decode cX9_init 64 = .ok (.newarray .int, 2) := by decide +kernel
theorem dX9_init_66 : decode cX9_init 66 = .ok (.putfield 37, 3) := by decide +kernel
theorem dX9_init_69 : decode cX9_init 69 = .ok (.aload_n 0, 1) := by decide +kernel
theorem dX9_init_70 : decode cX9_init 70 = .ok (.sipush 198, 3) := by decide +kernel
theorem dX9_init_73 : decode cX9_init 73 = .ok (.newarray .int, 2) := by decide +kernel
theorem dX9_init_75 : decode cX9_init 75 = .ok (.putfield 40, 3) := by decide +kernel
theorem dX9_init_78 : decode cX9_init 78 = .ok (.aload_n 0, 1) := by decide +kernel
theorem dX9_init_79 : decode cX9_init 79 = .ok (.sipush 198, 3) := by decide +kernel
theorem dX9_init_82 : decode cX9_init 82 = .ok (.newarray .int, 2) := by decide +kernel
theorem dX9_init_84 : decode cX9_init 84 = .ok (.putfield 43, 3) := by decide +kernel
theorem dX9_init_87 : decode cX9_init 87 = .ok (.aload_n 0, 1) := by decide +kernel
theorem dX9_init_88 : decode cX9_init 88 = .ok (.sipush 198, 3) := by decide +kernel
theorem dX9_init_91 : decode cX9_init 91 = .ok (.newarray .int, 2) := by decide +kernel
theorem dX9_init_93 : decode cX9_init 93 = .ok (.putfield 46, 3) := by decide +kernel
theorem dX9_init_96 : decode cX9_init 96 = .ok (.aload_n 0, 1) := by decide +kernel
theorem dX9_init_97 : decode cX9_init 97 = .ok (.iconst 0, 1) := by decide +kernel
theorem dX9_init_98 : decode cX9_init 98 = .ok (.putfield 49, 3) := by decide +kernel
theorem dX9_init_101 : decode cX9_init 101 = .ok (.aload_n 0, 1) := by decide +kernel
theorem dX9_init_102 : decode cX9_init 102 = .ok (.iconst 4, 1) := by decide +kernel
theorem dX9_init_103 : decode cX9_init 103 = .ok (.newarray .int, 2) := by decide +kernel
theorem dX9_init_105 : decode cX9_init 105 = .ok (.putfield 52, 3) := by decide +kernel
theorem dX9_init_108 : decode cX9_init 108 = .ok (.aload_n 0, 1) := by decide +kernel
theorem dX9_init_109 : decode cX9_init 109 = .ok (.iconst 3, 1) := by decide +kernel
theorem dX9_init_110 : decode cX9_init 110 = .ok (.newarray .int, 2) := by decide +kernel
theorem dX9_init_112 : decode cX9_init 112 = .ok (.putfield 55, 3) := by decide +kernel
theorem dX9_init_115 : decode cX9_init 115 = .ok (.aload_n 0, 1) := by decide +kernel
theorem dX9_init_116 : decode cX9_init 116 = .ok (.iconst 3, 1) := by decide +kernel
theorem dX9_init_117 : decode cX9_init 117 = .ok (.newarray .int, 2) := by decide +kernel
theorem dX9_init_119 : decode cX9_init 119 = .ok (.putfield 58, 3) := by decide +kernel
theorem dX9_init_122 : decode cX9_init 122 = .ok (.aload_n 0, 1) := by decide +kernel
theorem dX9_init_123 : decode cX9_init 123 = .ok (.bipush 24, 2) := by decide +kernel
theorem dX9_init_125 : decode cX9_init 125 = .ok (.newarray .int, 2) := by decide +kernel
theorem dX9_init_127 : decode cX9_init 127 = .ok (.putfield 61, 3) := by decide +kernel
theorem dX9_init_130 : decode cX9_init 130 = .ok (.aload_n 0, 1) := by decide +kernel
theorem dX9_init_131 : decode cX9_init 131 = .ok (.bipush 24, 2) := by decide +kernel
theorem dX9_init_133 : decode cX9_init 133 = .ok (.newarray .int, 2) := by decide +kernel
theorem dX9_init_135 : decode cX9_init 135 = .ok (.putfield 64, 3) := by decide +kernel
theorem dX9_init_138 : decode cX9_init 138 = .ok (.aload_n 0, 1) := by decide +kernel
theorem dX9_init_139 : decode cX9_init 139 = .ok (.bipush 60, 2) := by decide +kernel
theorem dX9_init_141 : decode cX9_init 141 = .ok (.newarray .int, 2) := by decide +kernel
theorem dX9_init_143 : decode cX9_init 143 = .ok (.putfield 67, 3) := by decide +kernel
theorem dX9_init_146 : decode cX9_init 146 = .ok (.aload_n 0, 1) := by decide +kernel
theorem dX9_init_147 : decode cX9_init 147 = .ok (.bipush 60, 2) := by decide +kernel
theorem dX9_init_149 : decode cX9_init 149 = .ok (.newarray .int, 2) := by decide +kernel
theorem dX9_init_151 : decode cX9_init 151 = .ok (.putfield 70, 3) := by decide +kernel
theorem dX9_init_154 : decode cX9_init 154 = .ok (.aload_n 0, 1) := by decide +kernel
theorem dX9_init_155 : decode cX9_init 155 = .ok (.sipush 300, 3) := by decide +kernel
theorem dX9_init_158 : decode cX9_init 158 = .ok (.newarray .int, 2) := by decide +kernel
theorem dX9_init_160 : decode cX9_init 160 = .ok (.putfield 73, 3) := by decide +kernel
theorem dX9_init_163 : decode cX9_init 163 = .ok (.aload_n 0, 1) := by decide +kernel
theorem dX9_init_164 : decode cX9_init 164 = .ok (.iconst 0, 1) := by decide +kernel
theorem dX9_init_165 : decode cX9_init 165 = .ok (.putfield 76, 3) := by decide +kernel
theorem dX9_init_168 : decode cX9_init 168 = .ok (.aload_n 0, 1) := by decide +kernel
theorem dX9_init_169 : decode cX9_init 169 = .ok (.iconst 0, 1) := by decide +kernel
theorem dX9_init_170 : decode cX9_init 170 = .ok (.putfield 79, 3) := by decide +kernel
theorem dX9_init_173 : decode cX9_init 173 = .ok (.aload_n 0, 1) := by decide +kernel
theorem dX9_init_174 : decode cX9_init 174 = .ok (.iconst 0, 1) := by decide +kernel
theorem dX9_init_175 : decode cX9_init 175 = .ok (.putfield 82, 3) := by decide +kernel
theorem dX9_init_178 : decode cX9_init 178 = .ok (.aload_n 0, 1) := by decide +kernel
theorem dX9_init_179 : decode cX9_init 179 = .ok (.iconst 0, 1) := by decide +kernel
theorem dX9_init_180 : decode cX9_init 180 = .ok (.putfield 85, 3) := by decide +kernel
theorem dX9_init_183 : decode cX9_init 183 = .ok (.aload_n 0, 1) := by decide +kernel
theorem dX9_init_184 : decode cX9_init 184 = .ok (.bipush (-7), 2) := by decide +kernel
theorem dX9_init_186 : decode cX9_init 186 = .ok (.putfield 88, 3) := by decide +kernel
theorem dX9_init_189 : decode cX9_init 189 = .ok (.aload_n 0, 1) := by decide +kernel
theorem dX9_init_190 : decode cX9_init 190 = .ok (.bipush (-7), 2) := by decide +kernel
theorem dX9_init_192 : decode cX9_init 192 = .ok (.putfield 91, 3) := by decide +kernel
theorem dX9_init_195 : decode cX9_init 195 = .ok (.aload_n 0, 1) := by decide +kernel
theorem dX9_init_196 : decode cX9_init 196 = .ok (.iconst 0, 1) := by decide +kernel
theorem dX9_init_197 : decode cX9_init 197 = .ok (.putfield 94, 3) := by decide +kernel
theorem dX9_init_200 : decode cX9_init 200 = .ok (.iconst 0, 1) := by decide +kernel
theorem dX9_init_201 : decode cX9_init 201 = .ok (.istore_n 1, 1) := by decide +kernel
theorem dX9_init_202 : decode cX9_init 202 = .ok (.iload_n 1, 1) := by decide +kernel
theorem dX9_init_203 : decode cX9_init 203 = .ok (.iconst 4, 1) := by decide +kernel
theorem dX9_init_204 : decode cX9_init 204 = .ok (.if_icmp .ge 17, 3) := by decide +kernel
theorem dX9_init_207 : decode cX9_init 207 = .ok (.aload_n 0, 1) := by decide +kernel
theorem dX9_init_208 : decode cX9_init 208 = .ok (.getfield 52, 3) := by decide +kernel
theorem dX9_init_211 : decode cX9_init 211 = .ok (.iload_n 1, 1) := by decide +kernel
theorem dX9_init_212 : decode cX9_init 212 = .ok (.bipush (-7), 2) := by decide +kernel
theorem dX9_init_214 : decode cX9_init 214 = .ok (.iastore, 1) := by decide +kernel
theorem dX9_init_215 : decode cX9_init 215 = .ok (.iinc 1 1, 3) := by decide +kernel
theorem dX9_init_218 : decode cX9_init 218 = .ok (.goto (-16), 3) := by decide +kernel
theorem dX9_init_221 : decode cX9_init 221 = .ok (.return_, 1) := by decide +kernel
theorem dX9_in_0 : decode cX9_in 0 = .ok (.iload_n 0, 1) := by decide +kernel
theorem dX9_in_1 : decode cX9_in 1 = .ok (.iload_n 1, 1) := by decide +kernel
theorem dX9_in_2 : decode cX9_in 2 = .ok (.if_icmp .lt 12, 3) := by decide +kernel
theorem dX9_in_5 : decode cX9_in 5 = .ok (.iload_n 0, 1) := by decide +kernel
theorem dX9_in_6 : decode cX9_in 6 = .ok (.iload_n 2, 1) := by decide +kernel
theorem dX9_in_7 : decode cX9_in 7 = .ok (.if_icmp .gt 7, 3) := by decide +kernel
theorem dX9_in_10 : decode cX9_in 10 = .ok (.iconst 1, 1) := by decide +kernel
theorem dX9_in_11 : decode cX9_in 11 = .ok (.goto 4, 3) := by decide +kernel
theorem dX9_in_14 : decode cX9_in 14 = .ok (.iconst 0, 1) := by decide +kernel
theorem dX9_in_15 : decode cX9_in 15 = .ok (.ireturn, 1) := by decide +kernel
theorem dX9_copies_0 : decode cX9_copies 0 = .ok (.iconst 0, 1) := by decide +kernel
theorem dX9_copies_1 : decode cX9_copies 1 = .ok (.istore 4, 2) := by decide +kernel
theorem dX9_copies_3 : decode cX9_copies 3 = .ok (.iload 4, 2) := by decide +kernel
theorem dX9_copies_5 : decode cX9_copies 5 = .ok (.sipush 5055, 3) := by decide +kernel
theorem dX9_copies_8 : decode cX9_copies 8 = .ok (.if_icmp .ge 21, 3) := by decide +kernel
theorem dX9_copies_11 : decode cX9_copies 11 = .ok (.aload_n 2, 1) := by decide +kernel
theorem dX9_copies_12 : decode cX9_copies 12 = .ok (.iload_n 3, 1) := by decide +kernel
theorem dX9_copies_13 : decode cX9_copies 13 = .ok (.iload 4, 2) := by decide +kernel
theorem dX9_copies_15 : decode cX9_copies 15 = .ok (.iadd, 1) := by decide +kernel
theorem dX9_copies_16 : decode cX9_copies 16 = .ok (.aload_n 0, 1) := by decide +kernel
theorem dX9_copies_17 : decode cX9_copies 17 = .ok (.iload_n 1, 1) := by decide +kernel
theorem dX9_copies_18 : decode cX9_copies 18 = .ok (.iload 4, 2) := by decide +kernel
theorem dX9_copies_20 : decode cX9_copies 20 = .ok (.iadd, 1) := by decide +kernel
theorem dX9_copies_21 : decode cX9_copies 21 = .ok (.iaload, 1) := by decide +kernel
theorem dX9_copies_22 : decode cX9_copies 22 = .ok (.iastore, 1) := by decide +kernel
theorem dX9_copies_23 : decode cX9_copies 23 = .ok (.iinc 4 1, 3) := by decide +kernel
theorem dX9_copies_26 : decode cX9_copies 26 = .ok (.goto (-23), 3) := by decide +kernel
theorem dX9_copies_29 : decode cX9_copies 29 = .ok (.return_, 1) := by decide +kernel
theorem dX9_keepsFrom_0 : decode cX9_keepsFrom 0 = .ok (.aload_n 0, 1) := by decide +kernel
theorem dX9_keepsFrom_1 : decode cX9_keepsFrom 1 = .ok (.getfield 23, 3) := by decide +kernel
theorem dX9_keepsFrom_4 : decode cX9_keepsFrom 4 = .ok (.bipush 8, 2) := by decide +kernel
theorem dX9_keepsFrom_6 : decode cX9_keepsFrom 6 = .ok (.if_icmp .ne 50, 3) := by decide +kernel
theorem dX9_keepsFrom_9 : decode cX9_keepsFrom 9 = .ok (.iconst 1, 1) := by decide +kernel
theorem dX9_keepsFrom_10 : decode cX9_keepsFrom 10 = .ok (.istore_n 2, 1) := by decide +kernel
theorem dX9_keepsFrom_11 : decode cX9_keepsFrom 11 = .ok (.iload_n 2, 1) := by decide +kernel
theorem dX9_keepsFrom_12 : decode cX9_keepsFrom 12 = .ok (.bipush 8, 2) := by decide +kernel
theorem dX9_keepsFrom_14 : decode cX9_keepsFrom 14 = .ok (.if_icmp .ge 32, 3) := by decide +kernel
theorem dX9_keepsFrom_17 : decode cX9_keepsFrom 17 = .ok (.aload_n 0, 1) := by decide +kernel
theorem dX9_keepsFrom_18 : decode cX9_keepsFrom 18 = .ok (.getfield 20, 3) := by decide +kernel
theorem dX9_keepsFrom_21 : decode cX9_keepsFrom 21 = .ok (.sipush 5055, 3) := by decide +kernel
theorem dX9_keepsFrom_24 : decode cX9_keepsFrom 24 = .ok (.iload_n 2, 1) := by decide +kernel
theorem dX9_keepsFrom_25 : decode cX9_keepsFrom 25 = .ok (.imul, 1) := by decide +kernel
theorem dX9_keepsFrom_26 : decode cX9_keepsFrom 26 = .ok (.aload_n 0, 1) := by decide +kernel
theorem dX9_keepsFrom_27 : decode cX9_keepsFrom 27 = .ok (.getfield 20, 3) := by decide +kernel
theorem dX9_keepsFrom_30 : decode cX9_keepsFrom 30 = .ok (.sipush 5055, 3) := by decide +kernel
theorem dX9_keepsFrom_33 : decode cX9_keepsFrom 33 = .ok (.iload_n 2, 1) := by decide +kernel
theorem dX9_keepsFrom_34 : decode cX9_keepsFrom 34 = .ok (.iconst 1, 1) := by decide +kernel
theorem dX9_keepsFrom_35 : decode cX9_keepsFrom 35 = .ok (.isub, 1) := by decide +kernel
theorem dX9_keepsFrom_36 : decode cX9_keepsFrom 36 = .ok (.imul, 1) := by decide +kernel
theorem dX9_keepsFrom_37 : decode cX9_keepsFrom 37 = .ok (.invokestatic 97, 3) := by decide +kernel
theorem dX9_keepsFrom_40 : decode cX9_keepsFrom 40 = .ok (.iinc 2 1, 3) := by decide +kernel
theorem dX9_keepsFrom_43 : decode cX9_keepsFrom 43 = .ok (.goto (-32), 3) := by decide +kernel
theorem dX9_keepsFrom_46 : decode cX9_keepsFrom 46 = .ok (.aload_n 0, 1) := by decide +kernel
theorem dX9_keepsFrom_47 : decode cX9_keepsFrom 47 = .ok (.dup, 1) := by decide +kernel
theorem dX9_keepsFrom_48 : decode cX9_keepsFrom 48 = .ok (.getfield 23, 3) := by decide +kernel
theorem dX9_keepsFrom_51 : decode cX9_keepsFrom 51 = .ok (.iconst 1, 1) := by decide +kernel
theorem dX9_keepsFrom_52 : decode cX9_keepsFrom 52 = .ok (.isub, 1) := by decide +kernel
theorem dX9_keepsFrom_53 : decode cX9_keepsFrom 53 = .ok (.putfield 23, 3) := by decide +kernel
theorem dX9_keepsFrom_56 : decode cX9_keepsFrom 56 = .ok (.aload_n 1, 1) := by decide +kernel
theorem dX9_keepsFrom_57 : decode cX9_keepsFrom 57 = .ok (.iconst 0, 1) := by decide +kernel
theorem dX9_keepsFrom_58 : decode cX9_keepsFrom 58 = .ok (.aload_n 0, 1) := by decide +kernel
theorem dX9_keepsFrom_59 : decode cX9_keepsFrom 59 = .ok (.getfield 20, 3) := by decide +kernel
theorem dX9_keepsFrom_62 : decode cX9_keepsFrom 62 = .ok (.sipush 5055, 3) := by decide +kernel
theorem dX9_keepsFrom_65 : decode cX9_keepsFrom 65 = .ok (.aload_n 0, 1) := by decide +kernel
theorem dX9_keepsFrom_66 : decode cX9_keepsFrom 66 = .ok (.getfield 23, 3) := by decide +kernel
theorem dX9_keepsFrom_69 : decode cX9_keepsFrom 69 = .ok (.imul, 1) := by decide +kernel
theorem dX9_keepsFrom_70 : decode cX9_keepsFrom 70 = .ok (.invokestatic 97, 3) := by decide +kernel
theorem dX9_keepsFrom_73 : decode cX9_keepsFrom 73 = .ok (.aload_n 0, 1) := by decide +kernel
theorem dX9_keepsFrom_74 : decode cX9_keepsFrom 74 = .ok (.dup, 1) := by decide +kernel
theorem dX9_keepsFrom_75 : decode cX9_keepsFrom 75 = .ok (.getfield 23, 3) := by decide +kernel
theorem dX9_keepsFrom_78 : decode cX9_keepsFrom 78 = .ok (.iconst 1, 1) := by decide +kernel
theorem dX9_keepsFrom_79 : decode cX9_keepsFrom 79 = .ok (.iadd, 1) := by decide +kernel
theorem dX9_keepsFrom_80 : decode cX9_keepsFrom 80 = .ok (.putfield 23, 3) := by decide +kernel
theorem dX9_keepsFrom_83 : decode cX9_keepsFrom 83 = .ok (.aload_n 0, 1) := by decide +kernel
theorem dX9_keepsFrom_84 : decode cX9_keepsFrom 84 = .ok (.getfield 23, 3) := by decide +kernel
theorem dX9_keepsFrom_87 : decode cX9_keepsFrom 87 = .ok (.ireturn, 1) := by decide +kernel
theorem dX9_keeps_0 : decode cX9_keeps 0 = .ok (.aload_n 0, 1) := by decide +kernel
theorem dX9_keeps_1 : decode cX9_keeps 1 = .ok (.getfield 34, 3) := by decide +kernel
theorem dX9_keeps_4 : decode cX9_keeps 4 = .ok (.ifCond .ne 15, 3) := by decide +kernel
theorem dX9_keeps_7 : decode cX9_keeps 7 = .ok (.aload_n 0, 1) := by decide +kernel
theorem dX9_keeps_8 : decode cX9_keeps 8 = .ok (.aload_n 0, 1) := by decide +kernel
theorem dX9_keeps_9 : decode cX9_keeps 9 = .ok (.aload_n 0, 1) := by decide +kernel
theorem dX9_keeps_10 : decode cX9_keeps 10 = .ok (.getfield 9, 3) := by decide +kernel
theorem dX9_keeps_13 : decode cX9_keeps 13 = .ok (.invokevirtual 101, 3) := by decide +kernel
theorem dX9_keeps_16 : decode cX9_keeps 16 = .ok (.putfield 23, 3) := by decide +kernel
theorem dX9_keeps_19 : decode cX9_keeps 19 = .ok (.return_, 1) := by decide +kernel
theorem dX9_refuses_0 : decode cX9_refuses 0 = .ok (.aload_n 0, 1) := by decide +kernel
theorem dX9_refuses_1 : decode cX9_refuses 1 = .ok (.iload_n 1, 1) := by decide +kernel
theorem dX9_refuses_2 : decode cX9_refuses 2 = .ok (.putfield 27, 3) := by decide +kernel
theorem dX9_refuses_5 : decode cX9_refuses 5 = .ok (.bipush (-5), 2) := by decide +kernel
theorem dX9_refuses_7 : decode cX9_refuses 7 = .ok (.ireturn, 1) := by decide +kernel
theorem dX9_at_0 : decode cX9_at 0 = .ok (.sipush 177, 3) := by decide +kernel
theorem dX9_at_3 : decode cX9_at 3 = .ok (.sipush 813, 3) := by decide +kernel
theorem dX9_at_6 : decode cX9_at 6 = .ok (.iload_n 0, 1) := by decide +kernel
theorem dX9_at_7 : decode cX9_at 7 = .ok (.imul, 1) := by decide +kernel
theorem dX9_at_8 : decode cX9_at 8 = .ok (.iadd, 1) := by decide +kernel
theorem dX9_at_9 : decode cX9_at 9 = .ok (.iload_n 1, 1) := by decide +kernel
theorem dX9_at_10 : decode cX9_at 10 = .ok (.iadd, 1) := by decide +kernel
theorem dX9_at_11 : decode cX9_at 11 = .ok (.ireturn, 1) := by decide +kernel
theorem dX9_placeOf_0 : decode cX9_placeOf 0 = .ok (.iload_n 0, 1) := by decide +kernel
theorem dX9_placeOf_1 : decode cX9_placeOf 1 = .ok (.bipush 21, 2) := by decide +kernel
theorem dX9_placeOf_3 : decode cX9_placeOf 3 = .ok (.bipush 8, 2) := by decide +kernel
theorem dX9_placeOf_5 : decode cX9_placeOf 5 = .ok (.iload_n 1, 1) := by decide +kernel
theorem dX9_placeOf_6 : decode cX9_placeOf 6 = .ok (.iconst 1, 1) := by decide +kernel
theorem dX9_placeOf_7 : decode cX9_placeOf 7 = .ok (.isub, 1) := by decide +kernel
theorem dX9_placeOf_8 : decode cX9_placeOf 8 = .ok (.imul, 1) := by decide +kernel
theorem dX9_placeOf_9 : decode cX9_placeOf 9 = .ok (.iadd, 1) := by decide +kernel
theorem dX9_placeOf_10 : decode cX9_placeOf 10 = .ok (.invokestatic 105, 3) := by decide +kernel
theorem dX9_placeOf_13 : decode cX9_placeOf 13 = .ok (.ireturn, 1) := by decide +kernel
theorem dX9_isEdition_0 : decode cX9_isEdition 0 = .ok (.iload_n 1, 1) := by decide +kernel
theorem dX9_isEdition_1 : decode cX9_isEdition 1 = .ok (.iconst 0, 1) := by decide +kernel
theorem dX9_isEdition_2 : decode cX9_isEdition 2 = .ok (.aload_n 0, 1) := by decide +kernel
theorem dX9_isEdition_3 : decode cX9_isEdition 3 = .ok (.getfield 9, 3) := by decide +kernel
theorem dX9_isEdition_6 : decode cX9_isEdition 6 = .ok (.iconst 0, 1) := by decide +kernel
theorem dX9_isEdition_7 : decode cX9_isEdition 7 = .ok (.iaload, 1) := by decide +kernel
theorem dX9_isEdition_8 : decode cX9_isEdition 8 = .ok (.iconst 1, 1) := by decide +kernel
theorem dX9_isEdition_9 : decode cX9_isEdition 9 = .ok (.isub, 1) := by decide +kernel
theorem dX9_isEdition_10 : decode cX9_isEdition 10 = .ok (.invokestatic 108, 3) := by decide +kernel
theorem dX9_isEdition_13 : decode cX9_isEdition 13 = .ok (.ireturn, 1) := by decide +kernel
theorem dX9_bars_0 : decode cX9_bars 0 = .ok (.aload_n 0, 1) := by decide +kernel
theorem dX9_bars_1 : decode cX9_bars 1 = .ok (.getfield 9, 3) := by decide +kernel
theorem dX9_bars_4 : decode cX9_bars 4 = .ok (.iload_n 1, 1) := by decide +kernel
theorem dX9_bars_5 : decode cX9_bars 5 = .ok (.iconst 1, 1) := by decide +kernel
theorem dX9_bars_6 : decode cX9_bars 6 = .ok (.invokestatic 105, 3) := by decide +kernel
theorem dX9_bars_9 : decode cX9_bars 9 = .ok (.iaload, 1) := by decide +kernel
theorem dX9_bars_10 : decode cX9_bars 10 = .ok (.ireturn, 1) := by decide +kernel
theorem dX9_isBar_0 : decode cX9_isBar 0 = .ok (.aload_n 0, 1) := by decide +kernel
theorem dX9_isBar_1 : decode cX9_isBar 1 = .ok (.iload_n 1, 1) := by decide +kernel
theorem dX9_isBar_2 : decode cX9_isBar 2 = .ok (.invokevirtual 112, 3) := by decide +kernel
theorem dX9_isBar_5 : decode cX9_isBar 5 = .ok (.ifCond .eq 20, 3) := by decide +kernel
theorem dX9_isBar_8 : decode cX9_isBar 8 = .ok (.iload_n 2, 1) := by decide +kernel
theorem dX9_isBar_9 : decode cX9_isBar 9 = .ok (.iconst 1, 1) := by decide +kernel
theorem dX9_isBar_10 : decode cX9_isBar 10 = .ok (.aload_n 0, 1) := by decide +kernel
theorem dX9_isBar_11 : decode cX9_isBar 11 = .ok (.iload_n 1, 1) := by decide +kernel
theorem dX9_isBar_12 : decode cX9_isBar 12 = .ok (.invokevirtual 116, 3) := by decide +kernel
theorem dX9_isBar_15 : decode cX9_isBar 15 = .ok (.invokestatic 108, 3) := by decide +kernel
theorem dX9_isBar_18 : decode cX9_isBar 18 = .ok (.ifCond .eq 7, 3) := by decide +kernel
theorem dX9_isBar_21 : decode cX9_isBar 21 = .ok (.iconst 1, 1) := by decide +kernel
theorem dX9_isBar_22 : decode cX9_isBar 22 = .ok (.goto 4, 3) := by decide +kernel
theorem dX9_isBar_25 : decode cX9_isBar 25 = .ok (.iconst 0, 1) := by decide +kernel
theorem dX9_isBar_26 : decode cX9_isBar 26 = .ok (.ireturn, 1) := by decide +kernel
theorem dX9_isInstrument_0 : decode cX9_isInstrument 0 = .ok (.iload_n 0, 1) := by decide +kernel
theorem dX9_isInstrument_1 : decode cX9_isInstrument 1 = .ok (.iconst 0, 1) := by decide +kernel
theorem dX9_isInstrument_2 : decode cX9_isInstrument 2 = .ok (.iconst 5, 1) := by decide +kernel
theorem dX9_isInstrument_3 : decode cX9_isInstrument 3 = .ok (.invokestatic 108, 3) := by decide +kernel
theorem dX9_isInstrument_6 : decode cX9_isInstrument 6 = .ok (.ireturn, 1) := by decide +kernel
theorem dX9_bought_0 : decode cX9_bought 0 = .ok (.aload_n 0, 1) := by decide +kernel
theorem dX9_bought_1 : decode cX9_bought 1 = .ok (.getfield 9, 3) := by decide +kernel
theorem dX9_bought_4 : decode cX9_bought 4 = .ok (.iload_n 1, 1) := by decide +kernel
theorem dX9_bought_5 : decode cX9_bought 5 = .ok (.iconst 3, 1) := by decide +kernel
theorem dX9_bought_6 : decode cX9_bought 6 = .ok (.iconst 3, 1) := by decide +kernel
theorem dX9_bought_7 : decode cX9_bought 7 = .ok (.iload_n 2, 1) := by decide +kernel
theorem dX9_bought_8 : decode cX9_bought 8 = .ok (.imul, 1) := by decide +kernel
theorem dX9_bought_9 : decode cX9_bought 9 = .ok (.iadd, 1) := by decide +kernel
theorem dX9_bought_10 : decode cX9_bought 10 = .ok (.invokestatic 105, 3) := by decide +kernel
theorem dX9_bought_13 : decode cX9_bought 13 = .ok (.iaload, 1) := by decide +kernel
theorem dX9_bought_14 : decode cX9_bought 14 = .ok (.ireturn, 1) := by decide +kernel
theorem dX9_outOf_0 : decode cX9_outOf 0 = .ok (.aload_n 0, 1) := by decide +kernel
theorem dX9_outOf_1 : decode cX9_outOf 1 = .ok (.getfield 9, 3) := by decide +kernel
theorem dX9_outOf_4 : decode cX9_outOf 4 = .ok (.iload_n 1, 1) := by decide +kernel
theorem dX9_outOf_5 : decode cX9_outOf 5 = .ok (.iconst 3, 1) := by decide +kernel
theorem dX9_outOf_6 : decode cX9_outOf 6 = .ok (.iconst 3, 1) := by decide +kernel
theorem dX9_outOf_7 : decode cX9_outOf 7 = .ok (.iload_n 2, 1) := by decide +kernel
theorem dX9_outOf_8 : decode cX9_outOf 8 = .ok (.imul, 1) := by decide +kernel
theorem dX9_outOf_9 : decode cX9_outOf 9 = .ok (.iadd, 1) := by decide +kernel
theorem dX9_outOf_10 : decode cX9_outOf 10 = .ok (.iconst 1, 1) := by decide +kernel
theorem dX9_outOf_11 : decode cX9_outOf 11 = .ok (.iadd, 1) := by decide +kernel
theorem dX9_outOf_12 : decode cX9_outOf 12 = .ok (.invokestatic 105, 3) := by decide +kernel
theorem dX9_outOf_15 : decode cX9_outOf 15 = .ok (.iaload, 1) := by decide +kernel
theorem dX9_outOf_16 : decode cX9_outOf 16 = .ok (.ireturn, 1) := by decide +kernel
theorem dX9_lostOf_0 : decode cX9_lostOf 0 = .ok (.aload_n 0, 1) := by decide +kernel
theorem dX9_lostOf_1 : decode cX9_lostOf 1 = .ok (.getfield 9, 3) := by decide +kernel
theorem dX9_lostOf_4 : decode cX9_lostOf 4 = .ok (.iload_n 1, 1) := by decide +kernel
theorem dX9_lostOf_5 : decode cX9_lostOf 5 = .ok (.iconst 3, 1) := by decide +kernel
theorem dX9_lostOf_6 : decode cX9_lostOf 6 = .ok (.iconst 3, 1) := by decide +kernel
theorem dX9_lostOf_7 : decode cX9_lostOf 7 = .ok (.iload_n 2, 1) := by decide +kernel
theorem dX9_lostOf_8 : decode cX9_lostOf 8 = .ok (.imul, 1) := by decide +kernel
theorem dX9_lostOf_9 : decode cX9_lostOf 9 = .ok (.iadd, 1) := by decide +kernel
theorem dX9_lostOf_10 : decode cX9_lostOf 10 = .ok (.iconst 2, 1) := by decide +kernel
theorem dX9_lostOf_11 : decode cX9_lostOf 11 = .ok (.iadd, 1) := by decide +kernel
theorem dX9_lostOf_12 : decode cX9_lostOf 12 = .ok (.invokestatic 105, 3) := by decide +kernel
theorem dX9_lostOf_15 : decode cX9_lostOf 15 = .ok (.iaload, 1) := by decide +kernel
theorem dX9_lostOf_16 : decode cX9_lostOf 16 = .ok (.ireturn, 1) := by decide +kernel
theorem dX9_inOf_0 : decode cX9_inOf 0 = .ok (.aload_n 0, 1) := by decide +kernel
theorem dX9_inOf_1 : decode cX9_inOf 1 = .ok (.iload_n 1, 1) := by decide +kernel
theorem dX9_inOf_2 : decode cX9_inOf 2 = .ok (.iload_n 2, 1) := by decide +kernel
theorem dX9_inOf_3 : decode cX9_inOf 3 = .ok (.invokevirtual 120, 3) := by decide +kernel
theorem dX9_inOf_6 : decode cX9_inOf 6 = .ok (.aload_n 0, 1) := by decide +kernel
theorem dX9_inOf_7 : decode cX9_inOf 7 = .ok (.iload_n 1, 1) := by decide +kernel
theorem dX9_inOf_8 : decode cX9_inOf 8 = .ok (.iload_n 2, 1) := by decide +kernel
theorem dX9_inOf_9 : decode cX9_inOf 9 = .ok (.invokevirtual 123, 3) := by decide +kernel
theorem dX9_inOf_12 : decode cX9_inOf 12 = .ok (.isub, 1) := by decide +kernel
theorem dX9_inOf_13 : decode cX9_inOf 13 = .ok (.aload_n 0, 1) := by decide +kernel
theorem dX9_inOf_14 : decode cX9_inOf 14 = .ok (.iload_n 1, 1) := by decide +kernel
theorem dX9_inOf_15 : decode cX9_inOf 15 = .ok (.iload_n 2, 1) := by decide +kernel
theorem dX9_inOf_16 : decode cX9_inOf 16 = .ok (.invokevirtual 126, 3) := by decide +kernel
theorem dX9_inOf_19 : decode cX9_inOf 19 = .ok (.isub, 1) := by decide +kernel
theorem dX9_inOf_20 : decode cX9_inOf 20 = .ok (.ireturn, 1) := by decide +kernel
theorem dX9_boughtAll_0 : decode cX9_boughtAll 0 = .ok (.iconst 0, 1) := by decide +kernel
theorem dX9_boughtAll_1 : decode cX9_boughtAll 1 = .ok (.istore_n 2, 1) := by decide +kernel
theorem dX9_boughtAll_2 : decode cX9_boughtAll 2 = .ok (.iconst 0, 1) := by decide +kernel
theorem dX9_boughtAll_3 : decode cX9_boughtAll 3 = .ok (.istore_n 3, 1) := by decide +kernel
theorem dX9_boughtAll_4 : decode cX9_boughtAll 4 = .ok (.iload_n 3, 1) := by decide +kernel
theorem dX9_boughtAll_5 : decode cX9_boughtAll 5 = .ok (.bipush 6, 2) := by decide +kernel
theorem dX9_boughtAll_7 : decode cX9_boughtAll 7 = .ok (.if_icmp .ge 18, 3) := by decide +kernel
theorem dX9_boughtAll_10 : decode cX9_boughtAll 10 = .ok (.iload_n 2, 1) := by decide +kernel
theorem dX9_boughtAll_11 : decode cX9_boughtAll 11 = .ok (.aload_n 0, 1) := by decide +kernel
theorem dX9_boughtAll_12 : decode cX9_boughtAll 12 = .ok (.iload_n 1, 1) := by decide +kernel
theorem dX9_boughtAll_13 : decode cX9_boughtAll 13 = .ok (.iload_n 3, 1) := by decide +kernel
theorem dX9_boughtAll_14 : decode cX9_boughtAll 14 = .ok (.invokevirtual 120, 3) := by decide +kernel
theorem dX9_boughtAll_17 : decode cX9_boughtAll 17 = .ok (.iadd, 1) := by decide +kernel
theorem dX9_boughtAll_18 : decode cX9_boughtAll 18 = .ok (.istore_n 2, 1) := by decide +kernel
theorem dX9_boughtAll_19 : decode cX9_boughtAll 19 = .ok (.iinc 3 1, 3) := by decide +kernel
theorem dX9_boughtAll_22 : decode cX9_boughtAll 22 = .ok (.goto (-18), 3) := by decide +kernel
theorem dX9_boughtAll_25 : decode cX9_boughtAll 25 = .ok (.iload_n 2, 1) := by decide +kernel
theorem dX9_boughtAll_26 : decode cX9_boughtAll 26 = .ok (.ireturn, 1) := by decide +kernel
theorem dX9_edition_0 : decode cX9_edition 0 = .ok (.iload_n 1, 1) := by decide +kernel
theorem dX9_edition_1 : decode cX9_edition 1 = .ok (.iconst 0, 1) := by decide +kernel
theorem dX9_edition_2 : decode cX9_edition 2 = .ok (.iconst 3, 1) := by decide +kernel
theorem dX9_edition_3 : decode cX9_edition 3 = .ok (.invokestatic 108, 3) := by decide +kernel
theorem dX9_edition_6 : decode cX9_edition 6 = .ok (.ifCond .ne 5, 3) := by decide +kernel
theorem dX9_edition_9 : decode cX9_edition 9 = .ok (.iconst (-1), 1) := by decide +kernel
theorem dX9_edition_10 : decode cX9_edition 10 = .ok (.ireturn, 1) := by decide +kernel
theorem dX9_edition_11 : decode cX9_edition 11 = .ok (.iload_n 2, 1) := by decide +kernel
theorem dX9_edition_12 : decode cX9_edition 12 = .ok (.iconst 1, 1) := by decide +kernel
theorem dX9_edition_13 : decode cX9_edition 13 = .ok (.bipush 99, 2) := by decide +kernel
theorem dX9_edition_15 : decode cX9_edition 15 = .ok (.invokestatic 108, 3) := by decide +kernel
theorem dX9_edition_18 : decode cX9_edition 18 = .ok (.ifCond .eq 13, 3) := by decide +kernel
theorem dX9_edition_21 : decode cX9_edition 21 = .ok (.iload_n 3, 1) := by decide +kernel
theorem dX9_edition_22 : decode cX9_edition 22 = .ok (.iconst 1, 1) := by decide +kernel
theorem dX9_edition_23 : decode cX9_edition 23 = .ok (.bipush 9, 2) := by decide +kernel
theorem dX9_edition_25 : decode cX9_edition 25 = .ok (.invokestatic 108, 3) := by decide +kernel
theorem dX9_edition_28 : decode cX9_edition 28 = .ok (.ifCond .ne 6, 3) := by decide +kernel
theorem dX9_edition_31 : decode cX9_edition 31 = .ok (.bipush (-2), 2) := by decide +kernel
theorem dX9_edition_33 : decode cX9_edition 33 = .ok (.ireturn, 1) := by decide +kernel
theorem dX9_edition_34 : decode cX9_edition 34 = .ok (.iconst 0, 1) := by decide +kernel
theorem dX9_edition_35 : decode cX9_edition 35 = .ok (.istore 4, 2) := by decide +kernel
theorem dX9_edition_37 : decode cX9_edition 37 = .ok (.iload 4, 2) := by decide +kernel
theorem dX9_edition_39 : decode cX9_edition 39 = .ok (.aload_n 0, 1) := by decide +kernel
theorem dX9_edition_40 : decode cX9_edition 40 = .ok (.getfield 9, 3) := by decide +kernel
theorem dX9_edition_43 : decode cX9_edition 43 = .ok (.iconst 0, 1) := by decide +kernel
theorem dX9_edition_44 : decode cX9_edition 44 = .ok (.iaload, 1) := by decide +kernel
theorem dX9_edition_45 : decode cX9_edition 45 = .ok (.if_icmp .ge 27, 3) := by decide +kernel
theorem dX9_edition_48 : decode cX9_edition 48 = .ok (.aload_n 0, 1) := by decide +kernel
theorem dX9_edition_49 : decode cX9_edition 49 = .ok (.getfield 9, 3) := by decide +kernel
theorem dX9_edition_52 : decode cX9_edition 52 = .ok (.iload 4, 2) := by decide +kernel
theorem dX9_edition_54 : decode cX9_edition 54 = .ok (.iconst 0, 1) := by decide +kernel
theorem dX9_edition_55 : decode cX9_edition 55 = .ok (.invokestatic 105, 3) := by decide +kernel
theorem dX9_edition_58 : decode cX9_edition 58 = .ok (.iaload, 1) := by decide +kernel
theorem dX9_edition_59 : decode cX9_edition 59 = .ok (.iload_n 1, 1) := by decide +kernel
theorem dX9_edition_60 : decode cX9_edition 60 = .ok (.if_icmp .ne 6, 3) := by decide +kernel
theorem dX9_edition_63 : decode cX9_edition 63 = .ok (.bipush (-3), 2) := by decide +kernel
theorem dX9_edition_65 : decode cX9_edition 65 = .ok (.ireturn, 1) := by decide +kernel
theorem dX9_edition_66 : decode cX9_edition 66 = .ok (.iinc 4 1, 3) := by decide +kernel
theorem dX9_edition_69 : decode cX9_edition 69 = .ok (.goto (-32), 3) := by decide +kernel
theorem dX9_edition_72 : decode cX9_edition 72 = .ok (.aload_n 0, 1) := by decide +kernel
theorem dX9_edition_73 : decode cX9_edition 73 = .ok (.getfield 9, 3) := by decide +kernel
theorem dX9_edition_76 : decode cX9_edition 76 = .ok (.iconst 0, 1) := by decide +kernel
theorem dX9_edition_77 : decode cX9_edition 77 = .ok (.iaload, 1) := by decide +kernel
theorem dX9_edition_78 : decode cX9_edition 78 = .ok (.bipush 6, 2) := by decide +kernel
theorem dX9_edition_80 : decode cX9_edition 80 = .ok (.if_icmp .ne 6, 3) := by decide +kernel
theorem dX9_edition_83 : decode cX9_edition 83 = .ok (.bipush (-4), 2) := by decide +kernel
theorem dX9_edition_85 : decode cX9_edition 85 = .ok (.ireturn, 1) := by decide +kernel
theorem dX9_edition_86 : decode cX9_edition 86 = .ok (.aload_n 0, 1) := by decide +kernel
theorem dX9_edition_87 : decode cX9_edition 87 = .ok (.invokevirtual 129, 3) := by decide +kernel
theorem dX9_edition_90 : decode cX9_edition 90 = .ok (.aload_n 0, 1) := by decide +kernel
theorem dX9_edition_91 : decode cX9_edition 91 = .ok (.getfield 9, 3) := by decide +kernel
theorem dX9_edition_94 : decode cX9_edition 94 = .ok (.iconst 0, 1) := by decide +kernel
theorem dX9_edition_95 : decode cX9_edition 95 = .ok (.iaload, 1) := by decide +kernel
theorem dX9_edition_96 : decode cX9_edition 96 = .ok (.istore 4, 2) := by decide +kernel
theorem dX9_edition_98 : decode cX9_edition 98 = .ok (.aload_n 0, 1) := by decide +kernel
theorem dX9_edition_99 : decode cX9_edition 99 = .ok (.getfield 9, 3) := by decide +kernel
theorem dX9_edition_102 : decode cX9_edition 102 = .ok (.iconst 0, 1) := by decide +kernel
theorem dX9_edition_103 : decode cX9_edition 103 = .ok (.dup2, 1) := by decide +kernel
theorem dX9_edition_104 : decode cX9_edition 104 = .ok (.iaload, 1) := by decide +kernel
theorem dX9_edition_105 : decode cX9_edition 105 = .ok (.iconst 1, 1) := by decide +kernel
theorem dX9_edition_106 : decode cX9_edition 106 = .ok (.iadd, 1) := by decide +kernel
theorem dX9_edition_107 : decode cX9_edition 107 = .ok (.iastore, 1) := by decide +kernel
theorem dX9_edition_108 : decode cX9_edition 108 = .ok (.iconst 0, 1) := by decide +kernel
theorem dX9_edition_109 : decode cX9_edition 109 = .ok (.istore 5, 2) := by decide +kernel
theorem dX9_edition_111 : decode cX9_edition 111 = .ok (.iload 5, 2) := by decide +kernel
theorem dX9_edition_113 : decode cX9_edition 113 = .ok (.sipush 813, 3) := by decide +kernel
theorem dX9_edition_116 : decode cX9_edition 116 = .ok (.if_icmp .ge 22, 3) := by decide +kernel
theorem dX9_edition_119 : decode cX9_edition 119 = .ok (.aload_n 0, 1) := by decide +kernel
theorem dX9_edition_120 : decode cX9_edition 120 = .ok (.getfield 9, 3) := by decide +kernel
theorem dX9_edition_123 : decode cX9_edition 123 = .ok (.iload 4, 2) := by decide +kernel
theorem dX9_edition_125 : decode cX9_edition 125 = .ok (.iload 5, 2) := by decide +kernel
theorem dX9_edition_127 : decode cX9_edition 127 = .ok (.invokestatic 105, 3) := by decide +kernel
theorem dX9_edition_130 : decode cX9_edition 130 = .ok (.iconst 0, 1) := by decide +kernel
theorem dX9_edition_131 : decode cX9_edition 131 = .ok (.iastore, 1) := by decide +kernel
theorem dX9_edition_132 : decode cX9_edition 132 = .ok (.iinc 5 1, 3) := by decide +kernel
theorem dX9_edition_135 : decode cX9_edition 135 = .ok (.goto (-24), 3) := by decide +kernel
theorem dX9_edition_138 : decode cX9_edition 138 = .ok (.aload_n 0, 1) := by decide +kernel
theorem dX9_edition_139 : decode cX9_edition 139 = .ok (.getfield 9, 3) := by decide +kernel
theorem dX9_edition_142 : decode cX9_edition 142 = .ok (.iload 4, 2) := by decide +kernel
theorem dX9_edition_144 : decode cX9_edition 144 = .ok (.iconst 0, 1) := by decide +kernel
theorem dX9_edition_145 : decode cX9_edition 145 = .ok (.invokestatic 105, 3) := by decide +kernel
theorem dX9_edition_148 : decode cX9_edition 148 = .ok (.iload_n 1, 1) := by decide +kernel
theorem dX9_edition_149 : decode cX9_edition 149 = .ok (.iastore, 1) := by decide +kernel
theorem dX9_edition_150 : decode cX9_edition 150 = .ok (.aload_n 0, 1) := by decide +kernel
theorem dX9_edition_151 : decode cX9_edition 151 = .ok (.getfield 9, 3) := by decide +kernel
theorem dX9_edition_154 : decode cX9_edition 154 = .ok (.iload 4, 2) := by decide +kernel
theorem dX9_edition_156 : decode cX9_edition 156 = .ok (.iconst 1, 1) := by decide +kernel
theorem dX9_edition_157 : decode cX9_edition 157 = .ok (.invokestatic 105, 3) := by decide +kernel
theorem dX9_edition_160 : decode cX9_edition 160 = .ok (.iload_n 2, 1) := by decide +kernel
theorem dX9_edition_161 : decode cX9_edition 161 = .ok (.iastore, 1) := by decide +kernel
theorem dX9_edition_162 : decode cX9_edition 162 = .ok (.aload_n 0, 1) := by decide +kernel
theorem dX9_edition_163 : decode cX9_edition 163 = .ok (.getfield 9, 3) := by decide +kernel
theorem dX9_edition_166 : decode cX9_edition 166 = .ok (.iload 4, 2) := by decide +kernel
theorem dX9_edition_168 : decode cX9_edition 168 = .ok (.iconst 2, 1) := by decide +kernel
theorem dX9_edition_169 : decode cX9_edition 169 = .ok (.invokestatic 105, 3) := by decide +kernel
theorem dX9_edition_172 : decode cX9_edition 172 = .ok (.bipush (-7), 2) := by decide +kernel
theorem dX9_edition_174 : decode cX9_edition 174 = .ok (.iastore, 1) := by decide +kernel
theorem dX9_edition_175 : decode cX9_edition 175 = .ok (.iconst 1, 1) := by decide +kernel
theorem dX9_edition_176 : decode cX9_edition 176 = .ok (.istore 5, 2) := by decide +kernel
theorem dX9_edition_178 : decode cX9_edition 178 = .ok (.iload 5, 2) := by decide +kernel
theorem dX9_edition_180 : decode cX9_edition 180 = .ok (.iload_n 2, 1) := by decide +kernel
theorem dX9_edition_181 : decode cX9_edition 181 = .ok (.if_icmp .gt 38, 3) := by decide +kernel
theorem dX9_edition_184 : decode cX9_edition 184 = .ok (.aload_n 0, 1) := by decide +kernel
theorem dX9_edition_185 : decode cX9_edition 185 = .ok (.getfield 9, 3) := by decide +kernel
theorem dX9_edition_188 : decode cX9_edition 188 = .ok (.iload 4, 2) := by decide +kernel
theorem dX9_edition_190 : decode cX9_edition 190 = .ok (.iload 5, 2) := by decide +kernel
theorem dX9_edition_192 : decode cX9_edition 192 = .ok (.invokestatic 132, 3) := by decide +kernel
theorem dX9_edition_195 : decode cX9_edition 195 = .ok (.iload 5, 2) := by decide +kernel
theorem dX9_edition_197 : decode cX9_edition 197 = .ok (.iastore, 1) := by decide +kernel
theorem dX9_edition_198 : decode cX9_edition 198 = .ok (.aload_n 0, 1) := by decide +kernel
theorem dX9_edition_199 : decode cX9_edition 199 = .ok (.getfield 9, 3) := by decide +kernel
theorem dX9_edition_202 : decode cX9_edition 202 = .ok (.iload 4, 2) := by decide +kernel
theorem dX9_edition_204 : decode cX9_edition 204 = .ok (.iload 5, 2) := by decide +kernel
theorem dX9_edition_206 : decode cX9_edition 206 = .ok (.invokestatic 132, 3) := by decide +kernel
theorem dX9_edition_209 : decode cX9_edition 209 = .ok (.iconst 2, 1) := by decide +kernel
theorem dX9_edition_210 : decode cX9_edition 210 = .ok (.iadd, 1) := by decide +kernel
theorem dX9_edition_211 : decode cX9_edition 211 = .ok (.iload_n 3, 1) := by decide +kernel
theorem dX9_edition_212 : decode cX9_edition 212 = .ok (.iastore, 1) := by decide +kernel
theorem dX9_edition_213 : decode cX9_edition 213 = .ok (.iinc 5 1, 3) := by decide +kernel
theorem dX9_edition_216 : decode cX9_edition 216 = .ok (.goto (-38), 3) := by decide +kernel
theorem dX9_edition_219 : decode cX9_edition 219 = .ok (.aload_n 0, 1) := by decide +kernel
theorem dX9_edition_220 : decode cX9_edition 220 = .ok (.getfield 9, 3) := by decide +kernel
theorem dX9_edition_223 : decode cX9_edition 223 = .ok (.iconst 3, 1) := by decide +kernel
theorem dX9_edition_224 : decode cX9_edition 224 = .ok (.iload_n 1, 1) := by decide +kernel
theorem dX9_edition_225 : decode cX9_edition 225 = .ok (.iadd, 1) := by decide +kernel
theorem dX9_edition_226 : decode cX9_edition 226 = .ok (.iload_n 2, 1) := by decide +kernel
theorem dX9_edition_227 : decode cX9_edition 227 = .ok (.iastore, 1) := by decide +kernel
theorem dX9_edition_228 : decode cX9_edition 228 = .ok (.iload 4, 2) := by decide +kernel
theorem dX9_edition_230 : decode cX9_edition 230 = .ok (.ireturn, 1) := by decide +kernel
theorem dX9_derive_0 : decode cX9_derive 0 = .ok (.aload_n 0, 1) := by decide +kernel
theorem dX9_derive_1 : decode cX9_derive 1 = .ok (.iload_n 1, 1) := by decide +kernel
theorem dX9_derive_2 : decode cX9_derive 2 = .ok (.invokevirtual 112, 3) := by decide +kernel
theorem dX9_derive_5 : decode cX9_derive 5 = .ok (.ifCond .ne 5, 3) := by decide +kernel
theorem dX9_derive_8 : decode cX9_derive 8 = .ok (.iconst (-1), 1) := by decide +kernel
theorem dX9_derive_9 : decode cX9_derive 9 = .ok (.ireturn, 1) := by decide +kernel
theorem dX9_derive_10 : decode cX9_derive 10 = .ok (.aload_n 0, 1) := by decide +kernel
theorem dX9_derive_11 : decode cX9_derive 11 = .ok (.getfield 9, 3) := by decide +kernel
theorem dX9_derive_14 : decode cX9_derive 14 = .ok (.iconst 0, 1) := by decide +kernel
theorem dX9_derive_15 : decode cX9_derive 15 = .ok (.iaload, 1) := by decide +kernel
theorem dX9_derive_16 : decode cX9_derive 16 = .ok (.bipush 6, 2) := by decide +kernel
theorem dX9_derive_18 : decode cX9_derive 18 = .ok (.if_icmp .ne 6, 3) := by decide +kernel
theorem dX9_derive_21 : decode cX9_derive 21 = .ok (.bipush (-4), 2) := by decide +kernel
theorem dX9_derive_23 : decode cX9_derive 23 = .ok (.ireturn, 1) := by decide +kernel
theorem dX9_derive_24 : decode cX9_derive 24 = .ok (.aload_n 0, 1) := by decide +kernel
theorem dX9_derive_25 : decode cX9_derive 25 = .ok (.invokevirtual 129, 3) := by decide +kernel
theorem dX9_derive_28 : decode cX9_derive 28 = .ok (.aload_n 0, 1) := by decide +kernel
theorem dX9_derive_29 : decode cX9_derive 29 = .ok (.getfield 9, 3) := by decide +kernel
theorem dX9_derive_32 : decode cX9_derive 32 = .ok (.iconst 0, 1) := by decide +kernel
theorem dX9_derive_33 : decode cX9_derive 33 = .ok (.iaload, 1) := by decide +kernel
theorem dX9_derive_34 : decode cX9_derive 34 = .ok (.istore_n 2, 1) := by decide +kernel
theorem dX9_derive_35 : decode cX9_derive 35 = .ok (.aload_n 0, 1) := by decide +kernel
theorem dX9_derive_36 : decode cX9_derive 36 = .ok (.getfield 9, 3) := by decide +kernel
theorem dX9_derive_39 : decode cX9_derive 39 = .ok (.iconst 0, 1) := by decide +kernel
theorem dX9_derive_40 : decode cX9_derive 40 = .ok (.dup2, 1) := by decide +kernel
theorem dX9_derive_41 : decode cX9_derive 41 = .ok (.iaload, 1) := by decide +kernel
theorem dX9_derive_42 : decode cX9_derive 42 = .ok (.iconst 1, 1) := by decide +kernel
theorem dX9_derive_43 : decode cX9_derive 43 = .ok (.iadd, 1) := by decide +kernel
theorem dX9_derive_44 : decode cX9_derive 44 = .ok (.iastore, 1) := by decide +kernel
theorem dX9_derive_45 : decode cX9_derive 45 = .ok (.iconst 0, 1) := by decide +kernel
theorem dX9_derive_46 : decode cX9_derive 46 = .ok (.istore_n 3, 1) := by decide +kernel
theorem dX9_derive_47 : decode cX9_derive 47 = .ok (.iload_n 3, 1) := by decide +kernel
theorem dX9_derive_48 : decode cX9_derive 48 = .ok (.sipush 813, 3) := by decide +kernel
theorem dX9_derive_51 : decode cX9_derive 51 = .ok (.if_icmp .ge 44, 3) := by decide +kernel
theorem dX9_derive_54 : decode cX9_derive 54 = .ok (.aload_n 0, 1) := by decide +kernel
theorem dX9_derive_55 : decode cX9_derive 55 = .ok (.getfield 9, 3) := by decide +kernel
theorem dX9_derive_58 : decode cX9_derive 58 = .ok (.iload_n 2, 1) := by decide +kernel
theorem dX9_derive_59 : decode cX9_derive 59 = .ok (.iload_n 3, 1) := by decide +kernel
theorem dX9_derive_60 : decode cX9_derive 60 = .ok (.invokestatic 105, 3) := by decide +kernel
theorem dX9_derive_63 : decode cX9_derive 63 = .ok (.iload_n 3, 1) := by decide +kernel
theorem dX9_derive_64 : decode cX9_derive 64 = .ok (.iconst 3, 1) := by decide +kernel
theorem dX9_derive_65 : decode cX9_derive 65 = .ok (.if_icmp .lt 13, 3) := by decide +kernel
theorem dX9_derive_68 : decode cX9_derive 68 = .ok (.iload_n 3, 1) := by decide +kernel
theorem dX9_derive_69 : decode cX9_derive 69 = .ok (.bipush 21, 2) := by decide +kernel
theorem dX9_derive_71 : decode cX9_derive 71 = .ok (.if_icmp .ge 7, 3) := by decide +kernel
theorem dX9_derive_74 : decode cX9_derive 74 = .ok (.iconst 0, 1) := by decide +kernel
theorem dX9_derive_75 : decode cX9_derive 75 = .ok (.goto 13, 3) := by decide +kernel
theorem dX9_derive_78 : decode cX9_derive 78 = .ok (.aload_n 0, 1) := by decide +kernel
theorem dX9_derive_79 : decode cX9_derive 79 = .ok (.getfield 9, 3) := by decide +kernel
theorem dX9_derive_82 : decode cX9_derive 82 = .ok (.iload_n 1, 1) := by decide +kernel
theorem dX9_derive_83 : decode cX9_derive 83 = .ok (.iload_n 3, 1) := by decide +kernel
theorem dX9_derive_84 : decode cX9_derive 84 = .ok (.invokestatic 105, 3) := by decide +kernel
theorem dX9_derive_87 : decode cX9_derive 87 = .ok (.iaload, 1) := by decide +kernel
theorem dX9_derive_88 : decode cX9_derive 88 = .ok (.iastore, 1) := by decide +kernel
theorem dX9_derive_89 : decode cX9_derive 89 = .ok (.iinc 3 1, 3) := by decide +kernel
theorem dX9_derive_92 : decode cX9_derive 92 = .ok (.goto (-45), 3) := by decide +kernel
theorem dX9_derive_95 : decode cX9_derive 95 = .ok (.aload_n 0, 1) := by decide +kernel
theorem dX9_derive_96 : decode cX9_derive 96 = .ok (.getfield 9, 3) := by decide +kernel
theorem dX9_derive_99 : decode cX9_derive 99 = .ok (.iload_n 2, 1) := by decide +kernel
theorem dX9_derive_100 : decode cX9_derive 100 = .ok (.iconst 2, 1) := by decide +kernel
theorem dX9_derive_101 : decode cX9_derive 101 = .ok (.invokestatic 105, 3) := by decide +kernel
theorem dX9_derive_104 : decode cX9_derive 104 = .ok (.iload_n 1, 1) := by decide +kernel
theorem dX9_derive_105 : decode cX9_derive 105 = .ok (.iastore, 1) := by decide +kernel
theorem dX9_derive_106 : decode cX9_derive 106 = .ok (.iload_n 2, 1) := by decide +kernel
theorem dX9_derive_107 : decode cX9_derive 107 = .ok (.ireturn, 1) := by decide +kernel
theorem dX9_movesBar_0 : decode cX9_movesBar 0 = .ok (.iconst 0, 1) := by decide +kernel
theorem dX9_movesBar_1 : decode cX9_movesBar 1 = .ok (.istore 4, 2) := by decide +kernel
theorem dX9_movesBar_3 : decode cX9_movesBar 3 = .ok (.iload 4, 2) := by decide +kernel
theorem dX9_movesBar_5 : decode cX9_movesBar 5 = .ok (.bipush 8, 2) := by decide +kernel
theorem dX9_movesBar_7 : decode cX9_movesBar 7 = .ok (.if_icmp .ge 35, 3) := by decide +kernel
theorem dX9_movesBar_10 : decode cX9_movesBar 10 = .ok (.aload_n 0, 1) := by decide +kernel
theorem dX9_movesBar_11 : decode cX9_movesBar 11 = .ok (.getfield 9, 3) := by decide +kernel
theorem dX9_movesBar_14 : decode cX9_movesBar 14 = .ok (.iload_n 1, 1) := by decide +kernel
theorem dX9_movesBar_15 : decode cX9_movesBar 15 = .ok (.iload_n 3, 1) := by decide +kernel
theorem dX9_movesBar_16 : decode cX9_movesBar 16 = .ok (.invokestatic 132, 3) := by decide +kernel
theorem dX9_movesBar_19 : decode cX9_movesBar 19 = .ok (.iload 4, 2) := by decide +kernel
theorem dX9_movesBar_21 : decode cX9_movesBar 21 = .ok (.iadd, 1) := by decide +kernel
theorem dX9_movesBar_22 : decode cX9_movesBar 22 = .ok (.aload_n 0, 1) := by decide +kernel
theorem dX9_movesBar_23 : decode cX9_movesBar 23 = .ok (.getfield 9, 3) := by decide +kernel
theorem dX9_movesBar_26 : decode cX9_movesBar 26 = .ok (.iload_n 1, 1) := by decide +kernel
theorem dX9_movesBar_27 : decode cX9_movesBar 27 = .ok (.iload_n 2, 1) := by decide +kernel
theorem dX9_movesBar_28 : decode cX9_movesBar 28 = .ok (.invokestatic 132, 3) := by decide +kernel
theorem dX9_movesBar_31 : decode cX9_movesBar 31 = .ok (.iload 4, 2) := by decide +kernel
theorem dX9_movesBar_33 : decode cX9_movesBar 33 = .ok (.iadd, 1) := by decide +kernel
theorem dX9_movesBar_34 : decode cX9_movesBar 34 = .ok (.iaload, 1) := by decide +kernel
theorem dX9_movesBar_35 : decode cX9_movesBar 35 = .ok (.iastore, 1) := by decide +kernel
theorem dX9_movesBar_36 : decode cX9_movesBar 36 = .ok (.iinc 4 1, 3) := by decide +kernel
theorem dX9_movesBar_39 : decode cX9_movesBar 39 = .ok (.goto (-36), 3) := by decide +kernel
theorem dX9_movesBar_42 : decode cX9_movesBar 42 = .ok (.return_, 1) := by decide +kernel
theorem dX9_cut_0 : decode cX9_cut 0 = .ok (.aload_n 0, 1) := by decide +kernel
theorem dX9_cut_1 : decode cX9_cut 1 = .ok (.iload_n 1, 1) := by decide +kernel
theorem dX9_cut_2 : decode cX9_cut 2 = .ok (.iload_n 2, 1) := by decide +kernel
theorem dX9_cut_3 : decode cX9_cut 3 = .ok (.invokevirtual 135, 3) := by decide +kernel
theorem dX9_cut_6 : decode cX9_cut 6 = .ok (.ifCond .eq 12, 3) := by decide +kernel
theorem dX9_cut_9 : decode cX9_cut 9 = .ok (.aload_n 0, 1) := by decide +kernel
theorem dX9_cut_10 : decode cX9_cut 10 = .ok (.iload_n 1, 1) := by decide +kernel
theorem dX9_cut_11 : decode cX9_cut 11 = .ok (.iload_n 3, 1) := by decide +kernel
theorem dX9_cut_12 : decode cX9_cut 12 = .ok (.invokevirtual 135, 3) := by decide +kernel
theorem dX9_cut_15 : decode cX9_cut 15 = .ok (.ifCond .ne 5, 3) := by decide +kernel
theorem dX9_cut_18 : decode cX9_cut 18 = .ok (.iconst (-1), 1) := by decide +kernel
theorem dX9_cut_19 : decode cX9_cut 19 = .ok (.ireturn, 1) := by decide +kernel
theorem dX9_cut_20 : decode cX9_cut 20 = .ok (.iload_n 3, 1) := by decide +kernel
theorem dX9_cut_21 : decode cX9_cut 21 = .ok (.iload_n 2, 1) := by decide +kernel
theorem dX9_cut_22 : decode cX9_cut 22 = .ok (.if_icmp .lt 16, 3) := by decide +kernel
theorem dX9_cut_25 : decode cX9_cut 25 = .ok (.iload_n 3, 1) := by decide +kernel
theorem dX9_cut_26 : decode cX9_cut 26 = .ok (.iload_n 2, 1) := by decide +kernel
theorem dX9_cut_27 : decode cX9_cut 27 = .ok (.isub, 1) := by decide +kernel
theorem dX9_cut_28 : decode cX9_cut 28 = .ok (.iconst 1, 1) := by decide +kernel
theorem dX9_cut_29 : decode cX9_cut 29 = .ok (.iadd, 1) := by decide +kernel
theorem dX9_cut_30 : decode cX9_cut 30 = .ok (.aload_n 0, 1) := by decide +kernel
theorem dX9_cut_31 : decode cX9_cut 31 = .ok (.iload_n 1, 1) := by decide +kernel
theorem dX9_cut_32 : decode cX9_cut 32 = .ok (.invokevirtual 116, 3) := by decide +kernel
theorem dX9_cut_35 : decode cX9_cut 35 = .ok (.if_icmp .ne 6, 3) := by decide +kernel
theorem dX9_cut_38 : decode cX9_cut 38 = .ok (.bipush (-2), 2) := by decide +kernel
theorem dX9_cut_40 : decode cX9_cut 40 = .ok (.ireturn, 1) := by decide +kernel
theorem dX9_cut_41 : decode cX9_cut 41 = .ok (.aload_n 0, 1) := by decide +kernel
theorem dX9_cut_42 : decode cX9_cut 42 = .ok (.iload_n 1, 1) := by decide +kernel
theorem dX9_cut_43 : decode cX9_cut 43 = .ok (.invokevirtual 139, 3) := by decide +kernel
theorem dX9_cut_46 : decode cX9_cut 46 = .ok (.ifCond .le 9, 3) := by decide +kernel
theorem dX9_cut_49 : decode cX9_cut 49 = .ok (.aload_n 0, 1) := by decide +kernel
theorem dX9_cut_50 : decode cX9_cut 50 = .ok (.iconst 4, 1) := by decide +kernel
theorem dX9_cut_51 : decode cX9_cut 51 = .ok (.invokevirtual 142, 3) := by decide +kernel
theorem dX9_cut_54 : decode cX9_cut 54 = .ok (.ireturn, 1) := by decide +kernel
theorem dX9_cut_55 : decode cX9_cut 55 = .ok (.aload_n 0, 1) := by decide +kernel
theorem dX9_cut_56 : decode cX9_cut 56 = .ok (.invokevirtual 129, 3) := by decide +kernel
theorem dX9_cut_59 : decode cX9_cut 59 = .ok (.iload_n 3, 1) := by decide +kernel
theorem dX9_cut_60 : decode cX9_cut 60 = .ok (.iload_n 2, 1) := by decide +kernel
theorem dX9_cut_61 : decode cX9_cut 61 = .ok (.isub, 1) := by decide +kernel
theorem dX9_cut_62 : decode cX9_cut 62 = .ok (.iconst 1, 1) := by decide +kernel
theorem dX9_cut_63 : decode cX9_cut 63 = .ok (.iadd, 1) := by decide +kernel
theorem dX9_cut_64 : decode cX9_cut 64 = .ok (.istore 4, 2) := by decide +kernel
theorem dX9_cut_66 : decode cX9_cut 66 = .ok (.iload_n 3, 1) := by decide +kernel
theorem dX9_cut_67 : decode cX9_cut 67 = .ok (.iconst 1, 1) := by decide +kernel
theorem dX9_cut_68 : decode cX9_cut 68 = .ok (.iadd, 1) := by decide +kernel
theorem dX9_cut_69 : decode cX9_cut 69 = .ok (.istore 5, 2) := by decide +kernel
theorem dX9_cut_71 : decode cX9_cut 71 = .ok (.iload 5, 2) := by decide +kernel
theorem dX9_cut_73 : decode cX9_cut 73 = .ok (.aload_n 0, 1) := by decide +kernel
theorem dX9_cut_74 : decode cX9_cut 74 = .ok (.iload_n 1, 1) := by decide +kernel
theorem dX9_cut_75 : decode cX9_cut 75 = .ok (.invokevirtual 116, 3) := by decide +kernel
theorem dX9_cut_78 : decode cX9_cut 78 = .ok (.if_icmp .gt 21, 3) := by decide +kernel
theorem dX9_cut_81 : decode cX9_cut 81 = .ok (.aload_n 0, 1) := by decide +kernel
theorem dX9_cut_82 : decode cX9_cut 82 = .ok (.iload_n 1, 1) := by decide +kernel
theorem dX9_cut_83 : decode cX9_cut 83 = .ok (.iload 5, 2) := by decide +kernel
theorem dX9_cut_85 : decode cX9_cut 85 = .ok (.iload 5, 2) := by decide +kernel
theorem dX9_cut_87 : decode cX9_cut 87 = .ok (.iload 4, 2) := by decide +kernel
theorem dX9_cut_89 : decode cX9_cut 89 = .ok (.isub, 1) := by decide +kernel
theorem dX9_cut_90 : decode cX9_cut 90 = .ok (.invokevirtual 145, 3) := by decide +kernel
theorem dX9_cut_93 : decode cX9_cut 93 = .ok (.iinc 5 1, 3) := by decide +kernel
theorem dX9_cut_96 : decode cX9_cut 96 = .ok (.goto (-25), 3) := by decide +kernel
theorem dX9_cut_99 : decode cX9_cut 99 = .ok (.aload_n 0, 1) := by decide +kernel
theorem dX9_cut_100 : decode cX9_cut 100 = .ok (.getfield 9, 3) := by decide +kernel
theorem dX9_cut_103 : decode cX9_cut 103 = .ok (.iload_n 1, 1) := by decide +kernel
theorem dX9_cut_104 : decode cX9_cut 104 = .ok (.iconst 1, 1) := by decide +kernel
theorem dX9_cut_105 : decode cX9_cut 105 = .ok (.invokestatic 105, 3) := by decide +kernel
theorem dX9_cut_108 : decode cX9_cut 108 = .ok (.dup2, 1) := by decide +kernel
theorem dX9_cut_109 : decode cX9_cut 109 = .ok (.iaload, 1) := by decide +kernel
theorem dX9_cut_110 : decode cX9_cut 110 = .ok (.iload 4, 2) := by decide +kernel
theorem dX9_cut_112 : decode cX9_cut 112 = .ok (.isub, 1) := by decide +kernel
theorem dX9_cut_113 : decode cX9_cut 113 = .ok (.iastore, 1) := by decide +kernel
theorem dX9_cut_114 : decode cX9_cut 114 = .ok (.aload_n 0, 1) := by decide +kernel
theorem dX9_cut_115 : decode cX9_cut 115 = .ok (.iload_n 1, 1) := by decide +kernel
theorem dX9_cut_116 : decode cX9_cut 116 = .ok (.invokevirtual 116, 3) := by decide +kernel
theorem dX9_cut_119 : decode cX9_cut 119 = .ok (.ireturn, 1) := by decide +kernel
theorem dX9_insert_0 : decode cX9_insert 0 = .ok (.aload_n 0, 1) := by decide +kernel
theorem dX9_insert_1 : decode cX9_insert 1 = .ok (.iload_n 1, 1) := by decide +kernel
theorem dX9_insert_2 : decode cX9_insert 2 = .ok (.invokevirtual 112, 3) := by decide +kernel
theorem dX9_insert_5 : decode cX9_insert 5 = .ok (.ifCond .eq 16, 3) := by decide +kernel
theorem dX9_insert_8 : decode cX9_insert 8 = .ok (.iload_n 2, 1) := by decide +kernel
theorem dX9_insert_9 : decode cX9_insert 9 = .ok (.iconst 0, 1) := by decide +kernel
theorem dX9_insert_10 : decode cX9_insert 10 = .ok (.aload_n 0, 1) := by decide +kernel
theorem dX9_insert_11 : decode cX9_insert 11 = .ok (.iload_n 1, 1) := by decide +kernel
theorem dX9_insert_12 : decode cX9_insert 12 = .ok (.invokevirtual 116, 3) := by decide +kernel
theorem dX9_insert_15 : decode cX9_insert 15 = .ok (.invokestatic 108, 3) := by decide +kernel
theorem dX9_insert_18 : decode cX9_insert 18 = .ok (.ifCond .ne 5, 3) := by decide +kernel
theorem dX9_insert_21 : decode cX9_insert 21 = .ok (.iconst (-1), 1) := by decide +kernel
theorem dX9_insert_22 : decode cX9_insert 22 = .ok (.ireturn, 1) := by decide +kernel
theorem dX9_insert_23 : decode cX9_insert 23 = .ok (.iload_n 3, 1) := by decide +kernel
theorem dX9_insert_24 : decode cX9_insert 24 = .ok (.iconst 1, 1) := by decide +kernel
theorem dX9_insert_25 : decode cX9_insert 25 = .ok (.bipush 99, 2) := by decide +kernel
theorem dX9_insert_27 : decode cX9_insert 27 = .ok (.invokestatic 108, 3) := by decide +kernel
theorem dX9_insert_30 : decode cX9_insert 30 = .ok (.ifCond .eq 14, 3) := by decide +kernel
theorem dX9_insert_33 : decode cX9_insert 33 = .ok (.iload 4, 2) := by decide +kernel
theorem dX9_insert_35 : decode cX9_insert 35 = .ok (.iconst 1, 1) := by decide +kernel
theorem dX9_insert_36 : decode cX9_insert 36 = .ok (.bipush 9, 2) := by decide +kernel
theorem dX9_insert_38 : decode cX9_insert 38 = .ok (.invokestatic 108, 3) := by decide +kernel
theorem dX9_insert_41 : decode cX9_insert 41 = .ok (.ifCond .ne 6, 3) := by decide +kernel
theorem dX9_insert_44 : decode cX9_insert 44 = .ok (.bipush (-2), 2) := by decide +kernel
theorem dX9_insert_46 : decode cX9_insert 46 = .ok (.ireturn, 1) := by decide +kernel
theorem dX9_insert_47 : decode cX9_insert 47 = .ok (.aload_n 0, 1) := by decide +kernel
theorem dX9_insert_48 : decode cX9_insert 48 = .ok (.iload_n 1, 1) := by decide +kernel
theorem dX9_insert_49 : decode cX9_insert 49 = .ok (.invokevirtual 116, 3) := by decide +kernel
theorem dX9_insert_52 : decode cX9_insert 52 = .ok (.iload_n 3, 1) := by decide +kernel
theorem dX9_insert_53 : decode cX9_insert 53 = .ok (.iadd, 1) := by decide +kernel
theorem dX9_insert_54 : decode cX9_insert 54 = .ok (.bipush 99, 2) := by decide +kernel
theorem dX9_insert_56 : decode cX9_insert 56 = .ok (.if_icmp .le 6, 3) := by decide +kernel
theorem dX9_insert_59 : decode cX9_insert 59 = .ok (.bipush (-4), 2) := by decide +kernel
theorem dX9_insert_61 : decode cX9_insert 61 = .ok (.ireturn, 1) := by decide +kernel
theorem dX9_insert_62 : decode cX9_insert 62 = .ok (.aload_n 0, 1) := by decide +kernel
theorem dX9_insert_63 : decode cX9_insert 63 = .ok (.iload_n 1, 1) := by decide +kernel
theorem dX9_insert_64 : decode cX9_insert 64 = .ok (.invokevirtual 139, 3) := by decide +kernel
theorem dX9_insert_67 : decode cX9_insert 67 = .ok (.ifCond .le 9, 3) := by decide +kernel
theorem dX9_insert_70 : decode cX9_insert 70 = .ok (.aload_n 0, 1) := by decide +kernel
theorem dX9_insert_71 : decode cX9_insert 71 = .ok (.iconst 4, 1) := by decide +kernel
theorem dX9_insert_72 : decode cX9_insert 72 = .ok (.invokevirtual 142, 3) := by decide +kernel
theorem dX9_insert_75 : decode cX9_insert 75 = .ok (.ireturn, 1) := by decide +kernel
theorem dX9_insert_76 : decode cX9_insert 76 = .ok (.aload_n 0, 1) := by decide +kernel
theorem dX9_insert_77 : decode cX9_insert 77 = .ok (.invokevirtual 129, 3) := by decide +kernel
theorem dX9_insert_80 : decode cX9_insert 80 = .ok (.aload_n 0, 1) := by decide +kernel
theorem dX9_insert_81 : decode cX9_insert 81 = .ok (.getfield 9, 3) := by decide +kernel
theorem dX9_insert_84 : decode cX9_insert 84 = .ok (.iload_n 1, 1) := by decide +kernel
theorem dX9_insert_85 : decode cX9_insert 85 = .ok (.iconst 0, 1) := by decide +kernel
theorem dX9_insert_86 : decode cX9_insert 86 = .ok (.invokestatic 105, 3) := by decide +kernel
theorem dX9_insert_89 : decode cX9_insert 89 = .ok (.iaload, 1) := by decide +kernel
theorem dX9_insert_90 : decode cX9_insert 90 = .ok (.istore 5, 2) := by decide +kernel
theorem dX9_insert_92 : decode cX9_insert 92 = .ok (.aload_n 0, 1) := by decide +kernel
theorem dX9_insert_93 : decode cX9_insert 93 = .ok (.iload_n 1, 1) := by decide +kernel
theorem dX9_insert_94 : decode cX9_insert 94 = .ok (.invokevirtual 116, 3) := by decide +kernel
theorem dX9_insert_97 : decode cX9_insert 97 = .ok (.istore 6, 2) := by decide +kernel
theorem dX9_insert_99 : decode cX9_insert 99 = .ok (.iload 6, 2) := by decide +kernel
theorem dX9_insert_101 : decode cX9_insert 101 = .ok (.iload_n 2, 1) := by decide +kernel
theorem dX9_insert_102 : decode cX9_insert 102 = .ok (.if_icmp .le 20, 3) := by decide +kernel
theorem dX9_insert_105 : decode cX9_insert 105 = .ok (.aload_n 0, 1) := by decide +kernel
theorem dX9_insert_106 : decode cX9_insert 106 = .ok (.iload_n 1, 1) := by decide +kernel
theorem dX9_insert_107 : decode cX9_insert 107 = .ok (.iload 6, 2) := by decide +kernel
theorem dX9_insert_109 : decode cX9_insert 109 = .ok (.iload 6, 2) := by decide +kernel
theorem dX9_insert_111 : decode cX9_insert 111 = .ok (.iload_n 3, 1) := by decide +kernel
theorem dX9_insert_112 : decode cX9_insert 112 = .ok (.iadd, 1) := by decide +kernel
theorem dX9_insert_113 : decode cX9_insert 113 = .ok (.invokevirtual 145, 3) := by decide +kernel
theorem dX9_insert_116 : decode cX9_insert 116 = .ok (.iinc 6 (-1), 3) := by decide +kernel
theorem dX9_insert_119 : decode cX9_insert 119 = .ok (.goto (-20), 3) := by decide +kernel
theorem dX9_insert_122 : decode cX9_insert 122 = .ok (.aload_n 0, 1) := by decide +kernel
theorem dX9_insert_123 : decode cX9_insert 123 = .ok (.getfield 9, 3) := by decide +kernel
theorem dX9_insert_126 : decode cX9_insert 126 = .ok (.iload_n 1, 1) := by decide +kernel
theorem dX9_insert_127 : decode cX9_insert 127 = .ok (.iconst 1, 1) := by decide +kernel
theorem dX9_insert_128 : decode cX9_insert 128 = .ok (.invokestatic 105, 3) := by decide +kernel
theorem dX9_insert_131 : decode cX9_insert 131 = .ok (.dup2, 1) := by decide +kernel
theorem dX9_insert_132 : decode cX9_insert 132 = .ok (.iaload, 1) := by decide +kernel
theorem dX9_insert_133 : decode cX9_insert 133 = .ok (.iload_n 3, 1) := by decide +kernel
theorem dX9_insert_134 : decode cX9_insert 134 = .ok (.iadd, 1) := by decide +kernel
theorem dX9_insert_135 : decode cX9_insert 135 = .ok (.iastore, 1) := by decide +kernel
theorem dX9_insert_136 : decode cX9_insert 136 = .ok (.iload_n 2, 1) := by decide +kernel
theorem dX9_insert_137 : decode cX9_insert 137 = .ok (.iconst 1, 1) := by decide +kernel
theorem dX9_insert_138 : decode cX9_insert 138 = .ok (.iadd, 1) := by decide +kernel
theorem dX9_insert_139 : decode cX9_insert 139 = .ok (.istore 6, 2) := by decide +kernel
theorem dX9_insert_141 : decode cX9_insert 141 = .ok (.iload 6, 2) := by decide +kernel
theorem dX9_insert_143 : decode cX9_insert 143 = .ok (.iload_n 2, 1) := by decide +kernel
theorem dX9_insert_144 : decode cX9_insert 144 = .ok (.iload_n 3, 1) := by decide +kernel
theorem dX9_insert_145 : decode cX9_insert 145 = .ok (.iadd, 1) := by decide +kernel
theorem dX9_insert_146 : decode cX9_insert 146 = .ok (.if_icmp .gt 88, 3) := by decide +kernel
theorem dX9_insert_149 : decode cX9_insert 149 = .ok (.iconst 0, 1) := by decide +kernel
theorem dX9_insert_150 : decode cX9_insert 150 = .ok (.istore 7, 2) := by decide +kernel
theorem dX9_insert_152 : decode cX9_insert 152 = .ok (.iload 7, 2) := by decide +kernel
theorem dX9_insert_154 : decode cX9_insert 154 = .ok (.bipush 8, 2) := by decide +kernel
theorem dX9_insert_156 : decode cX9_insert 156 = .ok (.if_icmp .ge 24, 3) := by decide +kernel
theorem dX9_insert_159 : decode cX9_insert 159 = .ok (.aload_n 0, 1) := by decide +kernel
theorem dX9_insert_160 : decode cX9_insert 160 = .ok (.getfield 9, 3) := by decide +kernel
theorem dX9_insert_163 : decode cX9_insert 163 = .ok (.iload_n 1, 1) := by decide +kernel
theorem dX9_insert_164 : decode cX9_insert 164 = .ok (.iload 6, 2) := by decide +kernel
theorem dX9_insert_166 : decode cX9_insert 166 = .ok (.invokestatic 132, 3) := by decide +kernel
theorem dX9_insert_169 : decode cX9_insert 169 = .ok (.iload 7, 2) := by decide +kernel
theorem dX9_insert_171 : decode cX9_insert 171 = .ok (.iadd, 1) := by decide +kernel
theorem dX9_insert_172 : decode cX9_insert 172 = .ok (.iconst 0, 1) := by decide +kernel
theorem dX9_insert_173 : decode cX9_insert 173 = .ok (.iastore, 1) := by decide +kernel
theorem dX9_insert_174 : decode cX9_insert 174 = .ok (.iinc 7 1, 3) := by decide +kernel
theorem dX9_insert_177 : decode cX9_insert 177 = .ok (.goto (-25), 3) := by decide +kernel
theorem dX9_insert_180 : decode cX9_insert 180 = .ok (.aload_n 0, 1) := by decide +kernel
theorem dX9_insert_181 : decode cX9_insert 181 = .ok (.getfield 9, 3) := by decide +kernel
theorem dX9_insert_184 : decode cX9_insert 184 = .ok (.iconst 3, 1) := by decide +kernel
theorem dX9_insert_185 : decode cX9_insert 185 = .ok (.iload 5, 2) := by decide +kernel
theorem dX9_insert_187 : decode cX9_insert 187 = .ok (.iadd, 1) := by decide +kernel
theorem dX9_insert_188 : decode cX9_insert 188 = .ok (.dup2, 1) := by decide +kernel
theorem dX9_insert_189 : decode cX9_insert 189 = .ok (.iaload, 1) := by decide +kernel
theorem dX9_insert_190 : decode cX9_insert 190 = .ok (.iconst 1, 1) := by decide +kernel
theorem dX9_insert_191 : decode cX9_insert 191 = .ok (.iadd, 1) := by decide +kernel
theorem dX9_insert_192 : decode cX9_insert 192 = .ok (.iastore, 1) := by decide +kernel
theorem dX9_insert_193 : decode cX9_insert 193 = .ok (.aload_n 0, 1) := by decide +kernel
theorem dX9_insert_194 : decode cX9_insert 194 = .ok (.getfield 9, 3) := by decide +kernel
theorem dX9_insert_197 : decode cX9_insert 197 = .ok (.iload_n 1, 1) := by decide +kernel
theorem dX9_insert_198 : decode cX9_insert 198 = .ok (.iload 6, 2) := by decide +kernel
theorem dX9_insert_200 : decode cX9_insert 200 = .ok (.invokestatic 132, 3) := by decide +kernel
theorem dX9_insert_203 : decode cX9_insert 203 = .ok (.aload_n 0, 1) := by decide +kernel
theorem dX9_insert_204 : decode cX9_insert 204 = .ok (.getfield 9, 3) := by decide +kernel
theorem dX9_insert_207 : decode cX9_insert 207 = .ok (.iconst 3, 1) := by decide +kernel
theorem dX9_insert_208 : decode cX9_insert 208 = .ok (.iload 5, 2) := by decide +kernel
theorem dX9_insert_210 : decode cX9_insert 210 = .ok (.iadd, 1) := by decide +kernel
theorem dX9_insert_211 : decode cX9_insert 211 = .ok (.iaload, 1) := by decide +kernel
theorem dX9_insert_212 : decode cX9_insert 212 = .ok (.iastore, 1) := by decide +kernel
theorem dX9_insert_213 : decode cX9_insert 213 = .ok (.aload_n 0, 1) := by decide +kernel
theorem dX9_insert_214 : decode cX9_insert 214 = .ok (.getfield 9, 3) := by decide +kernel
theorem dX9_insert_217 : decode cX9_insert 217 = .ok (.iload_n 1, 1) := by decide +kernel
theorem dX9_insert_218 : decode cX9_insert 218 = .ok (.iload 6, 2) := by decide +kernel
theorem dX9_insert_220 : decode cX9_insert 220 = .ok (.invokestatic 132, 3) := by decide +kernel
theorem dX9_insert_223 : decode cX9_insert 223 = .ok (.iconst 2, 1) := by decide +kernel
theorem dX9_insert_224 : decode cX9_insert 224 = .ok (.iadd, 1) := by decide +kernel
theorem dX9_insert_225 : decode cX9_insert 225 = .ok (.iload 4, 2) := by decide +kernel
theorem dX9_insert_227 : decode cX9_insert 227 = .ok (.iastore, 1) := by decide +kernel
theorem dX9_insert_228 : decode cX9_insert 228 = .ok (.iinc 6 1, 3) := by decide +kernel
theorem dX9_insert_231 : decode cX9_insert 231 = .ok (.goto (-90), 3) := by decide +kernel
theorem dX9_insert_234 : decode cX9_insert 234 = .ok (.aload_n 0, 1) := by decide +kernel
theorem dX9_insert_235 : decode cX9_insert 235 = .ok (.iload_n 1, 1) := by decide +kernel
theorem dX9_insert_236 : decode cX9_insert 236 = .ok (.invokevirtual 116, 3) := by decide +kernel
theorem dX9_insert_239 : decode cX9_insert 239 = .ok (.ireturn, 1) := by decide +kernel
theorem dX9_rework_0 : decode cX9_rework 0 = .ok (.aload_n 0, 1) := by decide +kernel
theorem dX9_rework_1 : decode cX9_rework 1 = .ok (.iload_n 1, 1) := by decide +kernel
theorem dX9_rework_2 : decode cX9_rework 2 = .ok (.iload_n 2, 1) := by decide +kernel
theorem dX9_rework_3 : decode cX9_rework 3 = .ok (.invokevirtual 135, 3) := by decide +kernel
theorem dX9_rework_6 : decode cX9_rework 6 = .ok (.ifCond .ne 5, 3) := by decide +kernel
theorem dX9_rework_9 : decode cX9_rework 9 = .ok (.iconst (-1), 1) := by decide +kernel
theorem dX9_rework_10 : decode cX9_rework 10 = .ok (.ireturn, 1) := by decide +kernel
theorem dX9_rework_11 : decode cX9_rework 11 = .ok (.iload_n 3, 1) := by decide +kernel
theorem dX9_rework_12 : decode cX9_rework 12 = .ok (.iconst 1, 1) := by decide +kernel
theorem dX9_rework_13 : decode cX9_rework 13 = .ok (.bipush 9, 2) := by decide +kernel
theorem dX9_rework_15 : decode cX9_rework 15 = .ok (.invokestatic 108, 3) := by decide +kernel
theorem dX9_rework_18 : decode cX9_rework 18 = .ok (.ifCond .ne 6, 3) := by decide +kernel
theorem dX9_rework_21 : decode cX9_rework 21 = .ok (.bipush (-2), 2) := by decide +kernel
theorem dX9_rework_23 : decode cX9_rework 23 = .ok (.ireturn, 1) := by decide +kernel
theorem dX9_rework_24 : decode cX9_rework 24 = .ok (.aload_n 0, 1) := by decide +kernel
theorem dX9_rework_25 : decode cX9_rework 25 = .ok (.iload_n 1, 1) := by decide +kernel
theorem dX9_rework_26 : decode cX9_rework 26 = .ok (.invokevirtual 139, 3) := by decide +kernel
theorem dX9_rework_29 : decode cX9_rework 29 = .ok (.ifCond .le 9, 3) := by decide +kernel
theorem dX9_rework_32 : decode cX9_rework 32 = .ok (.aload_n 0, 1) := by decide +kernel
theorem dX9_rework_33 : decode cX9_rework 33 = .ok (.iconst 4, 1) := by decide +kernel
theorem dX9_rework_34 : decode cX9_rework 34 = .ok (.invokevirtual 142, 3) := by decide +kernel
theorem dX9_rework_37 : decode cX9_rework 37 = .ok (.ireturn, 1) := by decide +kernel
theorem dX9_rework_38 : decode cX9_rework 38 = .ok (.aload_n 0, 1) := by decide +kernel
theorem dX9_rework_39 : decode cX9_rework 39 = .ok (.invokevirtual 129, 3) := by decide +kernel
theorem dX9_rework_42 : decode cX9_rework 42 = .ok (.aload_n 0, 1) := by decide +kernel
theorem dX9_rework_43 : decode cX9_rework 43 = .ok (.getfield 9, 3) := by decide +kernel
theorem dX9_rework_46 : decode cX9_rework 46 = .ok (.iload_n 1, 1) := by decide +kernel
theorem dX9_rework_47 : decode cX9_rework 47 = .ok (.iconst 0, 1) := by decide +kernel
theorem dX9_rework_48 : decode cX9_rework 48 = .ok (.invokestatic 105, 3) := by decide +kernel
theorem dX9_rework_51 : decode cX9_rework 51 = .ok (.iaload, 1) := by decide +kernel
theorem dX9_rework_52 : decode cX9_rework 52 = .ok (.istore 4, 2) := by decide +kernel
theorem dX9_rework_54 : decode cX9_rework 54 = .ok (.aload_n 0, 1) := by decide +kernel
theorem dX9_rework_55 : decode cX9_rework 55 = .ok (.getfield 9, 3) := by decide +kernel
theorem dX9_rework_58 : decode cX9_rework 58 = .ok (.bipush 7, 2) := by decide +kernel
theorem dX9_rework_60 : decode cX9_rework 60 = .ok (.iload 4, 2) := by decide +kernel
theorem dX9_rework_62 : decode cX9_rework 62 = .ok (.iadd, 1) := by decide +kernel
theorem dX9_rework_63 : decode cX9_rework 63 = .ok (.dup2, 1) := by decide +kernel
theorem dX9_rework_64 : decode cX9_rework 64 = .ok (.iaload, 1) := by decide +kernel
theorem dX9_rework_65 : decode cX9_rework 65 = .ok (.iconst 1, 1) := by decide +kernel
theorem dX9_rework_66 : decode cX9_rework 66 = .ok (.iadd, 1) := by decide +kernel
theorem dX9_rework_67 : decode cX9_rework 67 = .ok (.iastore, 1) := by decide +kernel
theorem dX9_rework_68 : decode cX9_rework 68 = .ok (.aload_n 0, 1) := by decide +kernel
theorem dX9_rework_69 : decode cX9_rework 69 = .ok (.getfield 9, 3) := by decide +kernel
theorem dX9_rework_72 : decode cX9_rework 72 = .ok (.iload_n 1, 1) := by decide +kernel
theorem dX9_rework_73 : decode cX9_rework 73 = .ok (.iload_n 2, 1) := by decide +kernel
theorem dX9_rework_74 : decode cX9_rework 74 = .ok (.invokestatic 132, 3) := by decide +kernel
theorem dX9_rework_77 : decode cX9_rework 77 = .ok (.iconst 1, 1) := by decide +kernel
theorem dX9_rework_78 : decode cX9_rework 78 = .ok (.iadd, 1) := by decide +kernel
theorem dX9_rework_79 : decode cX9_rework 79 = .ok (.aload_n 0, 1) := by decide +kernel
theorem dX9_rework_80 : decode cX9_rework 80 = .ok (.getfield 9, 3) := by decide +kernel
theorem dX9_rework_83 : decode cX9_rework 83 = .ok (.bipush 7, 2) := by decide +kernel
theorem dX9_rework_85 : decode cX9_rework 85 = .ok (.iload 4, 2) := by decide +kernel
theorem dX9_rework_87 : decode cX9_rework 87 = .ok (.iadd, 1) := by decide +kernel
theorem dX9_rework_88 : decode cX9_rework 88 = .ok (.iaload, 1) := by decide +kernel
theorem dX9_rework_89 : decode cX9_rework 89 = .ok (.iastore, 1) := by decide +kernel
theorem dX9_rework_90 : decode cX9_rework 90 = .ok (.aload_n 0, 1) := by decide +kernel
theorem dX9_rework_91 : decode cX9_rework 91 = .ok (.getfield 9, 3) := by decide +kernel
theorem dX9_rework_94 : decode cX9_rework 94 = .ok (.iload_n 1, 1) := by decide +kernel
theorem dX9_rework_95 : decode cX9_rework 95 = .ok (.iload_n 2, 1) := by decide +kernel
theorem dX9_rework_96 : decode cX9_rework 96 = .ok (.invokestatic 132, 3) := by decide +kernel
theorem dX9_rework_99 : decode cX9_rework 99 = .ok (.iconst 2, 1) := by decide +kernel
theorem dX9_rework_100 : decode cX9_rework 100 = .ok (.iadd, 1) := by decide +kernel
theorem dX9_rework_101 : decode cX9_rework 101 = .ok (.iload_n 3, 1) := by decide +kernel
theorem dX9_rework_102 : decode cX9_rework 102 = .ok (.iastore, 1) := by decide +kernel
theorem dX9_rework_103 : decode cX9_rework 103 = .ok (.aload_n 0, 1) := by decide +kernel
theorem dX9_rework_104 : decode cX9_rework 104 = .ok (.getfield 9, 3) := by decide +kernel
theorem dX9_rework_107 : decode cX9_rework 107 = .ok (.bipush 7, 2) := by decide +kernel
theorem dX9_rework_109 : decode cX9_rework 109 = .ok (.iload 4, 2) := by decide +kernel
theorem dX9_rework_111 : decode cX9_rework 111 = .ok (.iadd, 1) := by decide +kernel
theorem dX9_rework_112 : decode cX9_rework 112 = .ok (.iaload, 1) := by decide +kernel
theorem dX9_rework_113 : decode cX9_rework 113 = .ok (.ireturn, 1) := by decide +kernel
theorem dX9_bowingsOf_0 : decode cX9_bowingsOf 0 = .ok (.iconst 0, 1) := by decide +kernel
theorem dX9_bowingsOf_1 : decode cX9_bowingsOf 1 = .ok (.istore_n 2, 1) := by decide +kernel
theorem dX9_bowingsOf_2 : decode cX9_bowingsOf 2 = .ok (.iconst 1, 1) := by decide +kernel
theorem dX9_bowingsOf_3 : decode cX9_bowingsOf 3 = .ok (.istore_n 3, 1) := by decide +kernel
theorem dX9_bowingsOf_4 : decode cX9_bowingsOf 4 = .ok (.iload_n 3, 1) := by decide +kernel
theorem dX9_bowingsOf_5 : decode cX9_bowingsOf 5 = .ok (.aload_n 0, 1) := by decide +kernel
theorem dX9_bowingsOf_6 : decode cX9_bowingsOf 6 = .ok (.iload_n 1, 1) := by decide +kernel
theorem dX9_bowingsOf_7 : decode cX9_bowingsOf 7 = .ok (.invokevirtual 116, 3) := by decide +kernel
theorem dX9_bowingsOf_10 : decode cX9_bowingsOf 10 = .ok (.if_icmp .gt 50, 3) := by decide +kernel
theorem dX9_bowingsOf_13 : decode cX9_bowingsOf 13 = .ok (.iconst 0, 1) := by decide +kernel
theorem dX9_bowingsOf_14 : decode cX9_bowingsOf 14 = .ok (.istore 4, 2) := by decide +kernel
theorem dX9_bowingsOf_16 : decode cX9_bowingsOf 16 = .ok (.iload 4, 2) := by decide +kernel
theorem dX9_bowingsOf_18 : decode cX9_bowingsOf 18 = .ok (.iconst 4, 1) := by decide +kernel
theorem dX9_bowingsOf_19 : decode cX9_bowingsOf 19 = .ok (.if_icmp .ge 35, 3) := by decide +kernel
theorem dX9_bowingsOf_22 : decode cX9_bowingsOf 22 = .ok (.iload_n 2, 1) := by decide +kernel
theorem dX9_bowingsOf_23 : decode cX9_bowingsOf 23 = .ok (.aload_n 0, 1) := by decide +kernel
theorem dX9_bowingsOf_24 : decode cX9_bowingsOf 24 = .ok (.getfield 9, 3) := by decide +kernel
theorem dX9_bowingsOf_27 : decode cX9_bowingsOf 27 = .ok (.iload_n 1, 1) := by decide +kernel
theorem dX9_bowingsOf_28 : decode cX9_bowingsOf 28 = .ok (.iload_n 3, 1) := by decide +kernel
theorem dX9_bowingsOf_29 : decode cX9_bowingsOf 29 = .ok (.invokestatic 132, 3) := by decide +kernel
theorem dX9_bowingsOf_32 : decode cX9_bowingsOf 32 = .ok (.iconst 4, 1) := by decide +kernel
theorem dX9_bowingsOf_33 : decode cX9_bowingsOf 33 = .ok (.iadd, 1) := by decide +kernel
theorem dX9_bowingsOf_34 : decode cX9_bowingsOf 34 = .ok (.iload 4, 2) := by decide +kernel
theorem dX9_bowingsOf_36 : decode cX9_bowingsOf 36 = .ok (.iadd, 1) := by decide +kernel
theorem dX9_bowingsOf_37 : decode cX9_bowingsOf 37 = .ok (.iaload, 1) := by decide +kernel
theorem dX9_bowingsOf_38 : decode cX9_bowingsOf 38 = .ok (.ifCond .le 7, 3) := by decide +kernel
theorem dX9_bowingsOf_41 : decode cX9_bowingsOf 41 = .ok (.iconst 1, 1) := by decide +kernel
theorem dX9_bowingsOf_42 : decode cX9_bowingsOf 42 = .ok (.goto 4, 3) := by decide +kernel
theorem dX9_bowingsOf_45 : decode cX9_bowingsOf 45 = .ok (.iconst 0, 1) := by decide +kernel
theorem dX9_bowingsOf_46 : decode cX9_bowingsOf 46 = .ok (.iadd, 1) := by decide +kernel
theorem dX9_bowingsOf_47 : decode cX9_bowingsOf 47 = .ok (.istore_n 2, 1) := by decide +kernel
theorem dX9_bowingsOf_48 : decode cX9_bowingsOf 48 = .ok (.iinc 4 1, 3) := by decide +kernel
theorem dX9_bowingsOf_51 : decode cX9_bowingsOf 51 = .ok (.goto (-35), 3) := by decide +kernel
theorem dX9_bowingsOf_54 : decode cX9_bowingsOf 54 = .ok (.iinc 3 1, 3) := by decide +kernel
theorem dX9_bowingsOf_57 : decode cX9_bowingsOf 57 = .ok (.goto (-53), 3) := by decide +kernel
theorem dX9_bowingsOf_60 : decode cX9_bowingsOf 60 = .ok (.iload_n 2, 1) := by decide +kernel
theorem dX9_bowingsOf_61 : decode cX9_bowingsOf 61 = .ok (.ireturn, 1) := by decide +kernel
theorem dX9_ofEdition_0 : decode cX9_ofEdition 0 = .ok (.aload_n 0, 1) := by decide +kernel
theorem dX9_ofEdition_1 : decode cX9_ofEdition 1 = .ok (.iload_n 1, 1) := by decide +kernel
theorem dX9_ofEdition_2 : decode cX9_ofEdition 2 = .ok (.invokevirtual 112, 3) := by decide +kernel
theorem dX9_ofEdition_5 : decode cX9_ofEdition 5 = .ok (.ifCond .ne 5, 3) := by decide +kernel
theorem dX9_ofEdition_8 : decode cX9_ofEdition 8 = .ok (.iconst (-1), 1) := by decide +kernel
theorem dX9_ofEdition_9 : decode cX9_ofEdition 9 = .ok (.ireturn, 1) := by decide +kernel
theorem dX9_ofEdition_10 : decode cX9_ofEdition 10 = .ok (.iconst 0, 1) := by decide +kernel
theorem dX9_ofEdition_11 : decode cX9_ofEdition 11 = .ok (.istore_n 3, 1) := by decide +kernel
theorem dX9_ofEdition_12 : decode cX9_ofEdition 12 = .ok (.iload_n 2, 1) := by decide +kernel
theorem dX9_ofEdition_13 : decode cX9_ofEdition 13 = .ok (.tableswitch 156 0 6 #[43, 43, 43, 54, 99, 105, 111], 43) := by decide +kernel
theorem dX9_ofEdition_56 : decode cX9_ofEdition 56 = .ok (.aload_n 0, 1) := by decide +kernel
theorem dX9_ofEdition_57 : decode cX9_ofEdition 57 = .ok (.getfield 9, 3) := by decide +kernel
theorem dX9_ofEdition_60 : decode cX9_ofEdition 60 = .ok (.iload_n 1, 1) := by decide +kernel
theorem dX9_ofEdition_61 : decode cX9_ofEdition 61 = .ok (.iload_n 2, 1) := by decide +kernel
theorem dX9_ofEdition_62 : decode cX9_ofEdition 62 = .ok (.invokestatic 105, 3) := by decide +kernel
theorem dX9_ofEdition_65 : decode cX9_ofEdition 65 = .ok (.iaload, 1) := by decide +kernel
theorem dX9_ofEdition_66 : decode cX9_ofEdition 66 = .ok (.ireturn, 1) := by decide +kernel
theorem dX9_ofEdition_67 : decode cX9_ofEdition 67 = .ok (.iconst 0, 1) := by decide +kernel
theorem dX9_ofEdition_68 : decode cX9_ofEdition 68 = .ok (.istore 4, 2) := by decide +kernel
theorem dX9_ofEdition_70 : decode cX9_ofEdition 70 = .ok (.iload 4, 2) := by decide +kernel
theorem dX9_ofEdition_72 : decode cX9_ofEdition 72 = .ok (.aload_n 0, 1) := by decide +kernel
theorem dX9_ofEdition_73 : decode cX9_ofEdition 73 = .ok (.getfield 9, 3) := by decide +kernel
theorem dX9_ofEdition_76 : decode cX9_ofEdition 76 = .ok (.iconst 0, 1) := by decide +kernel
theorem dX9_ofEdition_77 : decode cX9_ofEdition 77 = .ok (.iaload, 1) := by decide +kernel
theorem dX9_ofEdition_78 : decode cX9_ofEdition 78 = .ok (.if_icmp .ge 32, 3) := by decide +kernel
theorem dX9_ofEdition_81 : decode cX9_ofEdition 81 = .ok (.iload_n 3, 1) := by decide +kernel
theorem dX9_ofEdition_82 : decode cX9_ofEdition 82 = .ok (.aload_n 0, 1) := by decide +kernel
theorem dX9_ofEdition_83 : decode cX9_ofEdition 83 = .ok (.getfield 9, 3) := by decide +kernel
theorem dX9_ofEdition_86 : decode cX9_ofEdition 86 = .ok (.iload 4, 2) := by decide +kernel
theorem dX9_ofEdition_88 : decode cX9_ofEdition 88 = .ok (.iconst 2, 1) := by decide +kernel
theorem dX9_ofEdition_89 : decode cX9_ofEdition 89 = .ok (.invokestatic 105, 3) := by decide +kernel
theorem dX9_ofEdition_92 : decode cX9_ofEdition 92 = .ok (.iaload, 1) := by decide +kernel
theorem dX9_ofEdition_93 : decode cX9_ofEdition 93 = .ok (.iload_n 1, 1) := by decide +kernel
theorem dX9_ofEdition_94 : decode cX9_ofEdition 94 = .ok (.if_icmp .ne 7, 3) := by decide +kernel
theorem dX9_ofEdition_97 : decode cX9_ofEdition 97 = .ok (.iconst 1, 1) := by decide +kernel
theorem dX9_ofEdition_98 : decode cX9_ofEdition 98 = .ok (.goto 4, 3) := by decide +kernel
theorem dX9_ofEdition_101 : decode cX9_ofEdition 101 = .ok (.iconst 0, 1) := by decide +kernel
theorem dX9_ofEdition_102 : decode cX9_ofEdition 102 = .ok (.iadd, 1) := by decide +kernel
theorem dX9_ofEdition_103 : decode cX9_ofEdition 103 = .ok (.istore_n 3, 1) := by decide +kernel
theorem dX9_ofEdition_104 : decode cX9_ofEdition 104 = .ok (.iinc 4 1, 3) := by decide +kernel
theorem dX9_ofEdition_107 : decode cX9_ofEdition 107 = .ok (.goto (-37), 3) := by decide +kernel
theorem dX9_ofEdition_110 : decode cX9_ofEdition 110 = .ok (.iload_n 3, 1) := by decide +kernel
theorem dX9_ofEdition_111 : decode cX9_ofEdition 111 = .ok (.ireturn, 1) := by decide +kernel
theorem dX9_ofEdition_112 : decode cX9_ofEdition 112 = .ok (.aload_n 0, 1) := by decide +kernel
theorem dX9_ofEdition_113 : decode cX9_ofEdition 113 = .ok (.iload_n 1, 1) := by decide +kernel
theorem dX9_ofEdition_114 : decode cX9_ofEdition 114 = .ok (.invokevirtual 139, 3) := by decide +kernel
theorem dX9_ofEdition_117 : decode cX9_ofEdition 117 = .ok (.ireturn, 1) := by decide +kernel
theorem dX9_ofEdition_118 : decode cX9_ofEdition 118 = .ok (.aload_n 0, 1) := by decide +kernel
theorem dX9_ofEdition_119 : decode cX9_ofEdition 119 = .ok (.iload_n 1, 1) := by decide +kernel
theorem dX9_ofEdition_120 : decode cX9_ofEdition 120 = .ok (.invokevirtual 149, 3) := by decide +kernel
theorem dX9_ofEdition_123 : decode cX9_ofEdition 123 = .ok (.ireturn, 1) := by decide +kernel
theorem dX9_ofEdition_124 : decode cX9_ofEdition 124 = .ok (.iconst 1, 1) := by decide +kernel
theorem dX9_ofEdition_125 : decode cX9_ofEdition 125 = .ok (.istore 4, 2) := by decide +kernel
theorem dX9_ofEdition_127 : decode cX9_ofEdition 127 = .ok (.iload 4, 2) := by decide +kernel
theorem dX9_ofEdition_129 : decode cX9_ofEdition 129 = .ok (.aload_n 0, 1) := by decide +kernel
theorem dX9_ofEdition_130 : decode cX9_ofEdition 130 = .ok (.iload_n 1, 1) := by decide +kernel
theorem dX9_ofEdition_131 : decode cX9_ofEdition 131 = .ok (.invokevirtual 116, 3) := by decide +kernel
theorem dX9_ofEdition_134 : decode cX9_ofEdition 134 = .ok (.if_icmp .gt 33, 3) := by decide +kernel
theorem dX9_ofEdition_137 : decode cX9_ofEdition 137 = .ok (.iload_n 3, 1) := by decide +kernel
theorem dX9_ofEdition_138 : decode cX9_ofEdition 138 = .ok (.aload_n 0, 1) := by decide +kernel
theorem dX9_ofEdition_139 : decode cX9_ofEdition 139 = .ok (.getfield 9, 3) := by decide +kernel
theorem dX9_ofEdition_142 : decode cX9_ofEdition 142 = .ok (.iload_n 1, 1) := by decide +kernel
theorem dX9_ofEdition_143 : decode cX9_ofEdition 143 = .ok (.iload 4, 2) := by decide +kernel
theorem dX9_ofEdition_145 : decode cX9_ofEdition 145 = .ok (.invokestatic 132, 3) := by decide +kernel
theorem dX9_ofEdition_148 : decode cX9_ofEdition 148 = .ok (.iconst 3, 1) := by decide +kernel
theorem dX9_ofEdition_149 : decode cX9_ofEdition 149 = .ok (.iadd, 1) := by decide +kernel
theorem dX9_ofEdition_150 : decode cX9_ofEdition 150 = .ok (.iaload, 1) := by decide +kernel
theorem dX9_ofEdition_151 : decode cX9_ofEdition 151 = .ok (.ifCond .le 7, 3) := by decide +kernel
theorem dX9_ofEdition_154 : decode cX9_ofEdition 154 = .ok (.iconst 1, 1) := by decide +kernel
theorem dX9_ofEdition_155 : decode cX9_ofEdition 155 = .ok (.goto 4, 3) := by decide +kernel
theorem dX9_ofEdition_158 : decode cX9_ofEdition 158 = .ok (.iconst 0, 1) := by decide +kernel
theorem dX9_ofEdition_159 : decode cX9_ofEdition 159 = .ok (.iadd, 1) := by decide +kernel
theorem dX9_ofEdition_160 : decode cX9_ofEdition 160 = .ok (.istore_n 3, 1) := by decide +kernel
theorem dX9_ofEdition_161 : decode cX9_ofEdition 161 = .ok (.iinc 4 1, 3) := by decide +kernel
theorem dX9_ofEdition_164 : decode cX9_ofEdition 164 = .ok (.goto (-37), 3) := by decide +kernel
theorem dX9_ofEdition_167 : decode cX9_ofEdition 167 = .ok (.iload_n 3, 1) := by decide +kernel
theorem dX9_ofEdition_168 : decode cX9_ofEdition 168 = .ok (.ireturn, 1) := by decide +kernel
theorem dX9_ofEdition_169 : decode cX9_ofEdition 169 = .ok (.iconst (-1), 1) := by decide +kernel
theorem dX9_ofEdition_170 : decode cX9_ofEdition 170 = .ok (.ireturn, 1) := by decide +kernel
theorem dX9_tempoAt_0 : decode cX9_tempoAt 0 = .ok (.iload_n 2, 1) := by decide +kernel
theorem dX9_tempoAt_1 : decode cX9_tempoAt 1 = .ok (.istore_n 3, 1) := by decide +kernel
theorem dX9_tempoAt_2 : decode cX9_tempoAt 2 = .ok (.iload_n 3, 1) := by decide +kernel
theorem dX9_tempoAt_3 : decode cX9_tempoAt 3 = .ok (.iconst 1, 1) := by decide +kernel
theorem dX9_tempoAt_4 : decode cX9_tempoAt 4 = .ok (.if_icmp .lt 37, 3) := by decide +kernel
theorem dX9_tempoAt_7 : decode cX9_tempoAt 7 = .ok (.aload_n 0, 1) := by decide +kernel
theorem dX9_tempoAt_8 : decode cX9_tempoAt 8 = .ok (.getfield 9, 3) := by decide +kernel
theorem dX9_tempoAt_11 : decode cX9_tempoAt 11 = .ok (.iload_n 1, 1) := by decide +kernel
theorem dX9_tempoAt_12 : decode cX9_tempoAt 12 = .ok (.iload_n 3, 1) := by decide +kernel
theorem dX9_tempoAt_13 : decode cX9_tempoAt 13 = .ok (.invokestatic 132, 3) := by decide +kernel
theorem dX9_tempoAt_16 : decode cX9_tempoAt 16 = .ok (.iconst 3, 1) := by decide +kernel
theorem dX9_tempoAt_17 : decode cX9_tempoAt 17 = .ok (.iadd, 1) := by decide +kernel
theorem dX9_tempoAt_18 : decode cX9_tempoAt 18 = .ok (.iaload, 1) := by decide +kernel
theorem dX9_tempoAt_19 : decode cX9_tempoAt 19 = .ok (.ifCond .le 16, 3) := by decide +kernel
theorem dX9_tempoAt_22 : decode cX9_tempoAt 22 = .ok (.aload_n 0, 1) := by decide +kernel
theorem dX9_tempoAt_23 : decode cX9_tempoAt 23 = .ok (.getfield 9, 3) := by decide +kernel
theorem dX9_tempoAt_26 : decode cX9_tempoAt 26 = .ok (.iload_n 1, 1) := by decide +kernel
theorem dX9_tempoAt_27 : decode cX9_tempoAt 27 = .ok (.iload_n 3, 1) := by decide +kernel
theorem dX9_tempoAt_28 : decode cX9_tempoAt 28 = .ok (.invokestatic 132, 3) := by decide +kernel
theorem dX9_tempoAt_31 : decode cX9_tempoAt 31 = .ok (.iconst 3, 1) := by decide +kernel
theorem dX9_tempoAt_32 : decode cX9_tempoAt 32 = .ok (.iadd, 1) := by decide +kernel
theorem dX9_tempoAt_33 : decode cX9_tempoAt 33 = .ok (.iaload, 1) := by decide +kernel
theorem dX9_tempoAt_34 : decode cX9_tempoAt 34 = .ok (.ireturn, 1) := by decide +kernel
theorem dX9_tempoAt_35 : decode cX9_tempoAt 35 = .ok (.iinc 3 (-1), 3) := by decide +kernel
theorem dX9_tempoAt_38 : decode cX9_tempoAt 38 = .ok (.goto (-36), 3) := by decide +kernel
theorem dX9_tempoAt_41 : decode cX9_tempoAt 41 = .ok (.sipush 1000, 3) := by decide +kernel
theorem dX9_tempoAt_44 : decode cX9_tempoAt 44 = .ok (.ireturn, 1) := by decide +kernel
theorem dX9_bar_0 : decode cX9_bar 0 = .ok (.aload_n 0, 1) := by decide +kernel
theorem dX9_bar_1 : decode cX9_bar 1 = .ok (.iload_n 1, 1) := by decide +kernel
theorem dX9_bar_2 : decode cX9_bar 2 = .ok (.iload_n 2, 1) := by decide +kernel
theorem dX9_bar_3 : decode cX9_bar 3 = .ok (.invokevirtual 135, 3) := by decide +kernel
theorem dX9_bar_6 : decode cX9_bar 6 = .ok (.ifCond .ne 5, 3) := by decide +kernel
theorem dX9_bar_9 : decode cX9_bar 9 = .ok (.iconst (-1), 1) := by decide +kernel
theorem dX9_bar_10 : decode cX9_bar 10 = .ok (.ireturn, 1) := by decide +kernel
theorem dX9_bar_11 : decode cX9_bar 11 = .ok (.iload_n 3, 1) := by decide +kernel
theorem dX9_bar_12 : decode cX9_bar 12 = .ok (.tableswitch 89 0 4 #[36, 36, 36, 49, 82], 36) := by decide +kernel
theorem dX9_bar_48 : decode cX9_bar 48 = .ok (.aload_n 0, 1) := by decide +kernel
theorem dX9_bar_49 : decode cX9_bar 49 = .ok (.getfield 9, 3) := by decide +kernel
theorem dX9_bar_52 : decode cX9_bar 52 = .ok (.iload_n 1, 1) := by decide +kernel
theorem dX9_bar_53 : decode cX9_bar 53 = .ok (.iload_n 2, 1) := by decide +kernel
theorem dX9_bar_54 : decode cX9_bar 54 = .ok (.invokestatic 132, 3) := by decide +kernel
theorem dX9_bar_57 : decode cX9_bar 57 = .ok (.iload_n 3, 1) := by decide +kernel
theorem dX9_bar_58 : decode cX9_bar 58 = .ok (.iadd, 1) := by decide +kernel
theorem dX9_bar_59 : decode cX9_bar 59 = .ok (.iaload, 1) := by decide +kernel
theorem dX9_bar_60 : decode cX9_bar 60 = .ok (.ireturn, 1) := by decide +kernel
theorem dX9_bar_61 : decode cX9_bar 61 = .ok (.aload_n 0, 1) := by decide +kernel
theorem dX9_bar_62 : decode cX9_bar 62 = .ok (.getfield 9, 3) := by decide +kernel
theorem dX9_bar_65 : decode cX9_bar 65 = .ok (.iload_n 1, 1) := by decide +kernel
theorem dX9_bar_66 : decode cX9_bar 66 = .ok (.iload_n 2, 1) := by decide +kernel
theorem dX9_bar_67 : decode cX9_bar 67 = .ok (.invokestatic 132, 3) := by decide +kernel
theorem dX9_bar_70 : decode cX9_bar 70 = .ok (.iconst 3, 1) := by decide +kernel
theorem dX9_bar_71 : decode cX9_bar 71 = .ok (.iadd, 1) := by decide +kernel
theorem dX9_bar_72 : decode cX9_bar 72 = .ok (.iaload, 1) := by decide +kernel
theorem dX9_bar_73 : decode cX9_bar 73 = .ok (.ifCond .le 18, 3) := by decide +kernel
theorem dX9_bar_76 : decode cX9_bar 76 = .ok (.aload_n 0, 1) := by decide +kernel
theorem dX9_bar_77 : decode cX9_bar 77 = .ok (.getfield 9, 3) := by decide +kernel
theorem dX9_bar_80 : decode cX9_bar 80 = .ok (.iload_n 1, 1) := by decide +kernel
theorem dX9_bar_81 : decode cX9_bar 81 = .ok (.iload_n 2, 1) := by decide +kernel
theorem dX9_bar_82 : decode cX9_bar 82 = .ok (.invokestatic 132, 3) := by decide +kernel
theorem dX9_bar_85 : decode cX9_bar 85 = .ok (.iconst 3, 1) := by decide +kernel
theorem dX9_bar_86 : decode cX9_bar 86 = .ok (.iadd, 1) := by decide +kernel
theorem dX9_bar_87 : decode cX9_bar 87 = .ok (.iaload, 1) := by decide +kernel
theorem dX9_bar_88 : decode cX9_bar 88 = .ok (.goto 5, 3) := by decide +kernel
theorem dX9_bar_91 : decode cX9_bar 91 = .ok (.bipush (-7), 2) := by decide +kernel
theorem dX9_bar_93 : decode cX9_bar 93 = .ok (.ireturn, 1) := by decide +kernel
theorem dX9_bar_94 : decode cX9_bar 94 = .ok (.aload_n 0, 1) := by decide +kernel
theorem dX9_bar_95 : decode cX9_bar 95 = .ok (.iload_n 1, 1) := by decide +kernel
theorem dX9_bar_96 : decode cX9_bar 96 = .ok (.iload_n 2, 1) := by decide +kernel
theorem dX9_bar_97 : decode cX9_bar 97 = .ok (.invokevirtual 152, 3) := by decide +kernel
theorem dX9_bar_100 : decode cX9_bar 100 = .ok (.ireturn, 1) := by decide +kernel
theorem dX9_bar_101 : decode cX9_bar 101 = .ok (.iconst (-1), 1) := by decide +kernel
theorem dX9_bar_102 : decode cX9_bar 102 = .ok (.ireturn, 1) := by decide +kernel
theorem dX9_carried_0 : decode cX9_carried 0 = .ok (.iconst 1, 1) := by decide +kernel
theorem dX9_carried_1 : decode cX9_carried 1 = .ok (.istore 4, 2) := by decide +kernel
theorem dX9_carried_3 : decode cX9_carried 3 = .ok (.iload 4, 2) := by decide +kernel
theorem dX9_carried_5 : decode cX9_carried 5 = .ok (.aload_n 0, 1) := by decide +kernel
theorem dX9_carried_6 : decode cX9_carried 6 = .ok (.iload_n 3, 1) := by decide +kernel
theorem dX9_carried_7 : decode cX9_carried 7 = .ok (.invokevirtual 116, 3) := by decide +kernel
theorem dX9_carried_10 : decode cX9_carried 10 = .ok (.if_icmp .gt 36, 3) := by decide +kernel
theorem dX9_carried_13 : decode cX9_carried 13 = .ok (.aload_n 0, 1) := by decide +kernel
theorem dX9_carried_14 : decode cX9_carried 14 = .ok (.getfield 9, 3) := by decide +kernel
theorem dX9_carried_17 : decode cX9_carried 17 = .ok (.iload_n 3, 1) := by decide +kernel
theorem dX9_carried_18 : decode cX9_carried 18 = .ok (.iload 4, 2) := by decide +kernel
theorem dX9_carried_20 : decode cX9_carried 20 = .ok (.invokestatic 132, 3) := by decide +kernel
theorem dX9_carried_23 : decode cX9_carried 23 = .ok (.iaload, 1) := by decide +kernel
theorem dX9_carried_24 : decode cX9_carried 24 = .ok (.aload_n 0, 1) := by decide +kernel
theorem dX9_carried_25 : decode cX9_carried 25 = .ok (.getfield 9, 3) := by decide +kernel
theorem dX9_carried_28 : decode cX9_carried 28 = .ok (.iload_n 1, 1) := by decide +kernel
theorem dX9_carried_29 : decode cX9_carried 29 = .ok (.iload_n 2, 1) := by decide +kernel
theorem dX9_carried_30 : decode cX9_carried 30 = .ok (.invokestatic 132, 3) := by decide +kernel
theorem dX9_carried_33 : decode cX9_carried 33 = .ok (.iaload, 1) := by decide +kernel
theorem dX9_carried_34 : decode cX9_carried 34 = .ok (.if_icmp .ne 6, 3) := by decide +kernel
theorem dX9_carried_37 : decode cX9_carried 37 = .ok (.iload 4, 2) := by decide +kernel
theorem dX9_carried_39 : decode cX9_carried 39 = .ok (.ireturn, 1) := by decide +kernel
theorem dX9_carried_40 : decode cX9_carried 40 = .ok (.iinc 4 1, 3) := by decide +kernel
theorem dX9_carried_43 : decode cX9_carried 43 = .ok (.goto (-40), 3) := by decide +kernel
theorem dX9_carried_46 : decode cX9_carried 46 = .ok (.bipush (-7), 2) := by decide +kernel
theorem dX9_carried_48 : decode cX9_carried 48 = .ok (.ireturn, 1) := by decide +kernel
theorem dX9_areOfOneWork_0 : decode cX9_areOfOneWork 0 = .ok (.aload_n 0, 1) := by decide +kernel
theorem dX9_areOfOneWork_1 : decode cX9_areOfOneWork 1 = .ok (.getfield 9, 3) := by decide +kernel
theorem dX9_areOfOneWork_4 : decode cX9_areOfOneWork 4 = .ok (.iload_n 1, 1) := by decide +kernel
theorem dX9_areOfOneWork_5 : decode cX9_areOfOneWork 5 = .ok (.iconst 0, 1) := by decide +kernel
theorem dX9_areOfOneWork_6 : decode cX9_areOfOneWork 6 = .ok (.invokestatic 105, 3) := by decide +kernel
theorem dX9_areOfOneWork_9 : decode cX9_areOfOneWork 9 = .ok (.iaload, 1) := by decide +kernel
theorem dX9_areOfOneWork_10 : decode cX9_areOfOneWork 10 = .ok (.aload_n 0, 1) := by decide +kernel
theorem dX9_areOfOneWork_11 : decode cX9_areOfOneWork 11 = .ok (.getfield 9, 3) := by decide +kernel
theorem dX9_areOfOneWork_14 : decode cX9_areOfOneWork 14 = .ok (.iload_n 2, 1) := by decide +kernel
theorem dX9_areOfOneWork_15 : decode cX9_areOfOneWork 15 = .ok (.iconst 0, 1) := by decide +kernel
theorem dX9_areOfOneWork_16 : decode cX9_areOfOneWork 16 = .ok (.invokestatic 105, 3) := by decide +kernel
theorem dX9_areOfOneWork_19 : decode cX9_areOfOneWork 19 = .ok (.iaload, 1) := by decide +kernel
theorem dX9_areOfOneWork_20 : decode cX9_areOfOneWork 20 = .ok (.if_icmp .ne 7, 3) := by decide +kernel
theorem dX9_areOfOneWork_23 : decode cX9_areOfOneWork 23 = .ok (.iconst 1, 1) := by decide +kernel
theorem dX9_areOfOneWork_24 : decode cX9_areOfOneWork 24 = .ok (.goto 4, 3) := by decide +kernel
theorem dX9_areOfOneWork_27 : decode cX9_areOfOneWork 27 = .ok (.iconst 0, 1) := by decide +kernel
theorem dX9_areOfOneWork_28 : decode cX9_areOfOneWork 28 = .ok (.ireturn, 1) := by decide +kernel
theorem dX9_carry_0 : decode cX9_carry 0 = .ok (.aload_n 0, 1) := by decide +kernel
theorem dX9_carry_1 : decode cX9_carry 1 = .ok (.iload_n 1, 1) := by decide +kernel
theorem dX9_carry_2 : decode cX9_carry 2 = .ok (.iload_n 2, 1) := by decide +kernel
theorem dX9_carry_3 : decode cX9_carry 3 = .ok (.invokevirtual 135, 3) := by decide +kernel
theorem dX9_carry_6 : decode cX9_carry 6 = .ok (.ifCond .eq 11, 3) := by decide +kernel
theorem dX9_carry_9 : decode cX9_carry 9 = .ok (.aload_n 0, 1) := by decide +kernel
theorem dX9_carry_10 : decode cX9_carry 10 = .ok (.iload_n 3, 1) := by decide +kernel
theorem dX9_carry_11 : decode cX9_carry 11 = .ok (.invokevirtual 112, 3) := by decide +kernel
theorem dX9_carry_14 : decode cX9_carry 14 = .ok (.ifCond .ne 5, 3) := by decide +kernel
theorem dX9_carry_17 : decode cX9_carry 17 = .ok (.iconst (-1), 1) := by decide +kernel
theorem dX9_carry_18 : decode cX9_carry 18 = .ok (.ireturn, 1) := by decide +kernel
theorem dX9_carry_19 : decode cX9_carry 19 = .ok (.aload_n 0, 1) := by decide +kernel
theorem dX9_carry_20 : decode cX9_carry 20 = .ok (.iload_n 1, 1) := by decide +kernel
theorem dX9_carry_21 : decode cX9_carry 21 = .ok (.iload_n 3, 1) := by decide +kernel
theorem dX9_carry_22 : decode cX9_carry 22 = .ok (.invokevirtual 155, 3) := by decide +kernel
theorem dX9_carry_25 : decode cX9_carry 25 = .ok (.ifCond .eq 13, 3) := by decide +kernel
theorem dX9_carry_28 : decode cX9_carry 28 = .ok (.aload_n 0, 1) := by decide +kernel
theorem dX9_carry_29 : decode cX9_carry 29 = .ok (.iload_n 1, 1) := by decide +kernel
theorem dX9_carry_30 : decode cX9_carry 30 = .ok (.iload_n 2, 1) := by decide +kernel
theorem dX9_carry_31 : decode cX9_carry 31 = .ok (.iload_n 3, 1) := by decide +kernel
theorem dX9_carry_32 : decode cX9_carry 32 = .ok (.invokevirtual 158, 3) := by decide +kernel
theorem dX9_carry_35 : decode cX9_carry 35 = .ok (.goto 5, 3) := by decide +kernel
theorem dX9_carry_38 : decode cX9_carry 38 = .ok (.bipush (-2), 2) := by decide +kernel
theorem dX9_carry_40 : decode cX9_carry 40 = .ok (.ireturn, 1) := by decide +kernel
theorem dX9_isSame_0 : decode cX9_isSame 0 = .ok (.aload_n 0, 1) := by decide +kernel
theorem dX9_isSame_1 : decode cX9_isSame 1 = .ok (.getfield 9, 3) := by decide +kernel
theorem dX9_isSame_4 : decode cX9_isSame 4 = .ok (.iload_n 1, 1) := by decide +kernel
theorem dX9_isSame_5 : decode cX9_isSame 5 = .ok (.iload_n 2, 1) := by decide +kernel
theorem dX9_isSame_6 : decode cX9_isSame 6 = .ok (.invokestatic 132, 3) := by decide +kernel
theorem dX9_isSame_9 : decode cX9_isSame 9 = .ok (.iconst 1, 1) := by decide +kernel
theorem dX9_isSame_10 : decode cX9_isSame 10 = .ok (.iadd, 1) := by decide +kernel
theorem dX9_isSame_11 : decode cX9_isSame 11 = .ok (.iaload, 1) := by decide +kernel
theorem dX9_isSame_12 : decode cX9_isSame 12 = .ok (.aload_n 0, 1) := by decide +kernel
theorem dX9_isSame_13 : decode cX9_isSame 13 = .ok (.getfield 9, 3) := by decide +kernel
theorem dX9_isSame_16 : decode cX9_isSame 16 = .ok (.iload_n 3, 1) := by decide +kernel
theorem dX9_isSame_17 : decode cX9_isSame 17 = .ok (.iload 4, 2) := by decide +kernel
theorem dX9_isSame_19 : decode cX9_isSame 19 = .ok (.invokestatic 132, 3) := by decide +kernel
theorem dX9_isSame_22 : decode cX9_isSame 22 = .ok (.iconst 1, 1) := by decide +kernel
theorem dX9_isSame_23 : decode cX9_isSame 23 = .ok (.iadd, 1) := by decide +kernel
theorem dX9_isSame_24 : decode cX9_isSame 24 = .ok (.iaload, 1) := by decide +kernel
theorem dX9_isSame_25 : decode cX9_isSame 25 = .ok (.if_icmp .ne 7, 3) := by decide +kernel
theorem dX9_isSame_28 : decode cX9_isSame 28 = .ok (.iconst 1, 1) := by decide +kernel
theorem dX9_isSame_29 : decode cX9_isSame 29 = .ok (.goto 4, 3) := by decide +kernel
theorem dX9_isSame_32 : decode cX9_isSame 32 = .ok (.iconst 0, 1) := by decide +kernel
theorem dX9_isSame_33 : decode cX9_isSame 33 = .ok (.ireturn, 1) := by decide +kernel
theorem dX9_adds_0 : decode cX9_adds 0 = .ok (.aload_n 0, 1) := by decide +kernel
theorem dX9_adds_1 : decode cX9_adds 1 = .ok (.getfield 37, 3) := by decide +kernel
theorem dX9_adds_4 : decode cX9_adds 4 = .ok (.aload_n 0, 1) := by decide +kernel
theorem dX9_adds_5 : decode cX9_adds 5 = .ok (.getfield 49, 3) := by decide +kernel
theorem dX9_adds_8 : decode cX9_adds 8 = .ok (.iload_n 1, 1) := by decide +kernel
theorem dX9_adds_9 : decode cX9_adds 9 = .ok (.iastore, 1) := by decide +kernel
theorem dX9_adds_10 : decode cX9_adds 10 = .ok (.aload_n 0, 1) := by decide +kernel
theorem dX9_adds_11 : decode cX9_adds 11 = .ok (.getfield 40, 3) := by decide +kernel
theorem dX9_adds_14 : decode cX9_adds 14 = .ok (.aload_n 0, 1) := by decide +kernel
theorem dX9_adds_15 : decode cX9_adds 15 = .ok (.getfield 49, 3) := by decide +kernel
theorem dX9_adds_18 : decode cX9_adds 18 = .ok (.iload_n 2, 1) := by decide +kernel
theorem dX9_adds_19 : decode cX9_adds 19 = .ok (.iastore, 1) := by decide +kernel
theorem dX9_adds_20 : decode cX9_adds 20 = .ok (.aload_n 0, 1) := by decide +kernel
theorem dX9_adds_21 : decode cX9_adds 21 = .ok (.getfield 43, 3) := by decide +kernel
theorem dX9_adds_24 : decode cX9_adds 24 = .ok (.aload_n 0, 1) := by decide +kernel
theorem dX9_adds_25 : decode cX9_adds 25 = .ok (.getfield 49, 3) := by decide +kernel
theorem dX9_adds_28 : decode cX9_adds 28 = .ok (.iload_n 3, 1) := by decide +kernel
theorem dX9_adds_29 : decode cX9_adds 29 = .ok (.iastore, 1) := by decide +kernel
theorem dX9_adds_30 : decode cX9_adds 30 = .ok (.aload_n 0, 1) := by decide +kernel
theorem dX9_adds_31 : decode cX9_adds 31 = .ok (.getfield 46, 3) := by decide +kernel
theorem dX9_adds_34 : decode cX9_adds 34 = .ok (.aload_n 0, 1) := by decide +kernel
theorem dX9_adds_35 : decode cX9_adds 35 = .ok (.getfield 49, 3) := by decide +kernel
theorem dX9_adds_38 : decode cX9_adds 38 = .ok (.iload 4, 2) := by decide +kernel
theorem dX9_adds_40 : decode cX9_adds 40 = .ok (.iastore, 1) := by decide +kernel
theorem dX9_adds_41 : decode cX9_adds 41 = .ok (.aload_n 0, 1) := by decide +kernel
theorem dX9_adds_42 : decode cX9_adds 42 = .ok (.dup, 1) := by decide +kernel
theorem dX9_adds_43 : decode cX9_adds 43 = .ok (.getfield 49, 3) := by decide +kernel
theorem dX9_adds_46 : decode cX9_adds 46 = .ok (.iconst 1, 1) := by decide +kernel
theorem dX9_adds_47 : decode cX9_adds 47 = .ok (.iadd, 1) := by decide +kernel
theorem dX9_adds_48 : decode cX9_adds 48 = .ok (.putfield 49, 3) := by decide +kernel
theorem dX9_adds_51 : decode cX9_adds 51 = .ok (.return_, 1) := by decide +kernel
theorem dX9_finds_0 : decode cX9_finds 0 = .ok (.aload_n 0, 1) := by decide +kernel
theorem dX9_finds_1 : decode cX9_finds 1 = .ok (.iconst 0, 1) := by decide +kernel
theorem dX9_finds_2 : decode cX9_finds 2 = .ok (.putfield 49, 3) := by decide +kernel
theorem dX9_finds_5 : decode cX9_finds 5 = .ok (.iconst 1, 1) := by decide +kernel
theorem dX9_finds_6 : decode cX9_finds 6 = .ok (.istore_n 3, 1) := by decide +kernel
theorem dX9_finds_7 : decode cX9_finds 7 = .ok (.iconst 1, 1) := by decide +kernel
theorem dX9_finds_8 : decode cX9_finds 8 = .ok (.istore 4, 2) := by decide +kernel
theorem dX9_finds_10 : decode cX9_finds 10 = .ok (.iload_n 3, 1) := by decide +kernel
theorem dX9_finds_11 : decode cX9_finds 11 = .ok (.aload_n 0, 1) := by decide +kernel
theorem dX9_finds_12 : decode cX9_finds 12 = .ok (.iload_n 1, 1) := by decide +kernel
theorem dX9_finds_13 : decode cX9_finds 13 = .ok (.invokevirtual 116, 3) := by decide +kernel
theorem dX9_finds_16 : decode cX9_finds 16 = .ok (.if_icmp .le 13, 3) := by decide +kernel
theorem dX9_finds_19 : decode cX9_finds 19 = .ok (.iload 4, 2) := by decide +kernel
theorem dX9_finds_21 : decode cX9_finds 21 = .ok (.aload_n 0, 1) := by decide +kernel
theorem dX9_finds_22 : decode cX9_finds 22 = .ok (.iload_n 2, 1) := by decide +kernel
theorem dX9_finds_23 : decode cX9_finds 23 = .ok (.invokevirtual 116, 3) := by decide +kernel
theorem dX9_finds_26 : decode cX9_finds 26 = .ok (.if_icmp .gt 238, 3) := by decide +kernel
theorem dX9_finds_29 : decode cX9_finds 29 = .ok (.iload_n 3, 1) := by decide +kernel
theorem dX9_finds_30 : decode cX9_finds 30 = .ok (.istore 5, 2) := by decide +kernel
theorem dX9_finds_32 : decode cX9_finds 32 = .ok (.iload_n 3, 1) := by decide +kernel
theorem dX9_finds_33 : decode cX9_finds 33 = .ok (.aload_n 0, 1) := by decide +kernel
theorem dX9_finds_34 : decode cX9_finds 34 = .ok (.iload_n 1, 1) := by decide +kernel
theorem dX9_finds_35 : decode cX9_finds 35 = .ok (.invokevirtual 116, 3) := by decide +kernel
theorem dX9_finds_38 : decode cX9_finds 38 = .ok (.if_icmp .gt 19, 3) := by decide +kernel
theorem dX9_finds_41 : decode cX9_finds 41 = .ok (.aload_n 0, 1) := by decide +kernel
theorem dX9_finds_42 : decode cX9_finds 42 = .ok (.iload_n 1, 1) := by decide +kernel
theorem dX9_finds_43 : decode cX9_finds 43 = .ok (.iload_n 3, 1) := by decide +kernel
theorem dX9_finds_44 : decode cX9_finds 44 = .ok (.iload_n 2, 1) := by decide +kernel
theorem dX9_finds_45 : decode cX9_finds 45 = .ok (.invokevirtual 158, 3) := by decide +kernel
theorem dX9_finds_48 : decode cX9_finds 48 = .ok (.ifCond .ge 9, 3) := by decide +kernel
theorem dX9_finds_51 : decode cX9_finds 51 = .ok (.iinc 3 1, 3) := by decide +kernel
theorem dX9_finds_54 : decode cX9_finds 54 = .ok (.goto (-22), 3) := by decide +kernel
theorem dX9_finds_57 : decode cX9_finds 57 = .ok (.iload_n 3, 1) := by decide +kernel
theorem dX9_finds_58 : decode cX9_finds 58 = .ok (.iload 5, 2) := by decide +kernel
theorem dX9_finds_60 : decode cX9_finds 60 = .ok (.if_icmp .le 18, 3) := by decide +kernel
theorem dX9_finds_63 : decode cX9_finds 63 = .ok (.aload_n 0, 1) := by decide +kernel
theorem dX9_finds_64 : decode cX9_finds 64 = .ok (.iconst 1, 1) := by decide +kernel
theorem dX9_finds_65 : decode cX9_finds 65 = .ok (.iload 5, 2) := by decide +kernel
theorem dX9_finds_67 : decode cX9_finds 67 = .ok (.iload 4, 2) := by decide +kernel
theorem dX9_finds_69 : decode cX9_finds 69 = .ok (.iconst 1, 1) := by decide +kernel
theorem dX9_finds_70 : decode cX9_finds 70 = .ok (.isub, 1) := by decide +kernel
theorem dX9_finds_71 : decode cX9_finds 71 = .ok (.iload_n 3, 1) := by decide +kernel
theorem dX9_finds_72 : decode cX9_finds 72 = .ok (.iload 5, 2) := by decide +kernel
theorem dX9_finds_74 : decode cX9_finds 74 = .ok (.isub, 1) := by decide +kernel
theorem dX9_finds_75 : decode cX9_finds 75 = .ok (.invokevirtual 162, 3) := by decide +kernel
theorem dX9_finds_78 : decode cX9_finds 78 = .ok (.iload 4, 2) := by decide +kernel
theorem dX9_finds_80 : decode cX9_finds 80 = .ok (.istore 5, 2) := by decide +kernel
theorem dX9_finds_82 : decode cX9_finds 82 = .ok (.iload 4, 2) := by decide +kernel
theorem dX9_finds_84 : decode cX9_finds 84 = .ok (.aload_n 0, 1) := by decide +kernel
theorem dX9_finds_85 : decode cX9_finds 85 = .ok (.iload_n 2, 1) := by decide +kernel
theorem dX9_finds_86 : decode cX9_finds 86 = .ok (.invokevirtual 116, 3) := by decide +kernel
theorem dX9_finds_89 : decode cX9_finds 89 = .ok (.if_icmp .gt 20, 3) := by decide +kernel
theorem dX9_finds_92 : decode cX9_finds 92 = .ok (.aload_n 0, 1) := by decide +kernel
theorem dX9_finds_93 : decode cX9_finds 93 = .ok (.iload_n 2, 1) := by decide +kernel
theorem dX9_finds_94 : decode cX9_finds 94 = .ok (.iload 4, 2) := by decide +kernel
theorem dX9_finds_96 : decode cX9_finds 96 = .ok (.iload_n 1, 1) := by decide +kernel
theorem dX9_finds_97 : decode cX9_finds 97 = .ok (.invokevirtual 158, 3) := by decide +kernel
theorem dX9_finds_100 : decode cX9_finds 100 = .ok (.ifCond .ge 9, 3) := by decide +kernel
theorem dX9_finds_103 : decode cX9_finds 103 = .ok (.iinc 4 1, 3) := by decide +kernel
theorem dX9_finds_106 : decode cX9_finds 106 = .ok (.goto (-24), 3) := by decide +kernel
theorem dX9_finds_109 : decode cX9_finds 109 = .ok (.iload 4, 2) := by decide +kernel
theorem dX9_finds_111 : decode cX9_finds 111 = .ok (.iload 5, 2) := by decide +kernel
theorem dX9_finds_113 : decode cX9_finds 113 = .ok (.if_icmp .le 18, 3) := by decide +kernel
theorem dX9_finds_116 : decode cX9_finds 116 = .ok (.aload_n 0, 1) := by decide +kernel
theorem dX9_finds_117 : decode cX9_finds 117 = .ok (.iconst 2, 1) := by decide +kernel
theorem dX9_finds_118 : decode cX9_finds 118 = .ok (.iload_n 3, 1) := by decide +kernel
theorem dX9_finds_119 : decode cX9_finds 119 = .ok (.iconst 1, 1) := by decide +kernel
theorem dX9_finds_120 : decode cX9_finds 120 = .ok (.isub, 1) := by decide +kernel
theorem dX9_finds_121 : decode cX9_finds 121 = .ok (.iload 5, 2) := by decide +kernel
theorem dX9_finds_123 : decode cX9_finds 123 = .ok (.iload 4, 2) := by decide +kernel
theorem dX9_finds_125 : decode cX9_finds 125 = .ok (.iload 5, 2) := by decide +kernel
theorem dX9_finds_127 : decode cX9_finds 127 = .ok (.isub, 1) := by decide +kernel
theorem dX9_finds_128 : decode cX9_finds 128 = .ok (.invokevirtual 162, 3) := by decide +kernel
theorem dX9_finds_131 : decode cX9_finds 131 = .ok (.iload_n 3, 1) := by decide +kernel
theorem dX9_finds_132 : decode cX9_finds 132 = .ok (.istore 5, 2) := by decide +kernel
theorem dX9_finds_134 : decode cX9_finds 134 = .ok (.iload 4, 2) := by decide +kernel
theorem dX9_finds_136 : decode cX9_finds 136 = .ok (.istore 6, 2) := by decide +kernel
theorem dX9_finds_138 : decode cX9_finds 138 = .ok (.iload_n 3, 1) := by decide +kernel
theorem dX9_finds_139 : decode cX9_finds 139 = .ok (.aload_n 0, 1) := by decide +kernel
theorem dX9_finds_140 : decode cX9_finds 140 = .ok (.iload_n 1, 1) := by decide +kernel
theorem dX9_finds_141 : decode cX9_finds 141 = .ok (.invokevirtual 116, 3) := by decide +kernel
theorem dX9_finds_144 : decode cX9_finds 144 = .ok (.if_icmp .gt 46, 3) := by decide +kernel
theorem dX9_finds_147 : decode cX9_finds 147 = .ok (.iload 4, 2) := by decide +kernel
theorem dX9_finds_149 : decode cX9_finds 149 = .ok (.aload_n 0, 1) := by decide +kernel
theorem dX9_finds_150 : decode cX9_finds 150 = .ok (.iload_n 2, 1) := by decide +kernel
theorem dX9_finds_151 : decode cX9_finds 151 = .ok (.invokevirtual 116, 3) := by decide +kernel
theorem dX9_finds_154 : decode cX9_finds 154 = .ok (.if_icmp .gt 36, 3) := by decide +kernel
theorem dX9_finds_157 : decode cX9_finds 157 = .ok (.aload_n 0, 1) := by decide +kernel
theorem dX9_finds_158 : decode cX9_finds 158 = .ok (.iload_n 1, 1) := by decide +kernel
theorem dX9_finds_159 : decode cX9_finds 159 = .ok (.iload_n 3, 1) := by decide +kernel
theorem dX9_finds_160 : decode cX9_finds 160 = .ok (.iload_n 2, 1) := by decide +kernel
theorem dX9_finds_161 : decode cX9_finds 161 = .ok (.invokevirtual 158, 3) := by decide +kernel
theorem dX9_finds_164 : decode cX9_finds 164 = .ok (.iload 4, 2) := by decide +kernel
theorem dX9_finds_166 : decode cX9_finds 166 = .ok (.if_icmp .ne 24, 3) := by decide +kernel
theorem dX9_finds_169 : decode cX9_finds 169 = .ok (.aload_n 0, 1) := by decide +kernel
theorem dX9_finds_170 : decode cX9_finds 170 = .ok (.iload_n 1, 1) := by decide +kernel
theorem dX9_finds_171 : decode cX9_finds 171 = .ok (.iload_n 3, 1) := by decide +kernel
theorem dX9_finds_172 : decode cX9_finds 172 = .ok (.iload_n 2, 1) := by decide +kernel
theorem dX9_finds_173 : decode cX9_finds 173 = .ok (.iload 4, 2) := by decide +kernel
theorem dX9_finds_175 : decode cX9_finds 175 = .ok (.invokevirtual 166, 3) := by decide +kernel
theorem dX9_finds_178 : decode cX9_finds 178 = .ok (.ifCond .ne 12, 3) := by decide +kernel
theorem dX9_finds_181 : decode cX9_finds 181 = .ok (.iinc 3 1, 3) := by decide +kernel
theorem dX9_finds_184 : decode cX9_finds 184 = .ok (.iinc 4 1, 3) := by decide +kernel
theorem dX9_finds_187 : decode cX9_finds 187 = .ok (.goto (-49), 3) := by decide +kernel
theorem dX9_finds_190 : decode cX9_finds 190 = .ok (.iload_n 3, 1) := by decide +kernel
theorem dX9_finds_191 : decode cX9_finds 191 = .ok (.iload 5, 2) := by decide +kernel
theorem dX9_finds_193 : decode cX9_finds 193 = .ok (.if_icmp .le 16, 3) := by decide +kernel
theorem dX9_finds_196 : decode cX9_finds 196 = .ok (.aload_n 0, 1) := by decide +kernel
theorem dX9_finds_197 : decode cX9_finds 197 = .ok (.iconst 3, 1) := by decide +kernel
theorem dX9_finds_198 : decode cX9_finds 198 = .ok (.iload 5, 2) := by decide +kernel
theorem dX9_finds_200 : decode cX9_finds 200 = .ok (.iload 6, 2) := by decide +kernel
theorem dX9_finds_202 : decode cX9_finds 202 = .ok (.iload_n 3, 1) := by decide +kernel
theorem dX9_finds_203 : decode cX9_finds 203 = .ok (.iload 5, 2) := by decide +kernel
theorem dX9_finds_205 : decode cX9_finds 205 = .ok (.isub, 1) := by decide +kernel
theorem dX9_finds_206 : decode cX9_finds 206 = .ok (.invokevirtual 162, 3) := by decide +kernel
theorem dX9_finds_209 : decode cX9_finds 209 = .ok (.iload_n 3, 1) := by decide +kernel
theorem dX9_finds_210 : decode cX9_finds 210 = .ok (.aload_n 0, 1) := by decide +kernel
theorem dX9_finds_211 : decode cX9_finds 211 = .ok (.iload_n 1, 1) := by decide +kernel
theorem dX9_finds_212 : decode cX9_finds 212 = .ok (.invokevirtual 116, 3) := by decide +kernel
theorem dX9_finds_215 : decode cX9_finds 215 = .ok (.if_icmp .gt 46, 3) := by decide +kernel
theorem dX9_finds_218 : decode cX9_finds 218 = .ok (.iload 4, 2) := by decide +kernel
theorem dX9_finds_220 : decode cX9_finds 220 = .ok (.aload_n 0, 1) := by decide +kernel
theorem dX9_finds_221 : decode cX9_finds 221 = .ok (.iload_n 2, 1) := by decide +kernel
theorem dX9_finds_222 : decode cX9_finds 222 = .ok (.invokevirtual 116, 3) := by decide +kernel
theorem dX9_finds_225 : decode cX9_finds 225 = .ok (.if_icmp .gt 36, 3) := by decide +kernel
theorem dX9_finds_228 : decode cX9_finds 228 = .ok (.aload_n 0, 1) := by decide +kernel
theorem dX9_finds_229 : decode cX9_finds 229 = .ok (.iload_n 1, 1) := by decide +kernel
theorem dX9_finds_230 : decode cX9_finds 230 = .ok (.iload_n 3, 1) := by decide +kernel
theorem dX9_finds_231 : decode cX9_finds 231 = .ok (.iload_n 2, 1) := by decide +kernel
theorem dX9_finds_232 : decode cX9_finds 232 = .ok (.invokevirtual 158, 3) := by decide +kernel
theorem dX9_finds_235 : decode cX9_finds 235 = .ok (.iload 4, 2) := by decide +kernel
theorem dX9_finds_237 : decode cX9_finds 237 = .ok (.if_icmp .ne 24, 3) := by decide +kernel
theorem dX9_finds_240 : decode cX9_finds 240 = .ok (.aload_n 0, 1) := by decide +kernel
theorem dX9_finds_241 : decode cX9_finds 241 = .ok (.iload_n 1, 1) := by decide +kernel
theorem dX9_finds_242 : decode cX9_finds 242 = .ok (.iload_n 3, 1) := by decide +kernel
theorem dX9_finds_243 : decode cX9_finds 243 = .ok (.iload_n 2, 1) := by decide +kernel
theorem dX9_finds_244 : decode cX9_finds 244 = .ok (.iload 4, 2) := by decide +kernel
theorem dX9_finds_246 : decode cX9_finds 246 = .ok (.invokevirtual 166, 3) := by decide +kernel
theorem dX9_finds_249 : decode cX9_finds 249 = .ok (.ifCond .eq 12, 3) := by decide +kernel
theorem dX9_finds_252 : decode cX9_finds 252 = .ok (.iinc 3 1, 3) := by decide +kernel
theorem dX9_finds_255 : decode cX9_finds 255 = .ok (.iinc 4 1, 3) := by decide +kernel
theorem dX9_finds_258 : decode cX9_finds 258 = .ok (.goto (-49), 3) := by decide +kernel
theorem dX9_finds_261 : decode cX9_finds 261 = .ok (.goto (-251), 3) := by decide +kernel
theorem dX9_finds_264 : decode cX9_finds 264 = .ok (.return_, 1) := by decide +kernel
theorem dX9_compare_0 : decode cX9_compare 0 = .ok (.aload_n 0, 1) := by decide +kernel
theorem dX9_compare_1 : decode cX9_compare 1 = .ok (.iload_n 1, 1) := by decide +kernel
theorem dX9_compare_2 : decode cX9_compare 2 = .ok (.invokevirtual 112, 3) := by decide +kernel
theorem dX9_compare_5 : decode cX9_compare 5 = .ok (.ifCond .eq 20, 3) := by decide +kernel
theorem dX9_compare_8 : decode cX9_compare 8 = .ok (.aload_n 0, 1) := by decide +kernel
theorem dX9_compare_9 : decode cX9_compare 9 = .ok (.iload_n 2, 1) := by decide +kernel
theorem dX9_compare_10 : decode cX9_compare 10 = .ok (.invokevirtual 112, 3) := by decide +kernel
theorem dX9_compare_13 : decode cX9_compare 13 = .ok (.ifCond .eq 12, 3) := by decide +kernel
theorem dX9_compare_16 : decode cX9_compare 16 = .ok (.iload_n 3, 1) := by decide +kernel
theorem dX9_compare_17 : decode cX9_compare 17 = .ok (.iconst 0, 1) := by decide +kernel
theorem dX9_compare_18 : decode cX9_compare 18 = .ok (.iconst 4, 1) := by decide +kernel
theorem dX9_compare_19 : decode cX9_compare 19 = .ok (.invokestatic 108, 3) := by decide +kernel
theorem dX9_compare_22 : decode cX9_compare 22 = .ok (.ifCond .ne 5, 3) := by decide +kernel
theorem dX9_compare_25 : decode cX9_compare 25 = .ok (.iconst (-1), 1) := by decide +kernel
theorem dX9_compare_26 : decode cX9_compare 26 = .ok (.ireturn, 1) := by decide +kernel
theorem dX9_compare_27 : decode cX9_compare 27 = .ok (.aload_n 0, 1) := by decide +kernel
theorem dX9_compare_28 : decode cX9_compare 28 = .ok (.iload_n 1, 1) := by decide +kernel
theorem dX9_compare_29 : decode cX9_compare 29 = .ok (.iload_n 2, 1) := by decide +kernel
theorem dX9_compare_30 : decode cX9_compare 30 = .ok (.invokevirtual 155, 3) := by decide +kernel
theorem dX9_compare_33 : decode cX9_compare 33 = .ok (.ifCond .ne 6, 3) := by decide +kernel
theorem dX9_compare_36 : decode cX9_compare 36 = .ok (.bipush (-2), 2) := by decide +kernel
theorem dX9_compare_38 : decode cX9_compare 38 = .ok (.ireturn, 1) := by decide +kernel
theorem dX9_compare_39 : decode cX9_compare 39 = .ok (.iload_n 3, 1) := by decide +kernel
theorem dX9_compare_40 : decode cX9_compare 40 = .ok (.iconst 4, 1) := by decide +kernel
theorem dX9_compare_41 : decode cX9_compare 41 = .ok (.if_icmp .ne 14, 3) := by decide +kernel
theorem dX9_compare_44 : decode cX9_compare 44 = .ok (.aload_n 0, 1) := by decide +kernel
theorem dX9_compare_45 : decode cX9_compare 45 = .ok (.iload_n 1, 1) := by decide +kernel
theorem dX9_compare_46 : decode cX9_compare 46 = .ok (.iload_n 2, 1) := by decide +kernel
theorem dX9_compare_47 : decode cX9_compare 47 = .ok (.invokevirtual 170, 3) := by decide +kernel
theorem dX9_compare_50 : decode cX9_compare 50 = .ok (.aload_n 0, 1) := by decide +kernel
theorem dX9_compare_51 : decode cX9_compare 51 = .ok (.getfield 49, 3) := by decide +kernel
theorem dX9_compare_54 : decode cX9_compare 54 = .ok (.ireturn, 1) := by decide +kernel
theorem dX9_compare_55 : decode cX9_compare 55 = .ok (.iconst 0, 1) := by decide +kernel
theorem dX9_compare_56 : decode cX9_compare 56 = .ok (.istore 4, 2) := by decide +kernel
theorem dX9_compare_58 : decode cX9_compare 58 = .ok (.iconst 0, 1) := by decide +kernel
theorem dX9_compare_59 : decode cX9_compare 59 = .ok (.istore 5, 2) := by decide +kernel
theorem dX9_compare_61 : decode cX9_compare 61 = .ok (.iconst 1, 1) := by decide +kernel
theorem dX9_compare_62 : decode cX9_compare 62 = .ok (.istore 6, 2) := by decide +kernel
theorem dX9_compare_64 : decode cX9_compare 64 = .ok (.iload 6, 2) := by decide +kernel
theorem dX9_compare_66 : decode cX9_compare 66 = .ok (.aload_n 0, 1) := by decide +kernel
theorem dX9_compare_67 : decode cX9_compare 67 = .ok (.iload_n 1, 1) := by decide +kernel
theorem dX9_compare_68 : decode cX9_compare 68 = .ok (.invokevirtual 116, 3) := by decide +kernel
theorem dX9_compare_71 : decode cX9_compare 71 = .ok (.if_icmp .gt 62, 3) := by decide +kernel
theorem dX9_compare_74 : decode cX9_compare 74 = .ok (.aload_n 0, 1) := by decide +kernel
theorem dX9_compare_75 : decode cX9_compare 75 = .ok (.iload_n 1, 1) := by decide +kernel
theorem dX9_compare_76 : decode cX9_compare 76 = .ok (.iload 6, 2) := by decide +kernel
theorem dX9_compare_78 : decode cX9_compare 78 = .ok (.iload_n 2, 1) := by decide +kernel
theorem dX9_compare_79 : decode cX9_compare 79 = .ok (.invokevirtual 158, 3) := by decide +kernel
theorem dX9_compare_82 : decode cX9_compare 82 = .ok (.istore 7, 2) := by decide +kernel
theorem dX9_compare_84 : decode cX9_compare 84 = .ok (.iload 4, 2) := by decide +kernel
theorem dX9_compare_86 : decode cX9_compare 86 = .ok (.iload 7, 2) := by decide +kernel
theorem dX9_compare_88 : decode cX9_compare 88 = .ok (.ifCond .le 7, 3) := by decide +kernel
theorem dX9_compare_91 : decode cX9_compare 91 = .ok (.iconst 1, 1) := by decide +kernel
theorem dX9_compare_92 : decode cX9_compare 92 = .ok (.goto 4, 3) := by decide +kernel
theorem dX9_compare_95 : decode cX9_compare 95 = .ok (.iconst 0, 1) := by decide +kernel
theorem dX9_compare_96 : decode cX9_compare 96 = .ok (.iadd, 1) := by decide +kernel
theorem dX9_compare_97 : decode cX9_compare 97 = .ok (.istore 4, 2) := by decide +kernel
theorem dX9_compare_99 : decode cX9_compare 99 = .ok (.iload 5, 2) := by decide +kernel
theorem dX9_compare_101 : decode cX9_compare 101 = .ok (.iload 7, 2) := by decide +kernel
theorem dX9_compare_103 : decode cX9_compare 103 = .ok (.ifCond .le 20, 3) := by decide +kernel
theorem dX9_compare_106 : decode cX9_compare 106 = .ok (.aload_n 0, 1) := by decide +kernel
theorem dX9_compare_107 : decode cX9_compare 107 = .ok (.iload_n 1, 1) := by decide +kernel
theorem dX9_compare_108 : decode cX9_compare 108 = .ok (.iload 6, 2) := by decide +kernel
theorem dX9_compare_110 : decode cX9_compare 110 = .ok (.iload_n 2, 1) := by decide +kernel
theorem dX9_compare_111 : decode cX9_compare 111 = .ok (.iload 7, 2) := by decide +kernel
theorem dX9_compare_113 : decode cX9_compare 113 = .ok (.invokevirtual 166, 3) := by decide +kernel
theorem dX9_compare_116 : decode cX9_compare 116 = .ok (.ifCond .eq 7, 3) := by decide +kernel
theorem dX9_compare_119 : decode cX9_compare 119 = .ok (.iconst 1, 1) := by decide +kernel
theorem dX9_compare_120 : decode cX9_compare 120 = .ok (.goto 4, 3) := by decide +kernel
theorem dX9_compare_123 : decode cX9_compare 123 = .ok (.iconst 0, 1) := by decide +kernel
theorem dX9_compare_124 : decode cX9_compare 124 = .ok (.iadd, 1) := by decide +kernel
theorem dX9_compare_125 : decode cX9_compare 125 = .ok (.istore 5, 2) := by decide +kernel
theorem dX9_compare_127 : decode cX9_compare 127 = .ok (.iinc 6 1, 3) := by decide +kernel
theorem dX9_compare_130 : decode cX9_compare 130 = .ok (.goto (-66), 3) := by decide +kernel
theorem dX9_compare_133 : decode cX9_compare 133 = .ok (.iload_n 3, 1) := by decide +kernel
theorem dX9_compare_134 : decode cX9_compare 134 = .ok (.ifCond .ne 8, 3) := by decide +kernel
theorem dX9_compare_137 : decode cX9_compare 137 = .ok (.iload 4, 2) := by decide +kernel
theorem dX9_compare_139 : decode cX9_compare 139 = .ok (.goto 37, 3) := by decide +kernel
theorem dX9_compare_142 : decode cX9_compare 142 = .ok (.iload_n 3, 1) := by decide +kernel
theorem dX9_compare_143 : decode cX9_compare 143 = .ok (.iconst 1, 1) := by decide +kernel
theorem dX9_compare_144 : decode cX9_compare 144 = .ok (.if_icmp .ne 8, 3) := by decide +kernel
theorem dX9_compare_147 : decode cX9_compare 147 = .ok (.iload 5, 2) := by decide +kernel
theorem dX9_compare_149 : decode cX9_compare 149 = .ok (.goto 27, 3) := by decide +kernel
theorem dX9_compare_152 : decode cX9_compare 152 = .ok (.iload_n 3, 1) := by decide +kernel
theorem dX9_compare_153 : decode cX9_compare 153 = .ok (.iconst 2, 1) := by decide +kernel
theorem dX9_compare_154 : decode cX9_compare 154 = .ok (.if_icmp .ne 14, 3) := by decide +kernel
theorem dX9_compare_157 : decode cX9_compare 157 = .ok (.aload_n 0, 1) := by decide +kernel
theorem dX9_compare_158 : decode cX9_compare 158 = .ok (.iload_n 1, 1) := by decide +kernel
theorem dX9_compare_159 : decode cX9_compare 159 = .ok (.invokevirtual 116, 3) := by decide +kernel
theorem dX9_compare_162 : decode cX9_compare 162 = .ok (.iload 4, 2) := by decide +kernel
theorem dX9_compare_164 : decode cX9_compare 164 = .ok (.isub, 1) := by decide +kernel
theorem dX9_compare_165 : decode cX9_compare 165 = .ok (.goto 11, 3) := by decide +kernel
theorem dX9_compare_168 : decode cX9_compare 168 = .ok (.aload_n 0, 1) := by decide +kernel
theorem dX9_compare_169 : decode cX9_compare 169 = .ok (.iload_n 2, 1) := by decide +kernel
theorem dX9_compare_170 : decode cX9_compare 170 = .ok (.invokevirtual 116, 3) := by decide +kernel
theorem dX9_compare_173 : decode cX9_compare 173 = .ok (.iload 4, 2) := by decide +kernel
theorem dX9_compare_175 : decode cX9_compare 175 = .ok (.isub, 1) := by decide +kernel
theorem dX9_compare_176 : decode cX9_compare 176 = .ok (.ireturn, 1) := by decide +kernel
theorem dX9_difference_0 : decode cX9_difference 0 = .ok (.aload_n 0, 1) := by decide +kernel
theorem dX9_difference_1 : decode cX9_difference 1 = .ok (.iload_n 1, 1) := by decide +kernel
theorem dX9_difference_2 : decode cX9_difference 2 = .ok (.invokevirtual 112, 3) := by decide +kernel
theorem dX9_difference_5 : decode cX9_difference 5 = .ok (.ifCond .eq 25, 3) := by decide +kernel
theorem dX9_difference_8 : decode cX9_difference 8 = .ok (.aload_n 0, 1) := by decide +kernel
theorem dX9_difference_9 : decode cX9_difference 9 = .ok (.iload_n 2, 1) := by decide +kernel
theorem dX9_difference_10 : decode cX9_difference 10 = .ok (.invokevirtual 112, 3) := by decide +kernel
theorem dX9_difference_13 : decode cX9_difference 13 = .ok (.ifCond .eq 17, 3) := by decide +kernel
theorem dX9_difference_16 : decode cX9_difference 16 = .ok (.iload_n 3, 1) := by decide +kernel
theorem dX9_difference_17 : decode cX9_difference 17 = .ok (.ifCond .lt 13, 3) := by decide +kernel
theorem dX9_difference_20 : decode cX9_difference 20 = .ok (.iload 4, 2) := by decide +kernel
theorem dX9_difference_22 : decode cX9_difference 22 = .ok (.iconst 0, 1) := by decide +kernel
theorem dX9_difference_23 : decode cX9_difference 23 = .ok (.iconst 3, 1) := by decide +kernel
theorem dX9_difference_24 : decode cX9_difference 24 = .ok (.invokestatic 108, 3) := by decide +kernel
theorem dX9_difference_27 : decode cX9_difference 27 = .ok (.ifCond .ne 5, 3) := by decide +kernel
theorem dX9_difference_30 : decode cX9_difference 30 = .ok (.iconst (-1), 1) := by decide +kernel
theorem dX9_difference_31 : decode cX9_difference 31 = .ok (.ireturn, 1) := by decide +kernel
theorem dX9_difference_32 : decode cX9_difference 32 = .ok (.aload_n 0, 1) := by decide +kernel
theorem dX9_difference_33 : decode cX9_difference 33 = .ok (.iload_n 1, 1) := by decide +kernel
theorem dX9_difference_34 : decode cX9_difference 34 = .ok (.iload_n 2, 1) := by decide +kernel
theorem dX9_difference_35 : decode cX9_difference 35 = .ok (.invokevirtual 155, 3) := by decide +kernel
theorem dX9_difference_38 : decode cX9_difference 38 = .ok (.ifCond .ne 6, 3) := by decide +kernel
theorem dX9_difference_41 : decode cX9_difference 41 = .ok (.bipush (-2), 2) := by decide +kernel
theorem dX9_difference_43 : decode cX9_difference 43 = .ok (.ireturn, 1) := by decide +kernel
theorem dX9_difference_44 : decode cX9_difference 44 = .ok (.aload_n 0, 1) := by decide +kernel
theorem dX9_difference_45 : decode cX9_difference 45 = .ok (.iload_n 1, 1) := by decide +kernel
theorem dX9_difference_46 : decode cX9_difference 46 = .ok (.iload_n 2, 1) := by decide +kernel
theorem dX9_difference_47 : decode cX9_difference 47 = .ok (.invokevirtual 170, 3) := by decide +kernel
theorem dX9_difference_50 : decode cX9_difference 50 = .ok (.iload_n 3, 1) := by decide +kernel
theorem dX9_difference_51 : decode cX9_difference 51 = .ok (.aload_n 0, 1) := by decide +kernel
theorem dX9_difference_52 : decode cX9_difference 52 = .ok (.getfield 49, 3) := by decide +kernel
theorem dX9_difference_55 : decode cX9_difference 55 = .ok (.if_icmp .lt 6, 3) := by decide +kernel
theorem dX9_difference_58 : decode cX9_difference 58 = .ok (.bipush (-7), 2) := by decide +kernel
theorem dX9_difference_60 : decode cX9_difference 60 = .ok (.ireturn, 1) := by decide +kernel
theorem dX9_difference_61 : decode cX9_difference 61 = .ok (.iload 4, 2) := by decide +kernel
theorem dX9_difference_63 : decode cX9_difference 63 = .ok (.ifCond .ne 12, 3) := by decide +kernel
theorem dX9_difference_66 : decode cX9_difference 66 = .ok (.aload_n 0, 1) := by decide +kernel
theorem dX9_difference_67 : decode cX9_difference 67 = .ok (.getfield 37, 3) := by decide +kernel
theorem dX9_difference_70 : decode cX9_difference 70 = .ok (.iload_n 3, 1) := by decide +kernel
theorem dX9_difference_71 : decode cX9_difference 71 = .ok (.iaload, 1) := by decide +kernel
theorem dX9_difference_72 : decode cX9_difference 72 = .ok (.goto 39, 3) := by decide +kernel
theorem dX9_difference_75 : decode cX9_difference 75 = .ok (.iload 4, 2) := by decide +kernel
theorem dX9_difference_77 : decode cX9_difference 77 = .ok (.iconst 1, 1) := by decide +kernel
theorem dX9_difference_78 : decode cX9_difference 78 = .ok (.if_icmp .ne 12, 3) := by decide +kernel
theorem dX9_difference_81 : decode cX9_difference 81 = .ok (.aload_n 0, 1) := by decide +kernel
theorem dX9_difference_82 : decode cX9_difference 82 = .ok (.getfield 40, 3) := by decide +kernel
theorem dX9_difference_85 : decode cX9_difference 85 = .ok (.iload_n 3, 1) := by decide +kernel
theorem dX9_difference_86 : decode cX9_difference 86 = .ok (.iaload, 1) := by decide +kernel
theorem dX9_difference_87 : decode cX9_difference 87 = .ok (.goto 24, 3) := by decide +kernel
theorem dX9_difference_90 : decode cX9_difference 90 = .ok (.iload 4, 2) := by decide +kernel
theorem dX9_difference_92 : decode cX9_difference 92 = .ok (.iconst 2, 1) := by decide +kernel
theorem dX9_difference_93 : decode cX9_difference 93 = .ok (.if_icmp .ne 12, 3) := by decide +kernel
theorem dX9_difference_96 : decode cX9_difference 96 = .ok (.aload_n 0, 1) := by decide +kernel
theorem dX9_difference_97 : decode cX9_difference 97 = .ok (.getfield 43, 3) := by decide +kernel
theorem dX9_difference_100 : decode cX9_difference 100 = .ok (.iload_n 3, 1) := by decide +kernel
theorem dX9_difference_101 : decode cX9_difference 101 = .ok (.iaload, 1) := by decide +kernel
theorem dX9_difference_102 : decode cX9_difference 102 = .ok (.goto 9, 3) := by decide +kernel
theorem dX9_difference_105 : decode cX9_difference 105 = .ok (.aload_n 0, 1) := by decide +kernel
theorem dX9_difference_106 : decode cX9_difference 106 = .ok (.getfield 46, 3) := by decide +kernel
theorem dX9_difference_109 : decode cX9_difference 109 = .ok (.iload_n 3, 1) := by decide +kernel
theorem dX9_difference_110 : decode cX9_difference 110 = .ok (.iaload, 1) := by decide +kernel
theorem dX9_difference_111 : decode cX9_difference 111 = .ok (.ireturn, 1) := by decide +kernel
theorem dX9_tempo_0 : decode cX9_tempo 0 = .ok (.aload_n 0, 1) := by decide +kernel
theorem dX9_tempo_1 : decode cX9_tempo 1 = .ok (.iload_n 1, 1) := by decide +kernel
theorem dX9_tempo_2 : decode cX9_tempo 2 = .ok (.iload_n 2, 1) := by decide +kernel
theorem dX9_tempo_3 : decode cX9_tempo 3 = .ok (.invokevirtual 135, 3) := by decide +kernel
theorem dX9_tempo_6 : decode cX9_tempo 6 = .ok (.ifCond .ne 5, 3) := by decide +kernel
theorem dX9_tempo_9 : decode cX9_tempo 9 = .ok (.iconst (-1), 1) := by decide +kernel
theorem dX9_tempo_10 : decode cX9_tempo 10 = .ok (.ireturn, 1) := by decide +kernel
theorem dX9_tempo_11 : decode cX9_tempo 11 = .ok (.iload_n 3, 1) := by decide +kernel
theorem dX9_tempo_12 : decode cX9_tempo 12 = .ok (.ifCond .eq 19, 3) := by decide +kernel
theorem dX9_tempo_15 : decode cX9_tempo 15 = .ok (.iload_n 3, 1) := by decide +kernel
theorem dX9_tempo_16 : decode cX9_tempo 16 = .ok (.sipush 200, 3) := by decide +kernel
theorem dX9_tempo_19 : decode cX9_tempo 19 = .ok (.sipush 2500, 3) := by decide +kernel
theorem dX9_tempo_22 : decode cX9_tempo 22 = .ok (.invokestatic 108, 3) := by decide +kernel
theorem dX9_tempo_25 : decode cX9_tempo 25 = .ok (.ifCond .ne 6, 3) := by decide +kernel
theorem dX9_tempo_28 : decode cX9_tempo 28 = .ok (.bipush (-2), 2) := by decide +kernel
theorem dX9_tempo_30 : decode cX9_tempo 30 = .ok (.ireturn, 1) := by decide +kernel
theorem dX9_tempo_31 : decode cX9_tempo 31 = .ok (.aload_n 0, 1) := by decide +kernel
theorem dX9_tempo_32 : decode cX9_tempo 32 = .ok (.invokevirtual 129, 3) := by decide +kernel
theorem dX9_tempo_35 : decode cX9_tempo 35 = .ok (.aload_n 0, 1) := by decide +kernel
theorem dX9_tempo_36 : decode cX9_tempo 36 = .ok (.getfield 9, 3) := by decide +kernel
theorem dX9_tempo_39 : decode cX9_tempo 39 = .ok (.iload_n 1, 1) := by decide +kernel
theorem dX9_tempo_40 : decode cX9_tempo 40 = .ok (.iload_n 2, 1) := by decide +kernel
theorem dX9_tempo_41 : decode cX9_tempo 41 = .ok (.invokestatic 132, 3) := by decide +kernel
theorem dX9_tempo_44 : decode cX9_tempo 44 = .ok (.iconst 3, 1) := by decide +kernel
theorem dX9_tempo_45 : decode cX9_tempo 45 = .ok (.iadd, 1) := by decide +kernel
theorem dX9_tempo_46 : decode cX9_tempo 46 = .ok (.iaload, 1) := by decide +kernel
theorem dX9_tempo_47 : decode cX9_tempo 47 = .ok (.istore 4, 2) := by decide +kernel
theorem dX9_tempo_49 : decode cX9_tempo 49 = .ok (.aload_n 0, 1) := by decide +kernel
theorem dX9_tempo_50 : decode cX9_tempo 50 = .ok (.getfield 9, 3) := by decide +kernel
theorem dX9_tempo_53 : decode cX9_tempo 53 = .ok (.iload_n 1, 1) := by decide +kernel
theorem dX9_tempo_54 : decode cX9_tempo 54 = .ok (.iload_n 2, 1) := by decide +kernel
theorem dX9_tempo_55 : decode cX9_tempo 55 = .ok (.invokestatic 132, 3) := by decide +kernel
theorem dX9_tempo_58 : decode cX9_tempo 58 = .ok (.iconst 3, 1) := by decide +kernel
theorem dX9_tempo_59 : decode cX9_tempo 59 = .ok (.iadd, 1) := by decide +kernel
theorem dX9_tempo_60 : decode cX9_tempo 60 = .ok (.iload_n 3, 1) := by decide +kernel
theorem dX9_tempo_61 : decode cX9_tempo 61 = .ok (.iastore, 1) := by decide +kernel
theorem dX9_tempo_62 : decode cX9_tempo 62 = .ok (.iload 4, 2) := by decide +kernel
theorem dX9_tempo_64 : decode cX9_tempo 64 = .ok (.ifCond .le 8, 3) := by decide +kernel
theorem dX9_tempo_67 : decode cX9_tempo 67 = .ok (.iload 4, 2) := by decide +kernel
theorem dX9_tempo_69 : decode cX9_tempo 69 = .ok (.goto 5, 3) := by decide +kernel
theorem dX9_tempo_72 : decode cX9_tempo 72 = .ok (.bipush (-7), 2) := by decide +kernel
theorem dX9_tempo_74 : decode cX9_tempo 74 = .ok (.ireturn, 1) := by decide +kernel
theorem dX9_duration_0 : decode cX9_duration 0 = .ok (.fconst 0, 1) := by decide +kernel
theorem dX9_duration_1 : decode cX9_duration 1 = .ok (.fstore 4, 2) := by decide +kernel
theorem dX9_duration_3 : decode cX9_duration 3 = .ok (.iload_n 2, 1) := by decide +kernel
theorem dX9_duration_4 : decode cX9_duration 4 = .ok (.istore 5, 2) := by decide +kernel
theorem dX9_duration_6 : decode cX9_duration 6 = .ok (.iload 5, 2) := by decide +kernel
theorem dX9_duration_8 : decode cX9_duration 8 = .ok (.iload_n 3, 1) := by decide +kernel
theorem dX9_duration_9 : decode cX9_duration 9 = .ok (.if_icmp .gt 43, 3) := by decide +kernel
theorem dX9_duration_12 : decode cX9_duration 12 = .ok (.fload 4, 2) := by decide +kernel
theorem dX9_duration_14 : decode cX9_duration 14 = .ok (.aload_n 0, 1) := by decide +kernel
theorem dX9_duration_15 : decode cX9_duration 15 = .ok (.getfield 9, 3) := by decide +kernel
theorem dX9_duration_18 : decode cX9_duration 18 = .ok (.iload_n 1, 1) := by decide +kernel
theorem dX9_duration_19 : decode cX9_duration 19 = .ok (.iload 5, 2) := by decide +kernel
theorem dX9_duration_21 : decode cX9_duration 21 = .ok (.invokestatic 132, 3) := by decide +kernel
theorem dX9_duration_24 : decode cX9_duration 24 = .ok (.iconst 2, 1) := by decide +kernel
theorem dX9_duration_25 : decode cX9_duration 25 = .ok (.iadd, 1) := by decide +kernel
theorem dX9_duration_26 : decode cX9_duration 26 = .ok (.iaload, 1) := by decide +kernel
theorem dX9_duration_27 : decode cX9_duration 27 = .ok (.i2f, 1) := by decide +kernel
theorem dX9_duration_28 : decode cX9_duration 28 = .ok (.ldc 174, 2) := by decide +kernel
theorem dX9_duration_30 : decode cX9_duration 30 = .ok (.fmul, 1) := by decide +kernel
theorem dX9_duration_31 : decode cX9_duration 31 = .ok (.aload_n 0, 1) := by decide +kernel
theorem dX9_duration_32 : decode cX9_duration 32 = .ok (.iload_n 1, 1) := by decide +kernel
theorem dX9_duration_33 : decode cX9_duration 33 = .ok (.iload 5, 2) := by decide +kernel
theorem dX9_duration_35 : decode cX9_duration 35 = .ok (.invokevirtual 152, 3) := by decide +kernel
theorem dX9_duration_38 : decode cX9_duration 38 = .ok (.i2f, 1) := by decide +kernel
theorem dX9_duration_39 : decode cX9_duration 39 = .ok (.ldc 175, 2) := by decide +kernel
theorem dX9_duration_41 : decode cX9_duration 41 = .ok (.fdiv, 1) := by decide +kernel
theorem dX9_duration_42 : decode cX9_duration 42 = .ok (.fdiv, 1) := by decide +kernel
theorem dX9_duration_43 : decode cX9_duration 43 = .ok (.fadd, 1) := by decide +kernel
theorem dX9_duration_44 : decode cX9_duration 44 = .ok (.fstore 4, 2) := by decide +kernel
theorem dX9_duration_46 : decode cX9_duration 46 = .ok (.iinc 5 1, 3) := by decide +kernel
theorem dX9_duration_49 : decode cX9_duration 49 = .ok (.goto (-43), 3) := by decide +kernel
theorem dX9_duration_52 : decode cX9_duration 52 = .ok (.fload 4, 2) := by decide +kernel
theorem dX9_duration_54 : decode cX9_duration 54 = .ok (.freturn, 1) := by decide +kernel
theorem dX9_seconds_0 : decode cX9_seconds 0 = .ok (.aload_n 0, 1) := by decide +kernel
theorem dX9_seconds_1 : decode cX9_seconds 1 = .ok (.iload_n 1, 1) := by decide +kernel
theorem dX9_seconds_2 : decode cX9_seconds 2 = .ok (.iload_n 2, 1) := by decide +kernel
theorem dX9_seconds_3 : decode cX9_seconds 3 = .ok (.invokevirtual 135, 3) := by decide +kernel
theorem dX9_seconds_6 : decode cX9_seconds 6 = .ok (.ifCond .eq 12, 3) := by decide +kernel
theorem dX9_seconds_9 : decode cX9_seconds 9 = .ok (.aload_n 0, 1) := by decide +kernel
theorem dX9_seconds_10 : decode cX9_seconds 10 = .ok (.iload_n 1, 1) := by decide +kernel
theorem dX9_seconds_11 : decode cX9_seconds 11 = .ok (.iload_n 3, 1) := by decide +kernel
theorem dX9_seconds_12 : decode cX9_seconds 12 = .ok (.invokevirtual 135, 3) := by decide +kernel
theorem dX9_seconds_15 : decode cX9_seconds 15 = .ok (.ifCond .ne 5, 3) := by decide +kernel
theorem dX9_seconds_18 : decode cX9_seconds 18 = .ok (.iconst (-1), 1) := by decide +kernel
theorem dX9_seconds_19 : decode cX9_seconds 19 = .ok (.ireturn, 1) := by decide +kernel
theorem dX9_seconds_20 : decode cX9_seconds 20 = .ok (.iload_n 3, 1) := by decide +kernel
theorem dX9_seconds_21 : decode cX9_seconds 21 = .ok (.iload_n 2, 1) := by decide +kernel
theorem dX9_seconds_22 : decode cX9_seconds 22 = .ok (.if_icmp .ge 8, 3) := by decide +kernel
theorem dX9_seconds_25 : decode cX9_seconds 25 = .ok (.bipush (-2), 2) := by decide +kernel
theorem dX9_seconds_27 : decode cX9_seconds 27 = .ok (.goto 13, 3) := by decide +kernel
theorem dX9_seconds_30 : decode cX9_seconds 30 = .ok (.aload_n 0, 1) := by decide +kernel
theorem dX9_seconds_31 : decode cX9_seconds 31 = .ok (.iload_n 1, 1) := by decide +kernel
theorem dX9_seconds_32 : decode cX9_seconds 32 = .ok (.iload_n 2, 1) := by decide +kernel
theorem dX9_seconds_33 : decode cX9_seconds 33 = .ok (.iload_n 3, 1) := by decide +kernel
theorem dX9_seconds_34 : decode cX9_seconds 34 = .ok (.invokevirtual 176, 3) := by decide +kernel
theorem dX9_seconds_37 : decode cX9_seconds 37 = .ok (.invokestatic 180, 3) := by decide +kernel
theorem dX9_seconds_40 : decode cX9_seconds 40 = .ok (.ireturn, 1) := by decide +kernel
theorem dX9_length_0 : decode cX9_length 0 = .ok (.aload_n 0, 1) := by decide +kernel
theorem dX9_length_1 : decode cX9_length 1 = .ok (.iload_n 1, 1) := by decide +kernel
theorem dX9_length_2 : decode cX9_length 2 = .ok (.invokevirtual 112, 3) := by decide +kernel
theorem dX9_length_5 : decode cX9_length 5 = .ok (.ifCond .eq 18, 3) := by decide +kernel
theorem dX9_length_8 : decode cX9_length 8 = .ok (.aload_n 0, 1) := by decide +kernel
theorem dX9_length_9 : decode cX9_length 9 = .ok (.iload_n 1, 1) := by decide +kernel
theorem dX9_length_10 : decode cX9_length 10 = .ok (.iconst 1, 1) := by decide +kernel
theorem dX9_length_11 : decode cX9_length 11 = .ok (.aload_n 0, 1) := by decide +kernel
theorem dX9_length_12 : decode cX9_length 12 = .ok (.iload_n 1, 1) := by decide +kernel
theorem dX9_length_13 : decode cX9_length 13 = .ok (.invokevirtual 116, 3) := by decide +kernel
theorem dX9_length_16 : decode cX9_length 16 = .ok (.invokevirtual 176, 3) := by decide +kernel
theorem dX9_length_19 : decode cX9_length 19 = .ok (.f2i, 1) := by decide +kernel
theorem dX9_length_20 : decode cX9_length 20 = .ok (.goto 4, 3) := by decide +kernel
theorem dX9_length_23 : decode cX9_length 23 = .ok (.iconst (-1), 1) := by decide +kernel
theorem dX9_length_24 : decode cX9_length 24 = .ok (.ireturn, 1) := by decide +kernel
theorem dX9_barAt_0 : decode cX9_barAt 0 = .ok (.aload_n 0, 1) := by decide +kernel
theorem dX9_barAt_1 : decode cX9_barAt 1 = .ok (.iload_n 1, 1) := by decide +kernel
theorem dX9_barAt_2 : decode cX9_barAt 2 = .ok (.invokevirtual 112, 3) := by decide +kernel
theorem dX9_barAt_5 : decode cX9_barAt 5 = .ok (.ifCond .ne 5, 3) := by decide +kernel
theorem dX9_barAt_8 : decode cX9_barAt 8 = .ok (.iconst (-1), 1) := by decide +kernel
theorem dX9_barAt_9 : decode cX9_barAt 9 = .ok (.ireturn, 1) := by decide +kernel
theorem dX9_barAt_10 : decode cX9_barAt 10 = .ok (.iload_n 2, 1) := by decide +kernel
theorem dX9_barAt_11 : decode cX9_barAt 11 = .ok (.ifCond .ge 6, 3) := by decide +kernel
theorem dX9_barAt_14 : decode cX9_barAt 14 = .ok (.bipush (-2), 2) := by decide +kernel
theorem dX9_barAt_16 : decode cX9_barAt 16 = .ok (.ireturn, 1) := by decide +kernel
theorem dX9_barAt_17 : decode cX9_barAt 17 = .ok (.iconst 1, 1) := by decide +kernel
theorem dX9_barAt_18 : decode cX9_barAt 18 = .ok (.istore_n 3, 1) := by decide +kernel
theorem dX9_barAt_19 : decode cX9_barAt 19 = .ok (.iload_n 3, 1) := by decide +kernel
theorem dX9_barAt_20 : decode cX9_barAt 20 = .ok (.aload_n 0, 1) := by decide +kernel
theorem dX9_barAt_21 : decode cX9_barAt 21 = .ok (.iload_n 1, 1) := by decide +kernel
theorem dX9_barAt_22 : decode cX9_barAt 22 = .ok (.invokevirtual 116, 3) := by decide +kernel
theorem dX9_barAt_25 : decode cX9_barAt 25 = .ok (.if_icmp .gt 24, 3) := by decide +kernel
theorem dX9_barAt_28 : decode cX9_barAt 28 = .ok (.aload_n 0, 1) := by decide +kernel
theorem dX9_barAt_29 : decode cX9_barAt 29 = .ok (.iload_n 1, 1) := by decide +kernel
theorem dX9_barAt_30 : decode cX9_barAt 30 = .ok (.iconst 1, 1) := by decide +kernel
theorem dX9_barAt_31 : decode cX9_barAt 31 = .ok (.iload_n 3, 1) := by decide +kernel
theorem dX9_barAt_32 : decode cX9_barAt 32 = .ok (.invokevirtual 176, 3) := by decide +kernel
theorem dX9_barAt_35 : decode cX9_barAt 35 = .ok (.iload_n 2, 1) := by decide +kernel
theorem dX9_barAt_36 : decode cX9_barAt 36 = .ok (.i2f, 1) := by decide +kernel
theorem dX9_barAt_37 : decode cX9_barAt 37 = .ok (.fcmp .l, 1) := by decide +kernel
theorem dX9_barAt_38 : decode cX9_barAt 38 = .ok (.ifCond .le 5, 3) := by decide +kernel
theorem dX9_barAt_41 : decode cX9_barAt 41 = .ok (.iload_n 3, 1) := by decide +kernel
theorem dX9_barAt_42 : decode cX9_barAt 42 = .ok (.ireturn, 1) := by decide +kernel
theorem dX9_barAt_43 : decode cX9_barAt 43 = .ok (.iinc 3 1, 3) := by decide +kernel
theorem dX9_barAt_46 : decode cX9_barAt 46 = .ok (.goto (-27), 3) := by decide +kernel
theorem dX9_barAt_49 : decode cX9_barAt 49 = .ok (.bipush (-7), 2) := by decide +kernel
theorem dX9_barAt_51 : decode cX9_barAt 51 = .ok (.ireturn, 1) := by decide +kernel
theorem dX9_pace_0 : decode cX9_pace 0 = .ok (.aload_n 0, 1) := by decide +kernel
theorem dX9_pace_1 : decode cX9_pace 1 = .ok (.iload_n 1, 1) := by decide +kernel
theorem dX9_pace_2 : decode cX9_pace 2 = .ok (.invokevirtual 112, 3) := by decide +kernel
theorem dX9_pace_5 : decode cX9_pace 5 = .ok (.ifCond .ne 5, 3) := by decide +kernel
theorem dX9_pace_8 : decode cX9_pace 8 = .ok (.iconst (-1), 1) := by decide +kernel
theorem dX9_pace_9 : decode cX9_pace 9 = .ok (.ireturn, 1) := by decide +kernel
theorem dX9_pace_10 : decode cX9_pace 10 = .ok (.iconst 0, 1) := by decide +kernel
theorem dX9_pace_11 : decode cX9_pace 11 = .ok (.istore_n 2, 1) := by decide +kernel
theorem dX9_pace_12 : decode cX9_pace 12 = .ok (.iconst 1, 1) := by decide +kernel
theorem dX9_pace_13 : decode cX9_pace 13 = .ok (.istore_n 3, 1) := by decide +kernel
theorem dX9_pace_14 : decode cX9_pace 14 = .ok (.iload_n 3, 1) := by decide +kernel
theorem dX9_pace_15 : decode cX9_pace 15 = .ok (.aload_n 0, 1) := by decide +kernel
theorem dX9_pace_16 : decode cX9_pace 16 = .ok (.iload_n 1, 1) := by decide +kernel
theorem dX9_pace_17 : decode cX9_pace 17 = .ok (.invokevirtual 116, 3) := by decide +kernel
theorem dX9_pace_20 : decode cX9_pace 20 = .ok (.if_icmp .gt 24, 3) := by decide +kernel
theorem dX9_pace_23 : decode cX9_pace 23 = .ok (.iload_n 2, 1) := by decide +kernel
theorem dX9_pace_24 : decode cX9_pace 24 = .ok (.aload_n 0, 1) := by decide +kernel
theorem dX9_pace_25 : decode cX9_pace 25 = .ok (.getfield 9, 3) := by decide +kernel
theorem dX9_pace_28 : decode cX9_pace 28 = .ok (.iload_n 1, 1) := by decide +kernel
theorem dX9_pace_29 : decode cX9_pace 29 = .ok (.iload_n 3, 1) := by decide +kernel
theorem dX9_pace_30 : decode cX9_pace 30 = .ok (.invokestatic 132, 3) := by decide +kernel
theorem dX9_pace_33 : decode cX9_pace 33 = .ok (.iconst 2, 1) := by decide +kernel
theorem dX9_pace_34 : decode cX9_pace 34 = .ok (.iadd, 1) := by decide +kernel
theorem dX9_pace_35 : decode cX9_pace 35 = .ok (.iaload, 1) := by decide +kernel
theorem dX9_pace_36 : decode cX9_pace 36 = .ok (.iadd, 1) := by decide +kernel
theorem dX9_pace_37 : decode cX9_pace 37 = .ok (.istore_n 2, 1) := by decide +kernel
theorem dX9_pace_38 : decode cX9_pace 38 = .ok (.iinc 3 1, 3) := by decide +kernel
theorem dX9_pace_41 : decode cX9_pace 41 = .ok (.goto (-27), 3) := by decide +kernel
theorem dX9_pace_44 : decode cX9_pace 44 = .ok (.iload_n 2, 1) := by decide +kernel
theorem dX9_pace_45 : decode cX9_pace 45 = .ok (.i2f, 1) := by decide +kernel
theorem dX9_pace_46 : decode cX9_pace 46 = .ok (.ldc 174, 2) := by decide +kernel
theorem dX9_pace_48 : decode cX9_pace 48 = .ok (.fmul, 1) := by decide +kernel
theorem dX9_pace_49 : decode cX9_pace 49 = .ok (.aload_n 0, 1) := by decide +kernel
theorem dX9_pace_50 : decode cX9_pace 50 = .ok (.iload_n 1, 1) := by decide +kernel
theorem dX9_pace_51 : decode cX9_pace 51 = .ok (.iconst 1, 1) := by decide +kernel
theorem dX9_pace_52 : decode cX9_pace 52 = .ok (.aload_n 0, 1) := by decide +kernel
theorem dX9_pace_53 : decode cX9_pace 53 = .ok (.iload_n 1, 1) := by decide +kernel
theorem dX9_pace_54 : decode cX9_pace 54 = .ok (.invokevirtual 116, 3) := by decide +kernel
theorem dX9_pace_57 : decode cX9_pace 57 = .ok (.invokevirtual 176, 3) := by decide +kernel
theorem dX9_pace_60 : decode cX9_pace 60 = .ok (.fdiv, 1) := by decide +kernel
theorem dX9_pace_61 : decode cX9_pace 61 = .ok (.invokestatic 180, 3) := by decide +kernel
theorem dX9_pace_64 : decode cX9_pace 64 = .ok (.ireturn, 1) := by decide +kernel
theorem dX9_seat_0 : decode cX9_seat 0 = .ok (.iload_n 1, 1) := by decide +kernel
theorem dX9_seat_1 : decode cX9_seat 1 = .ok (.invokestatic 186, 3) := by decide +kernel
theorem dX9_seat_4 : decode cX9_seat 4 = .ok (.ifCond .ne 5, 3) := by decide +kernel
theorem dX9_seat_7 : decode cX9_seat 7 = .ok (.iconst (-1), 1) := by decide +kernel
theorem dX9_seat_8 : decode cX9_seat 8 = .ok (.ireturn, 1) := by decide +kernel
theorem dX9_seat_9 : decode cX9_seat 9 = .ok (.iload_n 2, 1) := by decide +kernel
theorem dX9_seat_10 : decode cX9_seat 10 = .ok (.iconst 0, 1) := by decide +kernel
theorem dX9_seat_11 : decode cX9_seat 11 = .ok (.bipush 20, 2) := by decide +kernel
theorem dX9_seat_13 : decode cX9_seat 13 = .ok (.invokestatic 108, 3) := by decide +kernel
theorem dX9_seat_16 : decode cX9_seat 16 = .ok (.ifCond .ne 6, 3) := by decide +kernel
theorem dX9_seat_19 : decode cX9_seat 19 = .ok (.bipush (-2), 2) := by decide +kernel
theorem dX9_seat_21 : decode cX9_seat 21 = .ok (.ireturn, 1) := by decide +kernel
theorem dX9_seat_22 : decode cX9_seat 22 = .ok (.aload_n 0, 1) := by decide +kernel
theorem dX9_seat_23 : decode cX9_seat 23 = .ok (.invokevirtual 129, 3) := by decide +kernel
theorem dX9_seat_26 : decode cX9_seat 26 = .ok (.aload_n 0, 1) := by decide +kernel
theorem dX9_seat_27 : decode cX9_seat 27 = .ok (.getfield 9, 3) := by decide +kernel
theorem dX9_seat_30 : decode cX9_seat 30 = .ok (.bipush 11, 2) := by decide +kernel
theorem dX9_seat_32 : decode cX9_seat 32 = .ok (.iload_n 1, 1) := by decide +kernel
theorem dX9_seat_33 : decode cX9_seat 33 = .ok (.iadd, 1) := by decide +kernel
theorem dX9_seat_34 : decode cX9_seat 34 = .ok (.iaload, 1) := by decide +kernel
theorem dX9_seat_35 : decode cX9_seat 35 = .ok (.istore_n 3, 1) := by decide +kernel
theorem dX9_seat_36 : decode cX9_seat 36 = .ok (.aload_n 0, 1) := by decide +kernel
theorem dX9_seat_37 : decode cX9_seat 37 = .ok (.getfield 9, 3) := by decide +kernel
theorem dX9_seat_40 : decode cX9_seat 40 = .ok (.bipush 11, 2) := by decide +kernel
theorem dX9_seat_42 : decode cX9_seat 42 = .ok (.iload_n 1, 1) := by decide +kernel
theorem dX9_seat_43 : decode cX9_seat 43 = .ok (.iadd, 1) := by decide +kernel
theorem dX9_seat_44 : decode cX9_seat 44 = .ok (.iload_n 2, 1) := by decide +kernel
theorem dX9_seat_45 : decode cX9_seat 45 = .ok (.iastore, 1) := by decide +kernel
theorem dX9_seat_46 : decode cX9_seat 46 = .ok (.iload_n 3, 1) := by decide +kernel
theorem dX9_seat_47 : decode cX9_seat 47 = .ok (.ireturn, 1) := by decide +kernel
theorem dX9_needs_0 : decode cX9_needs 0 = .ok (.iload_n 1, 1) := by decide +kernel
theorem dX9_needs_1 : decode cX9_needs 1 = .ok (.invokestatic 186, 3) := by decide +kernel
theorem dX9_needs_4 : decode cX9_needs 4 = .ok (.ifCond .ne 5, 3) := by decide +kernel
theorem dX9_needs_7 : decode cX9_needs 7 = .ok (.iconst (-1), 1) := by decide +kernel
theorem dX9_needs_8 : decode cX9_needs 8 = .ok (.ireturn, 1) := by decide +kernel
theorem dX9_needs_9 : decode cX9_needs 9 = .ok (.aload_n 0, 1) := by decide +kernel
theorem dX9_needs_10 : decode cX9_needs 10 = .ok (.getfield 9, 3) := by decide +kernel
theorem dX9_needs_13 : decode cX9_needs 13 = .ok (.bipush 11, 2) := by decide +kernel
theorem dX9_needs_15 : decode cX9_needs 15 = .ok (.iload_n 1, 1) := by decide +kernel
theorem dX9_needs_16 : decode cX9_needs 16 = .ok (.iadd, 1) := by decide +kernel
theorem dX9_needs_17 : decode cX9_needs 17 = .ok (.iaload, 1) := by decide +kernel
theorem dX9_needs_18 : decode cX9_needs 18 = .ok (.istore_n 2, 1) := by decide +kernel
theorem dX9_needs_19 : decode cX9_needs 19 = .ok (.iload_n 1, 1) := by decide +kernel
theorem dX9_needs_20 : decode cX9_needs 20 = .ok (.iconst 4, 1) := by decide +kernel
theorem dX9_needs_21 : decode cX9_needs 21 = .ok (.if_icmp .ge 11, 3) := by decide +kernel
theorem dX9_needs_24 : decode cX9_needs 24 = .ok (.iload_n 2, 1) := by decide +kernel
theorem dX9_needs_25 : decode cX9_needs 25 = .ok (.iconst 1, 1) := by decide +kernel
theorem dX9_needs_26 : decode cX9_needs 26 = .ok (.iadd, 1) := by decide +kernel
theorem dX9_needs_27 : decode cX9_needs 27 = .ok (.iconst 2, 1) := by decide +kernel
theorem dX9_needs_28 : decode cX9_needs 28 = .ok (.idiv, 1) := by decide +kernel
theorem dX9_needs_29 : decode cX9_needs 29 = .ok (.goto 4, 3) := by decide +kernel
theorem dX9_needs_32 : decode cX9_needs 32 = .ok (.iload_n 2, 1) := by decide +kernel
theorem dX9_needs_33 : decode cX9_needs 33 = .ok (.ireturn, 1) := by decide +kernel
theorem dX9_buy_0 : decode cX9_buy 0 = .ok (.aload_n 0, 1) := by decide +kernel
theorem dX9_buy_1 : decode cX9_buy 1 = .ok (.iload_n 1, 1) := by decide +kernel
theorem dX9_buy_2 : decode cX9_buy 2 = .ok (.invokevirtual 112, 3) := by decide +kernel
theorem dX9_buy_5 : decode cX9_buy 5 = .ok (.ifCond .eq 10, 3) := by decide +kernel
theorem dX9_buy_8 : decode cX9_buy 8 = .ok (.iload_n 2, 1) := by decide +kernel
theorem dX9_buy_9 : decode cX9_buy 9 = .ok (.invokestatic 186, 3) := by decide +kernel
theorem dX9_buy_12 : decode cX9_buy 12 = .ok (.ifCond .ne 5, 3) := by decide +kernel
theorem dX9_buy_15 : decode cX9_buy 15 = .ok (.iconst (-1), 1) := by decide +kernel
theorem dX9_buy_16 : decode cX9_buy 16 = .ok (.ireturn, 1) := by decide +kernel
theorem dX9_buy_17 : decode cX9_buy 17 = .ok (.iload_n 3, 1) := by decide +kernel
theorem dX9_buy_18 : decode cX9_buy 18 = .ok (.iconst 1, 1) := by decide +kernel
theorem dX9_buy_19 : decode cX9_buy 19 = .ok (.bipush 30, 2) := by decide +kernel
theorem dX9_buy_21 : decode cX9_buy 21 = .ok (.invokestatic 108, 3) := by decide +kernel
theorem dX9_buy_24 : decode cX9_buy 24 = .ok (.ifCond .ne 6, 3) := by decide +kernel
theorem dX9_buy_27 : decode cX9_buy 27 = .ok (.bipush (-2), 2) := by decide +kernel
theorem dX9_buy_29 : decode cX9_buy 29 = .ok (.ireturn, 1) := by decide +kernel
theorem dX9_buy_30 : decode cX9_buy 30 = .ok (.aload_n 0, 1) := by decide +kernel
theorem dX9_buy_31 : decode cX9_buy 31 = .ok (.iload_n 1, 1) := by decide +kernel
theorem dX9_buy_32 : decode cX9_buy 32 = .ok (.iload_n 2, 1) := by decide +kernel
theorem dX9_buy_33 : decode cX9_buy 33 = .ok (.invokevirtual 120, 3) := by decide +kernel
theorem dX9_buy_36 : decode cX9_buy 36 = .ok (.iload_n 3, 1) := by decide +kernel
theorem dX9_buy_37 : decode cX9_buy 37 = .ok (.iadd, 1) := by decide +kernel
theorem dX9_buy_38 : decode cX9_buy 38 = .ok (.bipush 30, 2) := by decide +kernel
theorem dX9_buy_40 : decode cX9_buy 40 = .ok (.if_icmp .le 6, 3) := by decide +kernel
theorem dX9_buy_43 : decode cX9_buy 43 = .ok (.bipush (-4), 2) := by decide +kernel
theorem dX9_buy_45 : decode cX9_buy 45 = .ok (.ireturn, 1) := by decide +kernel
theorem dX9_buy_46 : decode cX9_buy 46 = .ok (.aload_n 0, 1) := by decide +kernel
theorem dX9_buy_47 : decode cX9_buy 47 = .ok (.invokevirtual 129, 3) := by decide +kernel
theorem dX9_buy_50 : decode cX9_buy 50 = .ok (.aload_n 0, 1) := by decide +kernel
theorem dX9_buy_51 : decode cX9_buy 51 = .ok (.getfield 9, 3) := by decide +kernel
theorem dX9_buy_54 : decode cX9_buy 54 = .ok (.iload_n 1, 1) := by decide +kernel
theorem dX9_buy_55 : decode cX9_buy 55 = .ok (.iconst 3, 1) := by decide +kernel
theorem dX9_buy_56 : decode cX9_buy 56 = .ok (.iconst 3, 1) := by decide +kernel
theorem dX9_buy_57 : decode cX9_buy 57 = .ok (.iload_n 2, 1) := by decide +kernel
theorem dX9_buy_58 : decode cX9_buy 58 = .ok (.imul, 1) := by decide +kernel
theorem dX9_buy_59 : decode cX9_buy 59 = .ok (.iadd, 1) := by decide +kernel
theorem dX9_buy_60 : decode cX9_buy 60 = .ok (.invokestatic 105, 3) := by decide +kernel
theorem dX9_buy_63 : decode cX9_buy 63 = .ok (.dup2, 1) := by decide +kernel
theorem dX9_buy_64 : decode cX9_buy 64 = .ok (.iaload, 1) := by decide +kernel
theorem dX9_buy_65 : decode cX9_buy 65 = .ok (.iload_n 3, 1) := by decide +kernel
theorem dX9_buy_66 : decode cX9_buy 66 = .ok (.iadd, 1) := by decide +kernel
theorem dX9_buy_67 : decode cX9_buy 67 = .ok (.iastore, 1) := by decide +kernel
theorem dX9_buy_68 : decode cX9_buy 68 = .ok (.aload_n 0, 1) := by decide +kernel
theorem dX9_buy_69 : decode cX9_buy 69 = .ok (.iload_n 1, 1) := by decide +kernel
theorem dX9_buy_70 : decode cX9_buy 70 = .ok (.iload_n 2, 1) := by decide +kernel
theorem dX9_buy_71 : decode cX9_buy 71 = .ok (.invokevirtual 120, 3) := by decide +kernel
theorem dX9_buy_74 : decode cX9_buy 74 = .ok (.ireturn, 1) := by decide +kernel
theorem dX9_stock_0 : decode cX9_stock 0 = .ok (.aload_n 0, 1) := by decide +kernel
theorem dX9_stock_1 : decode cX9_stock 1 = .ok (.iload_n 1, 1) := by decide +kernel
theorem dX9_stock_2 : decode cX9_stock 2 = .ok (.invokevirtual 112, 3) := by decide +kernel
theorem dX9_stock_5 : decode cX9_stock 5 = .ok (.ifCond .eq 10, 3) := by decide +kernel
theorem dX9_stock_8 : decode cX9_stock 8 = .ok (.iload_n 2, 1) := by decide +kernel
theorem dX9_stock_9 : decode cX9_stock 9 = .ok (.invokestatic 186, 3) := by decide +kernel
theorem dX9_stock_12 : decode cX9_stock 12 = .ok (.ifCond .ne 5, 3) := by decide +kernel
theorem dX9_stock_15 : decode cX9_stock 15 = .ok (.iconst (-1), 1) := by decide +kernel
theorem dX9_stock_16 : decode cX9_stock 16 = .ok (.ireturn, 1) := by decide +kernel
theorem dX9_stock_17 : decode cX9_stock 17 = .ok (.iload_n 3, 1) := by decide +kernel
theorem dX9_stock_18 : decode cX9_stock 18 = .ok (.tableswitch 58 0 3 #[30, 37, 44, 51], 30) := by decide +kernel
theorem dX9_stock_48 : decode cX9_stock 48 = .ok (.aload_n 0, 1) := by decide +kernel
theorem dX9_stock_49 : decode cX9_stock 49 = .ok (.iload_n 1, 1) := by decide +kernel
theorem dX9_stock_50 : decode cX9_stock 50 = .ok (.iload_n 2, 1) := by decide +kernel
theorem dX9_stock_51 : decode cX9_stock 51 = .ok (.invokevirtual 120, 3) := by decide +kernel
theorem dX9_stock_54 : decode cX9_stock 54 = .ok (.ireturn, 1) := by decide +kernel
theorem dX9_stock_55 : decode cX9_stock 55 = .ok (.aload_n 0, 1) := by decide +kernel
theorem dX9_stock_56 : decode cX9_stock 56 = .ok (.iload_n 1, 1) := by decide +kernel
theorem dX9_stock_57 : decode cX9_stock 57 = .ok (.iload_n 2, 1) := by decide +kernel
theorem dX9_stock_58 : decode cX9_stock 58 = .ok (.invokevirtual 189, 3) := by decide +kernel
theorem dX9_stock_61 : decode cX9_stock 61 = .ok (.ireturn, 1) := by decide +kernel
theorem dX9_stock_62 : decode cX9_stock 62 = .ok (.aload_n 0, 1) := by decide +kernel
theorem dX9_stock_63 : decode cX9_stock 63 = .ok (.iload_n 1, 1) := by decide +kernel
theorem dX9_stock_64 : decode cX9_stock 64 = .ok (.iload_n 2, 1) := by decide +kernel
theorem dX9_stock_65 : decode cX9_stock 65 = .ok (.invokevirtual 123, 3) := by decide +kernel
theorem dX9_stock_68 : decode cX9_stock 68 = .ok (.ireturn, 1) := by decide +kernel
theorem dX9_stock_69 : decode cX9_stock 69 = .ok (.aload_n 0, 1) := by decide +kernel
theorem dX9_stock_70 : decode cX9_stock 70 = .ok (.iload_n 1, 1) := by decide +kernel
theorem dX9_stock_71 : decode cX9_stock 71 = .ok (.iload_n 2, 1) := by decide +kernel
theorem dX9_stock_72 : decode cX9_stock 72 = .ok (.invokevirtual 126, 3) := by decide +kernel
theorem dX9_stock_75 : decode cX9_stock 75 = .ok (.ireturn, 1) := by decide +kernel
theorem dX9_stock_76 : decode cX9_stock 76 = .ok (.iconst (-1), 1) := by decide +kernel
theorem dX9_stock_77 : decode cX9_stock 77 = .ok (.ireturn, 1) := by decide +kernel
theorem dX9_bow_0 : decode cX9_bow 0 = .ok (.aload_n 0, 1) := by decide +kernel
theorem dX9_bow_1 : decode cX9_bow 1 = .ok (.iload_n 1, 1) := by decide +kernel
theorem dX9_bow_2 : decode cX9_bow 2 = .ok (.iload_n 3, 1) := by decide +kernel
theorem dX9_bow_3 : decode cX9_bow 3 = .ok (.invokevirtual 135, 3) := by decide +kernel
theorem dX9_bow_6 : decode cX9_bow 6 = .ok (.ifCond .eq 12, 3) := by decide +kernel
theorem dX9_bow_9 : decode cX9_bow 9 = .ok (.iload_n 2, 1) := by decide +kernel
theorem dX9_bow_10 : decode cX9_bow 10 = .ok (.iconst 0, 1) := by decide +kernel
theorem dX9_bow_11 : decode cX9_bow 11 = .ok (.iconst 3, 1) := by decide +kernel
theorem dX9_bow_12 : decode cX9_bow 12 = .ok (.invokestatic 108, 3) := by decide +kernel
theorem dX9_bow_15 : decode cX9_bow 15 = .ok (.ifCond .ne 5, 3) := by decide +kernel
theorem dX9_bow_18 : decode cX9_bow 18 = .ok (.iconst (-1), 1) := by decide +kernel
theorem dX9_bow_19 : decode cX9_bow 19 = .ok (.ireturn, 1) := by decide +kernel
theorem dX9_bow_20 : decode cX9_bow 20 = .ok (.iload 4, 2) := by decide +kernel
theorem dX9_bow_22 : decode cX9_bow 22 = .ok (.iconst 0, 1) := by decide +kernel
theorem dX9_bow_23 : decode cX9_bow 23 = .ok (.iconst 4, 1) := by decide +kernel
theorem dX9_bow_24 : decode cX9_bow 24 = .ok (.invokestatic 108, 3) := by decide +kernel
theorem dX9_bow_27 : decode cX9_bow 27 = .ok (.ifCond .ne 6, 3) := by decide +kernel
theorem dX9_bow_30 : decode cX9_bow 30 = .ok (.bipush (-2), 2) := by decide +kernel
theorem dX9_bow_32 : decode cX9_bow 32 = .ok (.ireturn, 1) := by decide +kernel
theorem dX9_bow_33 : decode cX9_bow 33 = .ok (.aload_n 0, 1) := by decide +kernel
theorem dX9_bow_34 : decode cX9_bow 34 = .ok (.invokevirtual 129, 3) := by decide +kernel
theorem dX9_bow_37 : decode cX9_bow 37 = .ok (.iload_n 1, 1) := by decide +kernel
theorem dX9_bow_38 : decode cX9_bow 38 = .ok (.iload_n 3, 1) := by decide +kernel
theorem dX9_bow_39 : decode cX9_bow 39 = .ok (.invokestatic 132, 3) := by decide +kernel
theorem dX9_bow_42 : decode cX9_bow 42 = .ok (.iconst 4, 1) := by decide +kernel
theorem dX9_bow_43 : decode cX9_bow 43 = .ok (.iadd, 1) := by decide +kernel
theorem dX9_bow_44 : decode cX9_bow 44 = .ok (.iload_n 2, 1) := by decide +kernel
theorem dX9_bow_45 : decode cX9_bow 45 = .ok (.iadd, 1) := by decide +kernel
theorem dX9_bow_46 : decode cX9_bow 46 = .ok (.istore 5, 2) := by decide +kernel
theorem dX9_bow_48 : decode cX9_bow 48 = .ok (.aload_n 0, 1) := by decide +kernel
theorem dX9_bow_49 : decode cX9_bow 49 = .ok (.getfield 9, 3) := by decide +kernel
theorem dX9_bow_52 : decode cX9_bow 52 = .ok (.iload 5, 2) := by decide +kernel
theorem dX9_bow_54 : decode cX9_bow 54 = .ok (.iaload, 1) := by decide +kernel
theorem dX9_bow_55 : decode cX9_bow 55 = .ok (.istore 6, 2) := by decide +kernel
theorem dX9_bow_57 : decode cX9_bow 57 = .ok (.aload_n 0, 1) := by decide +kernel
theorem dX9_bow_58 : decode cX9_bow 58 = .ok (.getfield 9, 3) := by decide +kernel
theorem dX9_bow_61 : decode cX9_bow 61 = .ok (.iload 5, 2) := by decide +kernel
theorem dX9_bow_63 : decode cX9_bow 63 = .ok (.iload 4, 2) := by decide +kernel
theorem dX9_bow_65 : decode cX9_bow 65 = .ok (.iastore, 1) := by decide +kernel
theorem dX9_bow_66 : decode cX9_bow 66 = .ok (.iload 6, 2) := by decide +kernel
theorem dX9_bow_68 : decode cX9_bow 68 = .ok (.ireturn, 1) := by decide +kernel
theorem dX9_bowing_0 : decode cX9_bowing 0 = .ok (.aload_n 0, 1) := by decide +kernel
theorem dX9_bowing_1 : decode cX9_bowing 1 = .ok (.iload_n 1, 1) := by decide +kernel
theorem dX9_bowing_2 : decode cX9_bowing 2 = .ok (.iload_n 3, 1) := by decide +kernel
theorem dX9_bowing_3 : decode cX9_bowing 3 = .ok (.invokevirtual 135, 3) := by decide +kernel
theorem dX9_bowing_6 : decode cX9_bowing 6 = .ok (.ifCond .eq 29, 3) := by decide +kernel
theorem dX9_bowing_9 : decode cX9_bowing 9 = .ok (.iload_n 2, 1) := by decide +kernel
theorem dX9_bowing_10 : decode cX9_bowing 10 = .ok (.iconst 0, 1) := by decide +kernel
theorem dX9_bowing_11 : decode cX9_bowing 11 = .ok (.iconst 3, 1) := by decide +kernel
theorem dX9_bowing_12 : decode cX9_bowing 12 = .ok (.invokestatic 108, 3) := by decide +kernel
theorem dX9_bowing_15 : decode cX9_bowing 15 = .ok (.ifCond .eq 20, 3) := by decide +kernel
theorem dX9_bowing_18 : decode cX9_bowing 18 = .ok (.aload_n 0, 1) := by decide +kernel
theorem dX9_bowing_19 : decode cX9_bowing 19 = .ok (.getfield 9, 3) := by decide +kernel
theorem dX9_bowing_22 : decode cX9_bowing 22 = .ok (.iload_n 1, 1) := by decide +kernel
theorem dX9_bowing_23 : decode cX9_bowing 23 = .ok (.iload_n 3, 1) := by decide +kernel
theorem dX9_bowing_24 : decode cX9_bowing 24 = .ok (.invokestatic 132, 3) := by decide +kernel
theorem dX9_bowing_27 : decode cX9_bowing 27 = .ok (.iconst 4, 1) := by decide +kernel
theorem dX9_bowing_28 : decode cX9_bowing 28 = .ok (.iadd, 1) := by decide +kernel
theorem dX9_bowing_29 : decode cX9_bowing 29 = .ok (.iload_n 2, 1) := by decide +kernel
theorem dX9_bowing_30 : decode cX9_bowing 30 = .ok (.iadd, 1) := by decide +kernel
theorem dX9_bowing_31 : decode cX9_bowing 31 = .ok (.iaload, 1) := by decide +kernel
theorem dX9_bowing_32 : decode cX9_bowing 32 = .ok (.goto 4, 3) := by decide +kernel
theorem dX9_bowing_35 : decode cX9_bowing 35 = .ok (.iconst (-1), 1) := by decide +kernel
theorem dX9_bowing_36 : decode cX9_bowing 36 = .ok (.ireturn, 1) := by decide +kernel
theorem dX9_copyBowings_0 : decode cX9_copyBowings 0 = .ok (.aload_n 0, 1) := by decide +kernel
theorem dX9_copyBowings_1 : decode cX9_copyBowings 1 = .ok (.iload_n 1, 1) := by decide +kernel
theorem dX9_copyBowings_2 : decode cX9_copyBowings 2 = .ok (.invokevirtual 112, 3) := by decide +kernel
theorem dX9_copyBowings_5 : decode cX9_copyBowings 5 = .ok (.ifCond .eq 20, 3) := by decide +kernel
theorem dX9_copyBowings_8 : decode cX9_copyBowings 8 = .ok (.aload_n 0, 1) := by decide +kernel
theorem dX9_copyBowings_9 : decode cX9_copyBowings 9 = .ok (.iload_n 2, 1) := by decide +kernel
theorem dX9_copyBowings_10 : decode cX9_copyBowings 10 = .ok (.invokevirtual 112, 3) := by decide +kernel
theorem dX9_copyBowings_13 : decode cX9_copyBowings 13 = .ok (.ifCond .eq 12, 3) := by decide +kernel
theorem dX9_copyBowings_16 : decode cX9_copyBowings 16 = .ok (.iload_n 3, 1) := by decide +kernel
theorem dX9_copyBowings_17 : decode cX9_copyBowings 17 = .ok (.iconst 0, 1) := by decide +kernel
theorem dX9_copyBowings_18 : decode cX9_copyBowings 18 = .ok (.iconst 3, 1) := by decide +kernel
theorem dX9_copyBowings_19 : decode cX9_copyBowings 19 = .ok (.invokestatic 108, 3) := by decide +kernel
theorem dX9_copyBowings_22 : decode cX9_copyBowings 22 = .ok (.ifCond .ne 5, 3) := by decide +kernel
theorem dX9_copyBowings_25 : decode cX9_copyBowings 25 = .ok (.iconst (-1), 1) := by decide +kernel
theorem dX9_copyBowings_26 : decode cX9_copyBowings 26 = .ok (.ireturn, 1) := by decide +kernel
theorem dX9_copyBowings_27 : decode cX9_copyBowings 27 = .ok (.iload_n 1, 1) := by decide +kernel
theorem dX9_copyBowings_28 : decode cX9_copyBowings 28 = .ok (.iload_n 2, 1) := by decide +kernel
theorem dX9_copyBowings_29 : decode cX9_copyBowings 29 = .ok (.if_icmp .eq 22, 3) := by decide +kernel
theorem dX9_copyBowings_32 : decode cX9_copyBowings 32 = .ok (.aload_n 0, 1) := by decide +kernel
theorem dX9_copyBowings_33 : decode cX9_copyBowings 33 = .ok (.iload_n 1, 1) := by decide +kernel
theorem dX9_copyBowings_34 : decode cX9_copyBowings 34 = .ok (.iload_n 2, 1) := by decide +kernel
theorem dX9_copyBowings_35 : decode cX9_copyBowings 35 = .ok (.invokevirtual 155, 3) := by decide +kernel
theorem dX9_copyBowings_38 : decode cX9_copyBowings 38 = .ok (.ifCond .eq 13, 3) := by decide +kernel
theorem dX9_copyBowings_41 : decode cX9_copyBowings 41 = .ok (.iload 4, 2) := by decide +kernel
theorem dX9_copyBowings_43 : decode cX9_copyBowings 43 = .ok (.iconst 0, 1) := by decide +kernel
theorem dX9_copyBowings_44 : decode cX9_copyBowings 44 = .ok (.iconst 1, 1) := by decide +kernel
theorem dX9_copyBowings_45 : decode cX9_copyBowings 45 = .ok (.invokestatic 108, 3) := by decide +kernel
theorem dX9_copyBowings_48 : decode cX9_copyBowings 48 = .ok (.ifCond .ne 6, 3) := by decide +kernel
theorem dX9_copyBowings_51 : decode cX9_copyBowings 51 = .ok (.bipush (-2), 2) := by decide +kernel
theorem dX9_copyBowings_53 : decode cX9_copyBowings 53 = .ok (.ireturn, 1) := by decide +kernel
theorem dX9_copyBowings_54 : decode cX9_copyBowings 54 = .ok (.aload_n 0, 1) := by decide +kernel
theorem dX9_copyBowings_55 : decode cX9_copyBowings 55 = .ok (.invokevirtual 129, 3) := by decide +kernel
theorem dX9_copyBowings_58 : decode cX9_copyBowings 58 = .ok (.iconst 0, 1) := by decide +kernel
theorem dX9_copyBowings_59 : decode cX9_copyBowings 59 = .ok (.istore 5, 2) := by decide +kernel
theorem dX9_copyBowings_61 : decode cX9_copyBowings 61 = .ok (.iload 5, 2) := by decide +kernel
theorem dX9_copyBowings_63 : decode cX9_copyBowings 63 = .ok (.iconst 4, 1) := by decide +kernel
theorem dX9_copyBowings_64 : decode cX9_copyBowings 64 = .ok (.if_icmp .ge 17, 3) := by decide +kernel
theorem dX9_copyBowings_67 : decode cX9_copyBowings 67 = .ok (.aload_n 0, 1) := by decide +kernel
theorem dX9_copyBowings_68 : decode cX9_copyBowings 68 = .ok (.getfield 52, 3) := by decide +kernel
theorem dX9_copyBowings_71 : decode cX9_copyBowings 71 = .ok (.iload 5, 2) := by decide +kernel
theorem dX9_copyBowings_73 : decode cX9_copyBowings 73 = .ok (.iconst 0, 1) := by decide +kernel
theorem dX9_copyBowings_74 : decode cX9_copyBowings 74 = .ok (.iastore, 1) := by decide +kernel
theorem dX9_copyBowings_75 : decode cX9_copyBowings 75 = .ok (.iinc 5 1, 3) := by decide +kernel
theorem dX9_copyBowings_78 : decode cX9_copyBowings 78 = .ok (.goto (-17), 3) := by decide +kernel
theorem dX9_copyBowings_81 : decode cX9_copyBowings 81 = .ok (.iconst 1, 1) := by decide +kernel
theorem dX9_copyBowings_82 : decode cX9_copyBowings 82 = .ok (.istore 5, 2) := by decide +kernel
theorem dX9_copyBowings_84 : decode cX9_copyBowings 84 = .ok (.iload 5, 2) := by decide +kernel
theorem dX9_copyBowings_86 : decode cX9_copyBowings 86 = .ok (.aload_n 0, 1) := by decide +kernel
theorem dX9_copyBowings_87 : decode cX9_copyBowings 87 = .ok (.iload_n 1, 1) := by decide +kernel
theorem dX9_copyBowings_88 : decode cX9_copyBowings 88 = .ok (.invokevirtual 116, 3) := by decide +kernel
theorem dX9_copyBowings_91 : decode cX9_copyBowings 91 = .ok (.if_icmp .gt 184, 3) := by decide +kernel
theorem dX9_copyBowings_94 : decode cX9_copyBowings 94 = .ok (.aload_n 0, 1) := by decide +kernel
theorem dX9_copyBowings_95 : decode cX9_copyBowings 95 = .ok (.getfield 9, 3) := by decide +kernel
theorem dX9_copyBowings_98 : decode cX9_copyBowings 98 = .ok (.iload_n 1, 1) := by decide +kernel
theorem dX9_copyBowings_99 : decode cX9_copyBowings 99 = .ok (.iload 5, 2) := by decide +kernel
theorem dX9_copyBowings_101 : decode cX9_copyBowings 101 = .ok (.invokestatic 132, 3) := by decide +kernel
theorem dX9_copyBowings_104 : decode cX9_copyBowings 104 = .ok (.iconst 4, 1) := by decide +kernel
theorem dX9_copyBowings_105 : decode cX9_copyBowings 105 = .ok (.iadd, 1) := by decide +kernel
theorem dX9_copyBowings_106 : decode cX9_copyBowings 106 = .ok (.iload_n 3, 1) := by decide +kernel
theorem dX9_copyBowings_107 : decode cX9_copyBowings 107 = .ok (.iadd, 1) := by decide +kernel
theorem dX9_copyBowings_108 : decode cX9_copyBowings 108 = .ok (.iaload, 1) := by decide +kernel
theorem dX9_copyBowings_109 : decode cX9_copyBowings 109 = .ok (.istore 6, 2) := by decide +kernel
theorem dX9_copyBowings_111 : decode cX9_copyBowings 111 = .ok (.iload 6, 2) := by decide +kernel
theorem dX9_copyBowings_113 : decode cX9_copyBowings 113 = .ok (.ifCond .ne 6, 3) := by decide +kernel
theorem dX9_copyBowings_116 : decode cX9_copyBowings 116 = .ok (.goto 153, 3) := by decide +kernel
theorem dX9_copyBowings_119 : decode cX9_copyBowings 119 = .ok (.aload_n 0, 1) := by decide +kernel
theorem dX9_copyBowings_120 : decode cX9_copyBowings 120 = .ok (.iload_n 1, 1) := by decide +kernel
theorem dX9_copyBowings_121 : decode cX9_copyBowings 121 = .ok (.iload 5, 2) := by decide +kernel
theorem dX9_copyBowings_123 : decode cX9_copyBowings 123 = .ok (.iload_n 2, 1) := by decide +kernel
theorem dX9_copyBowings_124 : decode cX9_copyBowings 124 = .ok (.invokevirtual 158, 3) := by decide +kernel
theorem dX9_copyBowings_127 : decode cX9_copyBowings 127 = .ok (.istore 7, 2) := by decide +kernel
theorem dX9_copyBowings_129 : decode cX9_copyBowings 129 = .ok (.iload 7, 2) := by decide +kernel
theorem dX9_copyBowings_131 : decode cX9_copyBowings 131 = .ok (.ifCond .ge 16, 3) := by decide +kernel
theorem dX9_copyBowings_134 : decode cX9_copyBowings 134 = .ok (.aload_n 0, 1) := by decide +kernel
theorem dX9_copyBowings_135 : decode cX9_copyBowings 135 = .ok (.getfield 52, 3) := by decide +kernel
theorem dX9_copyBowings_138 : decode cX9_copyBowings 138 = .ok (.iconst 1, 1) := by decide +kernel
theorem dX9_copyBowings_139 : decode cX9_copyBowings 139 = .ok (.dup2, 1) := by decide +kernel
theorem dX9_copyBowings_140 : decode cX9_copyBowings 140 = .ok (.iaload, 1) := by decide +kernel
theorem dX9_copyBowings_141 : decode cX9_copyBowings 141 = .ok (.iconst 1, 1) := by decide +kernel
theorem dX9_copyBowings_142 : decode cX9_copyBowings 142 = .ok (.iadd, 1) := by decide +kernel
theorem dX9_copyBowings_143 : decode cX9_copyBowings 143 = .ok (.iastore, 1) := by decide +kernel
theorem dX9_copyBowings_144 : decode cX9_copyBowings 144 = .ok (.goto 125, 3) := by decide +kernel
theorem dX9_copyBowings_147 : decode cX9_copyBowings 147 = .ok (.iload_n 2, 1) := by decide +kernel
theorem dX9_copyBowings_148 : decode cX9_copyBowings 148 = .ok (.iload 7, 2) := by decide +kernel
theorem dX9_copyBowings_150 : decode cX9_copyBowings 150 = .ok (.invokestatic 132, 3) := by decide +kernel
theorem dX9_copyBowings_153 : decode cX9_copyBowings 153 = .ok (.iconst 4, 1) := by decide +kernel
theorem dX9_copyBowings_154 : decode cX9_copyBowings 154 = .ok (.iadd, 1) := by decide +kernel
theorem dX9_copyBowings_155 : decode cX9_copyBowings 155 = .ok (.iload_n 3, 1) := by decide +kernel
theorem dX9_copyBowings_156 : decode cX9_copyBowings 156 = .ok (.iadd, 1) := by decide +kernel
theorem dX9_copyBowings_157 : decode cX9_copyBowings 157 = .ok (.istore 8, 2) := by decide +kernel
theorem dX9_copyBowings_159 : decode cX9_copyBowings 159 = .ok (.aload_n 0, 1) := by decide +kernel
theorem dX9_copyBowings_160 : decode cX9_copyBowings 160 = .ok (.getfield 9, 3) := by decide +kernel
theorem dX9_copyBowings_163 : decode cX9_copyBowings 163 = .ok (.iload 8, 2) := by decide +kernel
theorem dX9_copyBowings_165 : decode cX9_copyBowings 165 = .ok (.iaload, 1) := by decide +kernel
theorem dX9_copyBowings_166 : decode cX9_copyBowings 166 = .ok (.iload 6, 2) := by decide +kernel
theorem dX9_copyBowings_168 : decode cX9_copyBowings 168 = .ok (.if_icmp .ne 6, 3) := by decide +kernel
theorem dX9_copyBowings_171 : decode cX9_copyBowings 171 = .ok (.goto 98, 3) := by decide +kernel
theorem dX9_copyBowings_174 : decode cX9_copyBowings 174 = .ok (.aload_n 0, 1) := by decide +kernel
theorem dX9_copyBowings_175 : decode cX9_copyBowings 175 = .ok (.getfield 9, 3) := by decide +kernel
theorem dX9_copyBowings_178 : decode cX9_copyBowings 178 = .ok (.iload 8, 2) := by decide +kernel
theorem dX9_copyBowings_180 : decode cX9_copyBowings 180 = .ok (.iaload, 1) := by decide +kernel
theorem dX9_copyBowings_181 : decode cX9_copyBowings 181 = .ok (.ifCond .le 7, 3) := by decide +kernel
theorem dX9_copyBowings_184 : decode cX9_copyBowings 184 = .ok (.iconst 1, 1) := by decide +kernel
theorem dX9_copyBowings_185 : decode cX9_copyBowings 185 = .ok (.goto 4, 3) := by decide +kernel
theorem dX9_copyBowings_188 : decode cX9_copyBowings 188 = .ok (.iconst 0, 1) := by decide +kernel
theorem dX9_copyBowings_189 : decode cX9_copyBowings 189 = .ok (.istore 9, 2) := by decide +kernel
theorem dX9_copyBowings_191 : decode cX9_copyBowings 191 = .ok (.aload_n 0, 1) := by decide +kernel
theorem dX9_copyBowings_192 : decode cX9_copyBowings 192 = .ok (.getfield 52, 3) := by decide +kernel
theorem dX9_copyBowings_195 : decode cX9_copyBowings 195 = .ok (.iconst 2, 1) := by decide +kernel
theorem dX9_copyBowings_196 : decode cX9_copyBowings 196 = .ok (.dup2, 1) := by decide +kernel
theorem dX9_copyBowings_197 : decode cX9_copyBowings 197 = .ok (.iaload, 1) := by decide +kernel
theorem dX9_copyBowings_198 : decode cX9_copyBowings 198 = .ok (.iload 9, 2) := by decide +kernel
theorem dX9_copyBowings_200 : decode cX9_copyBowings 200 = .ok (.ifCond .eq 7, 3) := by decide +kernel
theorem dX9_copyBowings_203 : decode cX9_copyBowings 203 = .ok (.iconst 1, 1) := by decide +kernel
theorem dX9_copyBowings_204 : decode cX9_copyBowings 204 = .ok (.goto 4, 3) := by decide +kernel
theorem dX9_copyBowings_207 : decode cX9_copyBowings 207 = .ok (.iconst 0, 1) := by decide +kernel
theorem dX9_copyBowings_208 : decode cX9_copyBowings 208 = .ok (.iadd, 1) := by decide +kernel
theorem dX9_copyBowings_209 : decode cX9_copyBowings 209 = .ok (.iastore, 1) := by decide +kernel
theorem dX9_copyBowings_210 : decode cX9_copyBowings 210 = .ok (.iload 9, 2) := by decide +kernel
theorem dX9_copyBowings_212 : decode cX9_copyBowings 212 = .ok (.ifCond .eq 11, 3) := by decide +kernel
theorem dX9_copyBowings_215 : decode cX9_copyBowings 215 = .ok (.iload 4, 2) := by decide +kernel
theorem dX9_copyBowings_217 : decode cX9_copyBowings 217 = .ok (.ifCond .ne 6, 3) := by decide +kernel
theorem dX9_copyBowings_220 : decode cX9_copyBowings 220 = .ok (.goto 49, 3) := by decide +kernel
theorem dX9_copyBowings_223 : decode cX9_copyBowings 223 = .ok (.aload_n 0, 1) := by decide +kernel
theorem dX9_copyBowings_224 : decode cX9_copyBowings 224 = .ok (.getfield 9, 3) := by decide +kernel
theorem dX9_copyBowings_227 : decode cX9_copyBowings 227 = .ok (.iload 8, 2) := by decide +kernel
theorem dX9_copyBowings_229 : decode cX9_copyBowings 229 = .ok (.iload 6, 2) := by decide +kernel
theorem dX9_copyBowings_231 : decode cX9_copyBowings 231 = .ok (.iastore, 1) := by decide +kernel
theorem dX9_copyBowings_232 : decode cX9_copyBowings 232 = .ok (.aload_n 0, 1) := by decide +kernel
theorem dX9_copyBowings_233 : decode cX9_copyBowings 233 = .ok (.getfield 52, 3) := by decide +kernel
theorem dX9_copyBowings_236 : decode cX9_copyBowings 236 = .ok (.iconst 0, 1) := by decide +kernel
theorem dX9_copyBowings_237 : decode cX9_copyBowings 237 = .ok (.dup2, 1) := by decide +kernel
theorem dX9_copyBowings_238 : decode cX9_copyBowings 238 = .ok (.iaload, 1) := by decide +kernel
theorem dX9_copyBowings_239 : decode cX9_copyBowings 239 = .ok (.iconst 1, 1) := by decide +kernel
theorem dX9_copyBowings_240 : decode cX9_copyBowings 240 = .ok (.iadd, 1) := by decide +kernel
theorem dX9_copyBowings_241 : decode cX9_copyBowings 241 = .ok (.iastore, 1) := by decide +kernel
theorem dX9_copyBowings_242 : decode cX9_copyBowings 242 = .ok (.aload_n 0, 1) := by decide +kernel
theorem dX9_copyBowings_243 : decode cX9_copyBowings 243 = .ok (.getfield 52, 3) := by decide +kernel
theorem dX9_copyBowings_246 : decode cX9_copyBowings 246 = .ok (.iconst 3, 1) := by decide +kernel
theorem dX9_copyBowings_247 : decode cX9_copyBowings 247 = .ok (.dup2, 1) := by decide +kernel
theorem dX9_copyBowings_248 : decode cX9_copyBowings 248 = .ok (.iaload, 1) := by decide +kernel
theorem dX9_copyBowings_249 : decode cX9_copyBowings 249 = .ok (.aload_n 0, 1) := by decide +kernel
theorem dX9_copyBowings_250 : decode cX9_copyBowings 250 = .ok (.iload_n 1, 1) := by decide +kernel
theorem dX9_copyBowings_251 : decode cX9_copyBowings 251 = .ok (.iload 5, 2) := by decide +kernel
theorem dX9_copyBowings_253 : decode cX9_copyBowings 253 = .ok (.iload_n 2, 1) := by decide +kernel
theorem dX9_copyBowings_254 : decode cX9_copyBowings 254 = .ok (.iload 7, 2) := by decide +kernel
theorem dX9_copyBowings_256 : decode cX9_copyBowings 256 = .ok (.invokevirtual 166, 3) := by decide +kernel
theorem dX9_copyBowings_259 : decode cX9_copyBowings 259 = .ok (.ifCond .eq 7, 3) := by decide +kernel
theorem dX9_copyBowings_262 : decode cX9_copyBowings 262 = .ok (.iconst 0, 1) := by decide +kernel
theorem dX9_copyBowings_263 : decode cX9_copyBowings 263 = .ok (.goto 4, 3) := by decide +kernel
theorem dX9_copyBowings_266 : decode cX9_copyBowings 266 = .ok (.iconst 1, 1) := by decide +kernel
theorem dX9_copyBowings_267 : decode cX9_copyBowings 267 = .ok (.iadd, 1) := by decide +kernel
theorem dX9_copyBowings_268 : decode cX9_copyBowings 268 = .ok (.iastore, 1) := by decide +kernel
theorem dX9_copyBowings_269 : decode cX9_copyBowings 269 = .ok (.iinc 5 1, 3) := by decide +kernel
theorem dX9_copyBowings_272 : decode cX9_copyBowings 272 = .ok (.goto (-188), 3) := by decide +kernel
theorem dX9_copyBowings_275 : decode cX9_copyBowings 275 = .ok (.aload_n 0, 1) := by decide +kernel
theorem dX9_copyBowings_276 : decode cX9_copyBowings 276 = .ok (.getfield 52, 3) := by decide +kernel
theorem dX9_copyBowings_279 : decode cX9_copyBowings 279 = .ok (.iconst 0, 1) := by decide +kernel
theorem dX9_copyBowings_280 : decode cX9_copyBowings 280 = .ok (.iaload, 1) := by decide +kernel
theorem dX9_copyBowings_281 : decode cX9_copyBowings 281 = .ok (.ireturn, 1) := by decide +kernel
theorem dX9_copied_0 : decode cX9_copied 0 = .ok (.iload_n 1, 1) := by decide +kernel
theorem dX9_copied_1 : decode cX9_copied 1 = .ok (.iconst 0, 1) := by decide +kernel
theorem dX9_copied_2 : decode cX9_copied 2 = .ok (.iconst 3, 1) := by decide +kernel
theorem dX9_copied_3 : decode cX9_copied 3 = .ok (.invokestatic 108, 3) := by decide +kernel
theorem dX9_copied_6 : decode cX9_copied 6 = .ok (.ifCond .eq 12, 3) := by decide +kernel
theorem dX9_copied_9 : decode cX9_copied 9 = .ok (.aload_n 0, 1) := by decide +kernel
theorem dX9_copied_10 : decode cX9_copied 10 = .ok (.getfield 52, 3) := by decide +kernel
theorem dX9_copied_13 : decode cX9_copied 13 = .ok (.iload_n 1, 1) := by decide +kernel
theorem dX9_copied_14 : decode cX9_copied 14 = .ok (.iaload, 1) := by decide +kernel
theorem dX9_copied_15 : decode cX9_copied 15 = .ok (.goto 4, 3) := by decide +kernel
theorem dX9_copied_18 : decode cX9_copied 18 = .ok (.iconst (-1), 1) := by decide +kernel
theorem dX9_copied_19 : decode cX9_copied 19 = .ok (.ireturn, 1) := by decide +kernel
theorem dX9_loanAt_0 : decode cX9_loanAt 0 = .ok (.bipush 17, 2) := by decide +kernel
theorem dX9_loanAt_2 : decode cX9_loanAt 2 = .ok (.bipush 8, 2) := by decide +kernel
theorem dX9_loanAt_4 : decode cX9_loanAt 4 = .ok (.iload_n 0, 1) := by decide +kernel
theorem dX9_loanAt_5 : decode cX9_loanAt 5 = .ok (.imul, 1) := by decide +kernel
theorem dX9_loanAt_6 : decode cX9_loanAt 6 = .ok (.iadd, 1) := by decide +kernel
theorem dX9_loanAt_7 : decode cX9_loanAt 7 = .ok (.iload_n 1, 1) := by decide +kernel
theorem dX9_loanAt_8 : decode cX9_loanAt 8 = .ok (.iadd, 1) := by decide +kernel
theorem dX9_loanAt_9 : decode cX9_loanAt 9 = .ok (.ireturn, 1) := by decide +kernel
theorem dX9_isOverdue_0 : decode cX9_isOverdue 0 = .ok (.aload_n 0, 1) := by decide +kernel
theorem dX9_isOverdue_1 : decode cX9_isOverdue 1 = .ok (.getfield 9, 3) := by decide +kernel
theorem dX9_isOverdue_4 : decode cX9_isOverdue 4 = .ok (.iload_n 1, 1) := by decide +kernel
theorem dX9_isOverdue_5 : decode cX9_isOverdue 5 = .ok (.iconst 4, 1) := by decide +kernel
theorem dX9_isOverdue_6 : decode cX9_isOverdue 6 = .ok (.invokestatic 192, 3) := by decide +kernel
theorem dX9_isOverdue_9 : decode cX9_isOverdue 9 = .ok (.iaload, 1) := by decide +kernel
theorem dX9_isOverdue_10 : decode cX9_isOverdue 10 = .ok (.ifCond .le 26, 3) := by decide +kernel
theorem dX9_isOverdue_13 : decode cX9_isOverdue 13 = .ok (.aload_n 0, 1) := by decide +kernel
theorem dX9_isOverdue_14 : decode cX9_isOverdue 14 = .ok (.getfield 9, 3) := by decide +kernel
theorem dX9_isOverdue_17 : decode cX9_isOverdue 17 = .ok (.iconst 2, 1) := by decide +kernel
theorem dX9_isOverdue_18 : decode cX9_isOverdue 18 = .ok (.iaload, 1) := by decide +kernel
theorem dX9_isOverdue_19 : decode cX9_isOverdue 19 = .ok (.aload_n 0, 1) := by decide +kernel
theorem dX9_isOverdue_20 : decode cX9_isOverdue 20 = .ok (.getfield 9, 3) := by decide +kernel
theorem dX9_isOverdue_23 : decode cX9_isOverdue 23 = .ok (.iload_n 1, 1) := by decide +kernel
theorem dX9_isOverdue_24 : decode cX9_isOverdue 24 = .ok (.iconst 5, 1) := by decide +kernel
theorem dX9_isOverdue_25 : decode cX9_isOverdue 25 = .ok (.invokestatic 192, 3) := by decide +kernel
theorem dX9_isOverdue_28 : decode cX9_isOverdue 28 = .ok (.iaload, 1) := by decide +kernel
theorem dX9_isOverdue_29 : decode cX9_isOverdue 29 = .ok (.if_icmp .le 7, 3) := by decide +kernel
theorem dX9_isOverdue_32 : decode cX9_isOverdue 32 = .ok (.iconst 1, 1) := by decide +kernel
theorem dX9_isOverdue_33 : decode cX9_isOverdue 33 = .ok (.goto 4, 3) := by decide +kernel
theorem dX9_isOverdue_36 : decode cX9_isOverdue 36 = .ok (.iconst 0, 1) := by decide +kernel
theorem dX9_isOverdue_37 : decode cX9_isOverdue 37 = .ok (.ireturn, 1) := by decide +kernel
theorem dX9_owes_0 : decode cX9_owes 0 = .ok (.iconst 0, 1) := by decide +kernel
theorem dX9_owes_1 : decode cX9_owes 1 = .ok (.istore_n 2, 1) := by decide +kernel
theorem dX9_owes_2 : decode cX9_owes 2 = .ok (.iload_n 2, 1) := by decide +kernel
theorem dX9_owes_3 : decode cX9_owes 3 = .ok (.aload_n 0, 1) := by decide +kernel
theorem dX9_owes_4 : decode cX9_owes 4 = .ok (.getfield 9, 3) := by decide +kernel
theorem dX9_owes_7 : decode cX9_owes 7 = .ok (.iconst 1, 1) := by decide +kernel
theorem dX9_owes_8 : decode cX9_owes 8 = .ok (.iaload, 1) := by decide +kernel
theorem dX9_owes_9 : decode cX9_owes 9 = .ok (.if_icmp .ge 33, 3) := by decide +kernel
theorem dX9_owes_12 : decode cX9_owes 12 = .ok (.aload_n 0, 1) := by decide +kernel
theorem dX9_owes_13 : decode cX9_owes 13 = .ok (.getfield 9, 3) := by decide +kernel
theorem dX9_owes_16 : decode cX9_owes 16 = .ok (.iload_n 2, 1) := by decide +kernel
theorem dX9_owes_17 : decode cX9_owes 17 = .ok (.iconst 0, 1) := by decide +kernel
theorem dX9_owes_18 : decode cX9_owes 18 = .ok (.invokestatic 192, 3) := by decide +kernel
theorem dX9_owes_21 : decode cX9_owes 21 = .ok (.iaload, 1) := by decide +kernel
theorem dX9_owes_22 : decode cX9_owes 22 = .ok (.iload_n 1, 1) := by decide +kernel
theorem dX9_owes_23 : decode cX9_owes 23 = .ok (.if_icmp .ne 13, 3) := by decide +kernel
theorem dX9_owes_26 : decode cX9_owes 26 = .ok (.aload_n 0, 1) := by decide +kernel
theorem dX9_owes_27 : decode cX9_owes 27 = .ok (.iload_n 2, 1) := by decide +kernel
theorem dX9_owes_28 : decode cX9_owes 28 = .ok (.invokevirtual 195, 3) := by decide +kernel
theorem dX9_owes_31 : decode cX9_owes 31 = .ok (.ifCond .eq 5, 3) := by decide +kernel
theorem dX9_owes_34 : decode cX9_owes 34 = .ok (.iconst 1, 1) := by decide +kernel
theorem dX9_owes_35 : decode cX9_owes 35 = .ok (.ireturn, 1) := by decide +kernel
theorem dX9_owes_36 : decode cX9_owes 36 = .ok (.iinc 2 1, 3) := by decide +kernel
theorem dX9_owes_39 : decode cX9_owes 39 = .ok (.goto (-37), 3) := by decide +kernel
theorem dX9_owes_42 : decode cX9_owes 42 = .ok (.iconst 0, 1) := by decide +kernel
theorem dX9_owes_43 : decode cX9_owes 43 = .ok (.ireturn, 1) := by decide +kernel
theorem dX9_lends_0 : decode cX9_lends 0 = .ok (.aload_n 0, 1) := by decide +kernel
theorem dX9_lends_1 : decode cX9_lends 1 = .ok (.getfield 9, 3) := by decide +kernel
theorem dX9_lends_4 : decode cX9_lends 4 = .ok (.iconst 1, 1) := by decide +kernel
theorem dX9_lends_5 : decode cX9_lends 5 = .ok (.iaload, 1) := by decide +kernel
theorem dX9_lends_6 : decode cX9_lends 6 = .ok (.istore 6, 2) := by decide +kernel
theorem dX9_lends_8 : decode cX9_lends 8 = .ok (.aload_n 0, 1) := by decide +kernel
theorem dX9_lends_9 : decode cX9_lends 9 = .ok (.getfield 9, 3) := by decide +kernel
theorem dX9_lends_12 : decode cX9_lends 12 = .ok (.iconst 1, 1) := by decide +kernel
theorem dX9_lends_13 : decode cX9_lends 13 = .ok (.dup2, 1) := by decide +kernel
theorem dX9_lends_14 : decode cX9_lends 14 = .ok (.iaload, 1) := by decide +kernel
theorem dX9_lends_15 : decode cX9_lends 15 = .ok (.iconst 1, 1) := by decide +kernel
theorem dX9_lends_16 : decode cX9_lends 16 = .ok (.iadd, 1) := by decide +kernel
theorem dX9_lends_17 : decode cX9_lends 17 = .ok (.iastore, 1) := by decide +kernel
theorem dX9_lends_18 : decode cX9_lends 18 = .ok (.bipush 8, 2) := by decide +kernel
theorem dX9_lends_20 : decode cX9_lends 20 = .ok (.newarray .int, 2) := by decide +kernel
theorem dX9_lends_22 : decode cX9_lends 22 = .ok (.dup, 1) := by decide +kernel
theorem dX9_lends_23 : decode cX9_lends 23 = .ok (.iconst 0, 1) := by decide +kernel
theorem dX9_lends_24 : decode cX9_lends 24 = .ok (.iload_n 1, 1) := by decide +kernel
theorem dX9_lends_25 : decode cX9_lends 25 = .ok (.iastore, 1) := by decide +kernel
theorem dX9_lends_26 : decode cX9_lends 26 = .ok (.dup, 1) := by decide +kernel
theorem dX9_lends_27 : decode cX9_lends 27 = .ok (.iconst 1, 1) := by decide +kernel
theorem dX9_lends_28 : decode cX9_lends 28 = .ok (.iload_n 2, 1) := by decide +kernel
theorem dX9_lends_29 : decode cX9_lends 29 = .ok (.iastore, 1) := by decide +kernel
theorem dX9_lends_30 : decode cX9_lends 30 = .ok (.dup, 1) := by decide +kernel
theorem dX9_lends_31 : decode cX9_lends 31 = .ok (.iconst 2, 1) := by decide +kernel
theorem dX9_lends_32 : decode cX9_lends 32 = .ok (.iload_n 3, 1) := by decide +kernel
theorem dX9_lends_33 : decode cX9_lends 33 = .ok (.iastore, 1) := by decide +kernel
theorem dX9_lends_34 : decode cX9_lends 34 = .ok (.dup, 1) := by decide +kernel
theorem dX9_lends_35 : decode cX9_lends 35 = .ok (.iconst 3, 1) := by decide +kernel
theorem dX9_lends_36 : decode cX9_lends 36 = .ok (.iload 4, 2) := by decide +kernel
theorem dX9_lends_38 : decode cX9_lends 38 = .ok (.iastore, 1) := by decide +kernel
theorem dX9_lends_39 : decode cX9_lends 39 = .ok (.dup, 1) := by decide +kernel
theorem dX9_lends_40 : decode cX9_lends 40 = .ok (.iconst 4, 1) := by decide +kernel
theorem dX9_lends_41 : decode cX9_lends 41 = .ok (.iload 4, 2) := by decide +kernel
theorem dX9_lends_43 : decode cX9_lends 43 = .ok (.iastore, 1) := by decide +kernel
theorem dX9_lends_44 : decode cX9_lends 44 = .ok (.dup, 1) := by decide +kernel
theorem dX9_lends_45 : decode cX9_lends 45 = .ok (.iconst 5, 1) := by decide +kernel
theorem dX9_lends_46 : decode cX9_lends 46 = .ok (.aload_n 0, 1) := by decide +kernel
theorem dX9_lends_47 : decode cX9_lends 47 = .ok (.getfield 9, 3) := by decide +kernel
theorem dX9_lends_50 : decode cX9_lends 50 = .ok (.iconst 2, 1) := by decide +kernel
theorem dX9_lends_51 : decode cX9_lends 51 = .ok (.iaload, 1) := by decide +kernel
theorem dX9_lends_52 : decode cX9_lends 52 = .ok (.iload 5, 2) := by decide +kernel
theorem dX9_lends_54 : decode cX9_lends 54 = .ok (.iadd, 1) := by decide +kernel
theorem dX9_lends_55 : decode cX9_lends 55 = .ok (.iastore, 1) := by decide +kernel
theorem dX9_lends_56 : decode cX9_lends 56 = .ok (.dup, 1) := by decide +kernel
theorem dX9_lends_57 : decode cX9_lends 57 = .ok (.bipush 6, 2) := by decide +kernel
theorem dX9_lends_59 : decode cX9_lends 59 = .ok (.iconst 0, 1) := by decide +kernel
theorem dX9_lends_60 : decode cX9_lends 60 = .ok (.iastore, 1) := by decide +kernel
theorem dX9_lends_61 : decode cX9_lends 61 = .ok (.dup, 1) := by decide +kernel
theorem dX9_lends_62 : decode cX9_lends 62 = .ok (.bipush 7, 2) := by decide +kernel
theorem dX9_lends_64 : decode cX9_lends 64 = .ok (.iconst 0, 1) := by decide +kernel
theorem dX9_lends_65 : decode cX9_lends 65 = .ok (.iastore, 1) := by decide +kernel
theorem dX9_lends_66 : decode cX9_lends 66 = .ok (.astore 7, 2) := by decide +kernel
theorem dX9_lends_68 : decode cX9_lends 68 = .ok (.iconst 0, 1) := by decide +kernel
theorem dX9_lends_69 : decode cX9_lends 69 = .ok (.istore 8, 2) := by decide +kernel
theorem dX9_lends_71 : decode cX9_lends 71 = .ok (.iload 8, 2) := by decide +kernel
theorem dX9_lends_73 : decode cX9_lends 73 = .ok (.bipush 8, 2) := by decide +kernel
theorem dX9_lends_75 : decode cX9_lends 75 = .ok (.if_icmp .ge 26, 3) := by decide +kernel
theorem dX9_lends_78 : decode cX9_lends 78 = .ok (.aload_n 0, 1) := by decide +kernel
theorem dX9_lends_79 : decode cX9_lends 79 = .ok (.getfield 9, 3) := by decide +kernel
theorem dX9_lends_82 : decode cX9_lends 82 = .ok (.iload 6, 2) := by decide +kernel
theorem dX9_lends_84 : decode cX9_lends 84 = .ok (.iload 8, 2) := by decide +kernel
theorem dX9_lends_86 : decode cX9_lends 86 = .ok (.invokestatic 192, 3) := by decide +kernel
theorem dX9_lends_89 : decode cX9_lends 89 = .ok (.aload 7, 2) := by decide +kernel
theorem dX9_lends_91 : decode cX9_lends 91 = .ok (.iload 8, 2) := by decide +kernel
theorem dX9_lends_93 : decode cX9_lends 93 = .ok (.iaload, 1) := by decide +kernel
theorem dX9_lends_94 : decode cX9_lends 94 = .ok (.iastore, 1) := by decide +kernel
theorem dX9_lends_95 : decode cX9_lends 95 = .ok (.iinc 8 1, 3) := by decide +kernel
theorem dX9_lends_98 : decode cX9_lends 98 = .ok (.goto (-27), 3) := by decide +kernel
theorem dX9_lends_101 : decode cX9_lends 101 = .ok (.aload_n 0, 1) := by decide +kernel
theorem dX9_lends_102 : decode cX9_lends 102 = .ok (.getfield 9, 3) := by decide +kernel
theorem dX9_lends_105 : decode cX9_lends 105 = .ok (.iload_n 2, 1) := by decide +kernel
theorem dX9_lends_106 : decode cX9_lends 106 = .ok (.iconst 3, 1) := by decide +kernel
theorem dX9_lends_107 : decode cX9_lends 107 = .ok (.iconst 3, 1) := by decide +kernel
theorem dX9_lends_108 : decode cX9_lends 108 = .ok (.iload_n 3, 1) := by decide +kernel
theorem dX9_lends_109 : decode cX9_lends 109 = .ok (.imul, 1) := by decide +kernel
theorem dX9_lends_110 : decode cX9_lends 110 = .ok (.iadd, 1) := by decide +kernel
theorem dX9_lends_111 : decode cX9_lends 111 = .ok (.iconst 1, 1) := by decide +kernel
theorem dX9_lends_112 : decode cX9_lends 112 = .ok (.iadd, 1) := by decide +kernel
theorem dX9_lends_113 : decode cX9_lends 113 = .ok (.invokestatic 105, 3) := by decide +kernel
theorem dX9_lends_116 : decode cX9_lends 116 = .ok (.dup2, 1) := by decide +kernel
theorem dX9_lends_117 : decode cX9_lends 117 = .ok (.iaload, 1) := by decide +kernel
theorem dX9_lends_118 : decode cX9_lends 118 = .ok (.iload 4, 2) := by decide +kernel
theorem dX9_lends_120 : decode cX9_lends 120 = .ok (.iadd, 1) := by decide +kernel
theorem dX9_lends_121 : decode cX9_lends 121 = .ok (.iastore, 1) := by decide +kernel
theorem dX9_lends_122 : decode cX9_lends 122 = .ok (.iload 6, 2) := by decide +kernel
theorem dX9_lends_124 : decode cX9_lends 124 = .ok (.ireturn, 1) := by decide +kernel
theorem dX9_lend_0 : decode cX9_lend 0 = .ok (.iload_n 1, 1) := by decide +kernel
theorem dX9_lend_1 : decode cX9_lend 1 = .ok (.iconst 0, 1) := by decide +kernel
theorem dX9_lend_2 : decode cX9_lend 2 = .ok (.iconst 5, 1) := by decide +kernel
theorem dX9_lend_3 : decode cX9_lend 3 = .ok (.invokestatic 108, 3) := by decide +kernel
theorem dX9_lend_6 : decode cX9_lend 6 = .ok (.ifCond .eq 18, 3) := by decide +kernel
theorem dX9_lend_9 : decode cX9_lend 9 = .ok (.aload_n 0, 1) := by decide +kernel
theorem dX9_lend_10 : decode cX9_lend 10 = .ok (.iload_n 2, 1) := by decide +kernel
theorem dX9_lend_11 : decode cX9_lend 11 = .ok (.invokevirtual 112, 3) := by decide +kernel
theorem dX9_lend_14 : decode cX9_lend 14 = .ok (.ifCond .eq 10, 3) := by decide +kernel
theorem dX9_lend_17 : decode cX9_lend 17 = .ok (.iload_n 3, 1) := by decide +kernel
theorem dX9_lend_18 : decode cX9_lend 18 = .ok (.invokestatic 186, 3) := by decide +kernel
theorem dX9_lend_21 : decode cX9_lend 21 = .ok (.ifCond .ne 5, 3) := by decide +kernel
theorem dX9_lend_24 : decode cX9_lend 24 = .ok (.iconst (-1), 1) := by decide +kernel
theorem dX9_lend_25 : decode cX9_lend 25 = .ok (.ireturn, 1) := by decide +kernel
theorem dX9_lend_26 : decode cX9_lend 26 = .ok (.iload 4, 2) := by decide +kernel
theorem dX9_lend_28 : decode cX9_lend 28 = .ok (.iconst 1, 1) := by decide +kernel
theorem dX9_lend_29 : decode cX9_lend 29 = .ok (.bipush 30, 2) := by decide +kernel
theorem dX9_lend_31 : decode cX9_lend 31 = .ok (.invokestatic 108, 3) := by decide +kernel
theorem dX9_lend_34 : decode cX9_lend 34 = .ok (.ifCond .eq 15, 3) := by decide +kernel
theorem dX9_lend_37 : decode cX9_lend 37 = .ok (.iload 5, 2) := by decide +kernel
theorem dX9_lend_39 : decode cX9_lend 39 = .ok (.iconst 0, 1) := by decide +kernel
theorem dX9_lend_40 : decode cX9_lend 40 = .ok (.sipush 999, 3) := by decide +kernel
theorem dX9_lend_43 : decode cX9_lend 43 = .ok (.invokestatic 108, 3) := by decide +kernel
theorem dX9_lend_46 : decode cX9_lend 46 = .ok (.ifCond .ne 6, 3) := by decide +kernel
theorem dX9_lend_49 : decode cX9_lend 49 = .ok (.bipush (-2), 2) := by decide +kernel
theorem dX9_lend_51 : decode cX9_lend 51 = .ok (.ireturn, 1) := by decide +kernel
theorem dX9_lend_52 : decode cX9_lend 52 = .ok (.aload_n 0, 1) := by decide +kernel
theorem dX9_lend_53 : decode cX9_lend 53 = .ok (.iload_n 2, 1) := by decide +kernel
theorem dX9_lend_54 : decode cX9_lend 54 = .ok (.iload_n 3, 1) := by decide +kernel
theorem dX9_lend_55 : decode cX9_lend 55 = .ok (.invokevirtual 189, 3) := by decide +kernel
theorem dX9_lend_58 : decode cX9_lend 58 = .ok (.iload 4, 2) := by decide +kernel
theorem dX9_lend_60 : decode cX9_lend 60 = .ok (.if_icmp .ge 9, 3) := by decide +kernel
theorem dX9_lend_63 : decode cX9_lend 63 = .ok (.aload_n 0, 1) := by decide +kernel
theorem dX9_lend_64 : decode cX9_lend 64 = .ok (.iconst 1, 1) := by decide +kernel
theorem dX9_lend_65 : decode cX9_lend 65 = .ok (.invokevirtual 142, 3) := by decide +kernel
theorem dX9_lend_68 : decode cX9_lend 68 = .ok (.ireturn, 1) := by decide +kernel
theorem dX9_lend_69 : decode cX9_lend 69 = .ok (.aload_n 0, 1) := by decide +kernel
theorem dX9_lend_70 : decode cX9_lend 70 = .ok (.iload_n 1, 1) := by decide +kernel
theorem dX9_lend_71 : decode cX9_lend 71 = .ok (.invokevirtual 198, 3) := by decide +kernel
theorem dX9_lend_74 : decode cX9_lend 74 = .ok (.ifCond .eq 9, 3) := by decide +kernel
theorem dX9_lend_77 : decode cX9_lend 77 = .ok (.aload_n 0, 1) := by decide +kernel
theorem dX9_lend_78 : decode cX9_lend 78 = .ok (.iconst 2, 1) := by decide +kernel
theorem dX9_lend_79 : decode cX9_lend 79 = .ok (.invokevirtual 142, 3) := by decide +kernel
theorem dX9_lend_82 : decode cX9_lend 82 = .ok (.ireturn, 1) := by decide +kernel
theorem dX9_lend_83 : decode cX9_lend 83 = .ok (.aload_n 0, 1) := by decide +kernel
theorem dX9_lend_84 : decode cX9_lend 84 = .ok (.getfield 9, 3) := by decide +kernel
theorem dX9_lend_87 : decode cX9_lend 87 = .ok (.iconst 1, 1) := by decide +kernel
theorem dX9_lend_88 : decode cX9_lend 88 = .ok (.iaload, 1) := by decide +kernel
theorem dX9_lend_89 : decode cX9_lend 89 = .ok (.bipush 20, 2) := by decide +kernel
theorem dX9_lend_91 : decode cX9_lend 91 = .ok (.if_icmp .ne 9, 3) := by decide +kernel
theorem dX9_lend_94 : decode cX9_lend 94 = .ok (.aload_n 0, 1) := by decide +kernel
theorem dX9_lend_95 : decode cX9_lend 95 = .ok (.iconst 3, 1) := by decide +kernel
theorem dX9_lend_96 : decode cX9_lend 96 = .ok (.invokevirtual 142, 3) := by decide +kernel
theorem dX9_lend_99 : decode cX9_lend 99 = .ok (.ireturn, 1) := by decide +kernel
theorem dX9_lend_100 : decode cX9_lend 100 = .ok (.aload_n 0, 1) := by decide +kernel
theorem dX9_lend_101 : decode cX9_lend 101 = .ok (.invokevirtual 129, 3) := by decide +kernel
theorem dX9_lend_104 : decode cX9_lend 104 = .ok (.aload_n 0, 1) := by decide +kernel
theorem dX9_lend_105 : decode cX9_lend 105 = .ok (.iload_n 1, 1) := by decide +kernel
theorem dX9_lend_106 : decode cX9_lend 106 = .ok (.iload_n 2, 1) := by decide +kernel
theorem dX9_lend_107 : decode cX9_lend 107 = .ok (.iload_n 3, 1) := by decide +kernel
theorem dX9_lend_108 : decode cX9_lend 108 = .ok (.iload 4, 2) := by decide +kernel
theorem dX9_lend_110 : decode cX9_lend 110 = .ok (.iload 5, 2) := by decide +kernel
theorem dX9_lend_112 : decode cX9_lend 112 = .ok (.invokevirtual 201, 3) := by decide +kernel
theorem dX9_lend_115 : decode cX9_lend 115 = .ok (.ireturn, 1) := by decide +kernel
theorem dX9_lendAll_0 : decode cX9_lendAll 0 = .ok (.iload_n 1, 1) := by decide +kernel
theorem dX9_lendAll_1 : decode cX9_lendAll 1 = .ok (.iconst 0, 1) := by decide +kernel
theorem dX9_lendAll_2 : decode cX9_lendAll 2 = .ok (.iconst 5, 1) := by decide +kernel
theorem dX9_lendAll_3 : decode cX9_lendAll 3 = .ok (.invokestatic 108, 3) := by decide +kernel
theorem dX9_lendAll_6 : decode cX9_lendAll 6 = .ok (.ifCond .eq 11, 3) := by decide +kernel
theorem dX9_lendAll_9 : decode cX9_lendAll 9 = .ok (.aload_n 0, 1) := by decide +kernel
theorem dX9_lendAll_10 : decode cX9_lendAll 10 = .ok (.iload_n 2, 1) := by decide +kernel
theorem dX9_lendAll_11 : decode cX9_lendAll 11 = .ok (.invokevirtual 112, 3) := by decide +kernel
theorem dX9_lendAll_14 : decode cX9_lendAll 14 = .ok (.ifCond .ne 5, 3) := by decide +kernel
theorem dX9_lendAll_17 : decode cX9_lendAll 17 = .ok (.iconst (-1), 1) := by decide +kernel
theorem dX9_lendAll_18 : decode cX9_lendAll 18 = .ok (.ireturn, 1) := by decide +kernel
theorem dX9_lendAll_19 : decode cX9_lendAll 19 = .ok (.iload_n 3, 1) := by decide +kernel
theorem dX9_lendAll_20 : decode cX9_lendAll 20 = .ok (.iconst 0, 1) := by decide +kernel
theorem dX9_lendAll_21 : decode cX9_lendAll 21 = .ok (.sipush 999, 3) := by decide +kernel
theorem dX9_lendAll_24 : decode cX9_lendAll 24 = .ok (.invokestatic 108, 3) := by decide +kernel
theorem dX9_lendAll_27 : decode cX9_lendAll 27 = .ok (.ifCond .ne 6, 3) := by decide +kernel
theorem dX9_lendAll_30 : decode cX9_lendAll 30 = .ok (.bipush (-2), 2) := by decide +kernel
theorem dX9_lendAll_32 : decode cX9_lendAll 32 = .ok (.ireturn, 1) := by decide +kernel
theorem dX9_lendAll_33 : decode cX9_lendAll 33 = .ok (.iconst 0, 1) := by decide +kernel
theorem dX9_lendAll_34 : decode cX9_lendAll 34 = .ok (.istore 4, 2) := by decide +kernel
theorem dX9_lendAll_36 : decode cX9_lendAll 36 = .ok (.iconst 1, 1) := by decide +kernel
theorem dX9_lendAll_37 : decode cX9_lendAll 37 = .ok (.istore 5, 2) := by decide +kernel
theorem dX9_lendAll_39 : decode cX9_lendAll 39 = .ok (.iconst 0, 1) := by decide +kernel
theorem dX9_lendAll_40 : decode cX9_lendAll 40 = .ok (.istore 6, 2) := by decide +kernel
theorem dX9_lendAll_42 : decode cX9_lendAll 42 = .ok (.iload 6, 2) := by decide +kernel
theorem dX9_lendAll_44 : decode cX9_lendAll 44 = .ok (.bipush 6, 2) := by decide +kernel
theorem dX9_lendAll_46 : decode cX9_lendAll 46 = .ok (.if_icmp .ge 58, 3) := by decide +kernel
theorem dX9_lendAll_49 : decode cX9_lendAll 49 = .ok (.iload 4, 2) := by decide +kernel
theorem dX9_lendAll_51 : decode cX9_lendAll 51 = .ok (.aload_n 0, 1) := by decide +kernel
theorem dX9_lendAll_52 : decode cX9_lendAll 52 = .ok (.getfield 9, 3) := by decide +kernel
theorem dX9_lendAll_55 : decode cX9_lendAll 55 = .ok (.bipush 11, 2) := by decide +kernel
theorem dX9_lendAll_57 : decode cX9_lendAll 57 = .ok (.iload 6, 2) := by decide +kernel
theorem dX9_lendAll_59 : decode cX9_lendAll 59 = .ok (.iadd, 1) := by decide +kernel
theorem dX9_lendAll_60 : decode cX9_lendAll 60 = .ok (.iaload, 1) := by decide +kernel
theorem dX9_lendAll_61 : decode cX9_lendAll 61 = .ok (.ifCond .le 7, 3) := by decide +kernel
theorem dX9_lendAll_64 : decode cX9_lendAll 64 = .ok (.iconst 1, 1) := by decide +kernel
theorem dX9_lendAll_65 : decode cX9_lendAll 65 = .ok (.goto 4, 3) := by decide +kernel
theorem dX9_lendAll_68 : decode cX9_lendAll 68 = .ok (.iconst 0, 1) := by decide +kernel
theorem dX9_lendAll_69 : decode cX9_lendAll 69 = .ok (.iadd, 1) := by decide +kernel
theorem dX9_lendAll_70 : decode cX9_lendAll 70 = .ok (.istore 4, 2) := by decide +kernel
theorem dX9_lendAll_72 : decode cX9_lendAll 72 = .ok (.iload 5, 2) := by decide +kernel
theorem dX9_lendAll_74 : decode cX9_lendAll 74 = .ok (.aload_n 0, 1) := by decide +kernel
theorem dX9_lendAll_75 : decode cX9_lendAll 75 = .ok (.iload_n 2, 1) := by decide +kernel
theorem dX9_lendAll_76 : decode cX9_lendAll 76 = .ok (.iload 6, 2) := by decide +kernel
theorem dX9_lendAll_78 : decode cX9_lendAll 78 = .ok (.invokevirtual 189, 3) := by decide +kernel
theorem dX9_lendAll_81 : decode cX9_lendAll 81 = .ok (.aload_n 0, 1) := by decide +kernel
theorem dX9_lendAll_82 : decode cX9_lendAll 82 = .ok (.iload 6, 2) := by decide +kernel
theorem dX9_lendAll_84 : decode cX9_lendAll 84 = .ok (.invokevirtual 205, 3) := by decide +kernel
theorem dX9_lendAll_87 : decode cX9_lendAll 87 = .ok (.if_icmp .lt 7, 3) := by decide +kernel
theorem dX9_lendAll_90 : decode cX9_lendAll 90 = .ok (.iconst 1, 1) := by decide +kernel
theorem dX9_lendAll_91 : decode cX9_lendAll 91 = .ok (.goto 4, 3) := by decide +kernel
theorem dX9_lendAll_94 : decode cX9_lendAll 94 = .ok (.iconst 0, 1) := by decide +kernel
theorem dX9_lendAll_95 : decode cX9_lendAll 95 = .ok (.iand, 1) := by decide +kernel
theorem dX9_lendAll_96 : decode cX9_lendAll 96 = .ok (.istore 5, 2) := by decide +kernel
theorem dX9_lendAll_98 : decode cX9_lendAll 98 = .ok (.iinc 6 1, 3) := by decide +kernel
theorem dX9_lendAll_101 : decode cX9_lendAll 101 = .ok (.goto (-59), 3) := by decide +kernel
theorem dX9_lendAll_104 : decode cX9_lendAll 104 = .ok (.iload 4, 2) := by decide +kernel
theorem dX9_lendAll_106 : decode cX9_lendAll 106 = .ok (.ifCond .ne 10, 3) := by decide +kernel
theorem dX9_lendAll_109 : decode cX9_lendAll 109 = .ok (.aload_n 0, 1) := by decide +kernel
theorem dX9_lendAll_110 : decode cX9_lendAll 110 = .ok (.bipush 6, 2) := by decide +kernel
theorem dX9_lendAll_112 : decode cX9_lendAll 112 = .ok (.invokevirtual 142, 3) := by decide +kernel
theorem dX9_lendAll_115 : decode cX9_lendAll 115 = .ok (.ireturn, 1) := by decide +kernel
theorem dX9_lendAll_116 : decode cX9_lendAll 116 = .ok (.iload 5, 2) := by decide +kernel
theorem dX9_lendAll_118 : decode cX9_lendAll 118 = .ok (.ifCond .ne 9, 3) := by decide +kernel
theorem dX9_lendAll_121 : decode cX9_lendAll 121 = .ok (.aload_n 0, 1) := by decide +kernel
theorem dX9_lendAll_122 : decode cX9_lendAll 122 = .ok (.iconst 1, 1) := by decide +kernel
theorem dX9_lendAll_123 : decode cX9_lendAll 123 = .ok (.invokevirtual 142, 3) := by decide +kernel
theorem dX9_lendAll_126 : decode cX9_lendAll 126 = .ok (.ireturn, 1) := by decide +kernel
theorem dX9_lendAll_127 : decode cX9_lendAll 127 = .ok (.aload_n 0, 1) := by decide +kernel
theorem dX9_lendAll_128 : decode cX9_lendAll 128 = .ok (.iload_n 1, 1) := by decide +kernel
theorem dX9_lendAll_129 : decode cX9_lendAll 129 = .ok (.invokevirtual 198, 3) := by decide +kernel
theorem dX9_lendAll_132 : decode cX9_lendAll 132 = .ok (.ifCond .eq 9, 3) := by decide +kernel
theorem dX9_lendAll_135 : decode cX9_lendAll 135 = .ok (.aload_n 0, 1) := by decide +kernel
theorem dX9_lendAll_136 : decode cX9_lendAll 136 = .ok (.iconst 2, 1) := by decide +kernel
theorem dX9_lendAll_137 : decode cX9_lendAll 137 = .ok (.invokevirtual 142, 3) := by decide +kernel
theorem dX9_lendAll_140 : decode cX9_lendAll 140 = .ok (.ireturn, 1) := by decide +kernel
theorem dX9_lendAll_141 : decode cX9_lendAll 141 = .ok (.aload_n 0, 1) := by decide +kernel
theorem dX9_lendAll_142 : decode cX9_lendAll 142 = .ok (.getfield 9, 3) := by decide +kernel
theorem dX9_lendAll_145 : decode cX9_lendAll 145 = .ok (.iconst 1, 1) := by decide +kernel
theorem dX9_lendAll_146 : decode cX9_lendAll 146 = .ok (.iaload, 1) := by decide +kernel
theorem dX9_lendAll_147 : decode cX9_lendAll 147 = .ok (.iload 4, 2) := by decide +kernel
theorem dX9_lendAll_149 : decode cX9_lendAll 149 = .ok (.iadd, 1) := by decide +kernel
theorem dX9_lendAll_150 : decode cX9_lendAll 150 = .ok (.bipush 20, 2) := by decide +kernel
theorem dX9_lendAll_152 : decode cX9_lendAll 152 = .ok (.if_icmp .le 9, 3) := by decide +kernel
theorem dX9_lendAll_155 : decode cX9_lendAll 155 = .ok (.aload_n 0, 1) := by decide +kernel
theorem dX9_lendAll_156 : decode cX9_lendAll 156 = .ok (.iconst 3, 1) := by decide +kernel
theorem dX9_lendAll_157 : decode cX9_lendAll 157 = .ok (.invokevirtual 142, 3) := by decide +kernel
theorem dX9_lendAll_160 : decode cX9_lendAll 160 = .ok (.ireturn, 1) := by decide +kernel
theorem dX9_lendAll_161 : decode cX9_lendAll 161 = .ok (.aload_n 0, 1) := by decide +kernel
theorem dX9_lendAll_162 : decode cX9_lendAll 162 = .ok (.invokevirtual 129, 3) := by decide +kernel
theorem dX9_lendAll_165 : decode cX9_lendAll 165 = .ok (.iconst 0, 1) := by decide +kernel
theorem dX9_lendAll_166 : decode cX9_lendAll 166 = .ok (.istore 6, 2) := by decide +kernel
theorem dX9_lendAll_168 : decode cX9_lendAll 168 = .ok (.iload 6, 2) := by decide +kernel
theorem dX9_lendAll_170 : decode cX9_lendAll 170 = .ok (.bipush 6, 2) := by decide +kernel
theorem dX9_lendAll_172 : decode cX9_lendAll 172 = .ok (.if_icmp .ge 42, 3) := by decide +kernel
theorem dX9_lendAll_175 : decode cX9_lendAll 175 = .ok (.aload_n 0, 1) := by decide +kernel
theorem dX9_lendAll_176 : decode cX9_lendAll 176 = .ok (.getfield 9, 3) := by decide +kernel
theorem dX9_lendAll_179 : decode cX9_lendAll 179 = .ok (.bipush 11, 2) := by decide +kernel
theorem dX9_lendAll_181 : decode cX9_lendAll 181 = .ok (.iload 6, 2) := by decide +kernel
theorem dX9_lendAll_183 : decode cX9_lendAll 183 = .ok (.iadd, 1) := by decide +kernel
theorem dX9_lendAll_184 : decode cX9_lendAll 184 = .ok (.iaload, 1) := by decide +kernel
theorem dX9_lendAll_185 : decode cX9_lendAll 185 = .ok (.ifCond .ne 6, 3) := by decide +kernel
theorem dX9_lendAll_188 : decode cX9_lendAll 188 = .ok (.goto 20, 3) := by decide +kernel
theorem dX9_lendAll_191 : decode cX9_lendAll 191 = .ok (.aload_n 0, 1) := by decide +kernel
theorem dX9_lendAll_192 : decode cX9_lendAll 192 = .ok (.iload_n 1, 1) := by decide +kernel
theorem dX9_lendAll_193 : decode cX9_lendAll 193 = .ok (.iload_n 2, 1) := by decide +kernel
theorem dX9_lendAll_194 : decode cX9_lendAll 194 = .ok (.iload 6, 2) := by decide +kernel
theorem dX9_lendAll_196 : decode cX9_lendAll 196 = .ok (.aload_n 0, 1) := by decide +kernel
theorem dX9_lendAll_197 : decode cX9_lendAll 197 = .ok (.iload 6, 2) := by decide +kernel
theorem dX9_lendAll_199 : decode cX9_lendAll 199 = .ok (.invokevirtual 205, 3) := by decide +kernel
theorem dX9_lendAll_202 : decode cX9_lendAll 202 = .ok (.iload_n 3, 1) := by decide +kernel
theorem dX9_lendAll_203 : decode cX9_lendAll 203 = .ok (.invokevirtual 201, 3) := by decide +kernel
theorem dX9_lendAll_206 : decode cX9_lendAll 206 = .ok (.istore 7, 2) := by decide +kernel
theorem dX9_lendAll_208 : decode cX9_lendAll 208 = .ok (.iinc 6 1, 3) := by decide +kernel
theorem dX9_lendAll_211 : decode cX9_lendAll 211 = .ok (.goto (-43), 3) := by decide +kernel
theorem dX9_lendAll_214 : decode cX9_lendAll 214 = .ok (.iload 4, 2) := by decide +kernel
theorem dX9_lendAll_216 : decode cX9_lendAll 216 = .ok (.ireturn, 1) := by decide +kernel
theorem dX9_bring_0 : decode cX9_bring 0 = .ok (.iload_n 1, 1) := by decide +kernel
theorem dX9_bring_1 : decode cX9_bring 1 = .ok (.iconst 0, 1) := by decide +kernel
theorem dX9_bring_2 : decode cX9_bring 2 = .ok (.aload_n 0, 1) := by decide +kernel
theorem dX9_bring_3 : decode cX9_bring 3 = .ok (.getfield 9, 3) := by decide +kernel
theorem dX9_bring_6 : decode cX9_bring 6 = .ok (.iconst 1, 1) := by decide +kernel
theorem dX9_bring_7 : decode cX9_bring 7 = .ok (.iaload, 1) := by decide +kernel
theorem dX9_bring_8 : decode cX9_bring 8 = .ok (.iconst 1, 1) := by decide +kernel
theorem dX9_bring_9 : decode cX9_bring 9 = .ok (.isub, 1) := by decide +kernel
theorem dX9_bring_10 : decode cX9_bring 10 = .ok (.invokestatic 108, 3) := by decide +kernel
theorem dX9_bring_13 : decode cX9_bring 13 = .ok (.ifCond .ne 5, 3) := by decide +kernel
theorem dX9_bring_16 : decode cX9_bring 16 = .ok (.iconst (-1), 1) := by decide +kernel
theorem dX9_bring_17 : decode cX9_bring 17 = .ok (.ireturn, 1) := by decide +kernel
theorem dX9_bring_18 : decode cX9_bring 18 = .ok (.iload_n 2, 1) := by decide +kernel
theorem dX9_bring_19 : decode cX9_bring 19 = .ok (.iconst 0, 1) := by decide +kernel
theorem dX9_bring_20 : decode cX9_bring 20 = .ok (.bipush 30, 2) := by decide +kernel
theorem dX9_bring_22 : decode cX9_bring 22 = .ok (.invokestatic 108, 3) := by decide +kernel
theorem dX9_bring_25 : decode cX9_bring 25 = .ok (.ifCond .eq 19, 3) := by decide +kernel
theorem dX9_bring_28 : decode cX9_bring 28 = .ok (.iload_n 3, 1) := by decide +kernel
theorem dX9_bring_29 : decode cX9_bring 29 = .ok (.iconst 0, 1) := by decide +kernel
theorem dX9_bring_30 : decode cX9_bring 30 = .ok (.bipush 30, 2) := by decide +kernel
theorem dX9_bring_32 : decode cX9_bring 32 = .ok (.invokestatic 108, 3) := by decide +kernel
theorem dX9_bring_35 : decode cX9_bring 35 = .ok (.ifCond .eq 9, 3) := by decide +kernel
theorem dX9_bring_38 : decode cX9_bring 38 = .ok (.iload_n 2, 1) := by decide +kernel
theorem dX9_bring_39 : decode cX9_bring 39 = .ok (.iload_n 3, 1) := by decide +kernel
theorem dX9_bring_40 : decode cX9_bring 40 = .ok (.iadd, 1) := by decide +kernel
theorem dX9_bring_41 : decode cX9_bring 41 = .ok (.ifCond .ne 6, 3) := by decide +kernel
theorem dX9_bring_44 : decode cX9_bring 44 = .ok (.bipush (-2), 2) := by decide +kernel
theorem dX9_bring_46 : decode cX9_bring 46 = .ok (.ireturn, 1) := by decide +kernel
theorem dX9_bring_47 : decode cX9_bring 47 = .ok (.iload_n 2, 1) := by decide +kernel
theorem dX9_bring_48 : decode cX9_bring 48 = .ok (.iload_n 3, 1) := by decide +kernel
theorem dX9_bring_49 : decode cX9_bring 49 = .ok (.iadd, 1) := by decide +kernel
theorem dX9_bring_50 : decode cX9_bring 50 = .ok (.aload_n 0, 1) := by decide +kernel
theorem dX9_bring_51 : decode cX9_bring 51 = .ok (.getfield 9, 3) := by decide +kernel
theorem dX9_bring_54 : decode cX9_bring 54 = .ok (.iload_n 1, 1) := by decide +kernel
theorem dX9_bring_55 : decode cX9_bring 55 = .ok (.iconst 4, 1) := by decide +kernel
theorem dX9_bring_56 : decode cX9_bring 56 = .ok (.invokestatic 192, 3) := by decide +kernel
theorem dX9_bring_59 : decode cX9_bring 59 = .ok (.iaload, 1) := by decide +kernel
theorem dX9_bring_60 : decode cX9_bring 60 = .ok (.if_icmp .le 9, 3) := by decide +kernel
theorem dX9_bring_63 : decode cX9_bring 63 = .ok (.aload_n 0, 1) := by decide +kernel
theorem dX9_bring_64 : decode cX9_bring 64 = .ok (.iconst 5, 1) := by decide +kernel
theorem dX9_bring_65 : decode cX9_bring 65 = .ok (.invokevirtual 142, 3) := by decide +kernel
theorem dX9_bring_68 : decode cX9_bring 68 = .ok (.ireturn, 1) := by decide +kernel
theorem dX9_bring_69 : decode cX9_bring 69 = .ok (.aload_n 0, 1) := by decide +kernel
theorem dX9_bring_70 : decode cX9_bring 70 = .ok (.invokevirtual 129, 3) := by decide +kernel
theorem dX9_bring_73 : decode cX9_bring 73 = .ok (.iconst 0, 1) := by decide +kernel
theorem dX9_bring_74 : decode cX9_bring 74 = .ok (.aload_n 0, 1) := by decide +kernel
theorem dX9_bring_75 : decode cX9_bring 75 = .ok (.getfield 9, 3) := by decide +kernel
theorem dX9_bring_78 : decode cX9_bring 78 = .ok (.iconst 2, 1) := by decide +kernel
theorem dX9_bring_79 : decode cX9_bring 79 = .ok (.iaload, 1) := by decide +kernel
theorem dX9_bring_80 : decode cX9_bring 80 = .ok (.aload_n 0, 1) := by decide +kernel
theorem dX9_bring_81 : decode cX9_bring 81 = .ok (.getfield 9, 3) := by decide +kernel
theorem dX9_bring_84 : decode cX9_bring 84 = .ok (.iload_n 1, 1) := by decide +kernel
theorem dX9_bring_85 : decode cX9_bring 85 = .ok (.iconst 5, 1) := by decide +kernel
theorem dX9_bring_86 : decode cX9_bring 86 = .ok (.invokestatic 192, 3) := by decide +kernel
theorem dX9_bring_89 : decode cX9_bring 89 = .ok (.iaload, 1) := by decide +kernel
theorem dX9_bring_90 : decode cX9_bring 90 = .ok (.isub, 1) := by decide +kernel
theorem dX9_bring_91 : decode cX9_bring 91 = .ok (.invokestatic 208, 3) := by decide +kernel
theorem dX9_bring_94 : decode cX9_bring 94 = .ok (.istore 4, 2) := by decide +kernel
theorem dX9_bring_96 : decode cX9_bring 96 = .ok (.iload_n 2, 1) := by decide +kernel
theorem dX9_bring_97 : decode cX9_bring 97 = .ok (.iload_n 3, 1) := by decide +kernel
theorem dX9_bring_98 : decode cX9_bring 98 = .ok (.iadd, 1) := by decide +kernel
theorem dX9_bring_99 : decode cX9_bring 99 = .ok (.bipush 20, 2) := by decide +kernel
theorem dX9_bring_101 : decode cX9_bring 101 = .ok (.iload 4, 2) := by decide +kernel
theorem dX9_bring_103 : decode cX9_bring 103 = .ok (.invokestatic 213, 3) := by decide +kernel
theorem dX9_bring_106 : decode cX9_bring 106 = .ok (.imul, 1) := by decide +kernel
theorem dX9_bring_107 : decode cX9_bring 107 = .ok (.bipush 50, 2) := by decide +kernel
theorem dX9_bring_109 : decode cX9_bring 109 = .ok (.iload_n 3, 1) := by decide +kernel
theorem dX9_bring_110 : decode cX9_bring 110 = .ok (.imul, 1) := by decide +kernel
theorem dX9_bring_111 : decode cX9_bring 111 = .ok (.iadd, 1) := by decide +kernel
theorem dX9_bring_112 : decode cX9_bring 112 = .ok (.istore 5, 2) := by decide +kernel
theorem dX9_bring_114 : decode cX9_bring 114 = .ok (.aload_n 0, 1) := by decide +kernel
theorem dX9_bring_115 : decode cX9_bring 115 = .ok (.getfield 9, 3) := by decide +kernel
theorem dX9_bring_118 : decode cX9_bring 118 = .ok (.iload_n 1, 1) := by decide +kernel
theorem dX9_bring_119 : decode cX9_bring 119 = .ok (.iconst 1, 1) := by decide +kernel
theorem dX9_bring_120 : decode cX9_bring 120 = .ok (.invokestatic 192, 3) := by decide +kernel
theorem dX9_bring_123 : decode cX9_bring 123 = .ok (.iaload, 1) := by decide +kernel
theorem dX9_bring_124 : decode cX9_bring 124 = .ok (.iconst 3, 1) := by decide +kernel
theorem dX9_bring_125 : decode cX9_bring 125 = .ok (.iconst 3, 1) := by decide +kernel
theorem dX9_bring_126 : decode cX9_bring 126 = .ok (.aload_n 0, 1) := by decide +kernel
theorem dX9_bring_127 : decode cX9_bring 127 = .ok (.getfield 9, 3) := by decide +kernel
theorem dX9_bring_130 : decode cX9_bring 130 = .ok (.iload_n 1, 1) := by decide +kernel
theorem dX9_bring_131 : decode cX9_bring 131 = .ok (.iconst 2, 1) := by decide +kernel
theorem dX9_bring_132 : decode cX9_bring 132 = .ok (.invokestatic 192, 3) := by decide +kernel
theorem dX9_bring_135 : decode cX9_bring 135 = .ok (.iaload, 1) := by decide +kernel
theorem dX9_bring_136 : decode cX9_bring 136 = .ok (.imul, 1) := by decide +kernel
theorem dX9_bring_137 : decode cX9_bring 137 = .ok (.iadd, 1) := by decide +kernel
theorem dX9_bring_138 : decode cX9_bring 138 = .ok (.invokestatic 105, 3) := by decide +kernel
theorem dX9_bring_141 : decode cX9_bring 141 = .ok (.istore 6, 2) := by decide +kernel
theorem dX9_bring_143 : decode cX9_bring 143 = .ok (.aload_n 0, 1) := by decide +kernel
theorem dX9_bring_144 : decode cX9_bring 144 = .ok (.getfield 9, 3) := by decide +kernel
theorem dX9_bring_147 : decode cX9_bring 147 = .ok (.iload 6, 2) := by decide +kernel
theorem dX9_bring_149 : decode cX9_bring 149 = .ok (.iconst 1, 1) := by decide +kernel
theorem dX9_bring_150 : decode cX9_bring 150 = .ok (.iadd, 1) := by decide +kernel
theorem dX9_bring_151 : decode cX9_bring 151 = .ok (.dup2, 1) := by decide +kernel
theorem dX9_bring_152 : decode cX9_bring 152 = .ok (.iaload, 1) := by decide +kernel
theorem dX9_bring_153 : decode cX9_bring 153 = .ok (.iload_n 2, 1) := by decide +kernel
theorem dX9_bring_154 : decode cX9_bring 154 = .ok (.iload_n 3, 1) := by decide +kernel
theorem dX9_bring_155 : decode cX9_bring 155 = .ok (.iadd, 1) := by decide +kernel
theorem dX9_bring_156 : decode cX9_bring 156 = .ok (.isub, 1) := by decide +kernel
theorem dX9_bring_157 : decode cX9_bring 157 = .ok (.iastore, 1) := by decide +kernel
theorem dX9_bring_158 : decode cX9_bring 158 = .ok (.aload_n 0, 1) := by decide +kernel
theorem dX9_bring_159 : decode cX9_bring 159 = .ok (.getfield 9, 3) := by decide +kernel
theorem dX9_bring_162 : decode cX9_bring 162 = .ok (.iload 6, 2) := by decide +kernel
theorem dX9_bring_164 : decode cX9_bring 164 = .ok (.iconst 2, 1) := by decide +kernel
theorem dX9_bring_165 : decode cX9_bring 165 = .ok (.iadd, 1) := by decide +kernel
theorem dX9_bring_166 : decode cX9_bring 166 = .ok (.dup2, 1) := by decide +kernel
theorem dX9_bring_167 : decode cX9_bring 167 = .ok (.iaload, 1) := by decide +kernel
theorem dX9_bring_168 : decode cX9_bring 168 = .ok (.iload_n 3, 1) := by decide +kernel
theorem dX9_bring_169 : decode cX9_bring 169 = .ok (.iadd, 1) := by decide +kernel
theorem dX9_bring_170 : decode cX9_bring 170 = .ok (.iastore, 1) := by decide +kernel
theorem dX9_bring_171 : decode cX9_bring 171 = .ok (.aload_n 0, 1) := by decide +kernel
theorem dX9_bring_172 : decode cX9_bring 172 = .ok (.getfield 9, 3) := by decide +kernel
theorem dX9_bring_175 : decode cX9_bring 175 = .ok (.iload_n 1, 1) := by decide +kernel
theorem dX9_bring_176 : decode cX9_bring 176 = .ok (.iconst 4, 1) := by decide +kernel
theorem dX9_bring_177 : decode cX9_bring 177 = .ok (.invokestatic 192, 3) := by decide +kernel
theorem dX9_bring_180 : decode cX9_bring 180 = .ok (.dup2, 1) := by decide +kernel
theorem dX9_bring_181 : decode cX9_bring 181 = .ok (.iaload, 1) := by decide +kernel
theorem dX9_bring_182 : decode cX9_bring 182 = .ok (.iload_n 2, 1) := by decide +kernel
theorem dX9_bring_183 : decode cX9_bring 183 = .ok (.iload_n 3, 1) := by decide +kernel
theorem dX9_bring_184 : decode cX9_bring 184 = .ok (.iadd, 1) := by decide +kernel
theorem dX9_bring_185 : decode cX9_bring 185 = .ok (.isub, 1) := by decide +kernel
theorem dX9_bring_186 : decode cX9_bring 186 = .ok (.iastore, 1) := by decide +kernel
theorem dX9_bring_187 : decode cX9_bring 187 = .ok (.aload_n 0, 1) := by decide +kernel
theorem dX9_bring_188 : decode cX9_bring 188 = .ok (.getfield 9, 3) := by decide +kernel
theorem dX9_bring_191 : decode cX9_bring 191 = .ok (.iload_n 1, 1) := by decide +kernel
theorem dX9_bring_192 : decode cX9_bring 192 = .ok (.bipush 6, 2) := by decide +kernel
theorem dX9_bring_194 : decode cX9_bring 194 = .ok (.invokestatic 192, 3) := by decide +kernel
theorem dX9_bring_197 : decode cX9_bring 197 = .ok (.dup2, 1) := by decide +kernel
theorem dX9_bring_198 : decode cX9_bring 198 = .ok (.iaload, 1) := by decide +kernel
theorem dX9_bring_199 : decode cX9_bring 199 = .ok (.iload 5, 2) := by decide +kernel
theorem dX9_bring_201 : decode cX9_bring 201 = .ok (.iadd, 1) := by decide +kernel
theorem dX9_bring_202 : decode cX9_bring 202 = .ok (.iastore, 1) := by decide +kernel
theorem dX9_bring_203 : decode cX9_bring 203 = .ok (.aload_n 0, 1) := by decide +kernel
theorem dX9_bring_204 : decode cX9_bring 204 = .ok (.getfield 9, 3) := by decide +kernel
theorem dX9_bring_207 : decode cX9_bring 207 = .ok (.iload_n 1, 1) := by decide +kernel
theorem dX9_bring_208 : decode cX9_bring 208 = .ok (.bipush 7, 2) := by decide +kernel
theorem dX9_bring_210 : decode cX9_bring 210 = .ok (.invokestatic 192, 3) := by decide +kernel
theorem dX9_bring_213 : decode cX9_bring 213 = .ok (.dup2, 1) := by decide +kernel
theorem dX9_bring_214 : decode cX9_bring 214 = .ok (.iaload, 1) := by decide +kernel
theorem dX9_bring_215 : decode cX9_bring 215 = .ok (.iload_n 3, 1) := by decide +kernel
theorem dX9_bring_216 : decode cX9_bring 216 = .ok (.iadd, 1) := by decide +kernel
theorem dX9_bring_217 : decode cX9_bring 217 = .ok (.iastore, 1) := by decide +kernel
theorem dX9_bring_218 : decode cX9_bring 218 = .ok (.iload 5, 2) := by decide +kernel
theorem dX9_bring_220 : decode cX9_bring 220 = .ok (.ireturn, 1) := by decide +kernel
theorem dX9_loan_0 : decode cX9_loan 0 = .ok (.iload_n 1, 1) := by decide +kernel
theorem dX9_loan_1 : decode cX9_loan 1 = .ok (.iconst 0, 1) := by decide +kernel
theorem dX9_loan_2 : decode cX9_loan 2 = .ok (.aload_n 0, 1) := by decide +kernel
theorem dX9_loan_3 : decode cX9_loan 3 = .ok (.getfield 9, 3) := by decide +kernel
theorem dX9_loan_6 : decode cX9_loan 6 = .ok (.iconst 1, 1) := by decide +kernel
theorem dX9_loan_7 : decode cX9_loan 7 = .ok (.iaload, 1) := by decide +kernel
theorem dX9_loan_8 : decode cX9_loan 8 = .ok (.iconst 1, 1) := by decide +kernel
theorem dX9_loan_9 : decode cX9_loan 9 = .ok (.isub, 1) := by decide +kernel
theorem dX9_loan_10 : decode cX9_loan 10 = .ok (.invokestatic 108, 3) := by decide +kernel
theorem dX9_loan_13 : decode cX9_loan 13 = .ok (.ifCond .eq 13, 3) := by decide +kernel
theorem dX9_loan_16 : decode cX9_loan 16 = .ok (.iload_n 2, 1) := by decide +kernel
theorem dX9_loan_17 : decode cX9_loan 17 = .ok (.iconst 0, 1) := by decide +kernel
theorem dX9_loan_18 : decode cX9_loan 18 = .ok (.bipush 7, 2) := by decide +kernel
theorem dX9_loan_20 : decode cX9_loan 20 = .ok (.invokestatic 108, 3) := by decide +kernel
theorem dX9_loan_23 : decode cX9_loan 23 = .ok (.ifCond .ne 5, 3) := by decide +kernel
theorem dX9_loan_26 : decode cX9_loan 26 = .ok (.iconst (-1), 1) := by decide +kernel
theorem dX9_loan_27 : decode cX9_loan 27 = .ok (.ireturn, 1) := by decide +kernel
theorem dX9_loan_28 : decode cX9_loan 28 = .ok (.iload_n 2, 1) := by decide +kernel
theorem dX9_loan_29 : decode cX9_loan 29 = .ok (.bipush 7, 2) := by decide +kernel
theorem dX9_loan_31 : decode cX9_loan 31 = .ok (.if_icmp .ne 19, 3) := by decide +kernel
theorem dX9_loan_34 : decode cX9_loan 34 = .ok (.aload_n 0, 1) := by decide +kernel
theorem dX9_loan_35 : decode cX9_loan 35 = .ok (.iload_n 1, 1) := by decide +kernel
theorem dX9_loan_36 : decode cX9_loan 36 = .ok (.invokevirtual 195, 3) := by decide +kernel
theorem dX9_loan_39 : decode cX9_loan 39 = .ok (.ifCond .eq 7, 3) := by decide +kernel
theorem dX9_loan_42 : decode cX9_loan 42 = .ok (.iconst 1, 1) := by decide +kernel
theorem dX9_loan_43 : decode cX9_loan 43 = .ok (.goto 17, 3) := by decide +kernel
theorem dX9_loan_46 : decode cX9_loan 46 = .ok (.iconst 0, 1) := by decide +kernel
theorem dX9_loan_47 : decode cX9_loan 47 = .ok (.goto 13, 3) := by decide +kernel
theorem dX9_loan_50 : decode cX9_loan 50 = .ok (.aload_n 0, 1) := by decide +kernel
theorem dX9_loan_51 : decode cX9_loan 51 = .ok (.getfield 9, 3) := by decide +kernel
theorem dX9_loan_54 : decode cX9_loan 54 = .ok (.iload_n 1, 1) := by decide +kernel
theorem dX9_loan_55 : decode cX9_loan 55 = .ok (.iload_n 2, 1) := by decide +kernel
theorem dX9_loan_56 : decode cX9_loan 56 = .ok (.invokestatic 192, 3) := by decide +kernel
theorem dX9_loan_59 : decode cX9_loan 59 = .ok (.iaload, 1) := by decide +kernel
theorem dX9_loan_60 : decode cX9_loan 60 = .ok (.ireturn, 1) := by decide +kernel
theorem dX9_overdue_0 : decode cX9_overdue 0 = .ok (.iload_n 1, 1) := by decide +kernel
theorem dX9_overdue_1 : decode cX9_overdue 1 = .ok (.ifCond .ge 5, 3) := by decide +kernel
theorem dX9_overdue_4 : decode cX9_overdue 4 = .ok (.iconst (-1), 1) := by decide +kernel
theorem dX9_overdue_5 : decode cX9_overdue 5 = .ok (.ireturn, 1) := by decide +kernel
theorem dX9_overdue_6 : decode cX9_overdue 6 = .ok (.iconst 0, 1) := by decide +kernel
theorem dX9_overdue_7 : decode cX9_overdue 7 = .ok (.istore_n 2, 1) := by decide +kernel
theorem dX9_overdue_8 : decode cX9_overdue 8 = .ok (.iload_n 2, 1) := by decide +kernel
theorem dX9_overdue_9 : decode cX9_overdue 9 = .ok (.aload_n 0, 1) := by decide +kernel
theorem dX9_overdue_10 : decode cX9_overdue 10 = .ok (.getfield 9, 3) := by decide +kernel
theorem dX9_overdue_13 : decode cX9_overdue 13 = .ok (.iconst 1, 1) := by decide +kernel
theorem dX9_overdue_14 : decode cX9_overdue 14 = .ok (.iaload, 1) := by decide +kernel
theorem dX9_overdue_15 : decode cX9_overdue 15 = .ok (.if_icmp .ge 120, 3) := by decide +kernel
theorem dX9_overdue_18 : decode cX9_overdue 18 = .ok (.aload_n 0, 1) := by decide +kernel
theorem dX9_overdue_19 : decode cX9_overdue 19 = .ok (.iload_n 2, 1) := by decide +kernel
theorem dX9_overdue_20 : decode cX9_overdue 20 = .ok (.invokevirtual 195, 3) := by decide +kernel
theorem dX9_overdue_23 : decode cX9_overdue 23 = .ok (.ifCond .ne 6, 3) := by decide +kernel
theorem dX9_overdue_26 : decode cX9_overdue 26 = .ok (.goto 103, 3) := by decide +kernel
theorem dX9_overdue_29 : decode cX9_overdue 29 = .ok (.iconst 0, 1) := by decide +kernel
theorem dX9_overdue_30 : decode cX9_overdue 30 = .ok (.istore_n 3, 1) := by decide +kernel
theorem dX9_overdue_31 : decode cX9_overdue 31 = .ok (.iconst 0, 1) := by decide +kernel
theorem dX9_overdue_32 : decode cX9_overdue 32 = .ok (.istore 4, 2) := by decide +kernel
theorem dX9_overdue_34 : decode cX9_overdue 34 = .ok (.iload 4, 2) := by decide +kernel
theorem dX9_overdue_36 : decode cX9_overdue 36 = .ok (.aload_n 0, 1) := by decide +kernel
theorem dX9_overdue_37 : decode cX9_overdue 37 = .ok (.getfield 9, 3) := by decide +kernel
theorem dX9_overdue_40 : decode cX9_overdue 40 = .ok (.iconst 1, 1) := by decide +kernel
theorem dX9_overdue_41 : decode cX9_overdue 41 = .ok (.iaload, 1) := by decide +kernel
theorem dX9_overdue_42 : decode cX9_overdue 42 = .ok (.if_icmp .ge 80, 3) := by decide +kernel
theorem dX9_overdue_45 : decode cX9_overdue 45 = .ok (.iload_n 3, 1) := by decide +kernel
theorem dX9_overdue_46 : decode cX9_overdue 46 = .ok (.aload_n 0, 1) := by decide +kernel
theorem dX9_overdue_47 : decode cX9_overdue 47 = .ok (.iload 4, 2) := by decide +kernel
theorem dX9_overdue_49 : decode cX9_overdue 49 = .ok (.invokevirtual 195, 3) := by decide +kernel
theorem dX9_overdue_52 : decode cX9_overdue 52 = .ok (.ifCond .eq 61, 3) := by decide +kernel
theorem dX9_overdue_55 : decode cX9_overdue 55 = .ok (.aload_n 0, 1) := by decide +kernel
theorem dX9_overdue_56 : decode cX9_overdue 56 = .ok (.getfield 9, 3) := by decide +kernel
theorem dX9_overdue_59 : decode cX9_overdue 59 = .ok (.iload 4, 2) := by decide +kernel
theorem dX9_overdue_61 : decode cX9_overdue 61 = .ok (.iconst 5, 1) := by decide +kernel
theorem dX9_overdue_62 : decode cX9_overdue 62 = .ok (.invokestatic 192, 3) := by decide +kernel
theorem dX9_overdue_65 : decode cX9_overdue 65 = .ok (.iaload, 1) := by decide +kernel
theorem dX9_overdue_66 : decode cX9_overdue 66 = .ok (.aload_n 0, 1) := by decide +kernel
theorem dX9_overdue_67 : decode cX9_overdue 67 = .ok (.getfield 9, 3) := by decide +kernel
theorem dX9_overdue_70 : decode cX9_overdue 70 = .ok (.iload_n 2, 1) := by decide +kernel
theorem dX9_overdue_71 : decode cX9_overdue 71 = .ok (.iconst 5, 1) := by decide +kernel
theorem dX9_overdue_72 : decode cX9_overdue 72 = .ok (.invokestatic 192, 3) := by decide +kernel
theorem dX9_overdue_75 : decode cX9_overdue 75 = .ok (.iaload, 1) := by decide +kernel
theorem dX9_overdue_76 : decode cX9_overdue 76 = .ok (.if_icmp .lt 33, 3) := by decide +kernel
theorem dX9_overdue_79 : decode cX9_overdue 79 = .ok (.aload_n 0, 1) := by decide +kernel
theorem dX9_overdue_80 : decode cX9_overdue 80 = .ok (.getfield 9, 3) := by decide +kernel
theorem dX9_overdue_83 : decode cX9_overdue 83 = .ok (.iload 4, 2) := by decide +kernel
theorem dX9_overdue_85 : decode cX9_overdue 85 = .ok (.iconst 5, 1) := by decide +kernel
theorem dX9_overdue_86 : decode cX9_overdue 86 = .ok (.invokestatic 192, 3) := by decide +kernel
theorem dX9_overdue_89 : decode cX9_overdue 89 = .ok (.iaload, 1) := by decide +kernel
theorem dX9_overdue_90 : decode cX9_overdue 90 = .ok (.aload_n 0, 1) := by decide +kernel
theorem dX9_overdue_91 : decode cX9_overdue 91 = .ok (.getfield 9, 3) := by decide +kernel
theorem dX9_overdue_94 : decode cX9_overdue 94 = .ok (.iload_n 2, 1) := by decide +kernel
theorem dX9_overdue_95 : decode cX9_overdue 95 = .ok (.iconst 5, 1) := by decide +kernel
theorem dX9_overdue_96 : decode cX9_overdue 96 = .ok (.invokestatic 192, 3) := by decide +kernel
theorem dX9_overdue_99 : decode cX9_overdue 99 = .ok (.iaload, 1) := by decide +kernel
theorem dX9_overdue_100 : decode cX9_overdue 100 = .ok (.if_icmp .ne 13, 3) := by decide +kernel
theorem dX9_overdue_103 : decode cX9_overdue 103 = .ok (.iload 4, 2) := by decide +kernel
theorem dX9_overdue_105 : decode cX9_overdue 105 = .ok (.iload_n 2, 1) := by decide +kernel
theorem dX9_overdue_106 : decode cX9_overdue 106 = .ok (.if_icmp .ge 7, 3) := by decide +kernel
theorem dX9_overdue_109 : decode cX9_overdue 109 = .ok (.iconst 1, 1) := by decide +kernel
theorem dX9_overdue_110 : decode cX9_overdue 110 = .ok (.goto 4, 3) := by decide +kernel
theorem dX9_overdue_113 : decode cX9_overdue 113 = .ok (.iconst 0, 1) := by decide +kernel
theorem dX9_overdue_114 : decode cX9_overdue 114 = .ok (.iadd, 1) := by decide +kernel
theorem dX9_overdue_115 : decode cX9_overdue 115 = .ok (.istore_n 3, 1) := by decide +kernel
theorem dX9_overdue_116 : decode cX9_overdue 116 = .ok (.iinc 4 1, 3) := by decide +kernel
theorem dX9_overdue_119 : decode cX9_overdue 119 = .ok (.goto (-85), 3) := by decide +kernel
theorem dX9_overdue_122 : decode cX9_overdue 122 = .ok (.iload_n 3, 1) := by decide +kernel
theorem dX9_overdue_123 : decode cX9_overdue 123 = .ok (.iload_n 1, 1) := by decide +kernel
theorem dX9_overdue_124 : decode cX9_overdue 124 = .ok (.if_icmp .ne 5, 3) := by decide +kernel
theorem dX9_overdue_127 : decode cX9_overdue 127 = .ok (.iload_n 2, 1) := by decide +kernel
theorem dX9_overdue_128 : decode cX9_overdue 128 = .ok (.ireturn, 1) := by decide +kernel
theorem dX9_overdue_129 : decode cX9_overdue 129 = .ok (.iinc 2 1, 3) := by decide +kernel
theorem dX9_overdue_132 : decode cX9_overdue 132 = .ok (.goto (-124), 3) := by decide +kernel
theorem dX9_overdue_135 : decode cX9_overdue 135 = .ok (.bipush (-7), 2) := by decide +kernel
theorem dX9_overdue_137 : decode cX9_overdue 137 = .ok (.ireturn, 1) := by decide +kernel
theorem dX9_borrower_0 : decode cX9_borrower 0 = .ok (.iload_n 1, 1) := by decide +kernel
theorem dX9_borrower_1 : decode cX9_borrower 1 = .ok (.iconst 0, 1) := by decide +kernel
theorem dX9_borrower_2 : decode cX9_borrower 2 = .ok (.iconst 5, 1) := by decide +kernel
theorem dX9_borrower_3 : decode cX9_borrower 3 = .ok (.invokestatic 108, 3) := by decide +kernel
theorem dX9_borrower_6 : decode cX9_borrower 6 = .ok (.ifCond .eq 12, 3) := by decide +kernel
theorem dX9_borrower_9 : decode cX9_borrower 9 = .ok (.iload_n 2, 1) := by decide +kernel
theorem dX9_borrower_10 : decode cX9_borrower 10 = .ok (.iconst 0, 1) := by decide +kernel
theorem dX9_borrower_11 : decode cX9_borrower 11 = .ok (.iconst 3, 1) := by decide +kernel
theorem dX9_borrower_12 : decode cX9_borrower 12 = .ok (.invokestatic 108, 3) := by decide +kernel
theorem dX9_borrower_15 : decode cX9_borrower 15 = .ok (.ifCond .ne 5, 3) := by decide +kernel
theorem dX9_borrower_18 : decode cX9_borrower 18 = .ok (.iconst (-1), 1) := by decide +kernel
theorem dX9_borrower_19 : decode cX9_borrower 19 = .ok (.ireturn, 1) := by decide +kernel
theorem dX9_borrower_20 : decode cX9_borrower 20 = .ok (.iconst 0, 1) := by decide +kernel
theorem dX9_borrower_21 : decode cX9_borrower 21 = .ok (.istore_n 3, 1) := by decide +kernel
theorem dX9_borrower_22 : decode cX9_borrower 22 = .ok (.iconst 0, 1) := by decide +kernel
theorem dX9_borrower_23 : decode cX9_borrower 23 = .ok (.istore 4, 2) := by decide +kernel
theorem dX9_borrower_25 : decode cX9_borrower 25 = .ok (.iload 4, 2) := by decide +kernel
theorem dX9_borrower_27 : decode cX9_borrower 27 = .ok (.aload_n 0, 1) := by decide +kernel
theorem dX9_borrower_28 : decode cX9_borrower 28 = .ok (.getfield 9, 3) := by decide +kernel
theorem dX9_borrower_31 : decode cX9_borrower 31 = .ok (.iconst 1, 1) := by decide +kernel
theorem dX9_borrower_32 : decode cX9_borrower 32 = .ok (.iaload, 1) := by decide +kernel
theorem dX9_borrower_33 : decode cX9_borrower 33 = .ok (.if_icmp .ge 102, 3) := by decide +kernel
theorem dX9_borrower_36 : decode cX9_borrower 36 = .ok (.aload_n 0, 1) := by decide +kernel
theorem dX9_borrower_37 : decode cX9_borrower 37 = .ok (.getfield 9, 3) := by decide +kernel
theorem dX9_borrower_40 : decode cX9_borrower 40 = .ok (.iload 4, 2) := by decide +kernel
theorem dX9_borrower_42 : decode cX9_borrower 42 = .ok (.iconst 0, 1) := by decide +kernel
theorem dX9_borrower_43 : decode cX9_borrower 43 = .ok (.invokestatic 192, 3) := by decide +kernel
theorem dX9_borrower_46 : decode cX9_borrower 46 = .ok (.iaload, 1) := by decide +kernel
theorem dX9_borrower_47 : decode cX9_borrower 47 = .ok (.iload_n 1, 1) := by decide +kernel
theorem dX9_borrower_48 : decode cX9_borrower 48 = .ok (.if_icmp .eq 6, 3) := by decide +kernel
theorem dX9_borrower_51 : decode cX9_borrower 51 = .ok (.goto 78, 3) := by decide +kernel
theorem dX9_borrower_54 : decode cX9_borrower 54 = .ok (.iload_n 3, 1) := by decide +kernel
theorem dX9_borrower_55 : decode cX9_borrower 55 = .ok (.iload_n 2, 1) := by decide +kernel
theorem dX9_borrower_56 : decode cX9_borrower 56 = .ok (.ifCond .ne 17, 3) := by decide +kernel
theorem dX9_borrower_59 : decode cX9_borrower 59 = .ok (.aload_n 0, 1) := by decide +kernel
theorem dX9_borrower_60 : decode cX9_borrower 60 = .ok (.getfield 9, 3) := by decide +kernel
theorem dX9_borrower_63 : decode cX9_borrower 63 = .ok (.iload 4, 2) := by decide +kernel
theorem dX9_borrower_65 : decode cX9_borrower 65 = .ok (.iconst 4, 1) := by decide +kernel
theorem dX9_borrower_66 : decode cX9_borrower 66 = .ok (.invokestatic 192, 3) := by decide +kernel
theorem dX9_borrower_69 : decode cX9_borrower 69 = .ok (.iaload, 1) := by decide +kernel
theorem dX9_borrower_70 : decode cX9_borrower 70 = .ok (.goto 57, 3) := by decide +kernel
theorem dX9_borrower_73 : decode cX9_borrower 73 = .ok (.iload_n 2, 1) := by decide +kernel
theorem dX9_borrower_74 : decode cX9_borrower 74 = .ok (.iconst 1, 1) := by decide +kernel
theorem dX9_borrower_75 : decode cX9_borrower 75 = .ok (.if_icmp .ne 18, 3) := by decide +kernel
theorem dX9_borrower_78 : decode cX9_borrower 78 = .ok (.aload_n 0, 1) := by decide +kernel
theorem dX9_borrower_79 : decode cX9_borrower 79 = .ok (.getfield 9, 3) := by decide +kernel
theorem dX9_borrower_82 : decode cX9_borrower 82 = .ok (.iload 4, 2) := by decide +kernel
theorem dX9_borrower_84 : decode cX9_borrower 84 = .ok (.bipush 7, 2) := by decide +kernel
theorem dX9_borrower_86 : decode cX9_borrower 86 = .ok (.invokestatic 192, 3) := by decide +kernel
theorem dX9_borrower_89 : decode cX9_borrower 89 = .ok (.iaload, 1) := by decide +kernel
theorem dX9_borrower_90 : decode cX9_borrower 90 = .ok (.goto 37, 3) := by decide +kernel
theorem dX9_borrower_93 : decode cX9_borrower 93 = .ok (.iload_n 2, 1) := by decide +kernel
theorem dX9_borrower_94 : decode cX9_borrower 94 = .ok (.iconst 2, 1) := by decide +kernel
theorem dX9_borrower_95 : decode cX9_borrower 95 = .ok (.if_icmp .ne 18, 3) := by decide +kernel
theorem dX9_borrower_98 : decode cX9_borrower 98 = .ok (.aload_n 0, 1) := by decide +kernel
theorem dX9_borrower_99 : decode cX9_borrower 99 = .ok (.getfield 9, 3) := by decide +kernel
theorem dX9_borrower_102 : decode cX9_borrower 102 = .ok (.iload 4, 2) := by decide +kernel
theorem dX9_borrower_104 : decode cX9_borrower 104 = .ok (.bipush 6, 2) := by decide +kernel
theorem dX9_borrower_106 : decode cX9_borrower 106 = .ok (.invokestatic 192, 3) := by decide +kernel
theorem dX9_borrower_109 : decode cX9_borrower 109 = .ok (.iaload, 1) := by decide +kernel
theorem dX9_borrower_110 : decode cX9_borrower 110 = .ok (.goto 17, 3) := by decide +kernel
theorem dX9_borrower_113 : decode cX9_borrower 113 = .ok (.aload_n 0, 1) := by decide +kernel
theorem dX9_borrower_114 : decode cX9_borrower 114 = .ok (.iload 4, 2) := by decide +kernel
theorem dX9_borrower_116 : decode cX9_borrower 116 = .ok (.invokevirtual 195, 3) := by decide +kernel
theorem dX9_borrower_119 : decode cX9_borrower 119 = .ok (.ifCond .eq 7, 3) := by decide +kernel
theorem dX9_borrower_122 : decode cX9_borrower 122 = .ok (.iconst 1, 1) := by decide +kernel
theorem dX9_borrower_123 : decode cX9_borrower 123 = .ok (.goto 4, 3) := by decide +kernel
theorem dX9_borrower_126 : decode cX9_borrower 126 = .ok (.iconst 0, 1) := by decide +kernel
theorem dX9_borrower_127 : decode cX9_borrower 127 = .ok (.iadd, 1) := by decide +kernel
theorem dX9_borrower_128 : decode cX9_borrower 128 = .ok (.istore_n 3, 1) := by decide +kernel
theorem dX9_borrower_129 : decode cX9_borrower 129 = .ok (.iinc 4 1, 3) := by decide +kernel
theorem dX9_borrower_132 : decode cX9_borrower 132 = .ok (.goto (-107), 3) := by decide +kernel
theorem dX9_borrower_135 : decode cX9_borrower 135 = .ok (.iload_n 3, 1) := by decide +kernel
theorem dX9_borrower_136 : decode cX9_borrower 136 = .ok (.ireturn, 1) := by decide +kernel
theorem dX9_pass_0 : decode cX9_pass 0 = .ok (.iload_n 1, 1) := by decide +kernel
theorem dX9_pass_1 : decode cX9_pass 1 = .ok (.iconst 1, 1) := by decide +kernel
theorem dX9_pass_2 : decode cX9_pass 2 = .ok (.sipush 999, 3) := by decide +kernel
theorem dX9_pass_5 : decode cX9_pass 5 = .ok (.invokestatic 108, 3) := by decide +kernel
theorem dX9_pass_8 : decode cX9_pass 8 = .ok (.ifCond .ne 6, 3) := by decide +kernel
theorem dX9_pass_11 : decode cX9_pass 11 = .ok (.bipush (-2), 2) := by decide +kernel
theorem dX9_pass_13 : decode cX9_pass 13 = .ok (.ireturn, 1) := by decide +kernel
theorem dX9_pass_14 : decode cX9_pass 14 = .ok (.aload_n 0, 1) := by decide +kernel
theorem dX9_pass_15 : decode cX9_pass 15 = .ok (.getfield 9, 3) := by decide +kernel
theorem dX9_pass_18 : decode cX9_pass 18 = .ok (.iconst 2, 1) := by decide +kernel
theorem dX9_pass_19 : decode cX9_pass 19 = .ok (.iaload, 1) := by decide +kernel
theorem dX9_pass_20 : decode cX9_pass 20 = .ok (.iload_n 1, 1) := by decide +kernel
theorem dX9_pass_21 : decode cX9_pass 21 = .ok (.iadd, 1) := by decide +kernel
theorem dX9_pass_22 : decode cX9_pass 22 = .ok (.sipush 9999, 3) := by decide +kernel
theorem dX9_pass_25 : decode cX9_pass 25 = .ok (.if_icmp .le 6, 3) := by decide +kernel
theorem dX9_pass_28 : decode cX9_pass 28 = .ok (.bipush (-4), 2) := by decide +kernel
theorem dX9_pass_30 : decode cX9_pass 30 = .ok (.ireturn, 1) := by decide +kernel
theorem dX9_pass_31 : decode cX9_pass 31 = .ok (.aload_n 0, 1) := by decide +kernel
theorem dX9_pass_32 : decode cX9_pass 32 = .ok (.invokevirtual 129, 3) := by decide +kernel
theorem dX9_pass_35 : decode cX9_pass 35 = .ok (.aload_n 0, 1) := by decide +kernel
theorem dX9_pass_36 : decode cX9_pass 36 = .ok (.getfield 9, 3) := by decide +kernel
theorem dX9_pass_39 : decode cX9_pass 39 = .ok (.iconst 2, 1) := by decide +kernel
theorem dX9_pass_40 : decode cX9_pass 40 = .ok (.dup2, 1) := by decide +kernel
theorem dX9_pass_41 : decode cX9_pass 41 = .ok (.iaload, 1) := by decide +kernel
theorem dX9_pass_42 : decode cX9_pass 42 = .ok (.iload_n 1, 1) := by decide +kernel
theorem dX9_pass_43 : decode cX9_pass 43 = .ok (.iadd, 1) := by decide +kernel
theorem dX9_pass_44 : decode cX9_pass 44 = .ok (.iastore, 1) := by decide +kernel
theorem dX9_pass_45 : decode cX9_pass 45 = .ok (.aload_n 0, 1) := by decide +kernel
theorem dX9_pass_46 : decode cX9_pass 46 = .ok (.getfield 9, 3) := by decide +kernel
theorem dX9_pass_49 : decode cX9_pass 49 = .ok (.iconst 2, 1) := by decide +kernel
theorem dX9_pass_50 : decode cX9_pass 50 = .ok (.iaload, 1) := by decide +kernel
theorem dX9_pass_51 : decode cX9_pass 51 = .ok (.ireturn, 1) := by decide +kernel
theorem dX9_isBox_0 : decode cX9_isBox 0 = .ok (.iload_n 0, 1) := by decide +kernel
theorem dX9_isBox_1 : decode cX9_isBox 1 = .ok (.iconst 0, 1) := by decide +kernel
theorem dX9_isBox_2 : decode cX9_isBox 2 = .ok (.iconst 2, 1) := by decide +kernel
theorem dX9_isBox_3 : decode cX9_isBox 3 = .ok (.invokestatic 108, 3) := by decide +kernel
theorem dX9_isBox_6 : decode cX9_isBox 6 = .ok (.ireturn, 1) := by decide +kernel
theorem dX9_isPlace_0 : decode cX9_isPlace 0 = .ok (.iload_n 1, 1) := by decide +kernel
theorem dX9_isPlace_1 : decode cX9_isPlace 1 = .ok (.invokestatic 216, 3) := by decide +kernel
theorem dX9_isPlace_4 : decode cX9_isPlace 4 = .ok (.ifCond .eq 23, 3) := by decide +kernel
theorem dX9_isPlace_7 : decode cX9_isPlace 7 = .ok (.iload_n 2, 1) := by decide +kernel
theorem dX9_isPlace_8 : decode cX9_isPlace 8 = .ok (.iconst 0, 1) := by decide +kernel
theorem dX9_isPlace_9 : decode cX9_isPlace 9 = .ok (.aload_n 0, 1) := by decide +kernel
theorem dX9_isPlace_10 : decode cX9_isPlace 10 = .ok (.getfield 58, 3) := by decide +kernel
theorem dX9_isPlace_13 : decode cX9_isPlace 13 = .ok (.iload_n 1, 1) := by decide +kernel
theorem dX9_isPlace_14 : decode cX9_isPlace 14 = .ok (.iaload, 1) := by decide +kernel
theorem dX9_isPlace_15 : decode cX9_isPlace 15 = .ok (.iconst 1, 1) := by decide +kernel
theorem dX9_isPlace_16 : decode cX9_isPlace 16 = .ok (.isub, 1) := by decide +kernel
theorem dX9_isPlace_17 : decode cX9_isPlace 17 = .ok (.invokestatic 108, 3) := by decide +kernel
theorem dX9_isPlace_20 : decode cX9_isPlace 20 = .ok (.ifCond .eq 7, 3) := by decide +kernel
theorem dX9_isPlace_23 : decode cX9_isPlace 23 = .ok (.iconst 1, 1) := by decide +kernel
theorem dX9_isPlace_24 : decode cX9_isPlace 24 = .ok (.goto 4, 3) := by decide +kernel
theorem dX9_isPlace_27 : decode cX9_isPlace 27 = .ok (.iconst 0, 1) := by decide +kernel
theorem dX9_isPlace_28 : decode cX9_isPlace 28 = .ok (.ireturn, 1) := by decide +kernel
theorem dX9_things_0 : decode cX9_things 0 = .ok (.iconst 0, 1) := by decide +kernel
theorem dX9_things_1 : decode cX9_things 1 = .ok (.istore_n 2, 1) := by decide +kernel
theorem dX9_things_2 : decode cX9_things 2 = .ok (.iconst 0, 1) := by decide +kernel
theorem dX9_things_3 : decode cX9_things 3 = .ok (.istore_n 3, 1) := by decide +kernel
theorem dX9_things_4 : decode cX9_things 4 = .ok (.iload_n 3, 1) := by decide +kernel
theorem dX9_things_5 : decode cX9_things 5 = .ok (.aload_n 0, 1) := by decide +kernel
theorem dX9_things_6 : decode cX9_things 6 = .ok (.getfield 58, 3) := by decide +kernel
theorem dX9_things_9 : decode cX9_things 9 = .ok (.iload_n 1, 1) := by decide +kernel
theorem dX9_things_10 : decode cX9_things 10 = .ok (.iaload, 1) := by decide +kernel
theorem dX9_things_11 : decode cX9_things 11 = .ok (.if_icmp .ge 31, 3) := by decide +kernel
theorem dX9_things_14 : decode cX9_things 14 = .ok (.iload_n 2, 1) := by decide +kernel
theorem dX9_things_15 : decode cX9_things 15 = .ok (.aload_n 0, 1) := by decide +kernel
theorem dX9_things_16 : decode cX9_things 16 = .ok (.getfield 61, 3) := by decide +kernel
theorem dX9_things_19 : decode cX9_things 19 = .ok (.bipush 8, 2) := by decide +kernel
theorem dX9_things_21 : decode cX9_things 21 = .ok (.iload_n 1, 1) := by decide +kernel
theorem dX9_things_22 : decode cX9_things 22 = .ok (.imul, 1) := by decide +kernel
theorem dX9_things_23 : decode cX9_things 23 = .ok (.iload_n 3, 1) := by decide +kernel
theorem dX9_things_24 : decode cX9_things 24 = .ok (.iadd, 1) := by decide +kernel
theorem dX9_things_25 : decode cX9_things 25 = .ok (.iaload, 1) := by decide +kernel
theorem dX9_things_26 : decode cX9_things 26 = .ok (.ifCond .le 7, 3) := by decide +kernel
theorem dX9_things_29 : decode cX9_things 29 = .ok (.iconst 1, 1) := by decide +kernel
theorem dX9_things_30 : decode cX9_things 30 = .ok (.goto 4, 3) := by decide +kernel
theorem dX9_things_33 : decode cX9_things 33 = .ok (.iconst 0, 1) := by decide +kernel
theorem dX9_things_34 : decode cX9_things 34 = .ok (.iadd, 1) := by decide +kernel
theorem dX9_things_35 : decode cX9_things 35 = .ok (.istore_n 2, 1) := by decide +kernel
theorem dX9_things_36 : decode cX9_things 36 = .ok (.iinc 3 1, 3) := by decide +kernel
theorem dX9_things_39 : decode cX9_things 39 = .ok (.goto (-35), 3) := by decide +kernel
theorem dX9_things_42 : decode cX9_things 42 = .ok (.iload_n 2, 1) := by decide +kernel
theorem dX9_things_43 : decode cX9_things 43 = .ok (.ireturn, 1) := by decide +kernel
theorem dX9_box_0 : decode cX9_box 0 = .ok (.iload_n 1, 1) := by decide +kernel
theorem dX9_box_1 : decode cX9_box 1 = .ok (.invokestatic 216, 3) := by decide +kernel
theorem dX9_box_4 : decode cX9_box 4 = .ok (.ifCond .ne 5, 3) := by decide +kernel
theorem dX9_box_7 : decode cX9_box 7 = .ok (.iconst (-1), 1) := by decide +kernel
theorem dX9_box_8 : decode cX9_box 8 = .ok (.ireturn, 1) := by decide +kernel
theorem dX9_box_9 : decode cX9_box 9 = .ok (.iload_n 2, 1) := by decide +kernel
theorem dX9_box_10 : decode cX9_box 10 = .ok (.iconst 0, 1) := by decide +kernel
theorem dX9_box_11 : decode cX9_box 11 = .ok (.iconst 3, 1) := by decide +kernel
theorem dX9_box_12 : decode cX9_box 12 = .ok (.invokestatic 108, 3) := by decide +kernel
theorem dX9_box_15 : decode cX9_box 15 = .ok (.ifCond .eq 13, 3) := by decide +kernel
theorem dX9_box_18 : decode cX9_box 18 = .ok (.iload_n 3, 1) := by decide +kernel
theorem dX9_box_19 : decode cX9_box 19 = .ok (.iconst 0, 1) := by decide +kernel
theorem dX9_box_20 : decode cX9_box 20 = .ok (.bipush 8, 2) := by decide +kernel
theorem dX9_box_22 : decode cX9_box 22 = .ok (.invokestatic 108, 3) := by decide +kernel
theorem dX9_box_25 : decode cX9_box 25 = .ok (.ifCond .ne 6, 3) := by decide +kernel
theorem dX9_box_28 : decode cX9_box 28 = .ok (.bipush (-2), 2) := by decide +kernel
theorem dX9_box_30 : decode cX9_box 30 = .ok (.ireturn, 1) := by decide +kernel
theorem dX9_box_31 : decode cX9_box 31 = .ok (.aload_n 0, 1) := by decide +kernel
theorem dX9_box_32 : decode cX9_box 32 = .ok (.iload_n 1, 1) := by decide +kernel
theorem dX9_box_33 : decode cX9_box 33 = .ok (.invokevirtual 219, 3) := by decide +kernel
theorem dX9_box_36 : decode cX9_box 36 = .ok (.istore 4, 2) := by decide +kernel
theorem dX9_box_38 : decode cX9_box 38 = .ok (.aload_n 0, 1) := by decide +kernel
theorem dX9_box_39 : decode cX9_box 39 = .ok (.getfield 55, 3) := by decide +kernel
theorem dX9_box_42 : decode cX9_box 42 = .ok (.iload_n 1, 1) := by decide +kernel
theorem dX9_box_43 : decode cX9_box 43 = .ok (.iload_n 2, 1) := by decide +kernel
theorem dX9_box_44 : decode cX9_box 44 = .ok (.iastore, 1) := by decide +kernel
theorem dX9_box_45 : decode cX9_box 45 = .ok (.aload_n 0, 1) := by decide +kernel
theorem dX9_box_46 : decode cX9_box 46 = .ok (.getfield 58, 3) := by decide +kernel
theorem dX9_box_49 : decode cX9_box 49 = .ok (.iload_n 1, 1) := by decide +kernel
theorem dX9_box_50 : decode cX9_box 50 = .ok (.iload_n 3, 1) := by decide +kernel
theorem dX9_box_51 : decode cX9_box 51 = .ok (.iastore, 1) := by decide +kernel
theorem dX9_box_52 : decode cX9_box 52 = .ok (.iconst 0, 1) := by decide +kernel
theorem dX9_box_53 : decode cX9_box 53 = .ok (.istore 5, 2) := by decide +kernel
theorem dX9_box_55 : decode cX9_box 55 = .ok (.iload 5, 2) := by decide +kernel
theorem dX9_box_57 : decode cX9_box 57 = .ok (.bipush 8, 2) := by decide +kernel
theorem dX9_box_59 : decode cX9_box 59 = .ok (.if_icmp .ge 22, 3) := by decide +kernel
theorem dX9_box_62 : decode cX9_box 62 = .ok (.aload_n 0, 1) := by decide +kernel
theorem dX9_box_63 : decode cX9_box 63 = .ok (.getfield 61, 3) := by decide +kernel
theorem dX9_box_66 : decode cX9_box 66 = .ok (.bipush 8, 2) := by decide +kernel
theorem dX9_box_68 : decode cX9_box 68 = .ok (.iload_n 1, 1) := by decide +kernel
theorem dX9_box_69 : decode cX9_box 69 = .ok (.imul, 1) := by decide +kernel
theorem dX9_box_70 : decode cX9_box 70 = .ok (.iload 5, 2) := by decide +kernel
theorem dX9_box_72 : decode cX9_box 72 = .ok (.iadd, 1) := by decide +kernel
theorem dX9_box_73 : decode cX9_box 73 = .ok (.iconst 0, 1) := by decide +kernel
theorem dX9_box_74 : decode cX9_box 74 = .ok (.iastore, 1) := by decide +kernel
theorem dX9_box_75 : decode cX9_box 75 = .ok (.iinc 5 1, 3) := by decide +kernel
theorem dX9_box_78 : decode cX9_box 78 = .ok (.goto (-23), 3) := by decide +kernel
theorem dX9_box_81 : decode cX9_box 81 = .ok (.iload 4, 2) := by decide +kernel
theorem dX9_box_83 : decode cX9_box 83 = .ok (.ireturn, 1) := by decide +kernel
theorem dX9_put_0 : decode cX9_put 0 = .ok (.aload_n 0, 1) := by decide +kernel
theorem dX9_put_1 : decode cX9_put 1 = .ok (.iload_n 1, 1) := by decide +kernel
theorem dX9_put_2 : decode cX9_put 2 = .ok (.iload_n 2, 1) := by decide +kernel
theorem dX9_put_3 : decode cX9_put 3 = .ok (.invokevirtual 222, 3) := by decide +kernel
theorem dX9_put_6 : decode cX9_put 6 = .ok (.ifCond .eq 21, 3) := by decide +kernel
theorem dX9_put_9 : decode cX9_put 9 = .ok (.aload_n 0, 1) := by decide +kernel
theorem dX9_put_10 : decode cX9_put 10 = .ok (.iload_n 3, 1) := by decide +kernel
theorem dX9_put_11 : decode cX9_put 11 = .ok (.invokevirtual 112, 3) := by decide +kernel
theorem dX9_put_14 : decode cX9_put 14 = .ok (.ifCond .eq 13, 3) := by decide +kernel
theorem dX9_put_17 : decode cX9_put 17 = .ok (.iload 4, 2) := by decide +kernel
theorem dX9_put_19 : decode cX9_put 19 = .ok (.iconst (-1), 1) := by decide +kernel
theorem dX9_put_20 : decode cX9_put 20 = .ok (.iconst 5, 1) := by decide +kernel
theorem dX9_put_21 : decode cX9_put 21 = .ok (.invokestatic 108, 3) := by decide +kernel
theorem dX9_put_24 : decode cX9_put 24 = .ok (.ifCond .ne 5, 3) := by decide +kernel
theorem dX9_put_27 : decode cX9_put 27 = .ok (.iconst (-1), 1) := by decide +kernel
theorem dX9_put_28 : decode cX9_put 28 = .ok (.ireturn, 1) := by decide +kernel
theorem dX9_put_29 : decode cX9_put 29 = .ok (.aload_n 0, 1) := by decide +kernel
theorem dX9_put_30 : decode cX9_put 30 = .ok (.getfield 55, 3) := by decide +kernel
theorem dX9_put_33 : decode cX9_put 33 = .ok (.iload_n 1, 1) := by decide +kernel
theorem dX9_put_34 : decode cX9_put 34 = .ok (.iaload, 1) := by decide +kernel
theorem dX9_put_35 : decode cX9_put 35 = .ok (.iconst 1, 1) := by decide +kernel
theorem dX9_put_36 : decode cX9_put 36 = .ok (.if_icmp .ne 8, 3) := by decide +kernel
theorem dX9_put_39 : decode cX9_put 39 = .ok (.iload 4, 2) := by decide +kernel
theorem dX9_put_41 : decode cX9_put 41 = .ok (.ifCond .ge 38, 3) := by decide +kernel
theorem dX9_put_44 : decode cX9_put 44 = .ok (.aload_n 0, 1) := by decide +kernel
theorem dX9_put_45 : decode cX9_put 45 = .ok (.getfield 55, 3) := by decide +kernel
theorem dX9_put_48 : decode cX9_put 48 = .ok (.iload_n 1, 1) := by decide +kernel
theorem dX9_put_49 : decode cX9_put 49 = .ok (.iaload, 1) := by decide +kernel
theorem dX9_put_50 : decode cX9_put 50 = .ok (.iconst 2, 1) := by decide +kernel
theorem dX9_put_51 : decode cX9_put 51 = .ok (.if_icmp .ne 8, 3) := by decide +kernel
theorem dX9_put_54 : decode cX9_put 54 = .ok (.iload 4, 2) := by decide +kernel
theorem dX9_put_56 : decode cX9_put 56 = .ok (.ifCond .lt 23, 3) := by decide +kernel
theorem dX9_put_59 : decode cX9_put 59 = .ok (.aload_n 0, 1) := by decide +kernel
theorem dX9_put_60 : decode cX9_put 60 = .ok (.getfield 55, 3) := by decide +kernel
theorem dX9_put_63 : decode cX9_put 63 = .ok (.iload_n 1, 1) := by decide +kernel
theorem dX9_put_64 : decode cX9_put 64 = .ok (.iaload, 1) := by decide +kernel
theorem dX9_put_65 : decode cX9_put 65 = .ok (.iconst 3, 1) := by decide +kernel
theorem dX9_put_66 : decode cX9_put 66 = .ok (.if_icmp .ne 16, 3) := by decide +kernel
theorem dX9_put_69 : decode cX9_put 69 = .ok (.iload 4, 2) := by decide +kernel
theorem dX9_put_71 : decode cX9_put 71 = .ok (.iconst 0, 1) := by decide +kernel
theorem dX9_put_72 : decode cX9_put 72 = .ok (.iconst 3, 1) := by decide +kernel
theorem dX9_put_73 : decode cX9_put 73 = .ok (.invokestatic 108, 3) := by decide +kernel
theorem dX9_put_76 : decode cX9_put 76 = .ok (.ifCond .ne 6, 3) := by decide +kernel
theorem dX9_put_79 : decode cX9_put 79 = .ok (.bipush (-6), 2) := by decide +kernel
theorem dX9_put_81 : decode cX9_put 81 = .ok (.ireturn, 1) := by decide +kernel
theorem dX9_put_82 : decode cX9_put 82 = .ok (.bipush 8, 2) := by decide +kernel
theorem dX9_put_84 : decode cX9_put 84 = .ok (.iload_n 1, 1) := by decide +kernel
theorem dX9_put_85 : decode cX9_put 85 = .ok (.imul, 1) := by decide +kernel
theorem dX9_put_86 : decode cX9_put 86 = .ok (.iload_n 2, 1) := by decide +kernel
theorem dX9_put_87 : decode cX9_put 87 = .ok (.iadd, 1) := by decide +kernel
theorem dX9_put_88 : decode cX9_put 88 = .ok (.istore 5, 2) := by decide +kernel
theorem dX9_put_90 : decode cX9_put 90 = .ok (.aload_n 0, 1) := by decide +kernel
theorem dX9_put_91 : decode cX9_put 91 = .ok (.getfield 61, 3) := by decide +kernel
theorem dX9_put_94 : decode cX9_put 94 = .ok (.iload 5, 2) := by decide +kernel
theorem dX9_put_96 : decode cX9_put 96 = .ok (.iaload, 1) := by decide +kernel
theorem dX9_put_97 : decode cX9_put 97 = .ok (.ifCond .ne 7, 3) := by decide +kernel
theorem dX9_put_100 : decode cX9_put 100 = .ok (.iconst 1, 1) := by decide +kernel
theorem dX9_put_101 : decode cX9_put 101 = .ok (.goto 4, 3) := by decide +kernel
theorem dX9_put_104 : decode cX9_put 104 = .ok (.iconst 0, 1) := by decide +kernel
theorem dX9_put_105 : decode cX9_put 105 = .ok (.istore 6, 2) := by decide +kernel
theorem dX9_put_107 : decode cX9_put 107 = .ok (.aload_n 0, 1) := by decide +kernel
theorem dX9_put_108 : decode cX9_put 108 = .ok (.getfield 61, 3) := by decide +kernel
theorem dX9_put_111 : decode cX9_put 111 = .ok (.iload 5, 2) := by decide +kernel
theorem dX9_put_113 : decode cX9_put 113 = .ok (.iload_n 3, 1) := by decide +kernel
theorem dX9_put_114 : decode cX9_put 114 = .ok (.iconst 1, 1) := by decide +kernel
theorem dX9_put_115 : decode cX9_put 115 = .ok (.iadd, 1) := by decide +kernel
theorem dX9_put_116 : decode cX9_put 116 = .ok (.iastore, 1) := by decide +kernel
theorem dX9_put_117 : decode cX9_put 117 = .ok (.aload_n 0, 1) := by decide +kernel
theorem dX9_put_118 : decode cX9_put 118 = .ok (.getfield 64, 3) := by decide +kernel
theorem dX9_put_121 : decode cX9_put 121 = .ok (.iload 5, 2) := by decide +kernel
theorem dX9_put_123 : decode cX9_put 123 = .ok (.iload 4, 2) := by decide +kernel
theorem dX9_put_125 : decode cX9_put 125 = .ok (.iastore, 1) := by decide +kernel
theorem dX9_put_126 : decode cX9_put 126 = .ok (.iload 6, 2) := by decide +kernel
theorem dX9_put_128 : decode cX9_put 128 = .ok (.ifCond .eq 7, 3) := by decide +kernel
theorem dX9_put_131 : decode cX9_put 131 = .ok (.iconst 1, 1) := by decide +kernel
theorem dX9_put_132 : decode cX9_put 132 = .ok (.goto 4, 3) := by decide +kernel
theorem dX9_put_135 : decode cX9_put 135 = .ok (.iconst 0, 1) := by decide +kernel
theorem dX9_put_136 : decode cX9_put 136 = .ok (.ireturn, 1) := by decide +kernel
theorem dX9_look_0 : decode cX9_look 0 = .ok (.aload_n 0, 1) := by decide +kernel
theorem dX9_look_1 : decode cX9_look 1 = .ok (.iload_n 1, 1) := by decide +kernel
theorem dX9_look_2 : decode cX9_look 2 = .ok (.iload_n 2, 1) := by decide +kernel
theorem dX9_look_3 : decode cX9_look 3 = .ok (.invokevirtual 222, 3) := by decide +kernel
theorem dX9_look_6 : decode cX9_look 6 = .ok (.ifCond .eq 12, 3) := by decide +kernel
theorem dX9_look_9 : decode cX9_look 9 = .ok (.iload_n 3, 1) := by decide +kernel
theorem dX9_look_10 : decode cX9_look 10 = .ok (.iconst 0, 1) := by decide +kernel
theorem dX9_look_11 : decode cX9_look 11 = .ok (.iconst 1, 1) := by decide +kernel
theorem dX9_look_12 : decode cX9_look 12 = .ok (.invokestatic 108, 3) := by decide +kernel
theorem dX9_look_15 : decode cX9_look 15 = .ok (.ifCond .ne 5, 3) := by decide +kernel
theorem dX9_look_18 : decode cX9_look 18 = .ok (.iconst (-1), 1) := by decide +kernel
theorem dX9_look_19 : decode cX9_look 19 = .ok (.ireturn, 1) := by decide +kernel
theorem dX9_look_20 : decode cX9_look 20 = .ok (.bipush 8, 2) := by decide +kernel
theorem dX9_look_22 : decode cX9_look 22 = .ok (.iload_n 1, 1) := by decide +kernel
theorem dX9_look_23 : decode cX9_look 23 = .ok (.imul, 1) := by decide +kernel
theorem dX9_look_24 : decode cX9_look 24 = .ok (.iload_n 2, 1) := by decide +kernel
theorem dX9_look_25 : decode cX9_look 25 = .ok (.iadd, 1) := by decide +kernel
theorem dX9_look_26 : decode cX9_look 26 = .ok (.istore 4, 2) := by decide +kernel
theorem dX9_look_28 : decode cX9_look 28 = .ok (.aload_n 0, 1) := by decide +kernel
theorem dX9_look_29 : decode cX9_look 29 = .ok (.getfield 61, 3) := by decide +kernel
theorem dX9_look_32 : decode cX9_look 32 = .ok (.iload 4, 2) := by decide +kernel
theorem dX9_look_34 : decode cX9_look 34 = .ok (.iaload, 1) := by decide +kernel
theorem dX9_look_35 : decode cX9_look 35 = .ok (.ifCond .ne 8, 3) := by decide +kernel
theorem dX9_look_38 : decode cX9_look 38 = .ok (.bipush (-7), 2) := by decide +kernel
theorem dX9_look_40 : decode cX9_look 40 = .ok (.goto 26, 3) := by decide +kernel
theorem dX9_look_43 : decode cX9_look 43 = .ok (.iload_n 3, 1) := by decide +kernel
theorem dX9_look_44 : decode cX9_look 44 = .ok (.ifCond .ne 15, 3) := by decide +kernel
theorem dX9_look_47 : decode cX9_look 47 = .ok (.aload_n 0, 1) := by decide +kernel
theorem dX9_look_48 : decode cX9_look 48 = .ok (.getfield 61, 3) := by decide +kernel
theorem dX9_look_51 : decode cX9_look 51 = .ok (.iload 4, 2) := by decide +kernel
theorem dX9_look_53 : decode cX9_look 53 = .ok (.iaload, 1) := by decide +kernel
theorem dX9_look_54 : decode cX9_look 54 = .ok (.iconst 1, 1) := by decide +kernel
theorem dX9_look_55 : decode cX9_look 55 = .ok (.isub, 1) := by decide +kernel
theorem dX9_look_56 : decode cX9_look 56 = .ok (.goto 10, 3) := by decide +kernel
theorem dX9_look_59 : decode cX9_look 59 = .ok (.aload_n 0, 1) := by decide +kernel
theorem dX9_look_60 : decode cX9_look 60 = .ok (.getfield 64, 3) := by decide +kernel
theorem dX9_look_63 : decode cX9_look 63 = .ok (.iload 4, 2) := by decide +kernel
theorem dX9_look_65 : decode cX9_look 65 = .ok (.iaload, 1) := by decide +kernel
theorem dX9_look_66 : decode cX9_look 66 = .ok (.ireturn, 1) := by decide +kernel
theorem dX9_likeBox_0 : decode cX9_likeBox 0 = .ok (.iload_n 1, 1) := by decide +kernel
theorem dX9_likeBox_1 : decode cX9_likeBox 1 = .ok (.invokestatic 216, 3) := by decide +kernel
theorem dX9_likeBox_4 : decode cX9_likeBox 4 = .ok (.ifCond .eq 10, 3) := by decide +kernel
theorem dX9_likeBox_7 : decode cX9_likeBox 7 = .ok (.iload_n 2, 1) := by decide +kernel
theorem dX9_likeBox_8 : decode cX9_likeBox 8 = .ok (.invokestatic 216, 3) := by decide +kernel
theorem dX9_likeBox_11 : decode cX9_likeBox 11 = .ok (.ifCond .ne 5, 3) := by decide +kernel
theorem dX9_likeBox_14 : decode cX9_likeBox 14 = .ok (.iconst (-1), 1) := by decide +kernel
theorem dX9_likeBox_15 : decode cX9_likeBox 15 = .ok (.ireturn, 1) := by decide +kernel
theorem dX9_likeBox_16 : decode cX9_likeBox 16 = .ok (.aload_n 0, 1) := by decide +kernel
theorem dX9_likeBox_17 : decode cX9_likeBox 17 = .ok (.getfield 55, 3) := by decide +kernel
theorem dX9_likeBox_20 : decode cX9_likeBox 20 = .ok (.iload_n 2, 1) := by decide +kernel
theorem dX9_likeBox_21 : decode cX9_likeBox 21 = .ok (.aload_n 0, 1) := by decide +kernel
theorem dX9_likeBox_22 : decode cX9_likeBox 22 = .ok (.getfield 55, 3) := by decide +kernel
theorem dX9_likeBox_25 : decode cX9_likeBox 25 = .ok (.iload_n 1, 1) := by decide +kernel
theorem dX9_likeBox_26 : decode cX9_likeBox 26 = .ok (.iaload, 1) := by decide +kernel
theorem dX9_likeBox_27 : decode cX9_likeBox 27 = .ok (.iastore, 1) := by decide +kernel
theorem dX9_likeBox_28 : decode cX9_likeBox 28 = .ok (.aload_n 0, 1) := by decide +kernel
theorem dX9_likeBox_29 : decode cX9_likeBox 29 = .ok (.getfield 58, 3) := by decide +kernel
theorem dX9_likeBox_32 : decode cX9_likeBox 32 = .ok (.iload_n 2, 1) := by decide +kernel
theorem dX9_likeBox_33 : decode cX9_likeBox 33 = .ok (.aload_n 0, 1) := by decide +kernel
theorem dX9_likeBox_34 : decode cX9_likeBox 34 = .ok (.getfield 58, 3) := by decide +kernel
theorem dX9_likeBox_37 : decode cX9_likeBox 37 = .ok (.iload_n 1, 1) := by decide +kernel
theorem dX9_likeBox_38 : decode cX9_likeBox 38 = .ok (.iaload, 1) := by decide +kernel
theorem dX9_likeBox_39 : decode cX9_likeBox 39 = .ok (.iastore, 1) := by decide +kernel
theorem dX9_likeBox_40 : decode cX9_likeBox 40 = .ok (.iconst 0, 1) := by decide +kernel
theorem dX9_likeBox_41 : decode cX9_likeBox 41 = .ok (.istore_n 3, 1) := by decide +kernel
theorem dX9_likeBox_42 : decode cX9_likeBox 42 = .ok (.iload_n 3, 1) := by decide +kernel
theorem dX9_likeBox_43 : decode cX9_likeBox 43 = .ok (.bipush 8, 2) := by decide +kernel
theorem dX9_likeBox_45 : decode cX9_likeBox 45 = .ok (.if_icmp .ge 53, 3) := by decide +kernel
theorem dX9_likeBox_48 : decode cX9_likeBox 48 = .ok (.aload_n 0, 1) := by decide +kernel
theorem dX9_likeBox_49 : decode cX9_likeBox 49 = .ok (.getfield 61, 3) := by decide +kernel
theorem dX9_likeBox_52 : decode cX9_likeBox 52 = .ok (.bipush 8, 2) := by decide +kernel
theorem dX9_likeBox_54 : decode cX9_likeBox 54 = .ok (.iload_n 2, 1) := by decide +kernel
theorem dX9_likeBox_55 : decode cX9_likeBox 55 = .ok (.imul, 1) := by decide +kernel
theorem dX9_likeBox_56 : decode cX9_likeBox 56 = .ok (.iload_n 3, 1) := by decide +kernel
theorem dX9_likeBox_57 : decode cX9_likeBox 57 = .ok (.iadd, 1) := by decide +kernel
theorem dX9_likeBox_58 : decode cX9_likeBox 58 = .ok (.aload_n 0, 1) := by decide +kernel
theorem dX9_likeBox_59 : decode cX9_likeBox 59 = .ok (.getfield 61, 3) := by decide +kernel
theorem dX9_likeBox_62 : decode cX9_likeBox 62 = .ok (.bipush 8, 2) := by decide +kernel
theorem dX9_likeBox_64 : decode cX9_likeBox 64 = .ok (.iload_n 1, 1) := by decide +kernel
theorem dX9_likeBox_65 : decode cX9_likeBox 65 = .ok (.imul, 1) := by decide +kernel
theorem dX9_likeBox_66 : decode cX9_likeBox 66 = .ok (.iload_n 3, 1) := by decide +kernel
theorem dX9_likeBox_67 : decode cX9_likeBox 67 = .ok (.iadd, 1) := by decide +kernel
theorem dX9_likeBox_68 : decode cX9_likeBox 68 = .ok (.iaload, 1) := by decide +kernel
theorem dX9_likeBox_69 : decode cX9_likeBox 69 = .ok (.iastore, 1) := by decide +kernel
theorem dX9_likeBox_70 : decode cX9_likeBox 70 = .ok (.aload_n 0, 1) := by decide +kernel
theorem dX9_likeBox_71 : decode cX9_likeBox 71 = .ok (.getfield 64, 3) := by decide +kernel
theorem dX9_likeBox_74 : decode cX9_likeBox 74 = .ok (.bipush 8, 2) := by decide +kernel
theorem dX9_likeBox_76 : decode cX9_likeBox 76 = .ok (.iload_n 2, 1) := by decide +kernel
theorem dX9_likeBox_77 : decode cX9_likeBox 77 = .ok (.imul, 1) := by decide +kernel
theorem dX9_likeBox_78 : decode cX9_likeBox 78 = .ok (.iload_n 3, 1) := by decide +kernel
theorem dX9_likeBox_79 : decode cX9_likeBox 79 = .ok (.iadd, 1) := by decide +kernel
theorem dX9_likeBox_80 : decode cX9_likeBox 80 = .ok (.aload_n 0, 1) := by decide +kernel
theorem dX9_likeBox_81 : decode cX9_likeBox 81 = .ok (.getfield 64, 3) := by decide +kernel
theorem dX9_likeBox_84 : decode cX9_likeBox 84 = .ok (.bipush 8, 2) := by decide +kernel
theorem dX9_likeBox_86 : decode cX9_likeBox 86 = .ok (.iload_n 1, 1) := by decide +kernel
theorem dX9_likeBox_87 : decode cX9_likeBox 87 = .ok (.imul, 1) := by decide +kernel
theorem dX9_likeBox_88 : decode cX9_likeBox 88 = .ok (.iload_n 3, 1) := by decide +kernel
theorem dX9_likeBox_89 : decode cX9_likeBox 89 = .ok (.iadd, 1) := by decide +kernel
theorem dX9_likeBox_90 : decode cX9_likeBox 90 = .ok (.iaload, 1) := by decide +kernel
theorem dX9_likeBox_91 : decode cX9_likeBox 91 = .ok (.iastore, 1) := by decide +kernel
theorem dX9_likeBox_92 : decode cX9_likeBox 92 = .ok (.iinc 3 1, 3) := by decide +kernel
theorem dX9_likeBox_95 : decode cX9_likeBox 95 = .ok (.goto (-53), 3) := by decide +kernel
theorem dX9_likeBox_98 : decode cX9_likeBox 98 = .ok (.aload_n 0, 1) := by decide +kernel
theorem dX9_likeBox_99 : decode cX9_likeBox 99 = .ok (.iload_n 2, 1) := by decide +kernel
theorem dX9_likeBox_100 : decode cX9_likeBox 100 = .ok (.invokevirtual 219, 3) := by decide +kernel
theorem dX9_likeBox_103 : decode cX9_likeBox 103 = .ok (.ireturn, 1) := by decide +kernel
theorem dX9_append_0 : decode cX9_append 0 = .ok (.iload_n 1, 1) := by decide +kernel
theorem dX9_append_1 : decode cX9_append 1 = .ok (.bipush 32, 2) := by decide +kernel
theorem dX9_append_3 : decode cX9_append 3 = .ok (.bipush 126, 2) := by decide +kernel
theorem dX9_append_5 : decode cX9_append 5 = .ok (.invokestatic 108, 3) := by decide +kernel
theorem dX9_append_8 : decode cX9_append 8 = .ok (.ifCond .ne 6, 3) := by decide +kernel
theorem dX9_append_11 : decode cX9_append 11 = .ok (.bipush (-2), 2) := by decide +kernel
theorem dX9_append_13 : decode cX9_append 13 = .ok (.ireturn, 1) := by decide +kernel
theorem dX9_append_14 : decode cX9_append 14 = .ok (.aload_n 0, 1) := by decide +kernel
theorem dX9_append_15 : decode cX9_append 15 = .ok (.getfield 76, 3) := by decide +kernel
theorem dX9_append_18 : decode cX9_append 18 = .ok (.bipush 60, 2) := by decide +kernel
theorem dX9_append_20 : decode cX9_append 20 = .ok (.if_icmp .ne 6, 3) := by decide +kernel
theorem dX9_append_23 : decode cX9_append 23 = .ok (.bipush (-4), 2) := by decide +kernel
theorem dX9_append_25 : decode cX9_append 25 = .ok (.ireturn, 1) := by decide +kernel
theorem dX9_append_26 : decode cX9_append 26 = .ok (.aload_n 0, 1) := by decide +kernel
theorem dX9_append_27 : decode cX9_append 27 = .ok (.getfield 67, 3) := by decide +kernel
theorem dX9_append_30 : decode cX9_append 30 = .ok (.aload_n 0, 1) := by decide +kernel
theorem dX9_append_31 : decode cX9_append 31 = .ok (.getfield 76, 3) := by decide +kernel
theorem dX9_append_34 : decode cX9_append 34 = .ok (.iload_n 1, 1) := by decide +kernel
theorem dX9_append_35 : decode cX9_append 35 = .ok (.iastore, 1) := by decide +kernel
theorem dX9_append_36 : decode cX9_append 36 = .ok (.aload_n 0, 1) := by decide +kernel
theorem dX9_append_37 : decode cX9_append 37 = .ok (.dup, 1) := by decide +kernel
theorem dX9_append_38 : decode cX9_append 38 = .ok (.getfield 76, 3) := by decide +kernel
theorem dX9_append_41 : decode cX9_append 41 = .ok (.iconst 1, 1) := by decide +kernel
theorem dX9_append_42 : decode cX9_append 42 = .ok (.iadd, 1) := by decide +kernel
theorem dX9_append_43 : decode cX9_append 43 = .ok (.putfield 76, 3) := by decide +kernel
theorem dX9_append_46 : decode cX9_append 46 = .ok (.aload_n 0, 1) := by decide +kernel
theorem dX9_append_47 : decode cX9_append 47 = .ok (.getfield 76, 3) := by decide +kernel
theorem dX9_append_50 : decode cX9_append 50 = .ok (.ireturn, 1) := by decide +kernel
theorem dX9_sign_0 : decode cX9_sign 0 = .ok (.aload_n 0, 1) := by decide +kernel
theorem dX9_sign_1 : decode cX9_sign 1 = .ok (.getfield 94, 3) := by decide +kernel
theorem dX9_sign_4 : decode cX9_sign 4 = .ok (.ifCond .ne 26, 3) := by decide +kernel
theorem dX9_sign_7 : decode cX9_sign 7 = .ok (.aload_n 0, 1) := by decide +kernel
theorem dX9_sign_8 : decode cX9_sign 8 = .ok (.getfield 79, 3) := by decide +kernel
theorem dX9_sign_11 : decode cX9_sign 11 = .ok (.aload_n 0, 1) := by decide +kernel
theorem dX9_sign_12 : decode cX9_sign 12 = .ok (.getfield 76, 3) := by decide +kernel
theorem dX9_sign_15 : decode cX9_sign 15 = .ok (.if_icmp .ge 15, 3) := by decide +kernel
theorem dX9_sign_18 : decode cX9_sign 18 = .ok (.aload_n 0, 1) := by decide +kernel
theorem dX9_sign_19 : decode cX9_sign 19 = .ok (.getfield 67, 3) := by decide +kernel
theorem dX9_sign_22 : decode cX9_sign 22 = .ok (.aload_n 0, 1) := by decide +kernel
theorem dX9_sign_23 : decode cX9_sign 23 = .ok (.getfield 79, 3) := by decide +kernel
theorem dX9_sign_26 : decode cX9_sign 26 = .ok (.iaload, 1) := by decide +kernel
theorem dX9_sign_27 : decode cX9_sign 27 = .ok (.goto 4, 3) := by decide +kernel
theorem dX9_sign_30 : decode cX9_sign 30 = .ok (.iconst (-1), 1) := by decide +kernel
theorem dX9_sign_31 : decode cX9_sign 31 = .ok (.ireturn, 1) := by decide +kernel
theorem dX9_takes_0 : decode cX9_takes 0 = .ok (.aload_n 0, 1) := by decide +kernel
theorem dX9_takes_1 : decode cX9_takes 1 = .ok (.dup, 1) := by decide +kernel
theorem dX9_takes_2 : decode cX9_takes 2 = .ok (.getfield 94, 3) := by decide +kernel
theorem dX9_takes_5 : decode cX9_takes 5 = .ok (.aload_n 0, 1) := by decide +kernel
theorem dX9_takes_6 : decode cX9_takes 6 = .ok (.invokevirtual 225, 3) := by decide +kernel
theorem dX9_takes_9 : decode cX9_takes 9 = .ok (.iload_n 1, 1) := by decide +kernel
theorem dX9_takes_10 : decode cX9_takes 10 = .ok (.if_icmp .eq 7, 3) := by decide +kernel
theorem dX9_takes_13 : decode cX9_takes 13 = .ok (.iconst 1, 1) := by decide +kernel
theorem dX9_takes_14 : decode cX9_takes 14 = .ok (.goto 4, 3) := by decide +kernel
theorem dX9_takes_17 : decode cX9_takes 17 = .ok (.iconst 0, 1) := by decide +kernel
theorem dX9_takes_18 : decode cX9_takes 18 = .ok (.ior, 1) := by decide +kernel
theorem dX9_takes_19 : decode cX9_takes 19 = .ok (.putfield 94, 3) := by decide +kernel
theorem dX9_takes_22 : decode cX9_takes 22 = .ok (.aload_n 0, 1) := by decide +kernel
theorem dX9_takes_23 : decode cX9_takes 23 = .ok (.getfield 94, 3) := by decide +kernel
theorem dX9_takes_26 : decode cX9_takes 26 = .ok (.ifCond .ne 13, 3) := by decide +kernel
theorem dX9_takes_29 : decode cX9_takes 29 = .ok (.aload_n 0, 1) := by decide +kernel
theorem dX9_takes_30 : decode cX9_takes 30 = .ok (.dup, 1) := by decide +kernel
theorem dX9_takes_31 : decode cX9_takes 31 = .ok (.getfield 79, 3) := by decide +kernel
theorem dX9_takes_34 : decode cX9_takes 34 = .ok (.iconst 1, 1) := by decide +kernel
theorem dX9_takes_35 : decode cX9_takes 35 = .ok (.iadd, 1) := by decide +kernel
theorem dX9_takes_36 : decode cX9_takes 36 = .ok (.putfield 79, 3) := by decide +kernel
theorem dX9_takes_39 : decode cX9_takes 39 = .ok (.return_, 1) := by decide +kernel
theorem dX9_lays_0 : decode cX9_lays 0 = .ok (.aload_n 0, 1) := by decide +kernel
theorem dX9_lays_1 : decode cX9_lays 1 = .ok (.getfield 73, 3) := by decide +kernel
theorem dX9_lays_4 : decode cX9_lays 4 = .ok (.iconst 5, 1) := by decide +kernel
theorem dX9_lays_5 : decode cX9_lays 5 = .ok (.aload_n 0, 1) := by decide +kernel
theorem dX9_lays_6 : decode cX9_lays 6 = .ok (.getfield 82, 3) := by decide +kernel
theorem dX9_lays_9 : decode cX9_lays 9 = .ok (.imul, 1) := by decide +kernel
theorem dX9_lays_10 : decode cX9_lays 10 = .ok (.aload_n 0, 1) := by decide +kernel
theorem dX9_lays_11 : decode cX9_lays 11 = .ok (.getfield 85, 3) := by decide +kernel
theorem dX9_lays_14 : decode cX9_lays 14 = .ok (.iadd, 1) := by decide +kernel
theorem dX9_lays_15 : decode cX9_lays 15 = .ok (.iload_n 1, 1) := by decide +kernel
theorem dX9_lays_16 : decode cX9_lays 16 = .ok (.iastore, 1) := by decide +kernel
theorem dX9_lays_17 : decode cX9_lays 17 = .ok (.aload_n 0, 1) := by decide +kernel
theorem dX9_lays_18 : decode cX9_lays 18 = .ok (.dup, 1) := by decide +kernel
theorem dX9_lays_19 : decode cX9_lays 19 = .ok (.getfield 85, 3) := by decide +kernel
theorem dX9_lays_22 : decode cX9_lays 22 = .ok (.iconst 1, 1) := by decide +kernel
theorem dX9_lays_23 : decode cX9_lays 23 = .ok (.iadd, 1) := by decide +kernel
theorem dX9_lays_24 : decode cX9_lays 24 = .ok (.putfield 85, 3) := by decide +kernel
theorem dX9_lays_27 : decode cX9_lays 27 = .ok (.return_, 1) := by decide +kernel
theorem dX9_digits_0 : decode cX9_digits 0 = .ok (.iconst 0, 1) := by decide +kernel
theorem dX9_digits_1 : decode cX9_digits 1 = .ok (.istore_n 2, 1) := by decide +kernel
theorem dX9_digits_2 : decode cX9_digits 2 = .ok (.aload_n 0, 1) := by decide +kernel
theorem dX9_digits_3 : decode cX9_digits 3 = .ok (.dup, 1) := by decide +kernel
theorem dX9_digits_4 : decode cX9_digits 4 = .ok (.getfield 94, 3) := by decide +kernel
theorem dX9_digits_7 : decode cX9_digits 7 = .ok (.aload_n 0, 1) := by decide +kernel
theorem dX9_digits_8 : decode cX9_digits 8 = .ok (.invokevirtual 225, 3) := by decide +kernel
theorem dX9_digits_11 : decode cX9_digits 11 = .ok (.bipush 48, 2) := by decide +kernel
theorem dX9_digits_13 : decode cX9_digits 13 = .ok (.bipush 57, 2) := by decide +kernel
theorem dX9_digits_15 : decode cX9_digits 15 = .ok (.invokestatic 108, 3) := by decide +kernel
theorem dX9_digits_18 : decode cX9_digits 18 = .ok (.ifCond .ne 7, 3) := by decide +kernel
theorem dX9_digits_21 : decode cX9_digits 21 = .ok (.iconst 1, 1) := by decide +kernel
theorem dX9_digits_22 : decode cX9_digits 22 = .ok (.goto 4, 3) := by decide +kernel
theorem dX9_digits_25 : decode cX9_digits 25 = .ok (.iconst 0, 1) := by decide +kernel
theorem dX9_digits_26 : decode cX9_digits 26 = .ok (.ior, 1) := by decide +kernel
theorem dX9_digits_27 : decode cX9_digits 27 = .ok (.putfield 94, 3) := by decide +kernel
theorem dX9_digits_30 : decode cX9_digits 30 = .ok (.iconst 0, 1) := by decide +kernel
theorem dX9_digits_31 : decode cX9_digits 31 = .ok (.istore_n 3, 1) := by decide +kernel
theorem dX9_digits_32 : decode cX9_digits 32 = .ok (.iload_n 3, 1) := by decide +kernel
theorem dX9_digits_33 : decode cX9_digits 33 = .ok (.iload_n 1, 1) := by decide +kernel
theorem dX9_digits_34 : decode cX9_digits 34 = .ok (.if_icmp .ge 51, 3) := by decide +kernel
theorem dX9_digits_37 : decode cX9_digits 37 = .ok (.aload_n 0, 1) := by decide +kernel
theorem dX9_digits_38 : decode cX9_digits 38 = .ok (.invokevirtual 225, 3) := by decide +kernel
theorem dX9_digits_41 : decode cX9_digits 41 = .ok (.bipush 48, 2) := by decide +kernel
theorem dX9_digits_43 : decode cX9_digits 43 = .ok (.bipush 57, 2) := by decide +kernel
theorem dX9_digits_45 : decode cX9_digits 45 = .ok (.invokestatic 108, 3) := by decide +kernel
theorem dX9_digits_48 : decode cX9_digits 48 = .ok (.ifCond .eq 37, 3) := by decide +kernel
theorem dX9_digits_51 : decode cX9_digits 51 = .ok (.bipush 10, 2) := by decide +kernel
theorem dX9_digits_53 : decode cX9_digits 53 = .ok (.iload_n 2, 1) := by decide +kernel
theorem dX9_digits_54 : decode cX9_digits 54 = .ok (.imul, 1) := by decide +kernel
theorem dX9_digits_55 : decode cX9_digits 55 = .ok (.aload_n 0, 1) := by decide +kernel
theorem dX9_digits_56 : decode cX9_digits 56 = .ok (.getfield 67, 3) := by decide +kernel
theorem dX9_digits_59 : decode cX9_digits 59 = .ok (.aload_n 0, 1) := by decide +kernel
theorem dX9_digits_60 : decode cX9_digits 60 = .ok (.getfield 79, 3) := by decide +kernel
theorem dX9_digits_63 : decode cX9_digits 63 = .ok (.iaload, 1) := by decide +kernel
theorem dX9_digits_64 : decode cX9_digits 64 = .ok (.iadd, 1) := by decide +kernel
theorem dX9_digits_65 : decode cX9_digits 65 = .ok (.bipush 48, 2) := by decide +kernel
theorem dX9_digits_67 : decode cX9_digits 67 = .ok (.isub, 1) := by decide +kernel
theorem dX9_digits_68 : decode cX9_digits 68 = .ok (.istore_n 2, 1) := by decide +kernel
theorem dX9_digits_69 : decode cX9_digits 69 = .ok (.aload_n 0, 1) := by decide +kernel
theorem dX9_digits_70 : decode cX9_digits 70 = .ok (.dup, 1) := by decide +kernel
theorem dX9_digits_71 : decode cX9_digits 71 = .ok (.getfield 79, 3) := by decide +kernel
theorem dX9_digits_74 : decode cX9_digits 74 = .ok (.iconst 1, 1) := by decide +kernel
theorem dX9_digits_75 : decode cX9_digits 75 = .ok (.iadd, 1) := by decide +kernel
theorem dX9_digits_76 : decode cX9_digits 76 = .ok (.putfield 79, 3) := by decide +kernel
theorem dX9_digits_79 : decode cX9_digits 79 = .ok (.iinc 3 1, 3) := by decide +kernel
theorem dX9_digits_82 : decode cX9_digits 82 = .ok (.goto (-50), 3) := by decide +kernel
theorem dX9_digits_85 : decode cX9_digits 85 = .ok (.iload_n 2, 1) := by decide +kernel
theorem dX9_digits_86 : decode cX9_digits 86 = .ok (.ireturn, 1) := by decide +kernel
theorem dX9_digit_0 : decode cX9_digit 0 = .ok (.aload_n 0, 1) := by decide +kernel
theorem dX9_digit_1 : decode cX9_digit 1 = .ok (.aload_n 0, 1) := by decide +kernel
theorem dX9_digit_2 : decode cX9_digit 2 = .ok (.iconst 1, 1) := by decide +kernel
theorem dX9_digit_3 : decode cX9_digit 3 = .ok (.invokevirtual 229, 3) := by decide +kernel
theorem dX9_digit_6 : decode cX9_digit 6 = .ok (.invokevirtual 232, 3) := by decide +kernel
theorem dX9_digit_9 : decode cX9_digit 9 = .ok (.return_, 1) := by decide +kernel
theorem dX9_number_0 : decode cX9_number 0 = .ok (.aload_n 0, 1) := by decide +kernel
theorem dX9_number_1 : decode cX9_number 1 = .ok (.aload_n 0, 1) := by decide +kernel
theorem dX9_number_2 : decode cX9_number 2 = .ok (.iconst 4, 1) := by decide +kernel
theorem dX9_number_3 : decode cX9_number 3 = .ok (.invokevirtual 229, 3) := by decide +kernel
theorem dX9_number_6 : decode cX9_number 6 = .ok (.invokevirtual 232, 3) := by decide +kernel
theorem dX9_number_9 : decode cX9_number 9 = .ok (.return_, 1) := by decide +kernel
theorem dX9_numberBehind_0 : decode cX9_numberBehind 0 = .ok (.aload_n 0, 1) := by decide +kernel
theorem dX9_numberBehind_1 : decode cX9_numberBehind 1 = .ok (.iload_n 1, 1) := by decide +kernel
theorem dX9_numberBehind_2 : decode cX9_numberBehind 2 = .ok (.invokevirtual 236, 3) := by decide +kernel
theorem dX9_numberBehind_5 : decode cX9_numberBehind 5 = .ok (.aload_n 0, 1) := by decide +kernel
theorem dX9_numberBehind_6 : decode cX9_numberBehind 6 = .ok (.invokevirtual 239, 3) := by decide +kernel
theorem dX9_numberBehind_9 : decode cX9_numberBehind 9 = .ok (.return_, 1) := by decide +kernel
theorem dX9_digitBehind_0 : decode cX9_digitBehind 0 = .ok (.aload_n 0, 1) := by decide +kernel
theorem dX9_digitBehind_1 : decode cX9_digitBehind 1 = .ok (.iload_n 1, 1) := by decide +kernel
theorem dX9_digitBehind_2 : decode cX9_digitBehind 2 = .ok (.invokevirtual 236, 3) := by decide +kernel
theorem dX9_digitBehind_5 : decode cX9_digitBehind 5 = .ok (.aload_n 0, 1) := by decide +kernel
theorem dX9_digitBehind_6 : decode cX9_digitBehind 6 = .ok (.invokevirtual 241, 3) := by decide +kernel
theorem dX9_digitBehind_9 : decode cX9_digitBehind 9 = .ok (.return_, 1) := by decide +kernel
theorem dX9_command_0 : decode cX9_command 0 = .ok (.aload_n 0, 1) := by decide +kernel
theorem dX9_command_1 : decode cX9_command 1 = .ok (.iconst 0, 1) := by decide +kernel
theorem dX9_command_2 : decode cX9_command 2 = .ok (.putfield 85, 3) := by decide +kernel
theorem dX9_command_5 : decode cX9_command 5 = .ok (.aload_n 0, 1) := by decide +kernel
theorem dX9_command_6 : decode cX9_command 6 = .ok (.invokevirtual 225, 3) := by decide +kernel
theorem dX9_command_9 : decode cX9_command 9 = .ok (.istore_n 1, 1) := by decide +kernel
theorem dX9_command_10 : decode cX9_command 10 = .ok (.aload_n 0, 1) := by decide +kernel
theorem dX9_command_11 : decode cX9_command 11 = .ok (.dup, 1) := by decide +kernel
theorem dX9_command_12 : decode cX9_command 12 = .ok (.getfield 94, 3) := by decide +kernel
theorem dX9_command_15 : decode cX9_command 15 = .ok (.iload_n 1, 1) := by decide +kernel
theorem dX9_command_16 : decode cX9_command 16 = .ok (.bipush 99, 2) := by decide +kernel
theorem dX9_command_18 : decode cX9_command 18 = .ok (.if_icmp .eq 43, 3) := by decide +kernel
theorem dX9_command_21 : decode cX9_command 21 = .ok (.iload_n 1, 1) := by decide +kernel
theorem dX9_command_22 : decode cX9_command 22 = .ok (.bipush 105, 2) := by decide +kernel
theorem dX9_command_24 : decode cX9_command 24 = .ok (.if_icmp .eq 37, 3) := by decide +kernel
theorem dX9_command_27 : decode cX9_command 27 = .ok (.iload_n 1, 1) := by decide +kernel
theorem dX9_command_28 : decode cX9_command 28 = .ok (.bipush 119, 2) := by decide +kernel
theorem dX9_command_30 : decode cX9_command 30 = .ok (.if_icmp .eq 31, 3) := by decide +kernel
theorem dX9_command_33 : decode cX9_command 33 = .ok (.iload_n 1, 1) := by decide +kernel
theorem dX9_command_34 : decode cX9_command 34 = .ok (.bipush 116, 2) := by decide +kernel
theorem dX9_command_36 : decode cX9_command 36 = .ok (.if_icmp .eq 25, 3) := by decide +kernel
theorem dX9_command_39 : decode cX9_command 39 = .ok (.iload_n 1, 1) := by decide +kernel
theorem dX9_command_40 : decode cX9_command 40 = .ok (.bipush 98, 2) := by decide +kernel
theorem dX9_command_42 : decode cX9_command 42 = .ok (.if_icmp .eq 19, 3) := by decide +kernel
theorem dX9_command_45 : decode cX9_command 45 = .ok (.iload_n 1, 1) := by decide +kernel
theorem dX9_command_46 : decode cX9_command 46 = .ok (.bipush 108, 2) := by decide +kernel
theorem dX9_command_48 : decode cX9_command 48 = .ok (.if_icmp .eq 13, 3) := by decide +kernel
theorem dX9_command_51 : decode cX9_command 51 = .ok (.iload_n 1, 1) := by decide +kernel
theorem dX9_command_52 : decode cX9_command 52 = .ok (.bipush 114, 2) := by decide +kernel
theorem dX9_command_54 : decode cX9_command 54 = .ok (.if_icmp .eq 7, 3) := by decide +kernel
theorem dX9_command_57 : decode cX9_command 57 = .ok (.iconst 1, 1) := by decide +kernel
theorem dX9_command_58 : decode cX9_command 58 = .ok (.goto 4, 3) := by decide +kernel
theorem dX9_command_61 : decode cX9_command 61 = .ok (.iconst 0, 1) := by decide +kernel
theorem dX9_command_62 : decode cX9_command 62 = .ok (.ior, 1) := by decide +kernel
theorem dX9_command_63 : decode cX9_command 63 = .ok (.putfield 94, 3) := by decide +kernel
theorem dX9_command_66 : decode cX9_command 66 = .ok (.aload_n 0, 1) := by decide +kernel
theorem dX9_command_67 : decode cX9_command 67 = .ok (.getfield 94, 3) := by decide +kernel
theorem dX9_command_70 : decode cX9_command 70 = .ok (.ifCond .eq 4, 3) := by decide +kernel
theorem dX9_command_73 : decode cX9_command 73 = .ok (.return_, 1) := by decide +kernel
theorem dX9_command_74 : decode cX9_command 74 = .ok (.aload_n 0, 1) := by decide +kernel
theorem dX9_command_75 : decode cX9_command 75 = .ok (.getfield 70, 3) := by decide +kernel
theorem dX9_command_78 : decode cX9_command 78 = .ok (.aload_n 0, 1) := by decide +kernel
theorem dX9_command_79 : decode cX9_command 79 = .ok (.getfield 82, 3) := by decide +kernel
theorem dX9_command_82 : decode cX9_command 82 = .ok (.iload_n 1, 1) := by decide +kernel
theorem dX9_command_83 : decode cX9_command 83 = .ok (.iastore, 1) := by decide +kernel
theorem dX9_command_84 : decode cX9_command 84 = .ok (.aload_n 0, 1) := by decide +kernel
theorem dX9_command_85 : decode cX9_command 85 = .ok (.dup, 1) := by decide +kernel
theorem dX9_command_86 : decode cX9_command 86 = .ok (.getfield 79, 3) := by decide +kernel
theorem dX9_command_89 : decode cX9_command 89 = .ok (.iconst 1, 1) := by decide +kernel
theorem dX9_command_90 : decode cX9_command 90 = .ok (.iadd, 1) := by decide +kernel
theorem dX9_command_91 : decode cX9_command 91 = .ok (.putfield 79, 3) := by decide +kernel
theorem dX9_command_94 : decode cX9_command 94 = .ok (.iload_n 1, 1) := by decide +kernel
theorem dX9_command_95 : decode cX9_command 95 = .ok (.bipush 114, 2) := by decide +kernel
theorem dX9_command_97 : decode cX9_command 97 = .ok (.if_icmp .ne 10, 3) := by decide +kernel
theorem dX9_command_100 : decode cX9_command 100 = .ok (.aload_n 0, 1) := by decide +kernel
theorem dX9_command_101 : decode cX9_command 101 = .ok (.invokevirtual 239, 3) := by decide +kernel
theorem dX9_command_104 : decode cX9_command 104 = .ok (.goto 7, 3) := by decide +kernel
theorem dX9_command_107 : decode cX9_command 107 = .ok (.aload_n 0, 1) := by decide +kernel
theorem dX9_command_108 : decode cX9_command 108 = .ok (.invokevirtual 241, 3) := by decide +kernel
theorem dX9_command_111 : decode cX9_command 111 = .ok (.iload_n 1, 1) := by decide +kernel
theorem dX9_command_112 : decode cX9_command 112 = .ok (.bipush 108, 2) := by decide +kernel
theorem dX9_command_114 : decode cX9_command 114 = .ok (.if_icmp .ne 30, 3) := by decide +kernel
theorem dX9_command_117 : decode cX9_command 117 = .ok (.aload_n 0, 1) := by decide +kernel
theorem dX9_command_118 : decode cX9_command 118 = .ok (.bipush 58, 2) := by decide +kernel
theorem dX9_command_120 : decode cX9_command 120 = .ok (.invokevirtual 244, 3) := by decide +kernel
theorem dX9_command_123 : decode cX9_command 123 = .ok (.aload_n 0, 1) := by decide +kernel
theorem dX9_command_124 : decode cX9_command 124 = .ok (.bipush 46, 2) := by decide +kernel
theorem dX9_command_126 : decode cX9_command 126 = .ok (.invokevirtual 244, 3) := by decide +kernel
theorem dX9_command_129 : decode cX9_command 129 = .ok (.aload_n 0, 1) := by decide +kernel
theorem dX9_command_130 : decode cX9_command 130 = .ok (.bipush 42, 2) := by decide +kernel
theorem dX9_command_132 : decode cX9_command 132 = .ok (.invokevirtual 247, 3) := by decide +kernel
theorem dX9_command_135 : decode cX9_command 135 = .ok (.aload_n 0, 1) := by decide +kernel
theorem dX9_command_136 : decode cX9_command 136 = .ok (.bipush 47, 2) := by decide +kernel
theorem dX9_command_138 : decode cX9_command 138 = .ok (.invokevirtual 247, 3) := by decide +kernel
theorem dX9_command_141 : decode cX9_command 141 = .ok (.goto 93, 3) := by decide +kernel
theorem dX9_command_144 : decode cX9_command 144 = .ok (.iload_n 1, 1) := by decide +kernel
theorem dX9_command_145 : decode cX9_command 145 = .ok (.bipush 98, 2) := by decide +kernel
theorem dX9_command_147 : decode cX9_command 147 = .ok (.if_icmp .ne 9, 3) := by decide +kernel
theorem dX9_command_150 : decode cX9_command 150 = .ok (.aload_n 0, 1) := by decide +kernel
theorem dX9_command_151 : decode cX9_command 151 = .ok (.bipush 46, 2) := by decide +kernel
theorem dX9_command_153 : decode cX9_command 153 = .ok (.invokevirtual 244, 3) := by decide +kernel
theorem dX9_command_156 : decode cX9_command 156 = .ok (.aload_n 0, 1) := by decide +kernel
theorem dX9_command_157 : decode cX9_command 157 = .ok (.bipush 58, 2) := by decide +kernel
theorem dX9_command_159 : decode cX9_command 159 = .ok (.invokevirtual 247, 3) := by decide +kernel
theorem dX9_command_162 : decode cX9_command 162 = .ok (.iload_n 1, 1) := by decide +kernel
theorem dX9_command_163 : decode cX9_command 163 = .ok (.bipush 99, 2) := by decide +kernel
theorem dX9_command_165 : decode cX9_command 165 = .ok (.if_icmp .ne 9, 3) := by decide +kernel
theorem dX9_command_168 : decode cX9_command 168 = .ok (.aload_n 0, 1) := by decide +kernel
theorem dX9_command_169 : decode cX9_command 169 = .ok (.bipush 45, 2) := by decide +kernel
theorem dX9_command_171 : decode cX9_command 171 = .ok (.invokevirtual 247, 3) := by decide +kernel
theorem dX9_command_174 : decode cX9_command 174 = .ok (.iload_n 1, 1) := by decide +kernel
theorem dX9_command_175 : decode cX9_command 175 = .ok (.bipush 105, 2) := by decide +kernel
theorem dX9_command_177 : decode cX9_command 177 = .ok (.if_icmp .eq 9, 3) := by decide +kernel
theorem dX9_command_180 : decode cX9_command 180 = .ok (.iload_n 1, 1) := by decide +kernel
theorem dX9_command_181 : decode cX9_command 181 = .ok (.bipush 114, 2) := by decide +kernel
theorem dX9_command_183 : decode cX9_command 183 = .ok (.if_icmp .ne 9, 3) := by decide +kernel
theorem dX9_command_186 : decode cX9_command 186 = .ok (.aload_n 0, 1) := by decide +kernel
theorem dX9_command_187 : decode cX9_command 187 = .ok (.bipush 43, 2) := by decide +kernel
theorem dX9_command_189 : decode cX9_command 189 = .ok (.invokevirtual 247, 3) := by decide +kernel
theorem dX9_command_192 : decode cX9_command 192 = .ok (.iload_n 1, 1) := by decide +kernel
theorem dX9_command_193 : decode cX9_command 193 = .ok (.bipush 105, 2) := by decide +kernel
theorem dX9_command_195 : decode cX9_command 195 = .ok (.if_icmp .ne 9, 3) := by decide +kernel
theorem dX9_command_198 : decode cX9_command 198 = .ok (.aload_n 0, 1) := by decide +kernel
theorem dX9_command_199 : decode cX9_command 199 = .ok (.bipush 42, 2) := by decide +kernel
theorem dX9_command_201 : decode cX9_command 201 = .ok (.invokevirtual 244, 3) := by decide +kernel
theorem dX9_command_204 : decode cX9_command 204 = .ok (.iload_n 1, 1) := by decide +kernel
theorem dX9_command_205 : decode cX9_command 205 = .ok (.bipush 119, 2) := by decide +kernel
theorem dX9_command_207 : decode cX9_command 207 = .ok (.if_icmp .eq 9, 3) := by decide +kernel
theorem dX9_command_210 : decode cX9_command 210 = .ok (.iload_n 1, 1) := by decide +kernel
theorem dX9_command_211 : decode cX9_command 211 = .ok (.bipush 98, 2) := by decide +kernel
theorem dX9_command_213 : decode cX9_command 213 = .ok (.if_icmp .ne 9, 3) := by decide +kernel
theorem dX9_command_216 : decode cX9_command 216 = .ok (.aload_n 0, 1) := by decide +kernel
theorem dX9_command_217 : decode cX9_command 217 = .ok (.bipush 61, 2) := by decide +kernel
theorem dX9_command_219 : decode cX9_command 219 = .ok (.invokevirtual 244, 3) := by decide +kernel
theorem dX9_command_222 : decode cX9_command 222 = .ok (.iload_n 1, 1) := by decide +kernel
theorem dX9_command_223 : decode cX9_command 223 = .ok (.bipush 116, 2) := by decide +kernel
theorem dX9_command_225 : decode cX9_command 225 = .ok (.if_icmp .ne 9, 3) := by decide +kernel
theorem dX9_command_228 : decode cX9_command 228 = .ok (.aload_n 0, 1) := by decide +kernel
theorem dX9_command_229 : decode cX9_command 229 = .ok (.bipush 61, 2) := by decide +kernel
theorem dX9_command_231 : decode cX9_command 231 = .ok (.invokevirtual 247, 3) := by decide +kernel
theorem dX9_command_234 : decode cX9_command 234 = .ok (.aload_n 0, 1) := by decide +kernel
theorem dX9_command_235 : decode cX9_command 235 = .ok (.dup, 1) := by decide +kernel
theorem dX9_command_236 : decode cX9_command 236 = .ok (.getfield 82, 3) := by decide +kernel
theorem dX9_command_239 : decode cX9_command 239 = .ok (.iconst 1, 1) := by decide +kernel
theorem dX9_command_240 : decode cX9_command 240 = .ok (.iadd, 1) := by decide +kernel
theorem dX9_command_241 : decode cX9_command 241 = .ok (.putfield 82, 3) := by decide +kernel
theorem dX9_command_244 : decode cX9_command 244 = .ok (.return_, 1) := by decide +kernel
theorem dX9_isWrong_0 : decode cX9_isWrong 0 = .ok (.aload_n 0, 1) := by decide +kernel
theorem dX9_isWrong_1 : decode cX9_isWrong 1 = .ok (.iconst 0, 1) := by decide +kernel
theorem dX9_isWrong_2 : decode cX9_isWrong 2 = .ok (.putfield 79, 3) := by decide +kernel
theorem dX9_isWrong_5 : decode cX9_isWrong 5 = .ok (.aload_n 0, 1) := by decide +kernel
theorem dX9_isWrong_6 : decode cX9_isWrong 6 = .ok (.iconst 0, 1) := by decide +kernel
theorem dX9_isWrong_7 : decode cX9_isWrong 7 = .ok (.putfield 82, 3) := by decide +kernel
theorem dX9_isWrong_10 : decode cX9_isWrong 10 = .ok (.aload_n 0, 1) := by decide +kernel
theorem dX9_isWrong_11 : decode cX9_isWrong 11 = .ok (.iconst 0, 1) := by decide +kernel
theorem dX9_isWrong_12 : decode cX9_isWrong 12 = .ok (.putfield 94, 3) := by decide +kernel
theorem dX9_isWrong_15 : decode cX9_isWrong 15 = .ok (.aload_n 0, 1) := by decide +kernel
theorem dX9_isWrong_16 : decode cX9_isWrong 16 = .ok (.invokevirtual 250, 3) := by decide +kernel
theorem dX9_isWrong_19 : decode cX9_isWrong 19 = .ok (.aload_n 0, 1) := by decide +kernel
theorem dX9_isWrong_20 : decode cX9_isWrong 20 = .ok (.invokevirtual 225, 3) := by decide +kernel
theorem dX9_isWrong_23 : decode cX9_isWrong 23 = .ok (.bipush 59, 2) := by decide +kernel
theorem dX9_isWrong_25 : decode cX9_isWrong 25 = .ok (.if_icmp .ne 20, 3) := by decide +kernel
theorem dX9_isWrong_28 : decode cX9_isWrong 28 = .ok (.aload_n 0, 1) := by decide +kernel
theorem dX9_isWrong_29 : decode cX9_isWrong 29 = .ok (.dup, 1) := by decide +kernel
theorem dX9_isWrong_30 : decode cX9_isWrong 30 = .ok (.getfield 79, 3) := by decide +kernel
theorem dX9_isWrong_33 : decode cX9_isWrong 33 = .ok (.iconst 1, 1) := by decide +kernel
theorem dX9_isWrong_34 : decode cX9_isWrong 34 = .ok (.iadd, 1) := by decide +kernel
theorem dX9_isWrong_35 : decode cX9_isWrong 35 = .ok (.putfield 79, 3) := by decide +kernel
theorem dX9_isWrong_38 : decode cX9_isWrong 38 = .ok (.aload_n 0, 1) := by decide +kernel
theorem dX9_isWrong_39 : decode cX9_isWrong 39 = .ok (.invokevirtual 250, 3) := by decide +kernel
theorem dX9_isWrong_42 : decode cX9_isWrong 42 = .ok (.goto (-23), 3) := by decide +kernel
theorem dX9_isWrong_45 : decode cX9_isWrong 45 = .ok (.aload_n 0, 1) := by decide +kernel
theorem dX9_isWrong_46 : decode cX9_isWrong 46 = .ok (.dup, 1) := by decide +kernel
theorem dX9_isWrong_47 : decode cX9_isWrong 47 = .ok (.getfield 94, 3) := by decide +kernel
theorem dX9_isWrong_50 : decode cX9_isWrong 50 = .ok (.aload_n 0, 1) := by decide +kernel
theorem dX9_isWrong_51 : decode cX9_isWrong 51 = .ok (.getfield 79, 3) := by decide +kernel
theorem dX9_isWrong_54 : decode cX9_isWrong 54 = .ok (.aload_n 0, 1) := by decide +kernel
theorem dX9_isWrong_55 : decode cX9_isWrong 55 = .ok (.getfield 76, 3) := by decide +kernel
theorem dX9_isWrong_58 : decode cX9_isWrong 58 = .ok (.if_icmp .ge 7, 3) := by decide +kernel
theorem dX9_isWrong_61 : decode cX9_isWrong 61 = .ok (.iconst 1, 1) := by decide +kernel
theorem dX9_isWrong_62 : decode cX9_isWrong 62 = .ok (.goto 4, 3) := by decide +kernel
theorem dX9_isWrong_65 : decode cX9_isWrong 65 = .ok (.iconst 0, 1) := by decide +kernel
theorem dX9_isWrong_66 : decode cX9_isWrong 66 = .ok (.ior, 1) := by decide +kernel
theorem dX9_isWrong_67 : decode cX9_isWrong 67 = .ok (.putfield 94, 3) := by decide +kernel
theorem dX9_isWrong_70 : decode cX9_isWrong 70 = .ok (.aload_n 0, 1) := by decide +kernel
theorem dX9_isWrong_71 : decode cX9_isWrong 71 = .ok (.iconst 0, 1) := by decide +kernel
theorem dX9_isWrong_72 : decode cX9_isWrong 72 = .ok (.putfield 76, 3) := by decide +kernel
theorem dX9_isWrong_75 : decode cX9_isWrong 75 = .ok (.aload_n 0, 1) := by decide +kernel
theorem dX9_isWrong_76 : decode cX9_isWrong 76 = .ok (.aload_n 0, 1) := by decide +kernel
theorem dX9_isWrong_77 : decode cX9_isWrong 77 = .ok (.getfield 94, 3) := by decide +kernel
theorem dX9_isWrong_80 : decode cX9_isWrong 80 = .ok (.ifCond .eq 10, 3) := by decide +kernel
theorem dX9_isWrong_83 : decode cX9_isWrong 83 = .ok (.aload_n 0, 1) := by decide +kernel
theorem dX9_isWrong_84 : decode cX9_isWrong 84 = .ok (.getfield 79, 3) := by decide +kernel
theorem dX9_isWrong_87 : decode cX9_isWrong 87 = .ok (.goto 5, 3) := by decide +kernel
theorem dX9_isWrong_90 : decode cX9_isWrong 90 = .ok (.bipush (-7), 2) := by decide +kernel
theorem dX9_isWrong_92 : decode cX9_isWrong 92 = .ok (.putfield 88, 3) := by decide +kernel
theorem dX9_isWrong_95 : decode cX9_isWrong 95 = .ok (.aload_n 0, 1) := by decide +kernel
theorem dX9_isWrong_96 : decode cX9_isWrong 96 = .ok (.getfield 94, 3) := by decide +kernel
theorem dX9_isWrong_99 : decode cX9_isWrong 99 = .ok (.ireturn, 1) := by decide +kernel
theorem dX9_does_0 : decode cX9_does 0 = .ok (.aload_n 0, 1) := by decide +kernel
theorem dX9_does_1 : decode cX9_does 1 = .ok (.getfield 73, 3) := by decide +kernel
theorem dX9_does_4 : decode cX9_does 4 = .ok (.iconst 5, 1) := by decide +kernel
theorem dX9_does_5 : decode cX9_does 5 = .ok (.iload_n 1, 1) := by decide +kernel
theorem dX9_does_6 : decode cX9_does 6 = .ok (.imul, 1) := by decide +kernel
theorem dX9_does_7 : decode cX9_does 7 = .ok (.iaload, 1) := by decide +kernel
theorem dX9_does_8 : decode cX9_does 8 = .ok (.istore_n 2, 1) := by decide +kernel
theorem dX9_does_9 : decode cX9_does 9 = .ok (.aload_n 0, 1) := by decide +kernel
theorem dX9_does_10 : decode cX9_does 10 = .ok (.getfield 73, 3) := by decide +kernel
theorem dX9_does_13 : decode cX9_does 13 = .ok (.iconst 5, 1) := by decide +kernel
theorem dX9_does_14 : decode cX9_does 14 = .ok (.iload_n 1, 1) := by decide +kernel
theorem dX9_does_15 : decode cX9_does 15 = .ok (.imul, 1) := by decide +kernel
theorem dX9_does_16 : decode cX9_does 16 = .ok (.iconst 1, 1) := by decide +kernel
theorem dX9_does_17 : decode cX9_does 17 = .ok (.iadd, 1) := by decide +kernel
theorem dX9_does_18 : decode cX9_does 18 = .ok (.iaload, 1) := by decide +kernel
theorem dX9_does_19 : decode cX9_does 19 = .ok (.istore_n 3, 1) := by decide +kernel
theorem dX9_does_20 : decode cX9_does 20 = .ok (.aload_n 0, 1) := by decide +kernel
theorem dX9_does_21 : decode cX9_does 21 = .ok (.getfield 73, 3) := by decide +kernel
theorem dX9_does_24 : decode cX9_does 24 = .ok (.iconst 5, 1) := by decide +kernel
theorem dX9_does_25 : decode cX9_does 25 = .ok (.iload_n 1, 1) := by decide +kernel
theorem dX9_does_26 : decode cX9_does 26 = .ok (.imul, 1) := by decide +kernel
theorem dX9_does_27 : decode cX9_does 27 = .ok (.iconst 2, 1) := by decide +kernel
theorem dX9_does_28 : decode cX9_does 28 = .ok (.iadd, 1) := by decide +kernel
theorem dX9_does_29 : decode cX9_does 29 = .ok (.iaload, 1) := by decide +kernel
theorem dX9_does_30 : decode cX9_does 30 = .ok (.istore 4, 2) := by decide +kernel
theorem dX9_does_32 : decode cX9_does 32 = .ok (.aload_n 0, 1) := by decide +kernel
theorem dX9_does_33 : decode cX9_does 33 = .ok (.getfield 73, 3) := by decide +kernel
theorem dX9_does_36 : decode cX9_does 36 = .ok (.iconst 5, 1) := by decide +kernel
theorem dX9_does_37 : decode cX9_does 37 = .ok (.iload_n 1, 1) := by decide +kernel
theorem dX9_does_38 : decode cX9_does 38 = .ok (.imul, 1) := by decide +kernel
theorem dX9_does_39 : decode cX9_does 39 = .ok (.iconst 3, 1) := by decide +kernel
theorem dX9_does_40 : decode cX9_does 40 = .ok (.iadd, 1) := by decide +kernel
theorem dX9_does_41 : decode cX9_does 41 = .ok (.iaload, 1) := by decide +kernel
theorem dX9_does_42 : decode cX9_does 42 = .ok (.istore 5, 2) := by decide +kernel
theorem dX9_does_44 : decode cX9_does 44 = .ok (.aload_n 0, 1) := by decide +kernel
theorem dX9_does_45 : decode cX9_does 45 = .ok (.getfield 70, 3) := by decide +kernel
theorem dX9_does_48 : decode cX9_does 48 = .ok (.iload_n 1, 1) := by decide +kernel
theorem dX9_does_49 : decode cX9_does 49 = .ok (.iaload, 1) := by decide +kernel
theorem dX9_does_50 : decode cX9_does 50 = .ok (.lookupswitch 128 #[(98, 96), (99, 58), (105, 67), (108, 107), (116, 87), (119, 78)], 58) := by decide +kernel
theorem dX9_does_108 : decode cX9_does 108 = .ok (.aload_n 0, 1) := by decide +kernel
theorem dX9_does_109 : decode cX9_does 109 = .ok (.iload_n 2, 1) := by decide +kernel
theorem dX9_does_110 : decode cX9_does 110 = .ok (.iload_n 3, 1) := by decide +kernel
theorem dX9_does_111 : decode cX9_does 111 = .ok (.iload 4, 2) := by decide +kernel
theorem dX9_does_113 : decode cX9_does 113 = .ok (.invokevirtual 253, 3) := by decide +kernel
theorem dX9_does_116 : decode cX9_does 116 = .ok (.ireturn, 1) := by decide +kernel
theorem dX9_does_117 : decode cX9_does 117 = .ok (.aload_n 0, 1) := by decide +kernel
theorem dX9_does_118 : decode cX9_does 118 = .ok (.iload_n 2, 1) := by decide +kernel
theorem dX9_does_119 : decode cX9_does 119 = .ok (.iload_n 3, 1) := by decide +kernel
theorem dX9_does_120 : decode cX9_does 120 = .ok (.iload 4, 2) := by decide +kernel
theorem dX9_does_122 : decode cX9_does 122 = .ok (.iload 5, 2) := by decide +kernel
theorem dX9_does_124 : decode cX9_does 124 = .ok (.invokevirtual 256, 3) := by decide +kernel
theorem dX9_does_127 : decode cX9_does 127 = .ok (.ireturn, 1) := by decide +kernel
theorem dX9_does_128 : decode cX9_does 128 = .ok (.aload_n 0, 1) := by decide +kernel
theorem dX9_does_129 : decode cX9_does 129 = .ok (.iload_n 2, 1) := by decide +kernel
theorem dX9_does_130 : decode cX9_does 130 = .ok (.iload_n 3, 1) := by decide +kernel
theorem dX9_does_131 : decode cX9_does 131 = .ok (.iload 4, 2) := by decide +kernel
theorem dX9_does_133 : decode cX9_does 133 = .ok (.invokevirtual 260, 3) := by decide +kernel
theorem dX9_does_136 : decode cX9_does 136 = .ok (.ireturn, 1) := by decide +kernel
theorem dX9_does_137 : decode cX9_does 137 = .ok (.aload_n 0, 1) := by decide +kernel
theorem dX9_does_138 : decode cX9_does 138 = .ok (.iload_n 2, 1) := by decide +kernel
theorem dX9_does_139 : decode cX9_does 139 = .ok (.iload_n 3, 1) := by decide +kernel
theorem dX9_does_140 : decode cX9_does 140 = .ok (.iload 4, 2) := by decide +kernel
theorem dX9_does_142 : decode cX9_does 142 = .ok (.invokevirtual 263, 3) := by decide +kernel
theorem dX9_does_145 : decode cX9_does 145 = .ok (.ireturn, 1) := by decide +kernel
theorem dX9_does_146 : decode cX9_does 146 = .ok (.aload_n 0, 1) := by decide +kernel
theorem dX9_does_147 : decode cX9_does 147 = .ok (.iload_n 2, 1) := by decide +kernel
theorem dX9_does_148 : decode cX9_does 148 = .ok (.iload_n 3, 1) := by decide +kernel
theorem dX9_does_149 : decode cX9_does 149 = .ok (.iload 4, 2) := by decide +kernel
theorem dX9_does_151 : decode cX9_does 151 = .ok (.iload 5, 2) := by decide +kernel
theorem dX9_does_153 : decode cX9_does 153 = .ok (.invokevirtual 266, 3) := by decide +kernel
theorem dX9_does_156 : decode cX9_does 156 = .ok (.ireturn, 1) := by decide +kernel
theorem dX9_does_157 : decode cX9_does 157 = .ok (.aload_n 0, 1) := by decide +kernel
theorem dX9_does_158 : decode cX9_does 158 = .ok (.iload_n 2, 1) := by decide +kernel
theorem dX9_does_159 : decode cX9_does 159 = .ok (.iload_n 3, 1) := by decide +kernel
theorem dX9_does_160 : decode cX9_does 160 = .ok (.iload 4, 2) := by decide +kernel
theorem dX9_does_162 : decode cX9_does 162 = .ok (.iload 5, 2) := by decide +kernel
theorem dX9_does_164 : decode cX9_does 164 = .ok (.aload_n 0, 1) := by decide +kernel
theorem dX9_does_165 : decode cX9_does 165 = .ok (.getfield 73, 3) := by decide +kernel
theorem dX9_does_168 : decode cX9_does 168 = .ok (.iconst 5, 1) := by decide +kernel
theorem dX9_does_169 : decode cX9_does 169 = .ok (.iload_n 1, 1) := by decide +kernel
theorem dX9_does_170 : decode cX9_does 170 = .ok (.imul, 1) := by decide +kernel
theorem dX9_does_171 : decode cX9_does 171 = .ok (.iconst 4, 1) := by decide +kernel
theorem dX9_does_172 : decode cX9_does 172 = .ok (.iadd, 1) := by decide +kernel
theorem dX9_does_173 : decode cX9_does 173 = .ok (.iaload, 1) := by decide +kernel
theorem dX9_does_174 : decode cX9_does 174 = .ok (.invokevirtual 269, 3) := by decide +kernel
theorem dX9_does_177 : decode cX9_does 177 = .ok (.ireturn, 1) := by decide +kernel
theorem dX9_does_178 : decode cX9_does 178 = .ok (.aload_n 0, 1) := by decide +kernel
theorem dX9_does_179 : decode cX9_does 179 = .ok (.iload_n 2, 1) := by decide +kernel
theorem dX9_does_180 : decode cX9_does 180 = .ok (.iload_n 3, 1) := by decide +kernel
theorem dX9_does_181 : decode cX9_does 181 = .ok (.iload 4, 2) := by decide +kernel
theorem dX9_does_183 : decode cX9_does 183 = .ok (.invokevirtual 272, 3) := by decide +kernel
theorem dX9_does_186 : decode cX9_does 186 = .ok (.ireturn, 1) := by decide +kernel
theorem dX9_read_0 : decode cX9_read 0 = .ok (.aload_n 0, 1) := by decide +kernel
theorem dX9_read_1 : decode cX9_read 1 = .ok (.invokevirtual 275, 3) := by decide +kernel
theorem dX9_read_4 : decode cX9_read 4 = .ok (.ifCond .eq 6, 3) := by decide +kernel
theorem dX9_read_7 : decode cX9_read 7 = .ok (.bipush (-2), 2) := by decide +kernel
theorem dX9_read_9 : decode cX9_read 9 = .ok (.ireturn, 1) := by decide +kernel
theorem dX9_read_10 : decode cX9_read 10 = .ok (.aload_n 0, 1) := by decide +kernel
theorem dX9_read_11 : decode cX9_read 11 = .ok (.getfield 9, 3) := by decide +kernel
theorem dX9_read_14 : decode cX9_read 14 = .ok (.iconst 0, 1) := by decide +kernel
theorem dX9_read_15 : decode cX9_read 15 = .ok (.aload_n 0, 1) := by decide +kernel
theorem dX9_read_16 : decode cX9_read 16 = .ok (.getfield 16, 3) := by decide +kernel
theorem dX9_read_19 : decode cX9_read 19 = .ok (.iconst 0, 1) := by decide +kernel
theorem dX9_read_20 : decode cX9_read 20 = .ok (.invokestatic 97, 3) := by decide +kernel
theorem dX9_read_23 : decode cX9_read 23 = .ok (.aload_n 0, 1) := by decide +kernel
theorem dX9_read_24 : decode cX9_read 24 = .ok (.iconst 1, 1) := by decide +kernel
theorem dX9_read_25 : decode cX9_read 25 = .ok (.putfield 34, 3) := by decide +kernel
theorem dX9_read_28 : decode cX9_read 28 = .ok (.iconst 0, 1) := by decide +kernel
theorem dX9_read_29 : decode cX9_read 29 = .ok (.istore_n 1, 1) := by decide +kernel
theorem dX9_read_30 : decode cX9_read 30 = .ok (.iload_n 1, 1) := by decide +kernel
theorem dX9_read_31 : decode cX9_read 31 = .ok (.aload_n 0, 1) := by decide +kernel
theorem dX9_read_32 : decode cX9_read 32 = .ok (.getfield 82, 3) := by decide +kernel
theorem dX9_read_35 : decode cX9_read 35 = .ok (.if_icmp .ge 54, 3) := by decide +kernel
theorem dX9_read_38 : decode cX9_read 38 = .ok (.aload_n 0, 1) := by decide +kernel
theorem dX9_read_39 : decode cX9_read 39 = .ok (.iload_n 1, 1) := by decide +kernel
theorem dX9_read_40 : decode cX9_read 40 = .ok (.invokevirtual 279, 3) := by decide +kernel
theorem dX9_read_43 : decode cX9_read 43 = .ok (.istore_n 2, 1) := by decide +kernel
theorem dX9_read_44 : decode cX9_read 44 = .ok (.iload_n 2, 1) := by decide +kernel
theorem dX9_read_45 : decode cX9_read 45 = .ok (.ifCond .ge 38, 3) := by decide +kernel
theorem dX9_read_48 : decode cX9_read 48 = .ok (.iload_n 2, 1) := by decide +kernel
theorem dX9_read_49 : decode cX9_read 49 = .ok (.bipush (-7), 2) := by decide +kernel
theorem dX9_read_51 : decode cX9_read 51 = .ok (.if_icmp .ne 6, 3) := by decide +kernel
theorem dX9_read_54 : decode cX9_read 54 = .ok (.goto 29, 3) := by decide +kernel
theorem dX9_read_57 : decode cX9_read 57 = .ok (.aload_n 0, 1) := by decide +kernel
theorem dX9_read_58 : decode cX9_read 58 = .ok (.iconst 0, 1) := by decide +kernel
theorem dX9_read_59 : decode cX9_read 59 = .ok (.putfield 34, 3) := by decide +kernel
theorem dX9_read_62 : decode cX9_read 62 = .ok (.aload_n 0, 1) := by decide +kernel
theorem dX9_read_63 : decode cX9_read 63 = .ok (.getfield 16, 3) := by decide +kernel
theorem dX9_read_66 : decode cX9_read 66 = .ok (.iconst 0, 1) := by decide +kernel
theorem dX9_read_67 : decode cX9_read 67 = .ok (.aload_n 0, 1) := by decide +kernel
theorem dX9_read_68 : decode cX9_read 68 = .ok (.getfield 9, 3) := by decide +kernel
theorem dX9_read_71 : decode cX9_read 71 = .ok (.iconst 0, 1) := by decide +kernel
theorem dX9_read_72 : decode cX9_read 72 = .ok (.invokestatic 97, 3) := by decide +kernel
theorem dX9_read_75 : decode cX9_read 75 = .ok (.aload_n 0, 1) := by decide +kernel
theorem dX9_read_76 : decode cX9_read 76 = .ok (.iload_n 1, 1) := by decide +kernel
theorem dX9_read_77 : decode cX9_read 77 = .ok (.putfield 91, 3) := by decide +kernel
theorem dX9_read_80 : decode cX9_read 80 = .ok (.bipush (-3), 2) := by decide +kernel
theorem dX9_read_82 : decode cX9_read 82 = .ok (.ireturn, 1) := by decide +kernel
theorem dX9_read_83 : decode cX9_read 83 = .ok (.iinc 1 1, 3) := by decide +kernel
theorem dX9_read_86 : decode cX9_read 86 = .ok (.goto (-56), 3) := by decide +kernel
theorem dX9_read_89 : decode cX9_read 89 = .ok (.aload_n 0, 1) := by decide +kernel
theorem dX9_read_90 : decode cX9_read 90 = .ok (.iconst 0, 1) := by decide +kernel
theorem dX9_read_91 : decode cX9_read 91 = .ok (.putfield 34, 3) := by decide +kernel
theorem dX9_read_94 : decode cX9_read 94 = .ok (.aload_n 0, 1) := by decide +kernel
theorem dX9_read_95 : decode cX9_read 95 = .ok (.aload_n 0, 1) := by decide +kernel
theorem dX9_read_96 : decode cX9_read 96 = .ok (.aload_n 0, 1) := by decide +kernel
theorem dX9_read_97 : decode cX9_read 97 = .ok (.getfield 16, 3) := by decide +kernel
theorem dX9_read_100 : decode cX9_read 100 = .ok (.invokevirtual 101, 3) := by decide +kernel
theorem dX9_read_103 : decode cX9_read 103 = .ok (.putfield 23, 3) := by decide +kernel
theorem dX9_read_106 : decode cX9_read 106 = .ok (.aload_n 0, 1) := by decide +kernel
theorem dX9_read_107 : decode cX9_read 107 = .ok (.getfield 82, 3) := by decide +kernel
theorem dX9_read_110 : decode cX9_read 110 = .ok (.ireturn, 1) := by decide +kernel
theorem dX9_faultPosition_0 : decode cX9_faultPosition 0 = .ok (.aload_n 0, 1) := by decide +kernel
theorem dX9_faultPosition_1 : decode cX9_faultPosition 1 = .ok (.getfield 88, 3) := by decide +kernel
theorem dX9_faultPosition_4 : decode cX9_faultPosition 4 = .ok (.ireturn, 1) := by decide +kernel
theorem dX9_failed_0 : decode cX9_failed 0 = .ok (.aload_n 0, 1) := by decide +kernel
theorem dX9_failed_1 : decode cX9_failed 1 = .ok (.getfield 91, 3) := by decide +kernel
theorem dX9_failed_4 : decode cX9_failed 4 = .ok (.ireturn, 1) := by decide +kernel
theorem dX9_refusal_0 : decode cX9_refusal 0 = .ok (.aload_n 0, 1) := by decide +kernel
theorem dX9_refusal_1 : decode cX9_refusal 1 = .ok (.getfield 27, 3) := by decide +kernel
theorem dX9_refusal_4 : decode cX9_refusal 4 = .ok (.ireturn, 1) := by decide +kernel
theorem dX9_copiesOf_0 : decode cX9_copiesOf 0 = .ok (.iconst 0, 1) := by decide +kernel
theorem dX9_copiesOf_1 : decode cX9_copiesOf 1 = .ok (.istore_n 2, 1) := by decide +kernel
theorem dX9_copiesOf_2 : decode cX9_copiesOf 2 = .ok (.iconst 0, 1) := by decide +kernel
theorem dX9_copiesOf_3 : decode cX9_copiesOf 3 = .ok (.istore_n 3, 1) := by decide +kernel
theorem dX9_copiesOf_4 : decode cX9_copiesOf 4 = .ok (.iload_n 3, 1) := by decide +kernel
theorem dX9_copiesOf_5 : decode cX9_copiesOf 5 = .ok (.aload_n 0, 1) := by decide +kernel
theorem dX9_copiesOf_6 : decode cX9_copiesOf 6 = .ok (.getfield 9, 3) := by decide +kernel
theorem dX9_copiesOf_9 : decode cX9_copiesOf 9 = .ok (.iconst 0, 1) := by decide +kernel
theorem dX9_copiesOf_10 : decode cX9_copiesOf 10 = .ok (.iaload, 1) := by decide +kernel
theorem dX9_copiesOf_11 : decode cX9_copiesOf 11 = .ok (.if_icmp .ge 36, 3) := by decide +kernel
theorem dX9_copiesOf_14 : decode cX9_copiesOf 14 = .ok (.iconst 0, 1) := by decide +kernel
theorem dX9_copiesOf_15 : decode cX9_copiesOf 15 = .ok (.istore 4, 2) := by decide +kernel
theorem dX9_copiesOf_17 : decode cX9_copiesOf 17 = .ok (.iload 4, 2) := by decide +kernel
theorem dX9_copiesOf_19 : decode cX9_copiesOf 19 = .ok (.bipush 6, 2) := by decide +kernel
theorem dX9_copiesOf_21 : decode cX9_copiesOf 21 = .ok (.if_icmp .ge 20, 3) := by decide +kernel
theorem dX9_copiesOf_24 : decode cX9_copiesOf 24 = .ok (.iload_n 2, 1) := by decide +kernel
theorem dX9_copiesOf_25 : decode cX9_copiesOf 25 = .ok (.aload_n 0, 1) := by decide +kernel
theorem dX9_copiesOf_26 : decode cX9_copiesOf 26 = .ok (.iload_n 3, 1) := by decide +kernel
theorem dX9_copiesOf_27 : decode cX9_copiesOf 27 = .ok (.iload 4, 2) := by decide +kernel
theorem dX9_copiesOf_29 : decode cX9_copiesOf 29 = .ok (.iload_n 1, 1) := by decide +kernel
theorem dX9_copiesOf_30 : decode cX9_copiesOf 30 = .ok (.invokevirtual 282, 3) := by decide +kernel
theorem dX9_copiesOf_33 : decode cX9_copiesOf 33 = .ok (.iadd, 1) := by decide +kernel
theorem dX9_copiesOf_34 : decode cX9_copiesOf 34 = .ok (.istore_n 2, 1) := by decide +kernel
theorem dX9_copiesOf_35 : decode cX9_copiesOf 35 = .ok (.iinc 4 1, 3) := by decide +kernel
theorem dX9_copiesOf_38 : decode cX9_copiesOf 38 = .ok (.goto (-21), 3) := by decide +kernel
theorem dX9_copiesOf_41 : decode cX9_copiesOf 41 = .ok (.iinc 3 1, 3) := by decide +kernel
theorem dX9_copiesOf_44 : decode cX9_copiesOf 44 = .ok (.goto (-40), 3) := by decide +kernel
theorem dX9_copiesOf_47 : decode cX9_copiesOf 47 = .ok (.iload_n 2, 1) := by decide +kernel
theorem dX9_copiesOf_48 : decode cX9_copiesOf 48 = .ok (.ireturn, 1) := by decide +kernel
theorem dX9_loans_0 : decode cX9_loans 0 = .ok (.iconst 0, 1) := by decide +kernel
theorem dX9_loans_1 : decode cX9_loans 1 = .ok (.istore_n 2, 1) := by decide +kernel
theorem dX9_loans_2 : decode cX9_loans 2 = .ok (.iconst 0, 1) := by decide +kernel
theorem dX9_loans_3 : decode cX9_loans 3 = .ok (.istore_n 3, 1) := by decide +kernel
theorem dX9_loans_4 : decode cX9_loans 4 = .ok (.iload_n 3, 1) := by decide +kernel
theorem dX9_loans_5 : decode cX9_loans 5 = .ok (.aload_n 0, 1) := by decide +kernel
theorem dX9_loans_6 : decode cX9_loans 6 = .ok (.getfield 9, 3) := by decide +kernel
theorem dX9_loans_9 : decode cX9_loans 9 = .ok (.iconst 1, 1) := by decide +kernel
theorem dX9_loans_10 : decode cX9_loans 10 = .ok (.iaload, 1) := by decide +kernel
theorem dX9_loans_11 : decode cX9_loans 11 = .ok (.if_icmp .ge 48, 3) := by decide +kernel
theorem dX9_loans_14 : decode cX9_loans 14 = .ok (.iload_n 2, 1) := by decide +kernel
theorem dX9_loans_15 : decode cX9_loans 15 = .ok (.iload_n 1, 1) := by decide +kernel
theorem dX9_loans_16 : decode cX9_loans 16 = .ok (.ifCond .eq 17, 3) := by decide +kernel
theorem dX9_loans_19 : decode cX9_loans 19 = .ok (.aload_n 0, 1) := by decide +kernel
theorem dX9_loans_20 : decode cX9_loans 20 = .ok (.getfield 9, 3) := by decide +kernel
theorem dX9_loans_23 : decode cX9_loans 23 = .ok (.iload_n 3, 1) := by decide +kernel
theorem dX9_loans_24 : decode cX9_loans 24 = .ok (.bipush 6, 2) := by decide +kernel
theorem dX9_loans_26 : decode cX9_loans 26 = .ok (.invokestatic 192, 3) := by decide +kernel
theorem dX9_loans_29 : decode cX9_loans 29 = .ok (.iaload, 1) := by decide +kernel
theorem dX9_loans_30 : decode cX9_loans 30 = .ok (.goto 21, 3) := by decide +kernel
theorem dX9_loans_33 : decode cX9_loans 33 = .ok (.aload_n 0, 1) := by decide +kernel
theorem dX9_loans_34 : decode cX9_loans 34 = .ok (.getfield 9, 3) := by decide +kernel
theorem dX9_loans_37 : decode cX9_loans 37 = .ok (.iload_n 3, 1) := by decide +kernel
theorem dX9_loans_38 : decode cX9_loans 38 = .ok (.iconst 4, 1) := by decide +kernel
theorem dX9_loans_39 : decode cX9_loans 39 = .ok (.invokestatic 192, 3) := by decide +kernel
theorem dX9_loans_42 : decode cX9_loans 42 = .ok (.iaload, 1) := by decide +kernel
theorem dX9_loans_43 : decode cX9_loans 43 = .ok (.ifCond .le 7, 3) := by decide +kernel
theorem dX9_loans_46 : decode cX9_loans 46 = .ok (.iconst 1, 1) := by decide +kernel
theorem dX9_loans_47 : decode cX9_loans 47 = .ok (.goto 4, 3) := by decide +kernel
theorem dX9_loans_50 : decode cX9_loans 50 = .ok (.iconst 0, 1) := by decide +kernel
theorem dX9_loans_51 : decode cX9_loans 51 = .ok (.iadd, 1) := by decide +kernel
theorem dX9_loans_52 : decode cX9_loans 52 = .ok (.istore_n 2, 1) := by decide +kernel
theorem dX9_loans_53 : decode cX9_loans 53 = .ok (.iinc 3 1, 3) := by decide +kernel
theorem dX9_loans_56 : decode cX9_loans 56 = .ok (.goto (-52), 3) := by decide +kernel
theorem dX9_loans_59 : decode cX9_loans 59 = .ok (.iload_n 2, 1) := by decide +kernel
theorem dX9_loans_60 : decode cX9_loans 60 = .ok (.ireturn, 1) := by decide +kernel
theorem dX9_count_0 : decode cX9_count 0 = .ok (.iload_n 1, 1) := by decide +kernel
theorem dX9_count_1 : decode cX9_count 1 = .ok (.tableswitch 110 0 10 #[59, 66, 73, 79, 79, 79, 79, 87, 93, 100, 105], 59) := by decide +kernel
theorem dX9_count_60 : decode cX9_count 60 = .ok (.aload_n 0, 1) := by decide +kernel
theorem dX9_count_61 : decode cX9_count 61 = .ok (.getfield 9, 3) := by decide +kernel
theorem dX9_count_64 : decode cX9_count 64 = .ok (.iconst 0, 1) := by decide +kernel
theorem dX9_count_65 : decode cX9_count 65 = .ok (.iaload, 1) := by decide +kernel
theorem dX9_count_66 : decode cX9_count 66 = .ok (.ireturn, 1) := by decide +kernel
theorem dX9_count_67 : decode cX9_count 67 = .ok (.aload_n 0, 1) := by decide +kernel
theorem dX9_count_68 : decode cX9_count 68 = .ok (.getfield 9, 3) := by decide +kernel
theorem dX9_count_71 : decode cX9_count 71 = .ok (.iconst 1, 1) := by decide +kernel
theorem dX9_count_72 : decode cX9_count 72 = .ok (.iaload, 1) := by decide +kernel
theorem dX9_count_73 : decode cX9_count 73 = .ok (.ireturn, 1) := by decide +kernel
theorem dX9_count_74 : decode cX9_count 74 = .ok (.aload_n 0, 1) := by decide +kernel
theorem dX9_count_75 : decode cX9_count 75 = .ok (.iconst 0, 1) := by decide +kernel
theorem dX9_count_76 : decode cX9_count 76 = .ok (.invokevirtual 285, 3) := by decide +kernel
theorem dX9_count_79 : decode cX9_count 79 = .ok (.ireturn, 1) := by decide +kernel
theorem dX9_count_80 : decode cX9_count 80 = .ok (.aload_n 0, 1) := by decide +kernel
theorem dX9_count_81 : decode cX9_count 81 = .ok (.iload_n 1, 1) := by decide +kernel
theorem dX9_count_82 : decode cX9_count 82 = .ok (.iconst 3, 1) := by decide +kernel
theorem dX9_count_83 : decode cX9_count 83 = .ok (.isub, 1) := by decide +kernel
theorem dX9_count_84 : decode cX9_count 84 = .ok (.invokevirtual 289, 3) := by decide +kernel
theorem dX9_count_87 : decode cX9_count 87 = .ok (.ireturn, 1) := by decide +kernel
theorem dX9_count_88 : decode cX9_count 88 = .ok (.aload_n 0, 1) := by decide +kernel
theorem dX9_count_89 : decode cX9_count 89 = .ok (.iconst 1, 1) := by decide +kernel
theorem dX9_count_90 : decode cX9_count 90 = .ok (.invokevirtual 285, 3) := by decide +kernel
theorem dX9_count_93 : decode cX9_count 93 = .ok (.ireturn, 1) := by decide +kernel
theorem dX9_count_94 : decode cX9_count 94 = .ok (.aload_n 0, 1) := by decide +kernel
theorem dX9_count_95 : decode cX9_count 95 = .ok (.getfield 9, 3) := by decide +kernel
theorem dX9_count_98 : decode cX9_count 98 = .ok (.iconst 2, 1) := by decide +kernel
theorem dX9_count_99 : decode cX9_count 99 = .ok (.iaload, 1) := by decide +kernel
theorem dX9_count_100 : decode cX9_count 100 = .ok (.ireturn, 1) := by decide +kernel
theorem dX9_count_101 : decode cX9_count 101 = .ok (.aload_n 0, 1) := by decide +kernel
theorem dX9_count_102 : decode cX9_count 102 = .ok (.getfield 23, 3) := by decide +kernel
theorem dX9_count_105 : decode cX9_count 105 = .ok (.ireturn, 1) := by decide +kernel
theorem dX9_count_106 : decode cX9_count 106 = .ok (.aload_n 0, 1) := by decide +kernel
theorem dX9_count_107 : decode cX9_count 107 = .ok (.getfield 76, 3) := by decide +kernel
theorem dX9_count_110 : decode cX9_count 110 = .ok (.ireturn, 1) := by decide +kernel
theorem dX9_count_111 : decode cX9_count 111 = .ok (.iconst (-1), 1) := by decide +kernel
theorem dX9_count_112 : decode cX9_count 112 = .ok (.ireturn, 1) := by decide +kernel
theorem dX9_undo_0 : decode cX9_undo 0 = .ok (.aload_n 0, 1) := by decide +kernel
theorem dX9_undo_1 : decode cX9_undo 1 = .ok (.getfield 23, 3) := by decide +kernel
theorem dX9_undo_4 : decode cX9_undo 4 = .ok (.ifCond .ne 6, 3) := by decide +kernel
theorem dX9_undo_7 : decode cX9_undo 7 = .ok (.bipush (-3), 2) := by decide +kernel
theorem dX9_undo_9 : decode cX9_undo 9 = .ok (.ireturn, 1) := by decide +kernel
theorem dX9_undo_10 : decode cX9_undo 10 = .ok (.aload_n 0, 1) := by decide +kernel
theorem dX9_undo_11 : decode cX9_undo 11 = .ok (.dup, 1) := by decide +kernel
theorem dX9_undo_12 : decode cX9_undo 12 = .ok (.getfield 23, 3) := by decide +kernel
theorem dX9_undo_15 : decode cX9_undo 15 = .ok (.iconst 1, 1) := by decide +kernel
theorem dX9_undo_16 : decode cX9_undo 16 = .ok (.isub, 1) := by decide +kernel
theorem dX9_undo_17 : decode cX9_undo 17 = .ok (.putfield 23, 3) := by decide +kernel
theorem dX9_undo_20 : decode cX9_undo 20 = .ok (.aload_n 0, 1) := by decide +kernel
theorem dX9_undo_21 : decode cX9_undo 21 = .ok (.getfield 20, 3) := by decide +kernel
theorem dX9_undo_24 : decode cX9_undo 24 = .ok (.sipush 5055, 3) := by decide +kernel
theorem dX9_undo_27 : decode cX9_undo 27 = .ok (.aload_n 0, 1) := by decide +kernel
theorem dX9_undo_28 : decode cX9_undo 28 = .ok (.getfield 23, 3) := by decide +kernel
theorem dX9_undo_31 : decode cX9_undo 31 = .ok (.imul, 1) := by decide +kernel
theorem dX9_undo_32 : decode cX9_undo 32 = .ok (.aload_n 0, 1) := by decide +kernel
theorem dX9_undo_33 : decode cX9_undo 33 = .ok (.getfield 9, 3) := by decide +kernel
theorem dX9_undo_36 : decode cX9_undo 36 = .ok (.iconst 0, 1) := by decide +kernel
theorem dX9_undo_37 : decode cX9_undo 37 = .ok (.invokestatic 97, 3) := by decide +kernel
theorem dX9_undo_40 : decode cX9_undo 40 = .ok (.aload_n 0, 1) := by decide +kernel
theorem dX9_undo_41 : decode cX9_undo 41 = .ok (.getfield 23, 3) := by decide +kernel
theorem dX9_undo_44 : decode cX9_undo 44 = .ok (.ireturn, 1) := by decide +kernel
theorem dX9_save_0 : decode cX9_save 0 = .ok (.aload_n 0, 1) := by decide +kernel
theorem dX9_save_1 : decode cX9_save 1 = .ok (.getfield 9, 3) := by decide +kernel
theorem dX9_save_4 : decode cX9_save 4 = .ok (.iconst 0, 1) := by decide +kernel
theorem dX9_save_5 : decode cX9_save 5 = .ok (.aload_n 0, 1) := by decide +kernel
theorem dX9_save_6 : decode cX9_save 6 = .ok (.getfield 13, 3) := by decide +kernel
theorem dX9_save_9 : decode cX9_save 9 = .ok (.iconst 0, 1) := by decide +kernel
theorem dX9_save_10 : decode cX9_save 10 = .ok (.invokestatic 97, 3) := by decide +kernel
theorem dX9_save_13 : decode cX9_save 13 = .ok (.aload_n 0, 1) := by decide +kernel
theorem dX9_save_14 : decode cX9_save 14 = .ok (.iconst 1, 1) := by decide +kernel
theorem dX9_save_15 : decode cX9_save 15 = .ok (.putfield 30, 3) := by decide +kernel
theorem dX9_save_18 : decode cX9_save 18 = .ok (.aload_n 0, 1) := by decide +kernel
theorem dX9_save_19 : decode cX9_save 19 = .ok (.getfield 9, 3) := by decide +kernel
theorem dX9_save_22 : decode cX9_save 22 = .ok (.iconst 0, 1) := by decide +kernel
theorem dX9_save_23 : decode cX9_save 23 = .ok (.iaload, 1) := by decide +kernel
theorem dX9_save_24 : decode cX9_save 24 = .ok (.ireturn, 1) := by decide +kernel
theorem dX9_restore_0 : decode cX9_restore 0 = .ok (.aload_n 0, 1) := by decide +kernel
theorem dX9_restore_1 : decode cX9_restore 1 = .ok (.getfield 30, 3) := by decide +kernel
theorem dX9_restore_4 : decode cX9_restore 4 = .ok (.ifCond .ne 6, 3) := by decide +kernel
theorem dX9_restore_7 : decode cX9_restore 7 = .ok (.bipush (-3), 2) := by decide +kernel
theorem dX9_restore_9 : decode cX9_restore 9 = .ok (.ireturn, 1) := by decide +kernel
theorem dX9_restore_10 : decode cX9_restore 10 = .ok (.aload_n 0, 1) := by decide +kernel
theorem dX9_restore_11 : decode cX9_restore 11 = .ok (.getfield 13, 3) := by decide +kernel
theorem dX9_restore_14 : decode cX9_restore 14 = .ok (.iconst 0, 1) := by decide +kernel
theorem dX9_restore_15 : decode cX9_restore 15 = .ok (.aload_n 0, 1) := by decide +kernel
theorem dX9_restore_16 : decode cX9_restore 16 = .ok (.getfield 9, 3) := by decide +kernel
theorem dX9_restore_19 : decode cX9_restore 19 = .ok (.iconst 0, 1) := by decide +kernel
theorem dX9_restore_20 : decode cX9_restore 20 = .ok (.invokestatic 97, 3) := by decide +kernel
theorem dX9_restore_23 : decode cX9_restore 23 = .ok (.aload_n 0, 1) := by decide +kernel
theorem dX9_restore_24 : decode cX9_restore 24 = .ok (.iconst 0, 1) := by decide +kernel
theorem dX9_restore_25 : decode cX9_restore 25 = .ok (.putfield 23, 3) := by decide +kernel
theorem dX9_restore_28 : decode cX9_restore 28 = .ok (.aload_n 0, 1) := by decide +kernel
theorem dX9_restore_29 : decode cX9_restore 29 = .ok (.getfield 9, 3) := by decide +kernel
theorem dX9_restore_32 : decode cX9_restore 32 = .ok (.iconst 0, 1) := by decide +kernel
theorem dX9_restore_33 : decode cX9_restore 33 = .ok (.iaload, 1) := by decide +kernel
theorem dX9_restore_34 : decode cX9_restore 34 = .ok (.ireturn, 1) := by decide +kernel
theorem dJxf58ca_isNaN_12338_0 : decode cJxf58ca_isNaN_12338 0 = .ok (.fload_n 0, 1) := by decide +kernel
theorem dJxf58ca_isNaN_12338_1 : decode cJxf58ca_isNaN_12338 1 = .ok (.fload_n 0, 1) := by decide +kernel
theorem dJxf58ca_isNaN_12338_2 : decode cJxf58ca_isNaN_12338 2 = .ok (.fcmp .l, 1) := by decide +kernel
theorem dJxf58ca_isNaN_12338_3 : decode cJxf58ca_isNaN_12338 3 = .ok (.ifCond .eq 7, 3) := by decide +kernel
theorem dJxf58ca_isNaN_12338_6 : decode cJxf58ca_isNaN_12338 6 = .ok (.iconst 1, 1) := by decide +kernel
theorem dJxf58ca_isNaN_12338_7 : decode cJxf58ca_isNaN_12338 7 = .ok (.goto 4, 3) := by decide +kernel
theorem dJxf58ca_isNaN_12338_10 : decode cJxf58ca_isNaN_12338 10 = .ok (.iconst 0, 1) := by decide +kernel
theorem dJxf58ca_isNaN_12338_11 : decode cJxf58ca_isNaN_12338 11 = .ok (.ireturn, 1) := by decide +kernel
theorem dJxf58ca_floatToIntBits_5c35a_0 : decode cJxf58ca_floatToIntBits_5c35a 0 = .ok (.fload_n 0, 1) := by decide +kernel
theorem dJxf58ca_floatToIntBits_5c35a_1 : decode cJxf58ca_floatToIntBits_5c35a 1 = .ok (.invokestatic 59, 3) := by decide +kernel
theorem dJxf58ca_floatToIntBits_5c35a_4 : decode cJxf58ca_floatToIntBits_5c35a 4 = .ok (.ifCond .ne 8, 3) := by decide +kernel
theorem dJxf58ca_floatToIntBits_5c35a_7 : decode cJxf58ca_floatToIntBits_5c35a 7 = .ok (.fload_n 0, 1) := by decide +kernel
theorem dJxf58ca_floatToIntBits_5c35a_8 : decode cJxf58ca_floatToIntBits_5c35a 8 = .ok (.invokestatic 74, 3) := by decide +kernel
theorem dJxf58ca_floatToIntBits_5c35a_11 : decode cJxf58ca_floatToIntBits_5c35a 11 = .ok (.ireturn, 1) := by decide +kernel
theorem dJxf58ca_floatToIntBits_5c35a_12 : decode cJxf58ca_floatToIntBits_5c35a 12 = .ok (.ldc 77, 2) := by decide +kernel
theorem dJxf58ca_floatToIntBits_5c35a_14 : decode cJxf58ca_floatToIntBits_5c35a 14 = .ok (.ireturn, 1) := by decide +kernel
theorem dJ9_max_7cf53_0 : decode cJ9_max_7cf53 0 = .ok (.iload_n 0, 1) := by decide +kernel
theorem dJ9_max_7cf53_1 : decode cJ9_max_7cf53 1 = .ok (.iload_n 1, 1) := by decide +kernel
theorem dJ9_max_7cf53_2 : decode cJ9_max_7cf53 2 = .ok (.if_icmp .lt 7, 3) := by decide +kernel
theorem dJ9_max_7cf53_5 : decode cJ9_max_7cf53 5 = .ok (.iload_n 0, 1) := by decide +kernel
theorem dJ9_max_7cf53_6 : decode cJ9_max_7cf53 6 = .ok (.goto 4, 3) := by decide +kernel
theorem dJ9_max_7cf53_9 : decode cJ9_max_7cf53 9 = .ok (.iload_n 1, 1) := by decide +kernel
theorem dJ9_max_7cf53_10 : decode cJ9_max_7cf53 10 = .ok (.ireturn, 1) := by decide +kernel
theorem dJ9_min_7cf53_0 : decode cJ9_min_7cf53 0 = .ok (.iload_n 0, 1) := by decide +kernel
theorem dJ9_min_7cf53_1 : decode cJ9_min_7cf53 1 = .ok (.iload_n 1, 1) := by decide +kernel
theorem dJ9_min_7cf53_2 : decode cJ9_min_7cf53 2 = .ok (.if_icmp .gt 7, 3) := by decide +kernel
theorem dJ9_min_7cf53_5 : decode cJ9_min_7cf53 5 = .ok (.iload_n 0, 1) := by decide +kernel
theorem dJ9_min_7cf53_6 : decode cJ9_min_7cf53 6 = .ok (.goto 4, 3) := by decide +kernel
theorem dJ9_min_7cf53_9 : decode cJ9_min_7cf53 9 = .ok (.iload_n 1, 1) := by decide +kernel
theorem dJ9_min_7cf53_10 : decode cJ9_min_7cf53 10 = .ok (.ireturn, 1) := by decide +kernel
theorem dJ0_length_8abf5_0 : decode cJ0_length_8abf5 0 = .ok (.aload_n 0, 1) := by decide +kernel
theorem dJ0_length_8abf5_1 : decode cJ0_length_8abf5 1 = .ok (.getfield 9, 3) := by decide +kernel
theorem dJ0_length_8abf5_4 : decode cJ0_length_8abf5 4 = .ok (.arraylength, 1) := by decide +kernel
theorem dJ0_length_8abf5_5 : decode cJ0_length_8abf5 5 = .ok (.aload_n 0, 1) := by decide +kernel
theorem dJ0_length_8abf5_6 : decode cJ0_length_8abf5 6 = .ok (.invokevirtual 335, 3) := by decide +kernel
theorem dJ0_length_8abf5_9 : decode cJ0_length_8abf5 9 = .ok (.ishr, 1) := by decide +kernel
theorem dJ0_length_8abf5_10 : decode cJ0_length_8abf5 10 = .ok (.ireturn, 1) := by decide +kernel
theorem dJ0_isEmpty_aae02_0 : decode cJ0_isEmpty_aae02 0 = .ok (.aload_n 0, 1) := by decide +kernel
theorem dJ0_isEmpty_aae02_1 : decode cJ0_isEmpty_aae02 1 = .ok (.getfield 9, 3) := by decide +kernel
theorem dJ0_isEmpty_aae02_4 : decode cJ0_isEmpty_aae02 4 = .ok (.arraylength, 1) := by decide +kernel
theorem dJ0_isEmpty_aae02_5 : decode cJ0_isEmpty_aae02 5 = .ok (.ifCond .ne 7, 3) := by decide +kernel
theorem dJ0_isEmpty_aae02_8 : decode cJ0_isEmpty_aae02 8 = .ok (.iconst 1, 1) := by decide +kernel
theorem dJ0_isEmpty_aae02_9 : decode cJ0_isEmpty_aae02 9 = .ok (.goto 4, 3) := by decide +kernel
theorem dJ0_isEmpty_aae02_12 : decode cJ0_isEmpty_aae02 12 = .ok (.iconst 0, 1) := by decide +kernel
theorem dJ0_isEmpty_aae02_13 : decode cJ0_isEmpty_aae02 13 = .ok (.ireturn, 1) := by decide +kernel
theorem dJ0_charAt_5068e_0 : decode cJ0_charAt_5068e 0 = .ok (.aload_n 0, 1) := by decide +kernel
theorem dJ0_charAt_5068e_1 : decode cJ0_charAt_5068e 1 = .ok (.invokevirtual 492, 3) := by decide +kernel
theorem dJ0_charAt_5068e_4 : decode cJ0_charAt_5068e 4 = .ok (.ifCond .eq 12, 3) := by decide +kernel
theorem dJ0_charAt_5068e_7 : decode cJ0_charAt_5068e 7 = .ok (.aload_n 0, 1) := by decide +kernel
theorem dJ0_charAt_5068e_8 : decode cJ0_charAt_5068e 8 = .ok (.getfield 9, 3) := by decide +kernel
theorem dJ0_charAt_5068e_11 : decode cJ0_charAt_5068e 11 = .ok (.iload_n 1, 1) := by decide +kernel
theorem dJ0_charAt_5068e_12 : decode cJ0_charAt_5068e 12 = .ok (.invokestatic 495, 3) := by decide +kernel
theorem dJ0_charAt_5068e_15 : decode cJ0_charAt_5068e 15 = .ok (.ireturn, 1) := by decide +kernel
theorem dJ0_charAt_5068e_16 : decode cJ0_charAt_5068e 16 = .ok (.aload_n 0, 1) := by decide +kernel
theorem dJ0_charAt_5068e_17 : decode cJ0_charAt_5068e 17 = .ok (.getfield 9, 3) := by decide +kernel
theorem dJ0_charAt_5068e_20 : decode cJ0_charAt_5068e 20 = .ok (.iload_n 1, 1) := by decide +kernel
theorem dJ0_charAt_5068e_21 : decode cJ0_charAt_5068e 21 = .ok (.invokestatic 498, 3) := by decide +kernel
theorem dJ0_charAt_5068e_24 : decode cJ0_charAt_5068e 24 = .ok (.ireturn, 1) := by decide +kernel
theorem dJ0_coder_7d493_0 : decode cJ0_coder_7d493 0 = .ok (.getstatic 38, 3) := by decide +kernel
theorem dJ0_coder_7d493_3 : decode cJ0_coder_7d493 3 = .ok (.ifCond .eq 10, 3) := by decide +kernel
theorem dJ0_coder_7d493_6 : decode cJ0_coder_7d493 6 = .ok (.aload_n 0, 1) := by decide +kernel
theorem dJ0_coder_7d493_7 : decode cJ0_coder_7d493 7 = .ok (.getfield 15, 3) := by decide +kernel
theorem dJ0_coder_7d493_10 : decode cJ0_coder_7d493 10 = .ok (.goto 4, 3) := by decide +kernel
theorem dJ0_coder_7d493_13 : decode cJ0_coder_7d493 13 = .ok (.iconst 1, 1) := by decide +kernel
theorem dJ0_coder_7d493_14 : decode cJ0_coder_7d493 14 = .ok (.ireturn, 1) := by decide +kernel
theorem dJ0_isLatin1_aae02_0 : decode cJ0_isLatin1_aae02 0 = .ok (.getstatic 38, 3) := by decide +kernel
theorem dJ0_isLatin1_aae02_3 : decode cJ0_isLatin1_aae02 3 = .ok (.ifCond .eq 14, 3) := by decide +kernel
theorem dJ0_isLatin1_aae02_6 : decode cJ0_isLatin1_aae02 6 = .ok (.aload_n 0, 1) := by decide +kernel
theorem dJ0_isLatin1_aae02_7 : decode cJ0_isLatin1_aae02 7 = .ok (.getfield 15, 3) := by decide +kernel
theorem dJ0_isLatin1_aae02_10 : decode cJ0_isLatin1_aae02 10 = .ok (.ifCond .ne 7, 3) := by decide +kernel
theorem dJ0_isLatin1_aae02_13 : decode cJ0_isLatin1_aae02 13 = .ok (.iconst 1, 1) := by decide +kernel
theorem dJ0_isLatin1_aae02_14 : decode cJ0_isLatin1_aae02 14 = .ok (.goto 4, 3) := by decide +kernel
theorem dJ0_isLatin1_aae02_17 : decode cJ0_isLatin1_aae02 17 = .ok (.iconst 0, 1) := by decide +kernel
theorem dJ0_isLatin1_aae02_18 : decode cJ0_isLatin1_aae02 18 = .ok (.ireturn, 1) := by decide +kernel
theorem dJ0_checkIndex_df160_0 : decode cJ0_checkIndex_df160 0 = .ok (.iload_n 0, 1) := by decide +kernel
theorem dJ0_checkIndex_df160_1 : decode cJ0_checkIndex_df160 1 = .ok (.iload_n 1, 1) := by decide +kernel
theorem dJ0_checkIndex_df160_2 : decode cJ0_checkIndex_df160 2 = .ok (.getstatic 1053, 3) := by decide +kernel
theorem dJ0_checkIndex_df160_5 : decode cJ0_checkIndex_df160 5 = .ok (.invokestatic 1059, 3) := by decide +kernel
theorem dJ0_checkIndex_df160_8 : decode cJ0_checkIndex_df160 8 = .ok (.pop, 1) := by decide +kernel
theorem dJ0_checkIndex_df160_9 : decode cJ0_checkIndex_df160 9 = .ok (.return_, 1) := by decide +kernel
theorem dJ1_charAt_3b067_0 : decode cJ1_charAt_3b067 0 = .ok (.iload_n 1, 1) := by decide +kernel
theorem dJ1_charAt_3b067_1 : decode cJ1_charAt_3b067 1 = .ok (.aload_n 0, 1) := by decide +kernel
theorem dJ1_charAt_3b067_2 : decode cJ1_charAt_3b067 2 = .ok (.arraylength, 1) := by decide +kernel
theorem dJ1_charAt_3b067_3 : decode cJ1_charAt_3b067 3 = .ok (.invokestatic 9, 3) := by decide +kernel
theorem dJ1_charAt_3b067_6 : decode cJ1_charAt_3b067 6 = .ok (.aload_n 0, 1) := by decide +kernel
theorem dJ1_charAt_3b067_7 : decode cJ1_charAt_3b067 7 = .ok (.iload_n 1, 1) := by decide +kernel
theorem dJ1_charAt_3b067_8 : decode cJ1_charAt_3b067 8 = .ok (.baload, 1) := by decide +kernel
theorem dJ1_charAt_3b067_9 : decode cJ1_charAt_3b067 9 = .ok (.sipush 255, 3) := by decide +kernel
theorem dJ1_charAt_3b067_12 : decode cJ1_charAt_3b067 12 = .ok (.iand, 1) := by decide +kernel
theorem dJ1_charAt_3b067_13 : decode cJ1_charAt_3b067 13 = .ok (.i2c, 1) := by decide +kernel
theorem dJ1_charAt_3b067_14 : decode cJ1_charAt_3b067 14 = .ok (.ireturn, 1) := by decide +kernel
theorem dJ2_getChar_3b067_0 : decode cJ2_getChar_3b067 0 = .ok (.getstatic 44, 3) := by decide +kernel
theorem dJ2_getChar_3b067_3 : decode cJ2_getChar_3b067 3 = .ok (.ifCond .ne 25, 3) := by decide +kernel
theorem dJ2_getChar_3b067_6 : decode cJ2_getChar_3b067 6 = .ok (.iload_n 1, 1) := by decide +kernel
theorem dJ2_getChar_3b067_7 : decode cJ2_getChar_3b067 7 = .ok (.ifCond .lt 11, 3) := by decide +kernel
theorem dJ2_getChar_3b067_10 : decode cJ2_getChar_3b067 10 = .ok (.iload_n 1, 1) := by decide +kernel
theorem dJ2_getChar_3b067_11 : decode cJ2_getChar_3b067 11 = .ok (.aload_n 0, 1) := by decide +kernel
theorem dJ2_getChar_3b067_12 : decode cJ2_getChar_3b067 12 = .ok (.invokestatic 48, 3) := by decide +kernel
theorem dJ2_getChar_3b067_15 : decode cJ2_getChar_3b067 15 = .ok (.if_icmp .lt 13, 3) := by decide +kernel
theorem dJ2_getChar_3b067_18 : decode cJ2_getChar_3b067 18 = .ok (.new 52, 3) := by decide +kernel
theorem dJ2_getChar_3b067_21 : decode cJ2_getChar_3b067 21 = .ok (.dup, 1) := by decide +kernel
theorem dJ2_getChar_3b067_22 : decode cJ2_getChar_3b067 22 = .ok (.ldc 54, 2) := by decide +kernel
theorem dJ2_getChar_3b067_24 : decode cJ2_getChar_3b067 24 = .ok (.invokespecial 56, 3) := by decide +kernel
theorem dJ2_getChar_3b067_27 : decode cJ2_getChar_3b067 27 = .ok (.athrow, 1) := by decide +kernel
theorem dJ2_getChar_3b067_28 : decode cJ2_getChar_3b067 28 = .ok (.iload_n 1, 1) := by decide +kernel
theorem dJ2_getChar_3b067_29 : decode cJ2_getChar_3b067 29 = .ok (.iconst 1, 1) := by decide +kernel
theorem dJ2_getChar_3b067_30 : decode cJ2_getChar_3b067 30 = .ok (.ishl, 1) := by decide +kernel
theorem dJ2_getChar_3b067_31 : decode cJ2_getChar_3b067 31 = .ok (.istore_n 1, 1) := by decide +kernel
theorem dJ2_getChar_3b067_32 : decode cJ2_getChar_3b067 32 = .ok (.aload_n 0, 1) := by decide +kernel
theorem dJ2_getChar_3b067_33 : decode cJ2_getChar_3b067 33 = .ok (.iload_n 1, 1) := by decide +kernel
theorem dJ2_getChar_3b067_34 : decode cJ2_getChar_3b067 34 = .ok (.iinc 1 1, 3) := by decide +kernel
theorem dJ2_getChar_3b067_37 : decode cJ2_getChar_3b067 37 = .ok (.baload, 1) := by decide +kernel
theorem dJ2_getChar_3b067_38 : decode cJ2_getChar_3b067 38 = .ok (.sipush 255, 3) := by decide +kernel
theorem dJ2_getChar_3b067_41 : decode cJ2_getChar_3b067 41 = .ok (.iand, 1) := by decide +kernel
theorem dJ2_getChar_3b067_42 : decode cJ2_getChar_3b067 42 = .ok (.getstatic 59, 3) := by decide +kernel
theorem dJ2_getChar_3b067_45 : decode cJ2_getChar_3b067 45 = .ok (.ishl, 1) := by decide +kernel
theorem dJ2_getChar_3b067_46 : decode cJ2_getChar_3b067 46 = .ok (.aload_n 0, 1) := by decide +kernel
theorem dJ2_getChar_3b067_47 : decode cJ2_getChar_3b067 47 = .ok (.iload_n 1, 1) := by decide +kernel
theorem dJ2_getChar_3b067_48 : decode cJ2_getChar_3b067 48 = .ok (.baload, 1) := by decide +kernel
theorem dJ2_getChar_3b067_49 : decode cJ2_getChar_3b067 49 = .ok (.sipush 255, 3) := by decide +kernel
theorem dJ2_getChar_3b067_52 : decode cJ2_getChar_3b067 52 = .ok (.iand, 1) := by decide +kernel
theorem dJ2_getChar_3b067_53 : decode cJ2_getChar_3b067 53 = .ok (.getstatic 63, 3) := by decide +kernel
theorem dJ2_getChar_3b067_56 : decode cJ2_getChar_3b067 56 = .ok (.ishl, 1) := by decide +kernel
theorem dJ2_getChar_3b067_57 : decode cJ2_getChar_3b067 57 = .ok (.ior, 1) := by decide +kernel
theorem dJ2_getChar_3b067_58 : decode cJ2_getChar_3b067 58 = .ok (.i2c, 1) := by decide +kernel
theorem dJ2_getChar_3b067_59 : decode cJ2_getChar_3b067 59 = .ok (.ireturn, 1) := by decide +kernel
theorem dJ2_length_9d52b_0 : decode cJ2_length_9d52b 0 = .ok (.aload_n 0, 1) := by decide +kernel
theorem dJ2_length_9d52b_1 : decode cJ2_length_9d52b 1 = .ok (.arraylength, 1) := by decide +kernel
theorem dJ2_length_9d52b_2 : decode cJ2_length_9d52b 2 = .ok (.iconst 1, 1) := by decide +kernel
theorem dJ2_length_9d52b_3 : decode cJ2_length_9d52b 3 = .ok (.ishr, 1) := by decide +kernel
theorem dJ2_length_9d52b_4 : decode cJ2_length_9d52b 4 = .ok (.ireturn, 1) := by decide +kernel
theorem dJ2_charAt_3b067_0 : decode cJ2_charAt_3b067 0 = .ok (.iload_n 1, 1) := by decide +kernel
theorem dJ2_charAt_3b067_1 : decode cJ2_charAt_3b067 1 = .ok (.aload_n 0, 1) := by decide +kernel
theorem dJ2_charAt_3b067_2 : decode cJ2_charAt_3b067 2 = .ok (.invokestatic 67, 3) := by decide +kernel
theorem dJ2_charAt_3b067_5 : decode cJ2_charAt_3b067 5 = .ok (.aload_n 0, 1) := by decide +kernel
theorem dJ2_charAt_3b067_6 : decode cJ2_charAt_3b067 6 = .ok (.iload_n 1, 1) := by decide +kernel
theorem dJ2_charAt_3b067_7 : decode cJ2_charAt_3b067 7 = .ok (.invokestatic 71, 3) := by decide +kernel
theorem dJ2_charAt_3b067_10 : decode cJ2_charAt_3b067 10 = .ok (.ireturn, 1) := by decide +kernel
theorem dJ2_checkIndex_2214a_0 : decode cJ2_checkIndex_2214a 0 = .ok (.iload_n 0, 1) := by decide +kernel
theorem dJ2_checkIndex_2214a_1 : decode cJ2_checkIndex_2214a 1 = .ok (.aload_n 1, 1) := by decide +kernel
theorem dJ2_checkIndex_2214a_2 : decode cJ2_checkIndex_2214a 2 = .ok (.invokestatic 48, 3) := by decide +kernel
theorem dJ2_checkIndex_2214a_5 : decode cJ2_checkIndex_2214a 5 = .ok (.invokestatic 414, 3) := by decide +kernel
theorem dJ2_checkIndex_2214a_8 : decode cJ2_checkIndex_2214a 8 = .ok (.return_, 1) := by decide +kernel
theorem dJ3_checkIndex_8e157_0 : decode cJ3_checkIndex_8e157 0 = .ok (.iload_n 0, 1) := by decide +kernel
theorem dJ3_checkIndex_8e157_1 : decode cJ3_checkIndex_8e157 1 = .ok (.ifCond .lt 8, 3) := by decide +kernel
theorem dJ3_checkIndex_8e157_4 : decode cJ3_checkIndex_8e157 4 = .ok (.iload_n 0, 1) := by decide +kernel
theorem dJ3_checkIndex_8e157_5 : decode cJ3_checkIndex_8e157 5 = .ok (.iload_n 1, 1) := by decide +kernel
theorem dJ3_checkIndex_8e157_6 : decode cJ3_checkIndex_8e157 6 = .ok (.if_icmp .lt 10, 3) := by decide +kernel
theorem dJ3_checkIndex_8e157_9 : decode cJ3_checkIndex_8e157 9 = .ok (.aload_n 2, 1) := by decide +kernel
theorem dJ3_checkIndex_8e157_10 : decode cJ3_checkIndex_8e157 10 = .ok (.iload_n 0, 1) := by decide +kernel
theorem dJ3_checkIndex_8e157_11 : decode cJ3_checkIndex_8e157 11 = .ok (.iload_n 1, 1) := by decide +kernel
theorem dJ3_checkIndex_8e157_12 : decode cJ3_checkIndex_8e157 12 = .ok (.invokestatic 95, 3) := by decide +kernel
theorem dJ3_checkIndex_8e157_15 : decode cJ3_checkIndex_8e157 15 = .ok (.athrow, 1) := by decide +kernel
theorem dJ3_checkIndex_8e157_16 : decode cJ3_checkIndex_8e157 16 = .ok (.iload_n 0, 1) := by decide +kernel
theorem dJ3_checkIndex_8e157_17 : decode cJ3_checkIndex_8e157 17 = .ok (.ireturn, 1) := by decide +kernel
