theorem dX0_init_0 : decode cX0_init 0 = .ok (.aload_n 0, 1) := by decide +kernel
theorem dX0_init_1 : decode cX0_init 1 = .ok (.invokespecial 1, 3) := by decide +kernel
theorem dX0_init_4 : decode cX0_init 4 = .ok (.return_, 1) := by decide +kernel
theorem dX0_copyRow_0 : decode cX0_copyRow 0 = .ok (.aload_n 0, 1) := by decide +kernel
theorem dX0_copyRow_1 : decode cX0_copyRow 1 = .ok (.iconst 1, 1) := by decide +kernel
theorem dX0_copyRow_2 : decode cX0_copyRow 2 = .ok (.putfield 7, 3) := by decide +kernel
theorem dX0_copyRow_5 : decode cX0_copyRow 5 = .ok (.aload_n 0, 1) := by decide +kernel
theorem dX0_copyRow_6 : decode cX0_copyRow 6 = .ok (.iconst 0, 1) := by decide +kernel
theorem dX0_copyRow_7 : decode cX0_copyRow 7 = .ok (.putfield 13, 3) := by decide +kernel
theorem dX0_copyRow_10 : decode cX0_copyRow 10 = .ok (.aload_n 0, 1) := by decide +kernel
theorem dX0_copyRow_11 : decode cX0_copyRow 11 = .ok (.iconst 0, 1) := by decide +kernel
theorem dX0_copyRow_12 : decode cX0_copyRow 12 = .ok (.putfield 17, 3) := by decide +kernel
theorem dX0_copyRow_15 : decode cX0_copyRow 15 = .ok (.aload_n 0, 1) := by decide +kernel
theorem dX0_copyRow_16 : decode cX0_copyRow 16 = .ok (.iconst 0, 1) := by decide +kernel
theorem dX0_copyRow_17 : decode cX0_copyRow 17 = .ok (.putfield 20, 3) := by decide +kernel
theorem dX0_copyRow_20 : decode cX0_copyRow 20 = .ok (.aload_n 0, 1) := by decide +kernel
theorem dX0_copyRow_21 : decode cX0_copyRow 21 = .ok (.iconst 0, 1) := by decide +kernel
theorem dX0_copyRow_22 : decode cX0_copyRow 22 = .ok (.putfield 23, 3) := by decide +kernel
theorem dX0_copyRow_25 : decode cX0_copyRow 25 = .ok (.iconst 1, 1) := by decide +kernel
theorem dX0_copyRow_26 : decode cX0_copyRow 26 = .ok (.istore 5, 2) := by decide +kernel
theorem dX0_copyRow_28 : decode cX0_copyRow 28 = .ok (.iload 5, 2) := by decide +kernel
theorem dX0_copyRow_30 : decode cX0_copyRow 30 = .ok (.aload_n 1, 1) := by decide +kernel
theorem dX0_copyRow_31 : decode cX0_copyRow 31 = .ok (.getfield 26, 3) := by decide +kernel
theorem dX0_copyRow_34 : decode cX0_copyRow 34 = .ok (.if_icmp .gt 32, 3) := by decide +kernel
theorem dX0_copyRow_37 : decode cX0_copyRow 37 = .ok (.aload_n 1, 1) := by decide +kernel
theorem dX0_copyRow_38 : decode cX0_copyRow 38 = .ok (.getfield 31, 3) := by decide +kernel
theorem dX0_copyRow_41 : decode cX0_copyRow 41 = .ok (.iload_n 3, 1) := by decide +kernel
theorem dX0_copyRow_42 : decode cX0_copyRow 42 = .ok (.aaload, 1) := by decide +kernel
theorem dX0_copyRow_43 : decode cX0_copyRow 43 = .ok (.iload 5, 2) := by decide +kernel
theorem dX0_copyRow_45 : decode cX0_copyRow 45 = .ok (.iaload, 1) := by decide +kernel
theorem dX0_copyRow_46 : decode cX0_copyRow 46 = .ok (.ifCond .eq 14, 3) := by decide +kernel
theorem dX0_copyRow_49 : decode cX0_copyRow 49 = .ok (.aload_n 0, 1) := by decide +kernel
theorem dX0_copyRow_50 : decode cX0_copyRow 50 = .ok (.aload_n 1, 1) := by decide +kernel
theorem dX0_copyRow_51 : decode cX0_copyRow 51 = .ok (.iload 5, 2) := by decide +kernel
theorem dX0_copyRow_53 : decode cX0_copyRow 53 = .ok (.aload_n 2, 1) := by decide +kernel
theorem dX0_copyRow_54 : decode cX0_copyRow 54 = .ok (.iload_n 3, 1) := by decide +kernel
theorem dX0_copyRow_55 : decode cX0_copyRow 55 = .ok (.iload 4, 2) := by decide +kernel
theorem dX0_copyRow_57 : decode cX0_copyRow 57 = .ok (.invokevirtual 35, 3) := by decide +kernel
theorem dX0_copyRow_60 : decode cX0_copyRow 60 = .ok (.iinc 5 1, 3) := by decide +kernel
theorem dX0_copyRow_63 : decode cX0_copyRow 63 = .ok (.goto (-35), 3) := by decide +kernel
theorem dX0_copyRow_66 : decode cX0_copyRow 66 = .ok (.return_, 1) := by decide +kernel
theorem dX0_copyOne_0 : decode cX0_copyOne 0 = .ok (.aload_n 3, 1) := by decide +kernel
theorem dX0_copyOne_1 : decode cX0_copyOne 1 = .ok (.aload_n 1, 1) := by decide +kernel
theorem dX0_copyOne_2 : decode cX0_copyOne 2 = .ok (.getfield 39, 3) := by decide +kernel
theorem dX0_copyOne_5 : decode cX0_copyOne 5 = .ok (.iload_n 2, 1) := by decide +kernel
theorem dX0_copyOne_6 : decode cX0_copyOne 6 = .ok (.iaload, 1) := by decide +kernel
theorem dX0_copyOne_7 : decode cX0_copyOne 7 = .ok (.iconst 1, 1) := by decide +kernel
theorem dX0_copyOne_8 : decode cX0_copyOne 8 = .ok (.invokevirtual 43, 3) := by decide +kernel
theorem dX0_copyOne_11 : decode cX0_copyOne 11 = .ok (.istore 6, 2) := by decide +kernel
theorem dX0_copyOne_13 : decode cX0_copyOne 13 = .ok (.iload 6, 2) := by decide +kernel
theorem dX0_copyOne_15 : decode cX0_copyOne 15 = .ok (.ifCond .ne 14, 3) := by decide +kernel
theorem dX0_copyOne_18 : decode cX0_copyOne 18 = .ok (.aload_n 0, 1) := by decide +kernel
theorem dX0_copyOne_19 : decode cX0_copyOne 19 = .ok (.dup, 1) := by decide +kernel
theorem dX0_copyOne_20 : decode cX0_copyOne 20 = .ok (.getfield 17, 3) := by decide +kernel
theorem dX0_copyOne_23 : decode cX0_copyOne 23 = .ok (.iconst 1, 1) := by decide +kernel
theorem dX0_copyOne_24 : decode cX0_copyOne 24 = .ok (.iadd, 1) := by decide +kernel
theorem dX0_copyOne_25 : decode cX0_copyOne 25 = .ok (.putfield 17, 3) := by decide +kernel
theorem dX0_copyOne_28 : decode cX0_copyOne 28 = .ok (.return_, 1) := by decide +kernel
theorem dX0_copyOne_29 : decode cX0_copyOne 29 = .ok (.aload_n 1, 1) := by decide +kernel
theorem dX0_copyOne_30 : decode cX0_copyOne 30 = .ok (.getfield 31, 3) := by decide +kernel
theorem dX0_copyOne_33 : decode cX0_copyOne 33 = .ok (.iload 4, 2) := by decide +kernel
theorem dX0_copyOne_35 : decode cX0_copyOne 35 = .ok (.aaload, 1) := by decide +kernel
theorem dX0_copyOne_36 : decode cX0_copyOne 36 = .ok (.iload_n 2, 1) := by decide +kernel
theorem dX0_copyOne_37 : decode cX0_copyOne 37 = .ok (.iaload, 1) := by decide +kernel
theorem dX0_copyOne_38 : decode cX0_copyOne 38 = .ok (.istore 7, 2) := by decide +kernel
theorem dX0_copyOne_40 : decode cX0_copyOne 40 = .ok (.aload_n 3, 1) := by decide +kernel
theorem dX0_copyOne_41 : decode cX0_copyOne 41 = .ok (.getfield 31, 3) := by decide +kernel
theorem dX0_copyOne_44 : decode cX0_copyOne 44 = .ok (.iload 4, 2) := by decide +kernel
theorem dX0_copyOne_46 : decode cX0_copyOne 46 = .ok (.aaload, 1) := by decide +kernel
theorem dX0_copyOne_47 : decode cX0_copyOne 47 = .ok (.iload 6, 2) := by decide +kernel
theorem dX0_copyOne_49 : decode cX0_copyOne 49 = .ok (.iaload, 1) := by decide +kernel
theorem dX0_copyOne_50 : decode cX0_copyOne 50 = .ok (.istore 8, 2) := by decide +kernel
theorem dX0_copyOne_52 : decode cX0_copyOne 52 = .ok (.iload 8, 2) := by decide +kernel
theorem dX0_copyOne_54 : decode cX0_copyOne 54 = .ok (.iload 7, 2) := by decide +kernel
theorem dX0_copyOne_56 : decode cX0_copyOne 56 = .ok (.if_icmp .ne 4, 3) := by decide +kernel
theorem dX0_copyOne_59 : decode cX0_copyOne 59 = .ok (.return_, 1) := by decide +kernel
theorem dX0_copyOne_60 : decode cX0_copyOne 60 = .ok (.iload 8, 2) := by decide +kernel
theorem dX0_copyOne_62 : decode cX0_copyOne 62 = .ok (.ifCond .eq 7, 3) := by decide +kernel
theorem dX0_copyOne_65 : decode cX0_copyOne 65 = .ok (.iconst 1, 1) := by decide +kernel
theorem dX0_copyOne_66 : decode cX0_copyOne 66 = .ok (.goto 4, 3) := by decide +kernel
theorem dX0_copyOne_69 : decode cX0_copyOne 69 = .ok (.iconst 0, 1) := by decide +kernel
theorem dX0_copyOne_70 : decode cX0_copyOne 70 = .ok (.istore 9, 2) := by decide +kernel
theorem dX0_copyOne_72 : decode cX0_copyOne 72 = .ok (.aload_n 0, 1) := by decide +kernel
theorem dX0_copyOne_73 : decode cX0_copyOne 73 = .ok (.dup, 1) := by decide +kernel
theorem dX0_copyOne_74 : decode cX0_copyOne 74 = .ok (.getfield 20, 3) := by decide +kernel
theorem dX0_copyOne_77 : decode cX0_copyOne 77 = .ok (.iload 9, 2) := by decide +kernel
theorem dX0_copyOne_79 : decode cX0_copyOne 79 = .ok (.ifCond .eq 7, 3) := by decide +kernel
theorem dX0_copyOne_82 : decode cX0_copyOne 82 = .ok (.iconst 1, 1) := by decide +kernel
theorem dX0_copyOne_83 : decode cX0_copyOne 83 = .ok (.goto 4, 3) := by decide +kernel
theorem dX0_copyOne_86 : decode cX0_copyOne 86 = .ok (.iconst 0, 1) := by decide +kernel
theorem dX0_copyOne_87 : decode cX0_copyOne 87 = .ok (.iadd, 1) := by decide +kernel
theorem dX0_copyOne_88 : decode cX0_copyOne 88 = .ok (.putfield 20, 3) := by decide +kernel
theorem dX0_copyOne_91 : decode cX0_copyOne 91 = .ok (.iload 9, 2) := by decide +kernel
theorem dX0_copyOne_93 : decode cX0_copyOne 93 = .ok (.ifCond .eq 9, 3) := by decide +kernel
theorem dX0_copyOne_96 : decode cX0_copyOne 96 = .ok (.iload 5, 2) := by decide +kernel
theorem dX0_copyOne_98 : decode cX0_copyOne 98 = .ok (.ifCond .ne 4, 3) := by decide +kernel
theorem dX0_copyOne_101 : decode cX0_copyOne 101 = .ok (.return_, 1) := by decide +kernel
theorem dX0_copyOne_102 : decode cX0_copyOne 102 = .ok (.aload_n 3, 1) := by decide +kernel
theorem dX0_copyOne_103 : decode cX0_copyOne 103 = .ok (.getfield 31, 3) := by decide +kernel
theorem dX0_copyOne_106 : decode cX0_copyOne 106 = .ok (.iload 4, 2) := by decide +kernel
theorem dX0_copyOne_108 : decode cX0_copyOne 108 = .ok (.aaload, 1) := by decide +kernel
theorem dX0_copyOne_109 : decode cX0_copyOne 109 = .ok (.iload 6, 2) := by decide +kernel
theorem dX0_copyOne_111 : decode cX0_copyOne 111 = .ok (.iload 7, 2) := by decide +kernel
theorem dX0_copyOne_113 : decode cX0_copyOne 113 = .ok (.iastore, 1) := by decide +kernel
theorem dX0_copyOne_114 : decode cX0_copyOne 114 = .ok (.aload_n 0, 1) := by decide +kernel
theorem dX0_copyOne_115 : decode cX0_copyOne 115 = .ok (.dup, 1) := by decide +kernel
theorem dX0_copyOne_116 : decode cX0_copyOne 116 = .ok (.getfield 13, 3) := by decide +kernel
theorem dX0_copyOne_119 : decode cX0_copyOne 119 = .ok (.iconst 1, 1) := by decide +kernel
theorem dX0_copyOne_120 : decode cX0_copyOne 120 = .ok (.iadd, 1) := by decide +kernel
theorem dX0_copyOne_121 : decode cX0_copyOne 121 = .ok (.putfield 13, 3) := by decide +kernel
theorem dX0_copyOne_124 : decode cX0_copyOne 124 = .ok (.aload_n 0, 1) := by decide +kernel
theorem dX0_copyOne_125 : decode cX0_copyOne 125 = .ok (.dup, 1) := by decide +kernel
theorem dX0_copyOne_126 : decode cX0_copyOne 126 = .ok (.getfield 23, 3) := by decide +kernel
theorem dX0_copyOne_129 : decode cX0_copyOne 129 = .ok (.aload_n 1, 1) := by decide +kernel
theorem dX0_copyOne_130 : decode cX0_copyOne 130 = .ok (.getfield 47, 3) := by decide +kernel
theorem dX0_copyOne_133 : decode cX0_copyOne 133 = .ok (.iload_n 2, 1) := by decide +kernel
theorem dX0_copyOne_134 : decode cX0_copyOne 134 = .ok (.iaload, 1) := by decide +kernel
theorem dX0_copyOne_135 : decode cX0_copyOne 135 = .ok (.aload_n 3, 1) := by decide +kernel
theorem dX0_copyOne_136 : decode cX0_copyOne 136 = .ok (.getfield 47, 3) := by decide +kernel
theorem dX0_copyOne_139 : decode cX0_copyOne 139 = .ok (.iload 6, 2) := by decide +kernel
theorem dX0_copyOne_141 : decode cX0_copyOne 141 = .ok (.iaload, 1) := by decide +kernel
theorem dX0_copyOne_142 : decode cX0_copyOne 142 = .ok (.if_icmp .eq 7, 3) := by decide +kernel
theorem dX0_copyOne_145 : decode cX0_copyOne 145 = .ok (.iconst 1, 1) := by decide +kernel
theorem dX0_copyOne_146 : decode cX0_copyOne 146 = .ok (.goto 4, 3) := by decide +kernel
theorem dX0_copyOne_149 : decode cX0_copyOne 149 = .ok (.iconst 0, 1) := by decide +kernel
theorem dX0_copyOne_150 : decode cX0_copyOne 150 = .ok (.iadd, 1) := by decide +kernel
theorem dX0_copyOne_151 : decode cX0_copyOne 151 = .ok (.putfield 23, 3) := by decide +kernel
theorem dX0_copyOne_154 : decode cX0_copyOne 154 = .ok (.return_, 1) := by decide +kernel
theorem dX1_init_0 : decode cX1_init 0 = .ok (.aload_n 0, 1) := by decide +kernel
theorem dX1_init_1 : decode cX1_init 1 = .ok (.invokespecial 3, 3) := by decide +kernel
theorem dX1_init_4 : decode cX1_init 4 = .ok (.aload_n 0, 1) := by decide +kernel
theorem dX1_init_5 : decode cX1_init 5 = .ok (.bipush 8, 2) := by decide +kernel
theorem dX1_init_7 : decode cX1_init 7 = .ok (.newarray .int, 2) := by decide +kernel
theorem dX1_init_9 : decode cX1_init 9 = .ok (.putfield 9, 3) := by decide +kernel
theorem dX1_init_12 : decode cX1_init 12 = .ok (.aload_n 0, 1) := by decide +kernel
theorem dX1_init_13 : decode cX1_init 13 = .ok (.bipush 8, 2) := by decide +kernel
theorem dX1_init_15 : decode cX1_init 15 = .ok (.newarray .int, 2) := by decide +kernel
theorem dX1_init_17 : decode cX1_init 17 = .ok (.putfield 15, 3) := by decide +kernel
theorem dX1_init_20 : decode cX1_init 20 = .ok (.return_, 1) := by decide +kernel
theorem dX1_makeAnew_0 : decode cX1_makeAnew 0 = .ok (.aload_n 0, 1) := by decide +kernel
theorem dX1_makeAnew_1 : decode cX1_makeAnew 1 = .ok (.iload_n 1, 1) := by decide +kernel
theorem dX1_makeAnew_2 : decode cX1_makeAnew 2 = .ok (.putfield 18, 3) := by decide +kernel
theorem dX1_makeAnew_5 : decode cX1_makeAnew 5 = .ok (.aload_n 0, 1) := by decide +kernel
theorem dX1_makeAnew_6 : decode cX1_makeAnew 6 = .ok (.iload_n 2, 1) := by decide +kernel
theorem dX1_makeAnew_7 : decode cX1_makeAnew 7 = .ok (.putfield 22, 3) := by decide +kernel
theorem dX1_makeAnew_10 : decode cX1_makeAnew 10 = .ok (.iconst 0, 1) := by decide +kernel
theorem dX1_makeAnew_11 : decode cX1_makeAnew 11 = .ok (.istore_n 3, 1) := by decide +kernel
theorem dX1_makeAnew_12 : decode cX1_makeAnew 12 = .ok (.iload_n 3, 1) := by decide +kernel
theorem dX1_makeAnew_13 : decode cX1_makeAnew 13 = .ok (.bipush 8, 2) := by decide +kernel
theorem dX1_makeAnew_15 : decode cX1_makeAnew 15 = .ok (.if_icmp .ge 16, 3) := by decide +kernel
theorem dX1_makeAnew_18 : decode cX1_makeAnew 18 = .ok (.aload_n 0, 1) := by decide +kernel
theorem dX1_makeAnew_19 : decode cX1_makeAnew 19 = .ok (.getfield 9, 3) := by decide +kernel
theorem dX1_makeAnew_22 : decode cX1_makeAnew 22 = .ok (.iload_n 3, 1) := by decide +kernel
theorem dX1_makeAnew_23 : decode cX1_makeAnew 23 = .ok (.iconst (-1), 1) := by decide +kernel
theorem dX1_makeAnew_24 : decode cX1_makeAnew 24 = .ok (.iastore, 1) := by decide +kernel
theorem dX1_makeAnew_25 : decode cX1_makeAnew 25 = .ok (.iinc 3 1, 3) := by decide +kernel
theorem dX1_makeAnew_28 : decode cX1_makeAnew 28 = .ok (.goto (-16), 3) := by decide +kernel
theorem dX1_makeAnew_31 : decode cX1_makeAnew 31 = .ok (.return_, 1) := by decide +kernel
theorem dX1_becomeLike_0 : decode cX1_becomeLike 0 = .ok (.aload_n 0, 1) := by decide +kernel
theorem dX1_becomeLike_1 : decode cX1_becomeLike 1 = .ok (.aload_n 1, 1) := by decide +kernel
theorem dX1_becomeLike_2 : decode cX1_becomeLike 2 = .ok (.getfield 18, 3) := by decide +kernel
theorem dX1_becomeLike_5 : decode cX1_becomeLike 5 = .ok (.putfield 18, 3) := by decide +kernel
theorem dX1_becomeLike_8 : decode cX1_becomeLike 8 = .ok (.aload_n 0, 1) := by decide +kernel
theorem dX1_becomeLike_9 : decode cX1_becomeLike 9 = .ok (.aload_n 1, 1) := by decide +kernel
theorem dX1_becomeLike_10 : decode cX1_becomeLike 10 = .ok (.getfield 22, 3) := by decide +kernel
theorem dX1_becomeLike_13 : decode cX1_becomeLike 13 = .ok (.putfield 22, 3) := by decide +kernel
theorem dX1_becomeLike_16 : decode cX1_becomeLike 16 = .ok (.aload_n 1, 1) := by decide +kernel
theorem dX1_becomeLike_17 : decode cX1_becomeLike 17 = .ok (.getfield 9, 3) := by decide +kernel
theorem dX1_becomeLike_20 : decode cX1_becomeLike 20 = .ok (.iconst 0, 1) := by decide +kernel
theorem dX1_becomeLike_21 : decode cX1_becomeLike 21 = .ok (.aload_n 0, 1) := by decide +kernel
theorem dX1_becomeLike_22 : decode cX1_becomeLike 22 = .ok (.getfield 9, 3) := by decide +kernel
theorem dX1_becomeLike_25 : decode cX1_becomeLike 25 = .ok (.iconst 0, 1) := by decide +kernel
theorem dX1_becomeLike_26 : decode cX1_becomeLike 26 = .ok (.bipush 8, 2) := by decide +kernel
theorem dX1_becomeLike_28 : decode cX1_becomeLike 28 = .ok (.invokestatic 25, 3) := by decide +kernel
theorem dX1_becomeLike_31 : decode cX1_becomeLike 31 = .ok (.aload_n 1, 1) := by decide +kernel
theorem dX1_becomeLike_32 : decode cX1_becomeLike 32 = .ok (.getfield 15, 3) := by decide +kernel
theorem dX1_becomeLike_35 : decode cX1_becomeLike 35 = .ok (.iconst 0, 1) := by decide +kernel
theorem dX1_becomeLike_36 : decode cX1_becomeLike 36 = .ok (.aload_n 0, 1) := by decide +kernel
theorem dX1_becomeLike_37 : decode cX1_becomeLike 37 = .ok (.getfield 15, 3) := by decide +kernel
theorem dX1_becomeLike_40 : decode cX1_becomeLike 40 = .ok (.iconst 0, 1) := by decide +kernel
theorem dX1_becomeLike_41 : decode cX1_becomeLike 41 = .ok (.bipush 8, 2) := by decide +kernel
theorem dX1_becomeLike_43 : decode cX1_becomeLike 43 = .ok (.invokestatic 25, 3) := by decide +kernel
theorem dX1_becomeLike_46 : decode cX1_becomeLike 46 = .ok (.return_, 1) := by decide +kernel
theorem dX1_takes_0 : decode cX1_takes 0 = .ok (.aload_n 0, 1) := by decide +kernel
theorem dX1_takes_1 : decode cX1_takes 1 = .ok (.getfield 18, 3) := by decide +kernel
theorem dX1_takes_4 : decode cX1_takes 4 = .ok (.tableswitch 55 1 3 #[28, 39, 50], 28) := by decide +kernel
theorem dX1_takes_32 : decode cX1_takes 32 = .ok (.iload_n 1, 1) := by decide +kernel
theorem dX1_takes_33 : decode cX1_takes 33 = .ok (.iconst (-1), 1) := by decide +kernel
theorem dX1_takes_34 : decode cX1_takes 34 = .ok (.if_icmp .ne 7, 3) := by decide +kernel
theorem dX1_takes_37 : decode cX1_takes 37 = .ok (.iconst 1, 1) := by decide +kernel
theorem dX1_takes_38 : decode cX1_takes 38 = .ok (.goto 4, 3) := by decide +kernel
theorem dX1_takes_41 : decode cX1_takes 41 = .ok (.iconst 0, 1) := by decide +kernel
theorem dX1_takes_42 : decode cX1_takes 42 = .ok (.ireturn, 1) := by decide +kernel
theorem dX1_takes_43 : decode cX1_takes 43 = .ok (.iload_n 1, 1) := by decide +kernel
theorem dX1_takes_44 : decode cX1_takes 44 = .ok (.iconst (-1), 1) := by decide +kernel
theorem dX1_takes_45 : decode cX1_takes 45 = .ok (.if_icmp .eq 7, 3) := by decide +kernel
theorem dX1_takes_48 : decode cX1_takes 48 = .ok (.iconst 1, 1) := by decide +kernel
theorem dX1_takes_49 : decode cX1_takes 49 = .ok (.goto 4, 3) := by decide +kernel
theorem dX1_takes_52 : decode cX1_takes 52 = .ok (.iconst 0, 1) := by decide +kernel
theorem dX1_takes_53 : decode cX1_takes 53 = .ok (.ireturn, 1) := by decide +kernel
theorem dX1_takes_54 : decode cX1_takes 54 = .ok (.iload_n 1, 1) := by decide +kernel
theorem dX1_takes_55 : decode cX1_takes 55 = .ok (.invokestatic 31, 3) := by decide +kernel
theorem dX1_takes_58 : decode cX1_takes 58 = .ok (.ireturn, 1) := by decide +kernel
theorem dX1_takes_59 : decode cX1_takes 59 = .ok (.iconst 1, 1) := by decide +kernel
theorem dX1_takes_60 : decode cX1_takes 60 = .ok (.ireturn, 1) := by decide +kernel
theorem dX1_isEmptyAt_0 : decode cX1_isEmptyAt 0 = .ok (.aload_n 0, 1) := by decide +kernel
theorem dX1_isEmptyAt_1 : decode cX1_isEmptyAt 1 = .ok (.getfield 9, 3) := by decide +kernel
theorem dX1_isEmptyAt_4 : decode cX1_isEmptyAt 4 = .ok (.iload_n 1, 1) := by decide +kernel
theorem dX1_isEmptyAt_5 : decode cX1_isEmptyAt 5 = .ok (.iaload, 1) := by decide +kernel
theorem dX1_isEmptyAt_6 : decode cX1_isEmptyAt 6 = .ok (.iconst (-1), 1) := by decide +kernel
theorem dX1_isEmptyAt_7 : decode cX1_isEmptyAt 7 = .ok (.if_icmp .ne 7, 3) := by decide +kernel
theorem dX1_isEmptyAt_10 : decode cX1_isEmptyAt 10 = .ok (.iconst 1, 1) := by decide +kernel
theorem dX1_isEmptyAt_11 : decode cX1_isEmptyAt 11 = .ok (.goto 4, 3) := by decide +kernel
theorem dX1_isEmptyAt_14 : decode cX1_isEmptyAt 14 = .ok (.iconst 0, 1) := by decide +kernel
theorem dX1_isEmptyAt_15 : decode cX1_isEmptyAt 15 = .ok (.ireturn, 1) := by decide +kernel
theorem dX1_things_0 : decode cX1_things 0 = .ok (.iconst 0, 1) := by decide +kernel
theorem dX1_things_1 : decode cX1_things 1 = .ok (.istore_n 1, 1) := by decide +kernel
theorem dX1_things_2 : decode cX1_things 2 = .ok (.iconst 0, 1) := by decide +kernel
theorem dX1_things_3 : decode cX1_things 3 = .ok (.istore_n 2, 1) := by decide +kernel
theorem dX1_things_4 : decode cX1_things 4 = .ok (.iload_n 2, 1) := by decide +kernel
theorem dX1_things_5 : decode cX1_things 5 = .ok (.aload_n 0, 1) := by decide +kernel
theorem dX1_things_6 : decode cX1_things 6 = .ok (.getfield 22, 3) := by decide +kernel
theorem dX1_things_9 : decode cX1_things 9 = .ok (.if_icmp .ge 25, 3) := by decide +kernel
theorem dX1_things_12 : decode cX1_things 12 = .ok (.iload_n 1, 1) := by decide +kernel
theorem dX1_things_13 : decode cX1_things 13 = .ok (.aload_n 0, 1) := by decide +kernel
theorem dX1_things_14 : decode cX1_things 14 = .ok (.iload_n 2, 1) := by decide +kernel
theorem dX1_things_15 : decode cX1_things 15 = .ok (.invokevirtual 35, 3) := by decide +kernel
theorem dX1_things_18 : decode cX1_things 18 = .ok (.ifCond .eq 7, 3) := by decide +kernel
theorem dX1_things_21 : decode cX1_things 21 = .ok (.iconst 0, 1) := by decide +kernel
theorem dX1_things_22 : decode cX1_things 22 = .ok (.goto 4, 3) := by decide +kernel
theorem dX1_things_25 : decode cX1_things 25 = .ok (.iconst 1, 1) := by decide +kernel
theorem dX1_things_26 : decode cX1_things 26 = .ok (.iadd, 1) := by decide +kernel
theorem dX1_things_27 : decode cX1_things 27 = .ok (.istore_n 1, 1) := by decide +kernel
theorem dX1_things_28 : decode cX1_things 28 = .ok (.iinc 2 1, 3) := by decide +kernel
theorem dX1_things_31 : decode cX1_things 31 = .ok (.goto (-27), 3) := by decide +kernel
theorem dX1_things_34 : decode cX1_things 34 = .ok (.iload_n 1, 1) := by decide +kernel
theorem dX1_things_35 : decode cX1_things 35 = .ok (.ireturn, 1) := by decide +kernel
theorem dX2_init_0 : decode cX2_init 0 = .ok (.aload_n 0, 1) := by decide +kernel
theorem dX2_init_1 : decode cX2_init 1 = .ok (.invokespecial 3, 3) := by decide +kernel
theorem dX2_init_4 : decode cX2_init 4 = .ok (.aload_n 0, 1) := by decide +kernel
theorem dX2_init_5 : decode cX2_init 5 = .ok (.bipush 60, 2) := by decide +kernel
theorem dX2_init_7 : decode cX2_init 7 = .ok (.newarray .char, 2) := by decide +kernel
theorem dX2_init_9 : decode cX2_init 9 = .ok (.putfield 9, 3) := by decide +kernel
theorem dX2_init_12 : decode cX2_init 12 = .ok (.aload_n 0, 1) := by decide +kernel
theorem dX2_init_13 : decode cX2_init 13 = .ok (.bipush 60, 2) := by decide +kernel
theorem dX2_init_15 : decode cX2_init 15 = .ok (.newarray .char, 2) := by decide +kernel
theorem dX2_init_17 : decode cX2_init 17 = .ok (.putfield 15, 3) := by decide +kernel
theorem dX2_init_20 : decode cX2_init 20 = .ok (.aload_n 0, 1) := by decide +kernel
theorem dX2_init_21 : decode cX2_init 21 = .ok (.bipush 60, 2) := by decide +kernel
theorem dX2_init_23 : decode cX2_init 23 = .ok (.iconst 5, 1) := by decide +kernel
theorem dX2_init_24 : decode cX2_init 24 = .ok (.multianewarray 18 2, 4) := by decide +kernel
theorem dX2_init_28 : decode cX2_init 28 = .ok (.putfield 20, 3) := by decide +kernel
theorem dX2_init_31 : decode cX2_init 31 = .ok (.return_, 1) := by decide +kernel
theorem dX2_add_0 : decode cX2_add 0 = .ok (.aload_n 0, 1) := by decide +kernel
theorem dX2_add_1 : decode cX2_add 1 = .ok (.getfield 9, 3) := by decide +kernel
theorem dX2_add_4 : decode cX2_add 4 = .ok (.aload_n 0, 1) := by decide +kernel
theorem dX2_add_5 : decode cX2_add 5 = .ok (.getfield 23, 3) := by decide +kernel
theorem dX2_add_8 : decode cX2_add 8 = .ok (.iload_n 1, 1) := by decide +kernel
theorem dX2_add_9 : decode cX2_add 9 = .ok (.castore, 1) := by decide +kernel
theorem dX2_add_10 : decode cX2_add 10 = .ok (.aload_n 0, 1) := by decide +kernel
theorem dX2_add_11 : decode cX2_add 11 = .ok (.dup, 1) := by decide +kernel
theorem dX2_add_12 : decode cX2_add 12 = .ok (.getfield 23, 3) := by decide +kernel
theorem dX2_add_15 : decode cX2_add 15 = .ok (.iconst 1, 1) := by decide +kernel
theorem dX2_add_16 : decode cX2_add 16 = .ok (.iadd, 1) := by decide +kernel
theorem dX2_add_17 : decode cX2_add 17 = .ok (.putfield 23, 3) := by decide +kernel
theorem dX2_add_20 : decode cX2_add 20 = .ok (.return_, 1) := by decide +kernel
theorem dX2_parse_0 : decode cX2_parse 0 = .ok (.aload_n 0, 1) := by decide +kernel
theorem dX2_parse_1 : decode cX2_parse 1 = .ok (.iconst 0, 1) := by decide +kernel
theorem dX2_parse_2 : decode cX2_parse 2 = .ok (.putfield 27, 3) := by decide +kernel
theorem dX2_parse_5 : decode cX2_parse 5 = .ok (.aload_n 0, 1) := by decide +kernel
theorem dX2_parse_6 : decode cX2_parse 6 = .ok (.iconst 0, 1) := by decide +kernel
theorem dX2_parse_7 : decode cX2_parse 7 = .ok (.putfield 30, 3) := by decide +kernel
theorem dX2_parse_10 : decode cX2_parse 10 = .ok (.iconst 0, 1) := by decide +kernel
theorem dX2_parse_11 : decode cX2_parse 11 = .ok (.istore_n 1, 1) := by decide +kernel
theorem dX2_parse_12 : decode cX2_parse 12 = .ok (.iload_n 1, 1) := by decide +kernel
theorem dX2_parse_13 : decode cX2_parse 13 = .ok (.bipush 60, 2) := by decide +kernel
theorem dX2_parse_15 : decode cX2_parse 15 = .ok (.if_icmp .ge 49, 3) := by decide +kernel
theorem dX2_parse_18 : decode cX2_parse 18 = .ok (.aload_n 0, 1) := by decide +kernel
theorem dX2_parse_19 : decode cX2_parse 19 = .ok (.invokevirtual 33, 3) := by decide +kernel
theorem dX2_parse_22 : decode cX2_parse 22 = .ok (.ifCond .ne 8, 3) := by decide +kernel
theorem dX2_parse_25 : decode cX2_parse 25 = .ok (.aload_n 0, 1) := by decide +kernel
theorem dX2_parse_26 : decode cX2_parse 26 = .ok (.getfield 30, 3) := by decide +kernel
theorem dX2_parse_29 : decode cX2_parse 29 = .ok (.ireturn, 1) := by decide +kernel
theorem dX2_parse_30 : decode cX2_parse 30 = .ok (.aload_n 0, 1) := by decide +kernel
theorem dX2_parse_31 : decode cX2_parse 31 = .ok (.getfield 30, 3) := by decide +kernel
theorem dX2_parse_34 : decode cX2_parse 34 = .ok (.aload_n 0, 1) := by decide +kernel
theorem dX2_parse_35 : decode cX2_parse 35 = .ok (.getfield 23, 3) := by decide +kernel
theorem dX2_parse_38 : decode cX2_parse 38 = .ok (.if_icmp .lt 6, 3) := by decide +kernel
theorem dX2_parse_41 : decode cX2_parse 41 = .ok (.bipush (-7), 2) := by decide +kernel
theorem dX2_parse_43 : decode cX2_parse 43 = .ok (.ireturn, 1) := by decide +kernel
theorem dX2_parse_44 : decode cX2_parse 44 = .ok (.aload_n 0, 1) := by decide +kernel
theorem dX2_parse_45 : decode cX2_parse 45 = .ok (.bipush 59, 2) := by decide +kernel
theorem dX2_parse_47 : decode cX2_parse 47 = .ok (.invokevirtual 37, 3) := by decide +kernel
theorem dX2_parse_50 : decode cX2_parse 50 = .ok (.ifCond .ne 8, 3) := by decide +kernel
theorem dX2_parse_53 : decode cX2_parse 53 = .ok (.aload_n 0, 1) := by decide +kernel
theorem dX2_parse_54 : decode cX2_parse 54 = .ok (.getfield 30, 3) := by decide +kernel
theorem dX2_parse_57 : decode cX2_parse 57 = .ok (.ireturn, 1) := by decide +kernel
theorem dX2_parse_58 : decode cX2_parse 58 = .ok (.iinc 1 1, 3) := by decide +kernel
theorem dX2_parse_61 : decode cX2_parse 61 = .ok (.goto (-49), 3) := by decide +kernel
theorem dX2_parse_64 : decode cX2_parse 64 = .ok (.aload_n 0, 1) := by decide +kernel
theorem dX2_parse_65 : decode cX2_parse 65 = .ok (.getfield 30, 3) := by decide +kernel
theorem dX2_parse_68 : decode cX2_parse 68 = .ok (.ireturn, 1) := by decide +kernel
theorem dX2_parseCommand_0 : decode cX2_parseCommand 0 = .ok (.aload_n 0, 1) := by decide +kernel
theorem dX2_parseCommand_1 : decode cX2_parseCommand 1 = .ok (.getfield 30, 3) := by decide +kernel
theorem dX2_parseCommand_4 : decode cX2_parseCommand 4 = .ok (.aload_n 0, 1) := by decide +kernel
theorem dX2_parseCommand_5 : decode cX2_parseCommand 5 = .ok (.getfield 23, 3) := by decide +kernel
theorem dX2_parseCommand_8 : decode cX2_parseCommand 8 = .ok (.if_icmp .lt 5, 3) := by decide +kernel
theorem dX2_parseCommand_11 : decode cX2_parseCommand 11 = .ok (.iconst 0, 1) := by decide +kernel
theorem dX2_parseCommand_12 : decode cX2_parseCommand 12 = .ok (.ireturn, 1) := by decide +kernel
theorem dX2_parseCommand_13 : decode cX2_parseCommand 13 = .ok (.aload_n 0, 1) := by decide +kernel
theorem dX2_parseCommand_14 : decode cX2_parseCommand 14 = .ok (.getfield 9, 3) := by decide +kernel
theorem dX2_parseCommand_17 : decode cX2_parseCommand 17 = .ok (.aload_n 0, 1) := by decide +kernel
theorem dX2_parseCommand_18 : decode cX2_parseCommand 18 = .ok (.getfield 30, 3) := by decide +kernel
theorem dX2_parseCommand_21 : decode cX2_parseCommand 21 = .ok (.caload, 1) := by decide +kernel
theorem dX2_parseCommand_22 : decode cX2_parseCommand 22 = .ok (.istore_n 1, 1) := by decide +kernel
theorem dX2_parseCommand_23 : decode cX2_parseCommand 23 = .ok (.iload_n 1, 1) := by decide +kernel
theorem dX2_parseCommand_24 : decode cX2_parseCommand 24 = .ok (.invokestatic 41, 3) := by decide +kernel
theorem dX2_parseCommand_27 : decode cX2_parseCommand 27 = .ok (.astore_n 2, 1) := by decide +kernel
theorem dX2_parseCommand_28 : decode cX2_parseCommand 28 = .ok (.aload_n 2, 1) := by decide +kernel
theorem dX2_parseCommand_29 : decode cX2_parseCommand 29 = .ok (.invokevirtual 45, 3) := by decide +kernel
theorem dX2_parseCommand_32 : decode cX2_parseCommand 32 = .ok (.ifCond .eq 5, 3) := by decide +kernel
theorem dX2_parseCommand_35 : decode cX2_parseCommand 35 = .ok (.iconst 0, 1) := by decide +kernel
theorem dX2_parseCommand_36 : decode cX2_parseCommand 36 = .ok (.ireturn, 1) := by decide +kernel
theorem dX2_parseCommand_37 : decode cX2_parseCommand 37 = .ok (.aload_n 0, 1) := by decide +kernel
theorem dX2_parseCommand_38 : decode cX2_parseCommand 38 = .ok (.dup, 1) := by decide +kernel
theorem dX2_parseCommand_39 : decode cX2_parseCommand 39 = .ok (.getfield 30, 3) := by decide +kernel
theorem dX2_parseCommand_42 : decode cX2_parseCommand 42 = .ok (.iconst 1, 1) := by decide +kernel
theorem dX2_parseCommand_43 : decode cX2_parseCommand 43 = .ok (.iadd, 1) := by decide +kernel
theorem dX2_parseCommand_44 : decode cX2_parseCommand 44 = .ok (.putfield 30, 3) := by decide +kernel
theorem dX2_parseCommand_47 : decode cX2_parseCommand 47 = .ok (.aload_n 0, 1) := by decide +kernel
theorem dX2_parseCommand_48 : decode cX2_parseCommand 48 = .ok (.getfield 15, 3) := by decide +kernel
theorem dX2_parseCommand_51 : decode cX2_parseCommand 51 = .ok (.aload_n 0, 1) := by decide +kernel
theorem dX2_parseCommand_52 : decode cX2_parseCommand 52 = .ok (.getfield 27, 3) := by decide +kernel
theorem dX2_parseCommand_55 : decode cX2_parseCommand 55 = .ok (.iload_n 1, 1) := by decide +kernel
theorem dX2_parseCommand_56 : decode cX2_parseCommand 56 = .ok (.castore, 1) := by decide +kernel
theorem dX2_parseCommand_57 : decode cX2_parseCommand 57 = .ok (.iconst 0, 1) := by decide +kernel
theorem dX2_parseCommand_58 : decode cX2_parseCommand 58 = .ok (.istore_n 3, 1) := by decide +kernel
theorem dX2_parseCommand_59 : decode cX2_parseCommand 59 = .ok (.iconst 0, 1) := by decide +kernel
theorem dX2_parseCommand_60 : decode cX2_parseCommand 60 = .ok (.istore 4, 2) := by decide +kernel
theorem dX2_parseCommand_62 : decode cX2_parseCommand 62 = .ok (.iload 4, 2) := by decide +kernel
theorem dX2_parseCommand_64 : decode cX2_parseCommand 64 = .ok (.aload_n 2, 1) := by decide +kernel
theorem dX2_parseCommand_65 : decode cX2_parseCommand 65 = .ok (.invokevirtual 50, 3) := by decide +kernel
theorem dX2_parseCommand_68 : decode cX2_parseCommand 68 = .ok (.if_icmp .ge 83, 3) := by decide +kernel
theorem dX2_parseCommand_71 : decode cX2_parseCommand 71 = .ok (.aload_n 2, 1) := by decide +kernel
theorem dX2_parseCommand_72 : decode cX2_parseCommand 72 = .ok (.iload 4, 2) := by decide +kernel
theorem dX2_parseCommand_74 : decode cX2_parseCommand 74 = .ok (.invokevirtual 53, 3) := by decide +kernel
theorem dX2_parseCommand_77 : decode cX2_parseCommand 77 = .ok (.istore 5, 2) := by decide +kernel
theorem dX2_parseCommand_79 : decode cX2_parseCommand 79 = .ok (.iload 5, 2) := by decide +kernel
theorem dX2_parseCommand_81 : decode cX2_parseCommand 81 = .ok (.bipush 100, 2) := by decide +kernel
theorem dX2_parseCommand_83 : decode cX2_parseCommand 83 = .ok (.if_icmp .eq 21, 3) := by decide +kernel
theorem dX2_parseCommand_86 : decode cX2_parseCommand 86 = .ok (.iload 5, 2) := by decide +kernel
theorem dX2_parseCommand_88 : decode cX2_parseCommand 88 = .ok (.bipush 110, 2) := by decide +kernel
theorem dX2_parseCommand_90 : decode cX2_parseCommand 90 = .ok (.if_icmp .eq 14, 3) := by decide +kernel
theorem dX2_parseCommand_93 : decode cX2_parseCommand 93 = .ok (.aload_n 0, 1) := by decide +kernel
theorem dX2_parseCommand_94 : decode cX2_parseCommand 94 = .ok (.iload 5, 2) := by decide +kernel
theorem dX2_parseCommand_96 : decode cX2_parseCommand 96 = .ok (.invokevirtual 37, 3) := by decide +kernel
theorem dX2_parseCommand_99 : decode cX2_parseCommand 99 = .ok (.ifCond .ne 46, 3) := by decide +kernel
theorem dX2_parseCommand_102 : decode cX2_parseCommand 102 = .ok (.iconst 0, 1) := by decide +kernel
theorem dX2_parseCommand_103 : decode cX2_parseCommand 103 = .ok (.ireturn, 1) := by decide +kernel
theorem dX2_parseCommand_104 : decode cX2_parseCommand 104 = .ok (.aload_n 0, 1) := by decide +kernel
theorem dX2_parseCommand_105 : decode cX2_parseCommand 105 = .ok (.iload 5, 2) := by decide +kernel
theorem dX2_parseCommand_107 : decode cX2_parseCommand 107 = .ok (.bipush 100, 2) := by decide +kernel
theorem dX2_parseCommand_109 : decode cX2_parseCommand 109 = .ok (.if_icmp .ne 7, 3) := by decide +kernel
theorem dX2_parseCommand_112 : decode cX2_parseCommand 112 = .ok (.iconst 1, 1) := by decide +kernel
theorem dX2_parseCommand_113 : decode cX2_parseCommand 113 = .ok (.goto 4, 3) := by decide +kernel
theorem dX2_parseCommand_116 : decode cX2_parseCommand 116 = .ok (.iconst 4, 1) := by decide +kernel
theorem dX2_parseCommand_117 : decode cX2_parseCommand 117 = .ok (.invokevirtual 57, 3) := by decide +kernel
theorem dX2_parseCommand_120 : decode cX2_parseCommand 120 = .ok (.istore 6, 2) := by decide +kernel
theorem dX2_parseCommand_122 : decode cX2_parseCommand 122 = .ok (.iload 6, 2) := by decide +kernel
theorem dX2_parseCommand_124 : decode cX2_parseCommand 124 = .ok (.ifCond .ge 5, 3) := by decide +kernel
theorem dX2_parseCommand_127 : decode cX2_parseCommand 127 = .ok (.iconst 0, 1) := by decide +kernel
theorem dX2_parseCommand_128 : decode cX2_parseCommand 128 = .ok (.ireturn, 1) := by decide +kernel
theorem dX2_parseCommand_129 : decode cX2_parseCommand 129 = .ok (.aload_n 0, 1) := by decide +kernel
theorem dX2_parseCommand_130 : decode cX2_parseCommand 130 = .ok (.getfield 20, 3) := by decide +kernel
theorem dX2_parseCommand_133 : decode cX2_parseCommand 133 = .ok (.aload_n 0, 1) := by decide +kernel
theorem dX2_parseCommand_134 : decode cX2_parseCommand 134 = .ok (.getfield 27, 3) := by decide +kernel
theorem dX2_parseCommand_137 : decode cX2_parseCommand 137 = .ok (.aaload, 1) := by decide +kernel
theorem dX2_parseCommand_138 : decode cX2_parseCommand 138 = .ok (.iload_n 3, 1) := by decide +kernel
theorem dX2_parseCommand_139 : decode cX2_parseCommand 139 = .ok (.iload 6, 2) := by decide +kernel
theorem dX2_parseCommand_141 : decode cX2_parseCommand 141 = .ok (.iastore, 1) := by decide +kernel
theorem dX2_parseCommand_142 : decode cX2_parseCommand 142 = .ok (.iinc 3 1, 3) := by decide +kernel
theorem dX2_parseCommand_145 : decode cX2_parseCommand 145 = .ok (.iinc 4 1, 3) := by decide +kernel
theorem dX2_parseCommand_148 : decode cX2_parseCommand 148 = .ok (.goto (-86), 3) := by decide +kernel
theorem dX2_parseCommand_151 : decode cX2_parseCommand 151 = .ok (.aload_n 0, 1) := by decide +kernel
theorem dX2_parseCommand_152 : decode cX2_parseCommand 152 = .ok (.dup, 1) := by decide +kernel
theorem dX2_parseCommand_153 : decode cX2_parseCommand 153 = .ok (.getfield 27, 3) := by decide +kernel
theorem dX2_parseCommand_156 : decode cX2_parseCommand 156 = .ok (.iconst 1, 1) := by decide +kernel
theorem dX2_parseCommand_157 : decode cX2_parseCommand 157 = .ok (.iadd, 1) := by decide +kernel
theorem dX2_parseCommand_158 : decode cX2_parseCommand 158 = .ok (.putfield 27, 3) := by decide +kernel
theorem dX2_parseCommand_161 : decode cX2_parseCommand 161 = .ok (.iconst 1, 1) := by decide +kernel
theorem dX2_parseCommand_162 : decode cX2_parseCommand 162 = .ok (.ireturn, 1) := by decide +kernel
theorem dX2_formBehind_0 : decode cX2_formBehind 0 = .ok (.iload_n 0, 1) := by decide +kernel
theorem dX2_formBehind_1 : decode cX2_formBehind 1 = .ok (.tableswitch 124 98 119 #[115, 103, 124, 124, 124, 124, 124, 106, 124, 124, 118, 124, 124, 124, 124, 124, 121, 124, 112, 124, 124, 109], 103) := by decide +kernel
theorem dX2_formBehind_104 : decode cX2_formBehind 104 = .ok (.ldc 61, 2) := by decide +kernel
theorem dX2_formBehind_106 : decode cX2_formBehind 106 = .ok (.areturn, 1) := by decide +kernel
theorem dX2_formBehind_107 : decode cX2_formBehind 107 = .ok (.ldc 63, 2) := by decide +kernel
theorem dX2_formBehind_109 : decode cX2_formBehind 109 = .ok (.areturn, 1) := by decide +kernel
theorem dX2_formBehind_110 : decode cX2_formBehind 110 = .ok (.ldc 65, 2) := by decide +kernel
theorem dX2_formBehind_112 : decode cX2_formBehind 112 = .ok (.areturn, 1) := by decide +kernel
theorem dX2_formBehind_113 : decode cX2_formBehind 113 = .ok (.ldc 67, 2) := by decide +kernel
theorem dX2_formBehind_115 : decode cX2_formBehind 115 = .ok (.areturn, 1) := by decide +kernel
theorem dX2_formBehind_116 : decode cX2_formBehind 116 = .ok (.ldc 69, 2) := by decide +kernel
theorem dX2_formBehind_118 : decode cX2_formBehind 118 = .ok (.areturn, 1) := by decide +kernel
theorem dX2_formBehind_119 : decode cX2_formBehind 119 = .ok (.ldc 71, 2) := by decide +kernel
theorem dX2_formBehind_121 : decode cX2_formBehind 121 = .ok (.areturn, 1) := by decide +kernel
theorem dX2_formBehind_122 : decode cX2_formBehind 122 = .ok (.ldc 73, 2) := by decide +kernel
theorem dX2_formBehind_124 : decode cX2_formBehind 124 = .ok (.areturn, 1) := by decide +kernel
theorem dX2_formBehind_125 : decode cX2_formBehind 125 = .ok (.ldc 75, 2) := by decide +kernel
theorem dX2_formBehind_127 : decode cX2_formBehind 127 = .ok (.areturn, 1) := by decide +kernel
theorem dX2_accept_0 : decode cX2_accept 0 = .ok (.aload_n 0, 1) := by decide +kernel
theorem dX2_accept_1 : decode cX2_accept 1 = .ok (.getfield 30, 3) := by decide +kernel
theorem dX2_accept_4 : decode cX2_accept 4 = .ok (.aload_n 0, 1) := by decide +kernel
theorem dX2_accept_5 : decode cX2_accept 5 = .ok (.getfield 23, 3) := by decide +kernel
theorem dX2_accept_8 : decode cX2_accept 8 = .ok (.if_icmp .ge 28, 3) := by decide +kernel
theorem dX2_accept_11 : decode cX2_accept 11 = .ok (.aload_n 0, 1) := by decide +kernel
theorem dX2_accept_12 : decode cX2_accept 12 = .ok (.getfield 9, 3) := by decide +kernel
theorem dX2_accept_15 : decode cX2_accept 15 = .ok (.aload_n 0, 1) := by decide +kernel
theorem dX2_accept_16 : decode cX2_accept 16 = .ok (.getfield 30, 3) := by decide +kernel
theorem dX2_accept_19 : decode cX2_accept 19 = .ok (.caload, 1) := by decide +kernel
theorem dX2_accept_20 : decode cX2_accept 20 = .ok (.iload_n 1, 1) := by decide +kernel
theorem dX2_accept_21 : decode cX2_accept 21 = .ok (.if_icmp .ne 15, 3) := by decide +kernel
theorem dX2_accept_24 : decode cX2_accept 24 = .ok (.aload_n 0, 1) := by decide +kernel
theorem dX2_accept_25 : decode cX2_accept 25 = .ok (.dup, 1) := by decide +kernel
theorem dX2_accept_26 : decode cX2_accept 26 = .ok (.getfield 30, 3) := by decide +kernel
theorem dX2_accept_29 : decode cX2_accept 29 = .ok (.iconst 1, 1) := by decide +kernel
theorem dX2_accept_30 : decode cX2_accept 30 = .ok (.iadd, 1) := by decide +kernel
theorem dX2_accept_31 : decode cX2_accept 31 = .ok (.putfield 30, 3) := by decide +kernel
theorem dX2_accept_34 : decode cX2_accept 34 = .ok (.iconst 1, 1) := by decide +kernel
theorem dX2_accept_35 : decode cX2_accept 35 = .ok (.ireturn, 1) := by decide +kernel
theorem dX2_accept_36 : decode cX2_accept 36 = .ok (.iconst 0, 1) := by decide +kernel
theorem dX2_accept_37 : decode cX2_accept 37 = .ok (.ireturn, 1) := by decide +kernel
theorem dX2_parseNumber_0 : decode cX2_parseNumber 0 = .ok (.iconst (-1), 1) := by decide +kernel
theorem dX2_parseNumber_1 : decode cX2_parseNumber 1 = .ok (.istore_n 2, 1) := by decide +kernel
theorem dX2_parseNumber_2 : decode cX2_parseNumber 2 = .ok (.iconst 0, 1) := by decide +kernel
theorem dX2_parseNumber_3 : decode cX2_parseNumber 3 = .ok (.istore_n 3, 1) := by decide +kernel
theorem dX2_parseNumber_4 : decode cX2_parseNumber 4 = .ok (.iload_n 3, 1) := by decide +kernel
theorem dX2_parseNumber_5 : decode cX2_parseNumber 5 = .ok (.iload_n 1, 1) := by decide +kernel
theorem dX2_parseNumber_6 : decode cX2_parseNumber 6 = .ok (.if_icmp .ge 86, 3) := by decide +kernel
theorem dX2_parseNumber_9 : decode cX2_parseNumber 9 = .ok (.aload_n 0, 1) := by decide +kernel
theorem dX2_parseNumber_10 : decode cX2_parseNumber 10 = .ok (.getfield 30, 3) := by decide +kernel
theorem dX2_parseNumber_13 : decode cX2_parseNumber 13 = .ok (.aload_n 0, 1) := by decide +kernel
theorem dX2_parseNumber_14 : decode cX2_parseNumber 14 = .ok (.getfield 23, 3) := by decide +kernel
theorem dX2_parseNumber_17 : decode cX2_parseNumber 17 = .ok (.if_icmp .ge 31, 3) := by decide +kernel
theorem dX2_parseNumber_20 : decode cX2_parseNumber 20 = .ok (.aload_n 0, 1) := by decide +kernel
theorem dX2_parseNumber_21 : decode cX2_parseNumber 21 = .ok (.getfield 9, 3) := by decide +kernel
theorem dX2_parseNumber_24 : decode cX2_parseNumber 24 = .ok (.aload_n 0, 1) := by decide +kernel
theorem dX2_parseNumber_25 : decode cX2_parseNumber 25 = .ok (.getfield 30, 3) := by decide +kernel
theorem dX2_parseNumber_28 : decode cX2_parseNumber 28 = .ok (.caload, 1) := by decide +kernel
theorem dX2_parseNumber_29 : decode cX2_parseNumber 29 = .ok (.bipush 48, 2) := by decide +kernel
theorem dX2_parseNumber_31 : decode cX2_parseNumber 31 = .ok (.if_icmp .lt 17, 3) := by decide +kernel
theorem dX2_parseNumber_34 : decode cX2_parseNumber 34 = .ok (.aload_n 0, 1) := by decide +kernel
theorem dX2_parseNumber_35 : decode cX2_parseNumber 35 = .ok (.getfield 9, 3) := by decide +kernel
theorem dX2_parseNumber_38 : decode cX2_parseNumber 38 = .ok (.aload_n 0, 1) := by decide +kernel
theorem dX2_parseNumber_39 : decode cX2_parseNumber 39 = .ok (.getfield 30, 3) := by decide +kernel
theorem dX2_parseNumber_42 : decode cX2_parseNumber 42 = .ok (.caload, 1) := by decide +kernel
theorem dX2_parseNumber_43 : decode cX2_parseNumber 43 = .ok (.bipush 57, 2) := by decide +kernel
theorem dX2_parseNumber_45 : decode cX2_parseNumber 45 = .ok (.if_icmp .le 5, 3) := by decide +kernel
theorem dX2_parseNumber_48 : decode cX2_parseNumber 48 = .ok (.iload_n 2, 1) := by decide +kernel
theorem dX2_parseNumber_49 : decode cX2_parseNumber 49 = .ok (.ireturn, 1) := by decide +kernel
theorem dX2_parseNumber_50 : decode cX2_parseNumber 50 = .ok (.iload_n 2, 1) := by decide +kernel
theorem dX2_parseNumber_51 : decode cX2_parseNumber 51 = .ok (.ifCond .ge 7, 3) := by decide +kernel
theorem dX2_parseNumber_54 : decode cX2_parseNumber 54 = .ok (.iconst 0, 1) := by decide +kernel
theorem dX2_parseNumber_55 : decode cX2_parseNumber 55 = .ok (.goto 7, 3) := by decide +kernel
theorem dX2_parseNumber_58 : decode cX2_parseNumber 58 = .ok (.iload_n 2, 1) := by decide +kernel
theorem dX2_parseNumber_59 : decode cX2_parseNumber 59 = .ok (.bipush 10, 2) := by decide +kernel
theorem dX2_parseNumber_61 : decode cX2_parseNumber 61 = .ok (.imul, 1) := by decide +kernel
theorem dX2_parseNumber_62 : decode cX2_parseNumber 62 = .ok (.aload_n 0, 1) := by decide +kernel
theorem dX2_parseNumber_63 : decode cX2_parseNumber 63 = .ok (.getfield 9, 3) := by decide +kernel
theorem dX2_parseNumber_66 : decode cX2_parseNumber 66 = .ok (.aload_n 0, 1) := by decide +kernel
theorem dX2_parseNumber_67 : decode cX2_parseNumber 67 = .ok (.getfield 30, 3) := by decide +kernel
theorem dX2_parseNumber_70 : decode cX2_parseNumber 70 = .ok (.caload, 1) := by decide +kernel
theorem dX2_parseNumber_71 : decode cX2_parseNumber 71 = .ok (.iadd, 1) := by decide +kernel
theorem dX2_parseNumber_72 : decode cX2_parseNumber 72 = .ok (.bipush 48, 2) := by decide +kernel
theorem dX2_parseNumber_74 : decode cX2_parseNumber 74 = .ok (.isub, 1) := by decide +kernel
theorem dX2_parseNumber_75 : decode cX2_parseNumber 75 = .ok (.istore_n 2, 1) := by decide +kernel
theorem dX2_parseNumber_76 : decode cX2_parseNumber 76 = .ok (.aload_n 0, 1) := by decide +kernel
theorem dX2_parseNumber_77 : decode cX2_parseNumber 77 = .ok (.dup, 1) := by decide +kernel
theorem dX2_parseNumber_78 : decode cX2_parseNumber 78 = .ok (.getfield 30, 3) := by decide +kernel
theorem dX2_parseNumber_81 : decode cX2_parseNumber 81 = .ok (.iconst 1, 1) := by decide +kernel
theorem dX2_parseNumber_82 : decode cX2_parseNumber 82 = .ok (.iadd, 1) := by decide +kernel
theorem dX2_parseNumber_83 : decode cX2_parseNumber 83 = .ok (.putfield 30, 3) := by decide +kernel
theorem dX2_parseNumber_86 : decode cX2_parseNumber 86 = .ok (.iinc 3 1, 3) := by decide +kernel
theorem dX2_parseNumber_89 : decode cX2_parseNumber 89 = .ok (.goto (-85), 3) := by decide +kernel
theorem dX2_parseNumber_92 : decode cX2_parseNumber 92 = .ok (.iload_n 2, 1) := by decide +kernel
theorem dX2_parseNumber_93 : decode cX2_parseNumber 93 = .ok (.ireturn, 1) := by decide +kernel
theorem dX3_init_0 : decode cX3_init 0 = .ok (.aload_n 0, 1) := by decide +kernel
theorem dX3_init_1 : decode cX3_init 1 = .ok (.invokespecial 3, 3) := by decide +kernel
theorem dX3_init_4 : decode cX3_init 4 = .ok (.aload_n 0, 1) := by decide +kernel
theorem dX3_init_5 : decode cX3_init 5 = .ok (.sipush 198, 3) := by decide +kernel
theorem dX3_init_8 : decode cX3_init 8 = .ok (.newarray .int, 2) := by decide +kernel
theorem dX3_init_10 : decode cX3_init 10 = .ok (.putfield 11, 3) := by decide +kernel
theorem dX3_init_13 : decode cX3_init 13 = .ok (.aload_n 0, 1) := by decide +kernel
theorem dX3_init_14 : decode cX3_init 14 = .ok (.sipush 198, 3) := by decide +kernel
theorem dX3_init_17 : decode cX3_init 17 = .ok (.newarray .int, 2) := by decide +kernel
theorem dX3_init_19 : decode cX3_init 19 = .ok (.putfield 15, 3) := by decide +kernel
theorem dX3_init_22 : decode cX3_init 22 = .ok (.aload_n 0, 1) := by decide +kernel
theorem dX3_init_23 : decode cX3_init 23 = .ok (.sipush 198, 3) := by decide +kernel
theorem dX3_init_26 : decode cX3_init 26 = .ok (.newarray .int, 2) := by decide +kernel
theorem dX3_init_28 : decode cX3_init 28 = .ok (.putfield 18, 3) := by decide +kernel
theorem dX3_init_31 : decode cX3_init 31 = .ok (.aload_n 0, 1) := by decide +kernel
theorem dX3_init_32 : decode cX3_init 32 = .ok (.sipush 198, 3) := by decide +kernel
theorem dX3_init_35 : decode cX3_init 35 = .ok (.newarray .int, 2) := by decide +kernel
theorem dX3_init_37 : decode cX3_init 37 = .ok (.putfield 21, 3) := by decide +kernel
theorem dX3_init_40 : decode cX3_init 40 = .ok (.return_, 1) := by decide +kernel
theorem dX3_trace_0 : decode cX3_trace 0 = .ok (.aload_n 0, 1) := by decide +kernel
theorem dX3_trace_1 : decode cX3_trace 1 = .ok (.iconst 0, 1) := by decide +kernel
theorem dX3_trace_2 : decode cX3_trace 2 = .ok (.putfield 24, 3) := by decide +kernel
theorem dX3_trace_5 : decode cX3_trace 5 = .ok (.aload_n 0, 1) := by decide +kernel
theorem dX3_trace_6 : decode cX3_trace 6 = .ok (.iconst 0, 1) := by decide +kernel
theorem dX3_trace_7 : decode cX3_trace 7 = .ok (.putfield 28, 3) := by decide +kernel
theorem dX3_trace_10 : decode cX3_trace 10 = .ok (.aload_n 0, 1) := by decide +kernel
theorem dX3_trace_11 : decode cX3_trace 11 = .ok (.iconst 0, 1) := by decide +kernel
theorem dX3_trace_12 : decode cX3_trace 12 = .ok (.putfield 31, 3) := by decide +kernel
theorem dX3_trace_15 : decode cX3_trace 15 = .ok (.iconst 0, 1) := by decide +kernel
theorem dX3_trace_16 : decode cX3_trace 16 = .ok (.istore_n 3, 1) := by decide +kernel
theorem dX3_trace_17 : decode cX3_trace 17 = .ok (.iconst 1, 1) := by decide +kernel
theorem dX3_trace_18 : decode cX3_trace 18 = .ok (.istore 4, 2) := by decide +kernel
theorem dX3_trace_20 : decode cX3_trace 20 = .ok (.iload 4, 2) := by decide +kernel
theorem dX3_trace_22 : decode cX3_trace 22 = .ok (.aload_n 1, 1) := by decide +kernel
theorem dX3_trace_23 : decode cX3_trace 23 = .ok (.getfield 34, 3) := by decide +kernel
theorem dX3_trace_26 : decode cX3_trace 26 = .ok (.if_icmp .gt 89, 3) := by decide +kernel
theorem dX3_trace_29 : decode cX3_trace 29 = .ok (.aload_n 2, 1) := by decide +kernel
theorem dX3_trace_30 : decode cX3_trace 30 = .ok (.aload_n 1, 1) := by decide +kernel
theorem dX3_trace_31 : decode cX3_trace 31 = .ok (.getfield 39, 3) := by decide +kernel
theorem dX3_trace_34 : decode cX3_trace 34 = .ok (.iload 4, 2) := by decide +kernel
theorem dX3_trace_36 : decode cX3_trace 36 = .ok (.iaload, 1) := by decide +kernel
theorem dX3_trace_37 : decode cX3_trace 37 = .ok (.iload_n 3, 1) := by decide +kernel
theorem dX3_trace_38 : decode cX3_trace 38 = .ok (.iconst 1, 1) := by decide +kernel
theorem dX3_trace_39 : decode cX3_trace 39 = .ok (.iadd, 1) := by decide +kernel
theorem dX3_trace_40 : decode cX3_trace 40 = .ok (.invokevirtual 42, 3) := by decide +kernel
theorem dX3_trace_43 : decode cX3_trace 43 = .ok (.istore 5, 2) := by decide +kernel
theorem dX3_trace_45 : decode cX3_trace 45 = .ok (.iload 5, 2) := by decide +kernel
theorem dX3_trace_47 : decode cX3_trace 47 = .ok (.ifCond .ne 14, 3) := by decide +kernel
theorem dX3_trace_50 : decode cX3_trace 50 = .ok (.aload_n 0, 1) := by decide +kernel
theorem dX3_trace_51 : decode cX3_trace 51 = .ok (.iconst 1, 1) := by decide +kernel
theorem dX3_trace_52 : decode cX3_trace 52 = .ok (.iload 4, 2) := by decide +kernel
theorem dX3_trace_54 : decode cX3_trace 54 = .ok (.iload_n 3, 1) := by decide +kernel
theorem dX3_trace_55 : decode cX3_trace 55 = .ok (.invokevirtual 46, 3) := by decide +kernel
theorem dX3_trace_58 : decode cX3_trace 58 = .ok (.goto 51, 3) := by decide +kernel
theorem dX3_trace_61 : decode cX3_trace 61 = .ok (.aload_n 0, 1) := by decide +kernel
theorem dX3_trace_62 : decode cX3_trace 62 = .ok (.iload 4, 2) := by decide +kernel
theorem dX3_trace_64 : decode cX3_trace 64 = .ok (.iconst 1, 1) := by decide +kernel
theorem dX3_trace_65 : decode cX3_trace 65 = .ok (.isub, 1) := by decide +kernel
theorem dX3_trace_66 : decode cX3_trace 66 = .ok (.iload_n 3, 1) := by decide +kernel
theorem dX3_trace_67 : decode cX3_trace 67 = .ok (.iconst 1, 1) := by decide +kernel
theorem dX3_trace_68 : decode cX3_trace 68 = .ok (.iadd, 1) := by decide +kernel
theorem dX3_trace_69 : decode cX3_trace 69 = .ok (.iload 5, 2) := by decide +kernel
theorem dX3_trace_71 : decode cX3_trace 71 = .ok (.iconst 1, 1) := by decide +kernel
theorem dX3_trace_72 : decode cX3_trace 72 = .ok (.isub, 1) := by decide +kernel
theorem dX3_trace_73 : decode cX3_trace 73 = .ok (.invokevirtual 50, 3) := by decide +kernel
theorem dX3_trace_76 : decode cX3_trace 76 = .ok (.aload_n 0, 1) := by decide +kernel
theorem dX3_trace_77 : decode cX3_trace 77 = .ok (.aload_n 1, 1) := by decide +kernel
theorem dX3_trace_78 : decode cX3_trace 78 = .ok (.getfield 53, 3) := by decide +kernel
theorem dX3_trace_81 : decode cX3_trace 81 = .ok (.iload 4, 2) := by decide +kernel
theorem dX3_trace_83 : decode cX3_trace 83 = .ok (.iaload, 1) := by decide +kernel
theorem dX3_trace_84 : decode cX3_trace 84 = .ok (.aload_n 2, 1) := by decide +kernel
theorem dX3_trace_85 : decode cX3_trace 85 = .ok (.getfield 53, 3) := by decide +kernel
theorem dX3_trace_88 : decode cX3_trace 88 = .ok (.iload 5, 2) := by decide +kernel
theorem dX3_trace_90 : decode cX3_trace 90 = .ok (.iaload, 1) := by decide +kernel
theorem dX3_trace_91 : decode cX3_trace 91 = .ok (.if_icmp .ne 7, 3) := by decide +kernel
theorem dX3_trace_94 : decode cX3_trace 94 = .ok (.iconst 1, 1) := by decide +kernel
theorem dX3_trace_95 : decode cX3_trace 95 = .ok (.goto 4, 3) := by decide +kernel
theorem dX3_trace_98 : decode cX3_trace 98 = .ok (.iconst 0, 1) := by decide +kernel
theorem dX3_trace_99 : decode cX3_trace 99 = .ok (.iload 4, 2) := by decide +kernel
theorem dX3_trace_101 : decode cX3_trace 101 = .ok (.iload 5, 2) := by decide +kernel
theorem dX3_trace_103 : decode cX3_trace 103 = .ok (.invokevirtual 56, 3) := by decide +kernel
theorem dX3_trace_106 : decode cX3_trace 106 = .ok (.iload 5, 2) := by decide +kernel
theorem dX3_trace_108 : decode cX3_trace 108 = .ok (.istore_n 3, 1) := by decide +kernel
theorem dX3_trace_109 : decode cX3_trace 109 = .ok (.iinc 4 1, 3) := by decide +kernel
theorem dX3_trace_112 : decode cX3_trace 112 = .ok (.goto (-92), 3) := by decide +kernel
theorem dX3_trace_115 : decode cX3_trace 115 = .ok (.aload_n 0, 1) := by decide +kernel
theorem dX3_trace_116 : decode cX3_trace 116 = .ok (.aload_n 1, 1) := by decide +kernel
theorem dX3_trace_117 : decode cX3_trace 117 = .ok (.getfield 34, 3) := by decide +kernel
theorem dX3_trace_120 : decode cX3_trace 120 = .ok (.iload_n 3, 1) := by decide +kernel
theorem dX3_trace_121 : decode cX3_trace 121 = .ok (.iconst 1, 1) := by decide +kernel
theorem dX3_trace_122 : decode cX3_trace 122 = .ok (.iadd, 1) := by decide +kernel
theorem dX3_trace_123 : decode cX3_trace 123 = .ok (.aload_n 2, 1) := by decide +kernel
theorem dX3_trace_124 : decode cX3_trace 124 = .ok (.getfield 34, 3) := by decide +kernel
theorem dX3_trace_127 : decode cX3_trace 127 = .ok (.invokevirtual 50, 3) := by decide +kernel
theorem dX3_trace_130 : decode cX3_trace 130 = .ok (.return_, 1) := by decide +kernel
theorem dX3_addGap_0 : decode cX3_addGap 0 = .ok (.iload_n 2, 1) := by decide +kernel
theorem dX3_addGap_1 : decode cX3_addGap 1 = .ok (.iload_n 3, 1) := by decide +kernel
theorem dX3_addGap_2 : decode cX3_addGap 2 = .ok (.if_icmp .gt 15, 3) := by decide +kernel
theorem dX3_addGap_5 : decode cX3_addGap 5 = .ok (.aload_n 0, 1) := by decide +kernel
theorem dX3_addGap_6 : decode cX3_addGap 6 = .ok (.iconst 2, 1) := by decide +kernel
theorem dX3_addGap_7 : decode cX3_addGap 7 = .ok (.iload_n 1, 1) := by decide +kernel
theorem dX3_addGap_8 : decode cX3_addGap 8 = .ok (.iload_n 2, 1) := by decide +kernel
theorem dX3_addGap_9 : decode cX3_addGap 9 = .ok (.iload_n 3, 1) := by decide +kernel
theorem dX3_addGap_10 : decode cX3_addGap 10 = .ok (.iload_n 2, 1) := by decide +kernel
theorem dX3_addGap_11 : decode cX3_addGap 11 = .ok (.isub, 1) := by decide +kernel
theorem dX3_addGap_12 : decode cX3_addGap 12 = .ok (.iconst 1, 1) := by decide +kernel
theorem dX3_addGap_13 : decode cX3_addGap 13 = .ok (.iadd, 1) := by decide +kernel
theorem dX3_addGap_14 : decode cX3_addGap 14 = .ok (.invokevirtual 60, 3) := by decide +kernel
theorem dX3_addGap_17 : decode cX3_addGap 17 = .ok (.return_, 1) := by decide +kernel
theorem dX3_addFacing_0 : decode cX3_addFacing 0 = .ok (.aload_n 0, 1) := by decide +kernel
theorem dX3_addFacing_1 : decode cX3_addFacing 1 = .ok (.dup, 1) := by decide +kernel
theorem dX3_addFacing_2 : decode cX3_addFacing 2 = .ok (.getfield 24, 3) := by decide +kernel
theorem dX3_addFacing_5 : decode cX3_addFacing 5 = .ok (.iconst 1, 1) := by decide +kernel
theorem dX3_addFacing_6 : decode cX3_addFacing 6 = .ok (.iadd, 1) := by decide +kernel
theorem dX3_addFacing_7 : decode cX3_addFacing 7 = .ok (.putfield 24, 3) := by decide +kernel
theorem dX3_addFacing_10 : decode cX3_addFacing 10 = .ok (.iload_n 1, 1) := by decide +kernel
theorem dX3_addFacing_11 : decode cX3_addFacing 11 = .ok (.ifCond .eq 16, 3) := by decide +kernel
theorem dX3_addFacing_14 : decode cX3_addFacing 14 = .ok (.aload_n 0, 1) := by decide +kernel
theorem dX3_addFacing_15 : decode cX3_addFacing 15 = .ok (.dup, 1) := by decide +kernel
theorem dX3_addFacing_16 : decode cX3_addFacing 16 = .ok (.getfield 28, 3) := by decide +kernel
theorem dX3_addFacing_19 : decode cX3_addFacing 19 = .ok (.iconst 1, 1) := by decide +kernel
theorem dX3_addFacing_20 : decode cX3_addFacing 20 = .ok (.iadd, 1) := by decide +kernel
theorem dX3_addFacing_21 : decode cX3_addFacing 21 = .ok (.putfield 28, 3) := by decide +kernel
theorem dX3_addFacing_24 : decode cX3_addFacing 24 = .ok (.goto 10, 3) := by decide +kernel
theorem dX3_addFacing_27 : decode cX3_addFacing 27 = .ok (.aload_n 0, 1) := by decide +kernel
theorem dX3_addFacing_28 : decode cX3_addFacing 28 = .ok (.iconst 3, 1) := by decide +kernel
theorem dX3_addFacing_29 : decode cX3_addFacing 29 = .ok (.iload_n 2, 1) := by decide +kernel
theorem dX3_addFacing_30 : decode cX3_addFacing 30 = .ok (.iload_n 3, 1) := by decide +kernel
theorem dX3_addFacing_31 : decode cX3_addFacing 31 = .ok (.invokevirtual 46, 3) := by decide +kernel
theorem dX3_addFacing_34 : decode cX3_addFacing 34 = .ok (.return_, 1) := by decide +kernel
theorem dX3_extendOrBegin_0 : decode cX3_extendOrBegin 0 = .ok (.aload_n 0, 1) := by decide +kernel
theorem dX3_extendOrBegin_1 : decode cX3_extendOrBegin 1 = .ok (.getfield 31, 3) := by decide +kernel
theorem dX3_extendOrBegin_4 : decode cX3_extendOrBegin 4 = .ok (.iconst 1, 1) := by decide +kernel
theorem dX3_extendOrBegin_5 : decode cX3_extendOrBegin 5 = .ok (.isub, 1) := by decide +kernel
theorem dX3_extendOrBegin_6 : decode cX3_extendOrBegin 6 = .ok (.istore 4, 2) := by decide +kernel
theorem dX3_extendOrBegin_8 : decode cX3_extendOrBegin 8 = .ok (.iload 4, 2) := by decide +kernel
theorem dX3_extendOrBegin_10 : decode cX3_extendOrBegin 10 = .ok (.ifCond .lt 47, 3) := by decide +kernel
theorem dX3_extendOrBegin_13 : decode cX3_extendOrBegin 13 = .ok (.aload_n 0, 1) := by decide +kernel
theorem dX3_extendOrBegin_14 : decode cX3_extendOrBegin 14 = .ok (.getfield 11, 3) := by decide +kernel
theorem dX3_extendOrBegin_17 : decode cX3_extendOrBegin 17 = .ok (.iload 4, 2) := by decide +kernel
theorem dX3_extendOrBegin_19 : decode cX3_extendOrBegin 19 = .ok (.iaload, 1) := by decide +kernel
theorem dX3_extendOrBegin_20 : decode cX3_extendOrBegin 20 = .ok (.iload_n 1, 1) := by decide +kernel
theorem dX3_extendOrBegin_21 : decode cX3_extendOrBegin 21 = .ok (.if_icmp .ne 36, 3) := by decide +kernel
theorem dX3_extendOrBegin_24 : decode cX3_extendOrBegin 24 = .ok (.aload_n 0, 1) := by decide +kernel
theorem dX3_extendOrBegin_25 : decode cX3_extendOrBegin 25 = .ok (.getfield 15, 3) := by decide +kernel
theorem dX3_extendOrBegin_28 : decode cX3_extendOrBegin 28 = .ok (.iload 4, 2) := by decide +kernel
theorem dX3_extendOrBegin_30 : decode cX3_extendOrBegin 30 = .ok (.iaload, 1) := by decide +kernel
theorem dX3_extendOrBegin_31 : decode cX3_extendOrBegin 31 = .ok (.aload_n 0, 1) := by decide +kernel
theorem dX3_extendOrBegin_32 : decode cX3_extendOrBegin 32 = .ok (.getfield 21, 3) := by decide +kernel
theorem dX3_extendOrBegin_35 : decode cX3_extendOrBegin 35 = .ok (.iload 4, 2) := by decide +kernel
theorem dX3_extendOrBegin_37 : decode cX3_extendOrBegin 37 = .ok (.iaload, 1) := by decide +kernel
theorem dX3_extendOrBegin_38 : decode cX3_extendOrBegin 38 = .ok (.iadd, 1) := by decide +kernel
theorem dX3_extendOrBegin_39 : decode cX3_extendOrBegin 39 = .ok (.iload_n 2, 1) := by decide +kernel
theorem dX3_extendOrBegin_40 : decode cX3_extendOrBegin 40 = .ok (.if_icmp .ne 17, 3) := by decide +kernel
theorem dX3_extendOrBegin_43 : decode cX3_extendOrBegin 43 = .ok (.aload_n 0, 1) := by decide +kernel
theorem dX3_extendOrBegin_44 : decode cX3_extendOrBegin 44 = .ok (.getfield 21, 3) := by decide +kernel
theorem dX3_extendOrBegin_47 : decode cX3_extendOrBegin 47 = .ok (.iload 4, 2) := by decide +kernel
theorem dX3_extendOrBegin_49 : decode cX3_extendOrBegin 49 = .ok (.dup2, 1) := by decide +kernel
theorem dX3_extendOrBegin_50 : decode cX3_extendOrBegin 50 = .ok (.iaload, 1) := by decide +kernel
theorem dX3_extendOrBegin_51 : decode cX3_extendOrBegin 51 = .ok (.iconst 1, 1) := by decide +kernel
theorem dX3_extendOrBegin_52 : decode cX3_extendOrBegin 52 = .ok (.iadd, 1) := by decide +kernel
theorem dX3_extendOrBegin_53 : decode cX3_extendOrBegin 53 = .ok (.iastore, 1) := by decide +kernel
theorem dX3_extendOrBegin_54 : decode cX3_extendOrBegin 54 = .ok (.goto 11, 3) := by decide +kernel
theorem dX3_extendOrBegin_57 : decode cX3_extendOrBegin 57 = .ok (.aload_n 0, 1) := by decide +kernel
theorem dX3_extendOrBegin_58 : decode cX3_extendOrBegin 58 = .ok (.iload_n 1, 1) := by decide +kernel
theorem dX3_extendOrBegin_59 : decode cX3_extendOrBegin 59 = .ok (.iload_n 2, 1) := by decide +kernel
theorem dX3_extendOrBegin_60 : decode cX3_extendOrBegin 60 = .ok (.iload_n 3, 1) := by decide +kernel
theorem dX3_extendOrBegin_61 : decode cX3_extendOrBegin 61 = .ok (.iconst 1, 1) := by decide +kernel
theorem dX3_extendOrBegin_62 : decode cX3_extendOrBegin 62 = .ok (.invokevirtual 60, 3) := by decide +kernel
theorem dX3_extendOrBegin_65 : decode cX3_extendOrBegin 65 = .ok (.return_, 1) := by decide +kernel
theorem dX3_begin_0 : decode cX3_begin 0 = .ok (.aload_n 0, 1) := by decide +kernel
theorem dX3_begin_1 : decode cX3_begin 1 = .ok (.getfield 31, 3) := by decide +kernel
theorem dX3_begin_4 : decode cX3_begin 4 = .ok (.sipush 198, 3) := by decide +kernel
theorem dX3_begin_7 : decode cX3_begin 7 = .ok (.if_icmp .ge 54, 3) := by decide +kernel
theorem dX3_begin_10 : decode cX3_begin 10 = .ok (.aload_n 0, 1) := by decide +kernel
theorem dX3_begin_11 : decode cX3_begin 11 = .ok (.getfield 11, 3) := by decide +kernel
theorem dX3_begin_14 : decode cX3_begin 14 = .ok (.aload_n 0, 1) := by decide +kernel
theorem dX3_begin_15 : decode cX3_begin 15 = .ok (.getfield 31, 3) := by decide +kernel
theorem dX3_begin_18 : decode cX3_begin 18 = .ok (.iload_n 1, 1) := by decide +kernel
theorem dX3_begin_19 : decode cX3_begin 19 = .ok (.iastore, 1) := by decide +kernel
theorem dX3_begin_20 : decode cX3_begin 20 = .ok (.aload_n 0, 1) := by decide +kernel
theorem dX3_begin_21 : decode cX3_begin 21 = .ok (.getfield 15, 3) := by decide +kernel
theorem dX3_begin_24 : decode cX3_begin 24 = .ok (.aload_n 0, 1) := by decide +kernel
theorem dX3_begin_25 : decode cX3_begin 25 = .ok (.getfield 31, 3) := by decide +kernel
theorem dX3_begin_28 : decode cX3_begin 28 = .ok (.iload_n 2, 1) := by decide +kernel
theorem dX3_begin_29 : decode cX3_begin 29 = .ok (.iastore, 1) := by decide +kernel
theorem dX3_begin_30 : decode cX3_begin 30 = .ok (.aload_n 0, 1) := by decide +kernel
theorem dX3_begin_31 : decode cX3_begin 31 = .ok (.getfield 18, 3) := by decide +kernel
theorem dX3_begin_34 : decode cX3_begin 34 = .ok (.aload_n 0, 1) := by decide +kernel
theorem dX3_begin_35 : decode cX3_begin 35 = .ok (.getfield 31, 3) := by decide +kernel
theorem dX3_begin_38 : decode cX3_begin 38 = .ok (.iload_n 3, 1) := by decide +kernel
theorem dX3_begin_39 : decode cX3_begin 39 = .ok (.iastore, 1) := by decide +kernel
theorem dX3_begin_40 : decode cX3_begin 40 = .ok (.aload_n 0, 1) := by decide +kernel
theorem dX3_begin_41 : decode cX3_begin 41 = .ok (.getfield 21, 3) := by decide +kernel
theorem dX3_begin_44 : decode cX3_begin 44 = .ok (.aload_n 0, 1) := by decide +kernel
theorem dX3_begin_45 : decode cX3_begin 45 = .ok (.getfield 31, 3) := by decide +kernel
theorem dX3_begin_48 : decode cX3_begin 48 = .ok (.iload 4, 2) := by decide +kernel
theorem dX3_begin_50 : decode cX3_begin 50 = .ok (.iastore, 1) := by decide +kernel
theorem dX3_begin_51 : decode cX3_begin 51 = .ok (.aload_n 0, 1) := by decide +kernel
theorem dX3_begin_52 : decode cX3_begin 52 = .ok (.dup, 1) := by decide +kernel
theorem dX3_begin_53 : decode cX3_begin 53 = .ok (.getfield 31, 3) := by decide +kernel
theorem dX3_begin_56 : decode cX3_begin 56 = .ok (.iconst 1, 1) := by decide +kernel
theorem dX3_begin_57 : decode cX3_begin 57 = .ok (.iadd, 1) := by decide +kernel
theorem dX3_begin_58 : decode cX3_begin 58 = .ok (.putfield 31, 3) := by decide +kernel
theorem dX3_begin_61 : decode cX3_begin 61 = .ok (.return_, 1) := by decide +kernel
theorem dX4_init_0 : decode cX4_init 0 = .ok (.aload_n 0, 1) := by decide +kernel
theorem dX4_init_1 : decode cX4_init 1 = .ok (.invokespecial 3, 3) := by decide +kernel
theorem dX4_init_4 : decode cX4_init 4 = .ok (.aload_n 0, 1) := by decide +kernel
theorem dX4_init_5 : decode cX4_init 5 = .ok (.bipush (-7), 2) := by decide +kernel
theorem dX4_init_7 : decode cX4_init 7 = .ok (.putfield 9, 3) := by decide +kernel
theorem dX4_init_10 : decode cX4_init 10 = .ok (.aload_n 0, 1) := by decide +kernel
theorem dX4_init_11 : decode cX4_init 11 = .ok (.bipush 100, 2) := by decide +kernel
theorem dX4_init_13 : decode cX4_init 13 = .ok (.newarray .int, 2) := by decide +kernel
theorem dX4_init_15 : decode cX4_init 15 = .ok (.putfield 15, 3) := by decide +kernel
theorem dX4_init_18 : decode cX4_init 18 = .ok (.aload_n 0, 1) := by decide +kernel
theorem dX4_init_19 : decode cX4_init 19 = .ok (.bipush 100, 2) := by decide +kernel
theorem dX4_init_21 : decode cX4_init 21 = .ok (.newarray .int, 2) := by decide +kernel
theorem dX4_init_23 : decode cX4_init 23 = .ok (.putfield 19, 3) := by decide +kernel
theorem dX4_init_26 : decode cX4_init 26 = .ok (.aload_n 0, 1) := by decide +kernel
theorem dX4_init_27 : decode cX4_init 27 = .ok (.bipush 100, 2) := by decide +kernel
theorem dX4_init_29 : decode cX4_init 29 = .ok (.newarray .int, 2) := by decide +kernel
theorem dX4_init_31 : decode cX4_init 31 = .ok (.putfield 22, 3) := by decide +kernel
theorem dX4_init_34 : decode cX4_init 34 = .ok (.aload_n 0, 1) := by decide +kernel
theorem dX4_init_35 : decode cX4_init 35 = .ok (.bipush 100, 2) := by decide +kernel
theorem dX4_init_37 : decode cX4_init 37 = .ok (.newarray .int, 2) := by decide +kernel
theorem dX4_init_39 : decode cX4_init 39 = .ok (.putfield 25, 3) := by decide +kernel
theorem dX4_init_42 : decode cX4_init 42 = .ok (.aload_n 0, 1) := by decide +kernel
theorem dX4_init_43 : decode cX4_init 43 = .ok (.iconst 4, 1) := by decide +kernel
theorem dX4_init_44 : decode cX4_init 44 = .ok (.bipush 100, 2) := by decide +kernel
theorem dX4_init_46 : decode cX4_init 46 = .ok (.multianewarray 28 2, 4) := by decide +kernel
theorem dX4_init_50 : decode cX4_init 50 = .ok (.putfield 30, 3) := by decide +kernel
theorem dX4_init_53 : decode cX4_init 53 = .ok (.aload_n 0, 1) := by decide +kernel
theorem dX4_init_54 : decode cX4_init 54 = .ok (.bipush 6, 2) := by decide +kernel
theorem dX4_init_56 : decode cX4_init 56 = .ok (.newarray .int, 2) := by decide +kernel
theorem dX4_init_58 : decode cX4_init 58 = .ok (.putfield 33, 3) := by decide +kernel
theorem dX4_init_61 : decode cX4_init 61 = .ok (.aload_n 0, 1) := by decide +kernel
theorem dX4_init_62 : decode cX4_init 62 = .ok (.bipush 6, 2) := by decide +kernel
theorem dX4_init_64 : decode cX4_init 64 = .ok (.newarray .int, 2) := by decide +kernel
theorem dX4_init_66 : decode cX4_init 66 = .ok (.putfield 36, 3) := by decide +kernel
theorem dX4_init_69 : decode cX4_init 69 = .ok (.aload_n 0, 1) := by decide +kernel
theorem dX4_init_70 : decode cX4_init 70 = .ok (.bipush 6, 2) := by decide +kernel
theorem dX4_init_72 : decode cX4_init 72 = .ok (.newarray .int, 2) := by decide +kernel
theorem dX4_init_74 : decode cX4_init 74 = .ok (.putfield 39, 3) := by decide +kernel
theorem dX4_init_77 : decode cX4_init 77 = .ok (.return_, 1) := by decide +kernel
theorem dX4_becomeFirst_0 : decode cX4_becomeFirst 0 = .ok (.aload_n 0, 1) := by decide +kernel
theorem dX4_becomeFirst_1 : decode cX4_becomeFirst 1 = .ok (.iload_n 1, 1) := by decide +kernel
theorem dX4_becomeFirst_2 : decode cX4_becomeFirst 2 = .ok (.putfield 42, 3) := by decide +kernel
theorem dX4_becomeFirst_5 : decode cX4_becomeFirst 5 = .ok (.aload_n 0, 1) := by decide +kernel
theorem dX4_becomeFirst_6 : decode cX4_becomeFirst 6 = .ok (.bipush (-7), 2) := by decide +kernel
theorem dX4_becomeFirst_8 : decode cX4_becomeFirst 8 = .ok (.putfield 9, 3) := by decide +kernel
theorem dX4_becomeFirst_11 : decode cX4_becomeFirst 11 = .ok (.aload_n 0, 1) := by decide +kernel
theorem dX4_becomeFirst_12 : decode cX4_becomeFirst 12 = .ok (.iload_n 2, 1) := by decide +kernel
theorem dX4_becomeFirst_13 : decode cX4_becomeFirst 13 = .ok (.putfield 45, 3) := by decide +kernel
theorem dX4_becomeFirst_16 : decode cX4_becomeFirst 16 = .ok (.aload_n 0, 1) := by decide +kernel
theorem dX4_becomeFirst_17 : decode cX4_becomeFirst 17 = .ok (.iconst 1, 1) := by decide +kernel
theorem dX4_becomeFirst_18 : decode cX4_becomeFirst 18 = .ok (.iload_n 2, 1) := by decide +kernel
theorem dX4_becomeFirst_19 : decode cX4_becomeFirst 19 = .ok (.iload_n 3, 1) := by decide +kernel
theorem dX4_becomeFirst_20 : decode cX4_becomeFirst 20 = .ok (.iconst 1, 1) := by decide +kernel
theorem dX4_becomeFirst_21 : decode cX4_becomeFirst 21 = .ok (.invokevirtual 48, 3) := by decide +kernel
theorem dX4_becomeFirst_24 : decode cX4_becomeFirst 24 = .ok (.aload_n 0, 1) := by decide +kernel
theorem dX4_becomeFirst_25 : decode cX4_becomeFirst 25 = .ok (.invokevirtual 52, 3) := by decide +kernel
theorem dX4_becomeFirst_28 : decode cX4_becomeFirst 28 = .ok (.return_, 1) := by decide +kernel
theorem dX4_becomeCopy_0 : decode cX4_becomeCopy 0 = .ok (.aload_n 0, 1) := by decide +kernel
theorem dX4_becomeCopy_1 : decode cX4_becomeCopy 1 = .ok (.aload_n 1, 1) := by decide +kernel
theorem dX4_becomeCopy_2 : decode cX4_becomeCopy 2 = .ok (.invokevirtual 55, 3) := by decide +kernel
theorem dX4_becomeCopy_5 : decode cX4_becomeCopy 5 = .ok (.aload_n 0, 1) := by decide +kernel
theorem dX4_becomeCopy_6 : decode cX4_becomeCopy 6 = .ok (.iload_n 2, 1) := by decide +kernel
theorem dX4_becomeCopy_7 : decode cX4_becomeCopy 7 = .ok (.putfield 9, 3) := by decide +kernel
theorem dX4_becomeCopy_10 : decode cX4_becomeCopy 10 = .ok (.aload_n 0, 1) := by decide +kernel
theorem dX4_becomeCopy_11 : decode cX4_becomeCopy 11 = .ok (.invokevirtual 52, 3) := by decide +kernel
theorem dX4_becomeCopy_14 : decode cX4_becomeCopy 14 = .ok (.return_, 1) := by decide +kernel
theorem dX4_becomeLike_0 : decode cX4_becomeLike 0 = .ok (.aload_n 0, 1) := by decide +kernel
theorem dX4_becomeLike_1 : decode cX4_becomeLike 1 = .ok (.aload_n 1, 1) := by decide +kernel
theorem dX4_becomeLike_2 : decode cX4_becomeLike 2 = .ok (.getfield 42, 3) := by decide +kernel
theorem dX4_becomeLike_5 : decode cX4_becomeLike 5 = .ok (.putfield 42, 3) := by decide +kernel
theorem dX4_becomeLike_8 : decode cX4_becomeLike 8 = .ok (.aload_n 0, 1) := by decide +kernel
theorem dX4_becomeLike_9 : decode cX4_becomeLike 9 = .ok (.aload_n 1, 1) := by decide +kernel
theorem dX4_becomeLike_10 : decode cX4_becomeLike 10 = .ok (.getfield 9, 3) := by decide +kernel
theorem dX4_becomeLike_13 : decode cX4_becomeLike 13 = .ok (.putfield 9, 3) := by decide +kernel
theorem dX4_becomeLike_16 : decode cX4_becomeLike 16 = .ok (.aload_n 0, 1) := by decide +kernel
theorem dX4_becomeLike_17 : decode cX4_becomeLike 17 = .ok (.aload_n 1, 1) := by decide +kernel
theorem dX4_becomeLike_18 : decode cX4_becomeLike 18 = .ok (.getfield 45, 3) := by decide +kernel
theorem dX4_becomeLike_21 : decode cX4_becomeLike 21 = .ok (.putfield 45, 3) := by decide +kernel
theorem dX4_becomeLike_24 : decode cX4_becomeLike 24 = .ok (.aload_n 0, 1) := by decide +kernel
theorem dX4_becomeLike_25 : decode cX4_becomeLike 25 = .ok (.aload_n 1, 1) := by decide +kernel
theorem dX4_becomeLike_26 : decode cX4_becomeLike 26 = .ok (.getfield 15, 3) := by decide +kernel
theorem dX4_becomeLike_29 : decode cX4_becomeLike 29 = .ok (.aload_n 0, 1) := by decide +kernel
theorem dX4_becomeLike_30 : decode cX4_becomeLike 30 = .ok (.getfield 15, 3) := by decide +kernel
theorem dX4_becomeLike_33 : decode cX4_becomeLike 33 = .ok (.invokevirtual 59, 3) := by decide +kernel
theorem dX4_becomeLike_36 : decode cX4_becomeLike 36 = .ok (.aload_n 0, 1) := by decide +kernel
theorem dX4_becomeLike_37 : decode cX4_becomeLike 37 = .ok (.aload_n 1, 1) := by decide +kernel
theorem dX4_becomeLike_38 : decode cX4_becomeLike 38 = .ok (.getfield 19, 3) := by decide +kernel
theorem dX4_becomeLike_41 : decode cX4_becomeLike 41 = .ok (.aload_n 0, 1) := by decide +kernel
theorem dX4_becomeLike_42 : decode cX4_becomeLike 42 = .ok (.getfield 19, 3) := by decide +kernel
theorem dX4_becomeLike_45 : decode cX4_becomeLike 45 = .ok (.invokevirtual 59, 3) := by decide +kernel
theorem dX4_becomeLike_48 : decode cX4_becomeLike 48 = .ok (.aload_n 0, 1) := by decide +kernel
theorem dX4_becomeLike_49 : decode cX4_becomeLike 49 = .ok (.aload_n 1, 1) := by decide +kernel
theorem dX4_becomeLike_50 : decode cX4_becomeLike 50 = .ok (.getfield 22, 3) := by decide +kernel
theorem dX4_becomeLike_53 : decode cX4_becomeLike 53 = .ok (.aload_n 0, 1) := by decide +kernel
theorem dX4_becomeLike_54 : decode cX4_becomeLike 54 = .ok (.getfield 22, 3) := by decide +kernel
theorem dX4_becomeLike_57 : decode cX4_becomeLike 57 = .ok (.invokevirtual 59, 3) := by decide +kernel
theorem dX4_becomeLike_60 : decode cX4_becomeLike 60 = .ok (.aload_n 0, 1) := by decide +kernel
theorem dX4_becomeLike_61 : decode cX4_becomeLike 61 = .ok (.aload_n 1, 1) := by decide +kernel
theorem dX4_becomeLike_62 : decode cX4_becomeLike 62 = .ok (.getfield 25, 3) := by decide +kernel
theorem dX4_becomeLike_65 : decode cX4_becomeLike 65 = .ok (.aload_n 0, 1) := by decide +kernel
theorem dX4_becomeLike_66 : decode cX4_becomeLike 66 = .ok (.getfield 25, 3) := by decide +kernel
theorem dX4_becomeLike_69 : decode cX4_becomeLike 69 = .ok (.invokevirtual 59, 3) := by decide +kernel
theorem dX4_becomeLike_72 : decode cX4_becomeLike 72 = .ok (.iconst 0, 1) := by decide +kernel
theorem dX4_becomeLike_73 : decode cX4_becomeLike 73 = .ok (.istore_n 2, 1) := by decide +kernel
theorem dX4_becomeLike_74 : decode cX4_becomeLike 74 = .ok (.iload_n 2, 1) := by decide +kernel
theorem dX4_becomeLike_75 : decode cX4_becomeLike 75 = .ok (.iconst 4, 1) := by decide +kernel
theorem dX4_becomeLike_76 : decode cX4_becomeLike 76 = .ok (.if_icmp .ge 25, 3) := by decide +kernel
theorem dX4_becomeLike_79 : decode cX4_becomeLike 79 = .ok (.aload_n 0, 1) := by decide +kernel
theorem dX4_becomeLike_80 : decode cX4_becomeLike 80 = .ok (.aload_n 1, 1) := by decide +kernel
theorem dX4_becomeLike_81 : decode cX4_becomeLike 81 = .ok (.getfield 30, 3) := by decide +kernel
theorem dX4_becomeLike_84 : decode cX4_becomeLike 84 = .ok (.iload_n 2, 1) := by decide +kernel
theorem dX4_becomeLike_85 : decode cX4_becomeLike 85 = .ok (.aaload, 1) := by decide +kernel
theorem dX4_becomeLike_86 : decode cX4_becomeLike 86 = .ok (.aload_n 0, 1) := by decide +kernel
theorem dX4_becomeLike_87 : decode cX4_becomeLike 87 = .ok (.getfield 30, 3) := by decide +kernel
theorem dX4_becomeLike_90 : decode cX4_becomeLike 90 = .ok (.iload_n 2, 1) := by decide +kernel
theorem dX4_becomeLike_91 : decode cX4_becomeLike 91 = .ok (.aaload, 1) := by decide +kernel
theorem dX4_becomeLike_92 : decode cX4_becomeLike 92 = .ok (.invokevirtual 59, 3) := by decide +kernel
theorem dX4_becomeLike_95 : decode cX4_becomeLike 95 = .ok (.iinc 2 1, 3) := by decide +kernel
theorem dX4_becomeLike_98 : decode cX4_becomeLike 98 = .ok (.goto (-24), 3) := by decide +kernel
theorem dX4_becomeLike_101 : decode cX4_becomeLike 101 = .ok (.aload_n 1, 1) := by decide +kernel
theorem dX4_becomeLike_102 : decode cX4_becomeLike 102 = .ok (.getfield 33, 3) := by decide +kernel
theorem dX4_becomeLike_105 : decode cX4_becomeLike 105 = .ok (.iconst 0, 1) := by decide +kernel
theorem dX4_becomeLike_106 : decode cX4_becomeLike 106 = .ok (.aload_n 0, 1) := by decide +kernel
theorem dX4_becomeLike_107 : decode cX4_becomeLike 107 = .ok (.getfield 33, 3) := by decide +kernel
theorem dX4_becomeLike_110 : decode cX4_becomeLike 110 = .ok (.iconst 0, 1) := by decide +kernel
theorem dX4_becomeLike_111 : decode cX4_becomeLike 111 = .ok (.bipush 6, 2) := by decide +kernel
theorem dX4_becomeLike_113 : decode cX4_becomeLike 113 = .ok (.invokestatic 63, 3) := by decide +kernel
theorem dX4_becomeLike_116 : decode cX4_becomeLike 116 = .ok (.aload_n 1, 1) := by decide +kernel
theorem dX4_becomeLike_117 : decode cX4_becomeLike 117 = .ok (.getfield 36, 3) := by decide +kernel
theorem dX4_becomeLike_120 : decode cX4_becomeLike 120 = .ok (.iconst 0, 1) := by decide +kernel
theorem dX4_becomeLike_121 : decode cX4_becomeLike 121 = .ok (.aload_n 0, 1) := by decide +kernel
theorem dX4_becomeLike_122 : decode cX4_becomeLike 122 = .ok (.getfield 36, 3) := by decide +kernel
theorem dX4_becomeLike_125 : decode cX4_becomeLike 125 = .ok (.iconst 0, 1) := by decide +kernel
theorem dX4_becomeLike_126 : decode cX4_becomeLike 126 = .ok (.bipush 6, 2) := by decide +kernel
theorem dX4_becomeLike_128 : decode cX4_becomeLike 128 = .ok (.invokestatic 63, 3) := by decide +kernel
theorem dX4_becomeLike_131 : decode cX4_becomeLike 131 = .ok (.aload_n 1, 1) := by decide +kernel
theorem dX4_becomeLike_132 : decode cX4_becomeLike 132 = .ok (.getfield 39, 3) := by decide +kernel
theorem dX4_becomeLike_135 : decode cX4_becomeLike 135 = .ok (.iconst 0, 1) := by decide +kernel
theorem dX4_becomeLike_136 : decode cX4_becomeLike 136 = .ok (.aload_n 0, 1) := by decide +kernel
theorem dX4_becomeLike_137 : decode cX4_becomeLike 137 = .ok (.getfield 39, 3) := by decide +kernel
theorem dX4_becomeLike_140 : decode cX4_becomeLike 140 = .ok (.iconst 0, 1) := by decide +kernel
theorem dX4_becomeLike_141 : decode cX4_becomeLike 141 = .ok (.bipush 6, 2) := by decide +kernel
theorem dX4_becomeLike_143 : decode cX4_becomeLike 143 = .ok (.invokestatic 63, 3) := by decide +kernel
theorem dX4_becomeLike_146 : decode cX4_becomeLike 146 = .ok (.return_, 1) := by decide +kernel
theorem dX4_copyRow_0 : decode cX4_copyRow 0 = .ok (.aload_n 1, 1) := by decide +kernel
theorem dX4_copyRow_1 : decode cX4_copyRow 1 = .ok (.iconst 1, 1) := by decide +kernel
theorem dX4_copyRow_2 : decode cX4_copyRow 2 = .ok (.aload_n 2, 1) := by decide +kernel
theorem dX4_copyRow_3 : decode cX4_copyRow 3 = .ok (.iconst 1, 1) := by decide +kernel
theorem dX4_copyRow_4 : decode cX4_copyRow 4 = .ok (.aload_n 0, 1) := by decide +kernel
theorem dX4_copyRow_5 : decode cX4_copyRow 5 = .ok (.getfield 45, 3) := by decide +kernel
theorem dX4_copyRow_8 : decode cX4_copyRow 8 = .ok (.invokestatic 63, 3) := by decide +kernel
theorem dX4_copyRow_11 : decode cX4_copyRow 11 = .ok (.return_, 1) := by decide +kernel
theorem dX4_clearCopies_0 : decode cX4_clearCopies 0 = .ok (.iconst 0, 1) := by decide +kernel
theorem dX4_clearCopies_1 : decode cX4_clearCopies 1 = .ok (.istore_n 1, 1) := by decide +kernel
theorem dX4_clearCopies_2 : decode cX4_clearCopies 2 = .ok (.iload_n 1, 1) := by decide +kernel
theorem dX4_clearCopies_3 : decode cX4_clearCopies 3 = .ok (.bipush 6, 2) := by decide +kernel
theorem dX4_clearCopies_5 : decode cX4_clearCopies 5 = .ok (.if_icmp .ge 30, 3) := by decide +kernel
theorem dX4_clearCopies_8 : decode cX4_clearCopies 8 = .ok (.aload_n 0, 1) := by decide +kernel
theorem dX4_clearCopies_9 : decode cX4_clearCopies 9 = .ok (.getfield 33, 3) := by decide +kernel
theorem dX4_clearCopies_12 : decode cX4_clearCopies 12 = .ok (.iload_n 1, 1) := by decide +kernel
theorem dX4_clearCopies_13 : decode cX4_clearCopies 13 = .ok (.iconst 0, 1) := by decide +kernel
theorem dX4_clearCopies_14 : decode cX4_clearCopies 14 = .ok (.iastore, 1) := by decide +kernel
theorem dX4_clearCopies_15 : decode cX4_clearCopies 15 = .ok (.aload_n 0, 1) := by decide +kernel
theorem dX4_clearCopies_16 : decode cX4_clearCopies 16 = .ok (.getfield 36, 3) := by decide +kernel
theorem dX4_clearCopies_19 : decode cX4_clearCopies 19 = .ok (.iload_n 1, 1) := by decide +kernel
theorem dX4_clearCopies_20 : decode cX4_clearCopies 20 = .ok (.iconst 0, 1) := by decide +kernel
theorem dX4_clearCopies_21 : decode cX4_clearCopies 21 = .ok (.iastore, 1) := by decide +kernel
theorem dX4_clearCopies_22 : decode cX4_clearCopies 22 = .ok (.aload_n 0, 1) := by decide +kernel
theorem dX4_clearCopies_23 : decode cX4_clearCopies 23 = .ok (.getfield 39, 3) := by decide +kernel
theorem dX4_clearCopies_26 : decode cX4_clearCopies 26 = .ok (.iload_n 1, 1) := by decide +kernel
theorem dX4_clearCopies_27 : decode cX4_clearCopies 27 = .ok (.iconst 0, 1) := by decide +kernel
theorem dX4_clearCopies_28 : decode cX4_clearCopies 28 = .ok (.iastore, 1) := by decide +kernel
theorem dX4_clearCopies_29 : decode cX4_clearCopies 29 = .ok (.iinc 1 1, 3) := by decide +kernel
theorem dX4_clearCopies_32 : decode cX4_clearCopies 32 = .ok (.goto (-30), 3) := by decide +kernel
theorem dX4_clearCopies_35 : decode cX4_clearCopies 35 = .ok (.return_, 1) := by decide +kernel
theorem dX4_removeBars_0 : decode cX4_removeBars 0 = .ok (.aload_n 0, 1) := by decide +kernel
theorem dX4_removeBars_1 : decode cX4_removeBars 1 = .ok (.iload_n 2, 1) := by decide +kernel
theorem dX4_removeBars_2 : decode cX4_removeBars 2 = .ok (.iconst 1, 1) := by decide +kernel
theorem dX4_removeBars_3 : decode cX4_removeBars 3 = .ok (.iadd, 1) := by decide +kernel
theorem dX4_removeBars_4 : decode cX4_removeBars 4 = .ok (.iload_n 1, 1) := by decide +kernel
theorem dX4_removeBars_5 : decode cX4_removeBars 5 = .ok (.invokevirtual 69, 3) := by decide +kernel
theorem dX4_removeBars_8 : decode cX4_removeBars 8 = .ok (.aload_n 0, 1) := by decide +kernel
theorem dX4_removeBars_9 : decode cX4_removeBars 9 = .ok (.dup, 1) := by decide +kernel
theorem dX4_removeBars_10 : decode cX4_removeBars 10 = .ok (.getfield 45, 3) := by decide +kernel
theorem dX4_removeBars_13 : decode cX4_removeBars 13 = .ok (.iload_n 2, 1) := by decide +kernel
theorem dX4_removeBars_14 : decode cX4_removeBars 14 = .ok (.iload_n 1, 1) := by decide +kernel
theorem dX4_removeBars_15 : decode cX4_removeBars 15 = .ok (.isub, 1) := by decide +kernel
theorem dX4_removeBars_16 : decode cX4_removeBars 16 = .ok (.iconst 1, 1) := by decide +kernel
theorem dX4_removeBars_17 : decode cX4_removeBars 17 = .ok (.iadd, 1) := by decide +kernel
theorem dX4_removeBars_18 : decode cX4_removeBars 18 = .ok (.isub, 1) := by decide +kernel
theorem dX4_removeBars_19 : decode cX4_removeBars 19 = .ok (.putfield 45, 3) := by decide +kernel
theorem dX4_removeBars_22 : decode cX4_removeBars 22 = .ok (.return_, 1) := by decide +kernel
theorem dX4_addBars_0 : decode cX4_addBars 0 = .ok (.aload_n 0, 1) := by decide +kernel
theorem dX4_addBars_1 : decode cX4_addBars 1 = .ok (.iload_n 1, 1) := by decide +kernel
theorem dX4_addBars_2 : decode cX4_addBars 2 = .ok (.iconst 1, 1) := by decide +kernel
theorem dX4_addBars_3 : decode cX4_addBars 3 = .ok (.iadd, 1) := by decide +kernel
theorem dX4_addBars_4 : decode cX4_addBars 4 = .ok (.iload_n 1, 1) := by decide +kernel
theorem dX4_addBars_5 : decode cX4_addBars 5 = .ok (.iconst 1, 1) := by decide +kernel
theorem dX4_addBars_6 : decode cX4_addBars 6 = .ok (.iadd, 1) := by decide +kernel
theorem dX4_addBars_7 : decode cX4_addBars 7 = .ok (.iload_n 2, 1) := by decide +kernel
theorem dX4_addBars_8 : decode cX4_addBars 8 = .ok (.iadd, 1) := by decide +kernel
theorem dX4_addBars_9 : decode cX4_addBars 9 = .ok (.invokevirtual 69, 3) := by decide +kernel
theorem dX4_addBars_12 : decode cX4_addBars 12 = .ok (.aload_n 0, 1) := by decide +kernel
theorem dX4_addBars_13 : decode cX4_addBars 13 = .ok (.dup, 1) := by decide +kernel
theorem dX4_addBars_14 : decode cX4_addBars 14 = .ok (.getfield 45, 3) := by decide +kernel
theorem dX4_addBars_17 : decode cX4_addBars 17 = .ok (.iload_n 2, 1) := by decide +kernel
theorem dX4_addBars_18 : decode cX4_addBars 18 = .ok (.iadd, 1) := by decide +kernel
theorem dX4_addBars_19 : decode cX4_addBars 19 = .ok (.putfield 45, 3) := by decide +kernel
theorem dX4_addBars_22 : decode cX4_addBars 22 = .ok (.aload_n 0, 1) := by decide +kernel
theorem dX4_addBars_23 : decode cX4_addBars 23 = .ok (.iload_n 1, 1) := by decide +kernel
theorem dX4_addBars_24 : decode cX4_addBars 24 = .ok (.iconst 1, 1) := by decide +kernel
theorem dX4_addBars_25 : decode cX4_addBars 25 = .ok (.iadd, 1) := by decide +kernel
theorem dX4_addBars_26 : decode cX4_addBars 26 = .ok (.iload_n 1, 1) := by decide +kernel
theorem dX4_addBars_27 : decode cX4_addBars 27 = .ok (.iload_n 2, 1) := by decide +kernel
theorem dX4_addBars_28 : decode cX4_addBars 28 = .ok (.iadd, 1) := by decide +kernel
theorem dX4_addBars_29 : decode cX4_addBars 29 = .ok (.iload_n 3, 1) := by decide +kernel
theorem dX4_addBars_30 : decode cX4_addBars 30 = .ok (.iload 4, 2) := by decide +kernel
theorem dX4_addBars_32 : decode cX4_addBars 32 = .ok (.iconst 1, 1) := by decide +kernel
theorem dX4_addBars_33 : decode cX4_addBars 33 = .ok (.iadd, 1) := by decide +kernel
theorem dX4_addBars_34 : decode cX4_addBars 34 = .ok (.invokevirtual 48, 3) := by decide +kernel
theorem dX4_addBars_37 : decode cX4_addBars 37 = .ok (.return_, 1) := by decide +kernel
theorem dX4_moveTail_0 : decode cX4_moveTail 0 = .ok (.aload_n 0, 1) := by decide +kernel
theorem dX4_moveTail_1 : decode cX4_moveTail 1 = .ok (.getfield 45, 3) := by decide +kernel
theorem dX4_moveTail_4 : decode cX4_moveTail 4 = .ok (.iload_n 1, 1) := by decide +kernel
theorem dX4_moveTail_5 : decode cX4_moveTail 5 = .ok (.isub, 1) := by decide +kernel
theorem dX4_moveTail_6 : decode cX4_moveTail 6 = .ok (.iconst 1, 1) := by decide +kernel
theorem dX4_moveTail_7 : decode cX4_moveTail 7 = .ok (.iadd, 1) := by decide +kernel
theorem dX4_moveTail_8 : decode cX4_moveTail 8 = .ok (.istore_n 3, 1) := by decide +kernel
theorem dX4_moveTail_9 : decode cX4_moveTail 9 = .ok (.iload_n 3, 1) := by decide +kernel
theorem dX4_moveTail_10 : decode cX4_moveTail 10 = .ok (.ifCond .gt 4, 3) := by decide +kernel
theorem dX4_moveTail_13 : decode cX4_moveTail 13 = .ok (.return_, 1) := by decide +kernel
theorem dX4_moveTail_14 : decode cX4_moveTail 14 = .ok (.aload_n 0, 1) := by decide +kernel
theorem dX4_moveTail_15 : decode cX4_moveTail 15 = .ok (.getfield 15, 3) := by decide +kernel
theorem dX4_moveTail_18 : decode cX4_moveTail 18 = .ok (.iload_n 1, 1) := by decide +kernel
theorem dX4_moveTail_19 : decode cX4_moveTail 19 = .ok (.aload_n 0, 1) := by decide +kernel
theorem dX4_moveTail_20 : decode cX4_moveTail 20 = .ok (.getfield 15, 3) := by decide +kernel
theorem dX4_moveTail_23 : decode cX4_moveTail 23 = .ok (.iload_n 2, 1) := by decide +kernel
theorem dX4_moveTail_24 : decode cX4_moveTail 24 = .ok (.iload_n 3, 1) := by decide +kernel
theorem dX4_moveTail_25 : decode cX4_moveTail 25 = .ok (.invokestatic 63, 3) := by decide +kernel
theorem dX4_moveTail_28 : decode cX4_moveTail 28 = .ok (.aload_n 0, 1) := by decide +kernel
theorem dX4_moveTail_29 : decode cX4_moveTail 29 = .ok (.getfield 19, 3) := by decide +kernel
theorem dX4_moveTail_32 : decode cX4_moveTail 32 = .ok (.iload_n 1, 1) := by decide +kernel
theorem dX4_moveTail_33 : decode cX4_moveTail 33 = .ok (.aload_n 0, 1) := by decide +kernel
theorem dX4_moveTail_34 : decode cX4_moveTail 34 = .ok (.getfield 19, 3) := by decide +kernel
theorem dX4_moveTail_37 : decode cX4_moveTail 37 = .ok (.iload_n 2, 1) := by decide +kernel
theorem dX4_moveTail_38 : decode cX4_moveTail 38 = .ok (.iload_n 3, 1) := by decide +kernel
theorem dX4_moveTail_39 : decode cX4_moveTail 39 = .ok (.invokestatic 63, 3) := by decide +kernel
theorem dX4_moveTail_42 : decode cX4_moveTail 42 = .ok (.aload_n 0, 1) := by decide +kernel
theorem dX4_moveTail_43 : decode cX4_moveTail 43 = .ok (.getfield 22, 3) := by decide +kernel
theorem dX4_moveTail_46 : decode cX4_moveTail 46 = .ok (.iload_n 1, 1) := by decide +kernel
theorem dX4_moveTail_47 : decode cX4_moveTail 47 = .ok (.aload_n 0, 1) := by decide +kernel
theorem dX4_moveTail_48 : decode cX4_moveTail 48 = .ok (.getfield 22, 3) := by decide +kernel
theorem dX4_moveTail_51 : decode cX4_moveTail 51 = .ok (.iload_n 2, 1) := by decide +kernel
theorem dX4_moveTail_52 : decode cX4_moveTail 52 = .ok (.iload_n 3, 1) := by decide +kernel
theorem dX4_moveTail_53 : decode cX4_moveTail 53 = .ok (.invokestatic 63, 3) := by decide +kernel
theorem dX4_moveTail_56 : decode cX4_moveTail 56 = .ok (.aload_n 0, 1) := by decide +kernel
theorem dX4_moveTail_57 : decode cX4_moveTail 57 = .ok (.getfield 25, 3) := by decide +kernel
theorem dX4_moveTail_60 : decode cX4_moveTail 60 = .ok (.iload_n 1, 1) := by decide +kernel
theorem dX4_moveTail_61 : decode cX4_moveTail 61 = .ok (.aload_n 0, 1) := by decide +kernel
theorem dX4_moveTail_62 : decode cX4_moveTail 62 = .ok (.getfield 25, 3) := by decide +kernel
theorem dX4_moveTail_65 : decode cX4_moveTail 65 = .ok (.iload_n 2, 1) := by decide +kernel
theorem dX4_moveTail_66 : decode cX4_moveTail 66 = .ok (.iload_n 3, 1) := by decide +kernel
theorem dX4_moveTail_67 : decode cX4_moveTail 67 = .ok (.invokestatic 63, 3) := by decide +kernel
theorem dX4_moveTail_70 : decode cX4_moveTail 70 = .ok (.iconst 0, 1) := by decide +kernel
theorem dX4_moveTail_71 : decode cX4_moveTail 71 = .ok (.istore 4, 2) := by decide +kernel
theorem dX4_moveTail_73 : decode cX4_moveTail 73 = .ok (.iload 4, 2) := by decide +kernel
theorem dX4_moveTail_75 : decode cX4_moveTail 75 = .ok (.iconst 4, 1) := by decide +kernel
theorem dX4_moveTail_76 : decode cX4_moveTail 76 = .ok (.if_icmp .ge 29, 3) := by decide +kernel
theorem dX4_moveTail_79 : decode cX4_moveTail 79 = .ok (.aload_n 0, 1) := by decide +kernel
theorem dX4_moveTail_80 : decode cX4_moveTail 80 = .ok (.getfield 30, 3) := by decide +kernel
theorem dX4_moveTail_83 : decode cX4_moveTail 83 = .ok (.iload 4, 2) := by decide +kernel
theorem dX4_moveTail_85 : decode cX4_moveTail 85 = .ok (.aaload, 1) := by decide +kernel
theorem dX4_moveTail_86 : decode cX4_moveTail 86 = .ok (.iload_n 1, 1) := by decide +kernel
theorem dX4_moveTail_87 : decode cX4_moveTail 87 = .ok (.aload_n 0, 1) := by decide +kernel
theorem dX4_moveTail_88 : decode cX4_moveTail 88 = .ok (.getfield 30, 3) := by decide +kernel
theorem dX4_moveTail_91 : decode cX4_moveTail 91 = .ok (.iload 4, 2) := by decide +kernel
theorem dX4_moveTail_93 : decode cX4_moveTail 93 = .ok (.aaload, 1) := by decide +kernel
theorem dX4_moveTail_94 : decode cX4_moveTail 94 = .ok (.iload_n 2, 1) := by decide +kernel
theorem dX4_moveTail_95 : decode cX4_moveTail 95 = .ok (.iload_n 3, 1) := by decide +kernel
theorem dX4_moveTail_96 : decode cX4_moveTail 96 = .ok (.invokestatic 63, 3) := by decide +kernel
theorem dX4_moveTail_99 : decode cX4_moveTail 99 = .ok (.iinc 4 1, 3) := by decide +kernel
theorem dX4_moveTail_102 : decode cX4_moveTail 102 = .ok (.goto (-29), 3) := by decide +kernel
theorem dX4_moveTail_105 : decode cX4_moveTail 105 = .ok (.return_, 1) := by decide +kernel
theorem dX4_fillNewBars_0 : decode cX4_fillNewBars 0 = .ok (.iload_n 1, 1) := by decide +kernel
theorem dX4_fillNewBars_1 : decode cX4_fillNewBars 1 = .ok (.istore 5, 2) := by decide +kernel
theorem dX4_fillNewBars_3 : decode cX4_fillNewBars 3 = .ok (.iload 5, 2) := by decide +kernel
theorem dX4_fillNewBars_5 : decode cX4_fillNewBars 5 = .ok (.iload_n 2, 1) := by decide +kernel
theorem dX4_fillNewBars_6 : decode cX4_fillNewBars 6 = .ok (.if_icmp .gt 73, 3) := by decide +kernel
theorem dX4_fillNewBars_9 : decode cX4_fillNewBars 9 = .ok (.aload_n 0, 1) := by decide +kernel
theorem dX4_fillNewBars_10 : decode cX4_fillNewBars 10 = .ok (.getfield 15, 3) := by decide +kernel
theorem dX4_fillNewBars_13 : decode cX4_fillNewBars 13 = .ok (.iload 5, 2) := by decide +kernel
theorem dX4_fillNewBars_15 : decode cX4_fillNewBars 15 = .ok (.iload 4, 2) := by decide +kernel
theorem dX4_fillNewBars_17 : decode cX4_fillNewBars 17 = .ok (.iload 5, 2) := by decide +kernel
theorem dX4_fillNewBars_19 : decode cX4_fillNewBars 19 = .ok (.iadd, 1) := by decide +kernel
theorem dX4_fillNewBars_20 : decode cX4_fillNewBars 20 = .ok (.iload_n 1, 1) := by decide +kernel
theorem dX4_fillNewBars_21 : decode cX4_fillNewBars 21 = .ok (.isub, 1) := by decide +kernel
theorem dX4_fillNewBars_22 : decode cX4_fillNewBars 22 = .ok (.iastore, 1) := by decide +kernel
theorem dX4_fillNewBars_23 : decode cX4_fillNewBars 23 = .ok (.aload_n 0, 1) := by decide +kernel
theorem dX4_fillNewBars_24 : decode cX4_fillNewBars 24 = .ok (.getfield 19, 3) := by decide +kernel
theorem dX4_fillNewBars_27 : decode cX4_fillNewBars 27 = .ok (.iload 5, 2) := by decide +kernel
theorem dX4_fillNewBars_29 : decode cX4_fillNewBars 29 = .ok (.iconst 0, 1) := by decide +kernel
theorem dX4_fillNewBars_30 : decode cX4_fillNewBars 30 = .ok (.iastore, 1) := by decide +kernel
theorem dX4_fillNewBars_31 : decode cX4_fillNewBars 31 = .ok (.aload_n 0, 1) := by decide +kernel
theorem dX4_fillNewBars_32 : decode cX4_fillNewBars 32 = .ok (.getfield 22, 3) := by decide +kernel
theorem dX4_fillNewBars_35 : decode cX4_fillNewBars 35 = .ok (.iload 5, 2) := by decide +kernel
theorem dX4_fillNewBars_37 : decode cX4_fillNewBars 37 = .ok (.iload_n 3, 1) := by decide +kernel
theorem dX4_fillNewBars_38 : decode cX4_fillNewBars 38 = .ok (.iastore, 1) := by decide +kernel
theorem dX4_fillNewBars_39 : decode cX4_fillNewBars 39 = .ok (.aload_n 0, 1) := by decide +kernel
theorem dX4_fillNewBars_40 : decode cX4_fillNewBars 40 = .ok (.getfield 25, 3) := by decide +kernel
theorem dX4_fillNewBars_43 : decode cX4_fillNewBars 43 = .ok (.iload 5, 2) := by decide +kernel
theorem dX4_fillNewBars_45 : decode cX4_fillNewBars 45 = .ok (.iconst 0, 1) := by decide +kernel
theorem dX4_fillNewBars_46 : decode cX4_fillNewBars 46 = .ok (.iastore, 1) := by decide +kernel
theorem dX4_fillNewBars_47 : decode cX4_fillNewBars 47 = .ok (.iconst 0, 1) := by decide +kernel
theorem dX4_fillNewBars_48 : decode cX4_fillNewBars 48 = .ok (.istore 6, 2) := by decide +kernel
theorem dX4_fillNewBars_50 : decode cX4_fillNewBars 50 = .ok (.iload 6, 2) := by decide +kernel
theorem dX4_fillNewBars_52 : decode cX4_fillNewBars 52 = .ok (.iconst 4, 1) := by decide +kernel
theorem dX4_fillNewBars_53 : decode cX4_fillNewBars 53 = .ok (.if_icmp .ge 20, 3) := by decide +kernel
theorem dX4_fillNewBars_56 : decode cX4_fillNewBars 56 = .ok (.aload_n 0, 1) := by decide +kernel
theorem dX4_fillNewBars_57 : decode cX4_fillNewBars 57 = .ok (.getfield 30, 3) := by decide +kernel
theorem dX4_fillNewBars_60 : decode cX4_fillNewBars 60 = .ok (.iload 6, 2) := by decide +kernel
theorem dX4_fillNewBars_62 : decode cX4_fillNewBars 62 = .ok (.aaload, 1) := by decide +kernel
theorem dX4_fillNewBars_63 : decode cX4_fillNewBars 63 = .ok (.iload 5, 2) := by decide +kernel
theorem dX4_fillNewBars_65 : decode cX4_fillNewBars 65 = .ok (.iconst 0, 1) := by decide +kernel
theorem dX4_fillNewBars_66 : decode cX4_fillNewBars 66 = .ok (.iastore, 1) := by decide +kernel
theorem dX4_fillNewBars_67 : decode cX4_fillNewBars 67 = .ok (.iinc 6 1, 3) := by decide +kernel
theorem dX4_fillNewBars_70 : decode cX4_fillNewBars 70 = .ok (.goto (-20), 3) := by decide +kernel
theorem dX4_fillNewBars_73 : decode cX4_fillNewBars 73 = .ok (.iinc 5 1, 3) := by decide +kernel
theorem dX4_fillNewBars_76 : decode cX4_fillNewBars 76 = .ok (.goto (-73), 3) := by decide +kernel
theorem dX4_fillNewBars_79 : decode cX4_fillNewBars 79 = .ok (.return_, 1) := by decide +kernel
theorem dX4_barWith_0 : decode cX4_barWith 0 = .ok (.iload_n 2, 1) := by decide +kernel
theorem dX4_barWith_1 : decode cX4_barWith 1 = .ok (.istore_n 3, 1) := by decide +kernel
theorem dX4_barWith_2 : decode cX4_barWith 2 = .ok (.iload_n 3, 1) := by decide +kernel
theorem dX4_barWith_3 : decode cX4_barWith 3 = .ok (.aload_n 0, 1) := by decide +kernel
theorem dX4_barWith_4 : decode cX4_barWith 4 = .ok (.getfield 45, 3) := by decide +kernel
theorem dX4_barWith_7 : decode cX4_barWith 7 = .ok (.if_icmp .gt 21, 3) := by decide +kernel
theorem dX4_barWith_10 : decode cX4_barWith 10 = .ok (.aload_n 0, 1) := by decide +kernel
theorem dX4_barWith_11 : decode cX4_barWith 11 = .ok (.getfield 15, 3) := by decide +kernel
theorem dX4_barWith_14 : decode cX4_barWith 14 = .ok (.iload_n 3, 1) := by decide +kernel
theorem dX4_barWith_15 : decode cX4_barWith 15 = .ok (.iaload, 1) := by decide +kernel
theorem dX4_barWith_16 : decode cX4_barWith 16 = .ok (.iload_n 1, 1) := by decide +kernel
theorem dX4_barWith_17 : decode cX4_barWith 17 = .ok (.if_icmp .ne 5, 3) := by decide +kernel
theorem dX4_barWith_20 : decode cX4_barWith 20 = .ok (.iload_n 3, 1) := by decide +kernel
theorem dX4_barWith_21 : decode cX4_barWith 21 = .ok (.ireturn, 1) := by decide +kernel
theorem dX4_barWith_22 : decode cX4_barWith 22 = .ok (.iinc 3 1, 3) := by decide +kernel
theorem dX4_barWith_25 : decode cX4_barWith 25 = .ok (.goto (-23), 3) := by decide +kernel
theorem dX4_barWith_28 : decode cX4_barWith 28 = .ok (.iconst 0, 1) := by decide +kernel
theorem dX4_barWith_29 : decode cX4_barWith 29 = .ok (.ireturn, 1) := by decide +kernel
theorem dX4_ownTempo_0 : decode cX4_ownTempo 0 = .ok (.aload_n 0, 1) := by decide +kernel
theorem dX4_ownTempo_1 : decode cX4_ownTempo 1 = .ok (.getfield 25, 3) := by decide +kernel
theorem dX4_ownTempo_4 : decode cX4_ownTempo 4 = .ok (.iload_n 1, 1) := by decide +kernel
theorem dX4_ownTempo_5 : decode cX4_ownTempo 5 = .ok (.iaload, 1) := by decide +kernel
theorem dX4_ownTempo_6 : decode cX4_ownTempo 6 = .ok (.ifCond .ne 8, 3) := by decide +kernel
theorem dX4_ownTempo_9 : decode cX4_ownTempo 9 = .ok (.bipush (-7), 2) := by decide +kernel
theorem dX4_ownTempo_11 : decode cX4_ownTempo 11 = .ok (.goto 9, 3) := by decide +kernel
theorem dX4_ownTempo_14 : decode cX4_ownTempo 14 = .ok (.aload_n 0, 1) := by decide +kernel
theorem dX4_ownTempo_15 : decode cX4_ownTempo 15 = .ok (.getfield 25, 3) := by decide +kernel
theorem dX4_ownTempo_18 : decode cX4_ownTempo 18 = .ok (.iload_n 1, 1) := by decide +kernel
theorem dX4_ownTempo_19 : decode cX4_ownTempo 19 = .ok (.iaload, 1) := by decide +kernel
theorem dX4_ownTempo_20 : decode cX4_ownTempo 20 = .ok (.ireturn, 1) := by decide +kernel
theorem dX4_countingTempo_0 : decode cX4_countingTempo 0 = .ok (.iload_n 1, 1) := by decide +kernel
theorem dX4_countingTempo_1 : decode cX4_countingTempo 1 = .ok (.istore_n 2, 1) := by decide +kernel
theorem dX4_countingTempo_2 : decode cX4_countingTempo 2 = .ok (.iload_n 2, 1) := by decide +kernel
theorem dX4_countingTempo_3 : decode cX4_countingTempo 3 = .ok (.iconst 1, 1) := by decide +kernel
theorem dX4_countingTempo_4 : decode cX4_countingTempo 4 = .ok (.if_icmp .lt 25, 3) := by decide +kernel
theorem dX4_countingTempo_7 : decode cX4_countingTempo 7 = .ok (.aload_n 0, 1) := by decide +kernel
theorem dX4_countingTempo_8 : decode cX4_countingTempo 8 = .ok (.getfield 25, 3) := by decide +kernel
theorem dX4_countingTempo_11 : decode cX4_countingTempo 11 = .ok (.iload_n 2, 1) := by decide +kernel
theorem dX4_countingTempo_12 : decode cX4_countingTempo 12 = .ok (.iaload, 1) := by decide +kernel
theorem dX4_countingTempo_13 : decode cX4_countingTempo 13 = .ok (.ifCond .eq 10, 3) := by decide +kernel
theorem dX4_countingTempo_16 : decode cX4_countingTempo 16 = .ok (.aload_n 0, 1) := by decide +kernel
theorem dX4_countingTempo_17 : decode cX4_countingTempo 17 = .ok (.getfield 25, 3) := by decide +kernel
theorem dX4_countingTempo_20 : decode cX4_countingTempo 20 = .ok (.iload_n 2, 1) := by decide +kernel
theorem dX4_countingTempo_21 : decode cX4_countingTempo 21 = .ok (.iaload, 1) := by decide +kernel
theorem dX4_countingTempo_22 : decode cX4_countingTempo 22 = .ok (.ireturn, 1) := by decide +kernel
theorem dX4_countingTempo_23 : decode cX4_countingTempo 23 = .ok (.iinc 2 (-1), 3) := by decide +kernel
theorem dX4_countingTempo_26 : decode cX4_countingTempo 26 = .ok (.goto (-24), 3) := by decide +kernel
theorem dX4_countingTempo_29 : decode cX4_countingTempo 29 = .ok (.sipush 1000, 3) := by decide +kernel
theorem dX4_countingTempo_32 : decode cX4_countingTempo 32 = .ok (.ireturn, 1) := by decide +kernel
theorem dX4_duration_0 : decode cX4_duration 0 = .ok (.fconst 0, 1) := by decide +kernel
theorem dX4_duration_1 : decode cX4_duration 1 = .ok (.fstore_n 3, 1) := by decide +kernel
theorem dX4_duration_2 : decode cX4_duration 2 = .ok (.aload_n 0, 1) := by decide +kernel
theorem dX4_duration_3 : decode cX4_duration 3 = .ok (.iload_n 1, 1) := by decide +kernel
theorem dX4_duration_4 : decode cX4_duration 4 = .ok (.invokevirtual 73, 3) := by decide +kernel
theorem dX4_duration_7 : decode cX4_duration 7 = .ok (.istore 4, 2) := by decide +kernel
theorem dX4_duration_9 : decode cX4_duration 9 = .ok (.iload_n 1, 1) := by decide +kernel
theorem dX4_duration_10 : decode cX4_duration 10 = .ok (.istore 5, 2) := by decide +kernel
theorem dX4_duration_12 : decode cX4_duration 12 = .ok (.iload 5, 2) := by decide +kernel
theorem dX4_duration_14 : decode cX4_duration 14 = .ok (.iload_n 2, 1) := by decide +kernel
theorem dX4_duration_15 : decode cX4_duration 15 = .ok (.if_icmp .gt 48, 3) := by decide +kernel
theorem dX4_duration_18 : decode cX4_duration 18 = .ok (.aload_n 0, 1) := by decide +kernel
theorem dX4_duration_19 : decode cX4_duration 19 = .ok (.getfield 25, 3) := by decide +kernel
theorem dX4_duration_22 : decode cX4_duration 22 = .ok (.iload 5, 2) := by decide +kernel
theorem dX4_duration_24 : decode cX4_duration 24 = .ok (.iaload, 1) := by decide +kernel
theorem dX4_duration_25 : decode cX4_duration 25 = .ok (.ifCond .ne 8, 3) := by decide +kernel
theorem dX4_duration_28 : decode cX4_duration 28 = .ok (.iload 4, 2) := by decide +kernel
theorem dX4_duration_30 : decode cX4_duration 30 = .ok (.goto 10, 3) := by decide +kernel
theorem dX4_duration_33 : decode cX4_duration 33 = .ok (.aload_n 0, 1) := by decide +kernel
theorem dX4_duration_34 : decode cX4_duration 34 = .ok (.getfield 25, 3) := by decide +kernel
theorem dX4_duration_37 : decode cX4_duration 37 = .ok (.iload 5, 2) := by decide +kernel
theorem dX4_duration_39 : decode cX4_duration 39 = .ok (.iaload, 1) := by decide +kernel
theorem dX4_duration_40 : decode cX4_duration 40 = .ok (.istore 4, 2) := by decide +kernel
theorem dX4_duration_42 : decode cX4_duration 42 = .ok (.fload_n 3, 1) := by decide +kernel
theorem dX4_duration_43 : decode cX4_duration 43 = .ok (.aload_n 0, 1) := by decide +kernel
theorem dX4_duration_44 : decode cX4_duration 44 = .ok (.getfield 22, 3) := by decide +kernel
theorem dX4_duration_47 : decode cX4_duration 47 = .ok (.iload 5, 2) := by decide +kernel
theorem dX4_duration_49 : decode cX4_duration 49 = .ok (.iaload, 1) := by decide +kernel
theorem dX4_duration_50 : decode cX4_duration 50 = .ok (.iload 4, 2) := by decide +kernel
theorem dX4_duration_52 : decode cX4_duration 52 = .ok (.invokestatic 77, 3) := by decide +kernel
theorem dX4_duration_55 : decode cX4_duration 55 = .ok (.fadd, 1) := by decide +kernel
theorem dX4_duration_56 : decode cX4_duration 56 = .ok (.fstore_n 3, 1) := by decide +kernel
theorem dX4_duration_57 : decode cX4_duration 57 = .ok (.iinc 5 1, 3) := by decide +kernel
theorem dX4_duration_60 : decode cX4_duration 60 = .ok (.goto (-48), 3) := by decide +kernel
theorem dX4_duration_63 : decode cX4_duration 63 = .ok (.fload_n 3, 1) := by decide +kernel
theorem dX4_duration_64 : decode cX4_duration 64 = .ok (.freturn, 1) := by decide +kernel
theorem dX4_wholeDuration_0 : decode cX4_wholeDuration 0 = .ok (.aload_n 0, 1) := by decide +kernel
theorem dX4_wholeDuration_1 : decode cX4_wholeDuration 1 = .ok (.iconst 1, 1) := by decide +kernel
theorem dX4_wholeDuration_2 : decode cX4_wholeDuration 2 = .ok (.aload_n 0, 1) := by decide +kernel
theorem dX4_wholeDuration_3 : decode cX4_wholeDuration 3 = .ok (.getfield 45, 3) := by decide +kernel
theorem dX4_wholeDuration_6 : decode cX4_wholeDuration 6 = .ok (.invokevirtual 81, 3) := by decide +kernel
theorem dX4_wholeDuration_9 : decode cX4_wholeDuration 9 = .ok (.freturn, 1) := by decide +kernel
theorem dX4_firstBarBeyond_0 : decode cX4_firstBarBeyond 0 = .ok (.fconst 0, 1) := by decide +kernel
theorem dX4_firstBarBeyond_1 : decode cX4_firstBarBeyond 1 = .ok (.fstore_n 2, 1) := by decide +kernel
theorem dX4_firstBarBeyond_2 : decode cX4_firstBarBeyond 2 = .ok (.sipush 1000, 3) := by decide +kernel
theorem dX4_firstBarBeyond_5 : decode cX4_firstBarBeyond 5 = .ok (.istore_n 3, 1) := by decide +kernel
theorem dX4_firstBarBeyond_6 : decode cX4_firstBarBeyond 6 = .ok (.iconst 1, 1) := by decide +kernel
theorem dX4_firstBarBeyond_7 : decode cX4_firstBarBeyond 7 = .ok (.istore 4, 2) := by decide +kernel
theorem dX4_firstBarBeyond_9 : decode cX4_firstBarBeyond 9 = .ok (.iload 4, 2) := by decide +kernel
theorem dX4_firstBarBeyond_11 : decode cX4_firstBarBeyond 11 = .ok (.aload_n 0, 1) := by decide +kernel
theorem dX4_firstBarBeyond_12 : decode cX4_firstBarBeyond 12 = .ok (.getfield 45, 3) := by decide +kernel
theorem dX4_firstBarBeyond_15 : decode cX4_firstBarBeyond 15 = .ok (.if_icmp .gt 54, 3) := by decide +kernel
theorem dX4_firstBarBeyond_18 : decode cX4_firstBarBeyond 18 = .ok (.aload_n 0, 1) := by decide +kernel
theorem dX4_firstBarBeyond_19 : decode cX4_firstBarBeyond 19 = .ok (.getfield 25, 3) := by decide +kernel
theorem dX4_firstBarBeyond_22 : decode cX4_firstBarBeyond 22 = .ok (.iload 4, 2) := by decide +kernel
theorem dX4_firstBarBeyond_24 : decode cX4_firstBarBeyond 24 = .ok (.iaload, 1) := by decide +kernel
theorem dX4_firstBarBeyond_25 : decode cX4_firstBarBeyond 25 = .ok (.ifCond .ne 7, 3) := by decide +kernel
theorem dX4_firstBarBeyond_28 : decode cX4_firstBarBeyond 28 = .ok (.iload_n 3, 1) := by decide +kernel
theorem dX4_firstBarBeyond_29 : decode cX4_firstBarBeyond 29 = .ok (.goto 10, 3) := by decide +kernel
theorem dX4_firstBarBeyond_32 : decode cX4_firstBarBeyond 32 = .ok (.aload_n 0, 1) := by decide +kernel
theorem dX4_firstBarBeyond_33 : decode cX4_firstBarBeyond 33 = .ok (.getfield 25, 3) := by decide +kernel
theorem dX4_firstBarBeyond_36 : decode cX4_firstBarBeyond 36 = .ok (.iload 4, 2) := by decide +kernel
theorem dX4_firstBarBeyond_38 : decode cX4_firstBarBeyond 38 = .ok (.iaload, 1) := by decide +kernel
theorem dX4_firstBarBeyond_39 : decode cX4_firstBarBeyond 39 = .ok (.istore_n 3, 1) := by decide +kernel
theorem dX4_firstBarBeyond_40 : decode cX4_firstBarBeyond 40 = .ok (.fload_n 2, 1) := by decide +kernel
theorem dX4_firstBarBeyond_41 : decode cX4_firstBarBeyond 41 = .ok (.aload_n 0, 1) := by decide +kernel
theorem dX4_firstBarBeyond_42 : decode cX4_firstBarBeyond 42 = .ok (.getfield 22, 3) := by decide +kernel
theorem dX4_firstBarBeyond_45 : decode cX4_firstBarBeyond 45 = .ok (.iload 4, 2) := by decide +kernel
theorem dX4_firstBarBeyond_47 : decode cX4_firstBarBeyond 47 = .ok (.iaload, 1) := by decide +kernel
theorem dX4_firstBarBeyond_48 : decode cX4_firstBarBeyond 48 = .ok (.iload_n 3, 1) := by decide +kernel
theorem dX4_firstBarBeyond_49 : decode cX4_firstBarBeyond 49 = .ok (.invokestatic 77, 3) := by decide +kernel
theorem dX4_firstBarBeyond_52 : decode cX4_firstBarBeyond 52 = .ok (.fadd, 1) := by decide +kernel
theorem dX4_firstBarBeyond_53 : decode cX4_firstBarBeyond 53 = .ok (.fstore_n 2, 1) := by decide +kernel
theorem dX4_firstBarBeyond_54 : decode cX4_firstBarBeyond 54 = .ok (.fload_n 2, 1) := by decide +kernel
theorem dX4_firstBarBeyond_55 : decode cX4_firstBarBeyond 55 = .ok (.fload_n 1, 1) := by decide +kernel
theorem dX4_firstBarBeyond_56 : decode cX4_firstBarBeyond 56 = .ok (.fcmp .l, 1) := by decide +kernel
theorem dX4_firstBarBeyond_57 : decode cX4_firstBarBeyond 57 = .ok (.ifCond .le 6, 3) := by decide +kernel
theorem dX4_firstBarBeyond_60 : decode cX4_firstBarBeyond 60 = .ok (.iload 4, 2) := by decide +kernel
theorem dX4_firstBarBeyond_62 : decode cX4_firstBarBeyond 62 = .ok (.ireturn, 1) := by decide +kernel
theorem dX4_firstBarBeyond_63 : decode cX4_firstBarBeyond 63 = .ok (.iinc 4 1, 3) := by decide +kernel
theorem dX4_firstBarBeyond_66 : decode cX4_firstBarBeyond 66 = .ok (.goto (-57), 3) := by decide +kernel
theorem dX4_firstBarBeyond_69 : decode cX4_firstBarBeyond 69 = .ok (.iconst 0, 1) := by decide +kernel
theorem dX4_firstBarBeyond_70 : decode cX4_firstBarBeyond 70 = .ok (.ireturn, 1) := by decide +kernel
theorem dX4_durationOfBar_0 : decode cX4_durationOfBar 0 = .ok (.iload_n 0, 1) := by decide +kernel
theorem dX4_durationOfBar_1 : decode cX4_durationOfBar 1 = .ok (.i2f, 1) := by decide +kernel
theorem dX4_durationOfBar_2 : decode cX4_durationOfBar 2 = .ok (.ldc 84, 2) := by decide +kernel
theorem dX4_durationOfBar_4 : decode cX4_durationOfBar 4 = .ok (.fmul, 1) := by decide +kernel
theorem dX4_durationOfBar_5 : decode cX4_durationOfBar 5 = .ok (.iload_n 1, 1) := by decide +kernel
theorem dX4_durationOfBar_6 : decode cX4_durationOfBar 6 = .ok (.i2f, 1) := by decide +kernel
theorem dX4_durationOfBar_7 : decode cX4_durationOfBar 7 = .ok (.ldc 85, 2) := by decide +kernel
theorem dX4_durationOfBar_9 : decode cX4_durationOfBar 9 = .ok (.fdiv, 1) := by decide +kernel
theorem dX4_durationOfBar_10 : decode cX4_durationOfBar 10 = .ok (.fdiv, 1) := by decide +kernel
theorem dX4_durationOfBar_11 : decode cX4_durationOfBar 11 = .ok (.freturn, 1) := by decide +kernel
theorem dX4_beatsInAll_0 : decode cX4_beatsInAll 0 = .ok (.iconst 0, 1) := by decide +kernel
theorem dX4_beatsInAll_1 : decode cX4_beatsInAll 1 = .ok (.istore_n 1, 1) := by decide +kernel
theorem dX4_beatsInAll_2 : decode cX4_beatsInAll 2 = .ok (.iconst 1, 1) := by decide +kernel
theorem dX4_beatsInAll_3 : decode cX4_beatsInAll 3 = .ok (.istore_n 2, 1) := by decide +kernel
theorem dX4_beatsInAll_4 : decode cX4_beatsInAll 4 = .ok (.iload_n 2, 1) := by decide +kernel
theorem dX4_beatsInAll_5 : decode cX4_beatsInAll 5 = .ok (.aload_n 0, 1) := by decide +kernel
theorem dX4_beatsInAll_6 : decode cX4_beatsInAll 6 = .ok (.getfield 45, 3) := by decide +kernel
theorem dX4_beatsInAll_9 : decode cX4_beatsInAll 9 = .ok (.if_icmp .gt 18, 3) := by decide +kernel
theorem dX4_beatsInAll_12 : decode cX4_beatsInAll 12 = .ok (.iload_n 1, 1) := by decide +kernel
theorem dX4_beatsInAll_13 : decode cX4_beatsInAll 13 = .ok (.aload_n 0, 1) := by decide +kernel
theorem dX4_beatsInAll_14 : decode cX4_beatsInAll 14 = .ok (.getfield 22, 3) := by decide +kernel
theorem dX4_beatsInAll_17 : decode cX4_beatsInAll 17 = .ok (.iload_n 2, 1) := by decide +kernel
theorem dX4_beatsInAll_18 : decode cX4_beatsInAll 18 = .ok (.iaload, 1) := by decide +kernel
theorem dX4_beatsInAll_19 : decode cX4_beatsInAll 19 = .ok (.iadd, 1) := by decide +kernel
theorem dX4_beatsInAll_20 : decode cX4_beatsInAll 20 = .ok (.istore_n 1, 1) := by decide +kernel
theorem dX4_beatsInAll_21 : decode cX4_beatsInAll 21 = .ok (.iinc 2 1, 3) := by decide +kernel
theorem dX4_beatsInAll_24 : decode cX4_beatsInAll 24 = .ok (.goto (-20), 3) := by decide +kernel
theorem dX4_beatsInAll_27 : decode cX4_beatsInAll 27 = .ok (.iload_n 1, 1) := by decide +kernel
theorem dX4_beatsInAll_28 : decode cX4_beatsInAll 28 = .ok (.ireturn, 1) := by decide +kernel
theorem dX4_ownTempos_0 : decode cX4_ownTempos 0 = .ok (.aload_n 0, 1) := by decide +kernel
theorem dX4_ownTempos_1 : decode cX4_ownTempos 1 = .ok (.aload_n 0, 1) := by decide +kernel
theorem dX4_ownTempos_2 : decode cX4_ownTempos 2 = .ok (.getfield 25, 3) := by decide +kernel
theorem dX4_ownTempos_5 : decode cX4_ownTempos 5 = .ok (.invokevirtual 86, 3) := by decide +kernel
theorem dX4_ownTempos_8 : decode cX4_ownTempos 8 = .ok (.ireturn, 1) := by decide +kernel
theorem dX4_bowingsInAll_0 : decode cX4_bowingsInAll 0 = .ok (.iconst 0, 1) := by decide +kernel
theorem dX4_bowingsInAll_1 : decode cX4_bowingsInAll 1 = .ok (.istore_n 1, 1) := by decide +kernel
theorem dX4_bowingsInAll_2 : decode cX4_bowingsInAll 2 = .ok (.iconst 0, 1) := by decide +kernel
theorem dX4_bowingsInAll_3 : decode cX4_bowingsInAll 3 = .ok (.istore_n 2, 1) := by decide +kernel
theorem dX4_bowingsInAll_4 : decode cX4_bowingsInAll 4 = .ok (.iload_n 2, 1) := by decide +kernel
theorem dX4_bowingsInAll_5 : decode cX4_bowingsInAll 5 = .ok (.iconst 4, 1) := by decide +kernel
theorem dX4_bowingsInAll_6 : decode cX4_bowingsInAll 6 = .ok (.if_icmp .ge 22, 3) := by decide +kernel
theorem dX4_bowingsInAll_9 : decode cX4_bowingsInAll 9 = .ok (.iload_n 1, 1) := by decide +kernel
theorem dX4_bowingsInAll_10 : decode cX4_bowingsInAll 10 = .ok (.aload_n 0, 1) := by decide +kernel
theorem dX4_bowingsInAll_11 : decode cX4_bowingsInAll 11 = .ok (.aload_n 0, 1) := by decide +kernel
theorem dX4_bowingsInAll_12 : decode cX4_bowingsInAll 12 = .ok (.getfield 30, 3) := by decide +kernel
theorem dX4_bowingsInAll_15 : decode cX4_bowingsInAll 15 = .ok (.iload_n 2, 1) := by decide +kernel
theorem dX4_bowingsInAll_16 : decode cX4_bowingsInAll 16 = .ok (.aaload, 1) := by decide +kernel
theorem dX4_bowingsInAll_17 : decode cX4_bowingsInAll 17 = .ok (.invokevirtual 86, 3) := by decide +kernel
theorem dX4_bowingsInAll_20 : decode cX4_bowingsInAll 20 = .ok (.iadd, 1) := by decide +kernel
theorem dX4_bowingsInAll_21 : decode cX4_bowingsInAll 21 = .ok (.istore_n 1, 1) := by decide +kernel
theorem dX4_bowingsInAll_22 : decode cX4_bowingsInAll 22 = .ok (.iinc 2 1, 3) := by decide +kernel
theorem dX4_bowingsInAll_25 : decode cX4_bowingsInAll 25 = .ok (.goto (-21), 3) := by decide +kernel
theorem dX4_bowingsInAll_28 : decode cX4_bowingsInAll 28 = .ok (.iload_n 1, 1) := by decide +kernel
theorem dX4_bowingsInAll_29 : decode cX4_bowingsInAll 29 = .ok (.ireturn, 1) := by decide +kernel
theorem dX4_filled_0 : decode cX4_filled 0 = .ok (.iconst 0, 1) := by decide +kernel
theorem dX4_filled_1 : decode cX4_filled 1 = .ok (.istore_n 2, 1) := by decide +kernel
theorem dX4_filled_2 : decode cX4_filled 2 = .ok (.iconst 1, 1) := by decide +kernel
theorem dX4_filled_3 : decode cX4_filled 3 = .ok (.istore_n 3, 1) := by decide +kernel
theorem dX4_filled_4 : decode cX4_filled 4 = .ok (.iload_n 3, 1) := by decide +kernel
theorem dX4_filled_5 : decode cX4_filled 5 = .ok (.aload_n 0, 1) := by decide +kernel
theorem dX4_filled_6 : decode cX4_filled 6 = .ok (.getfield 45, 3) := by decide +kernel
theorem dX4_filled_9 : decode cX4_filled 9 = .ok (.if_icmp .gt 23, 3) := by decide +kernel
theorem dX4_filled_12 : decode cX4_filled 12 = .ok (.iload_n 2, 1) := by decide +kernel
theorem dX4_filled_13 : decode cX4_filled 13 = .ok (.aload_n 1, 1) := by decide +kernel
theorem dX4_filled_14 : decode cX4_filled 14 = .ok (.iload_n 3, 1) := by decide +kernel
theorem dX4_filled_15 : decode cX4_filled 15 = .ok (.iaload, 1) := by decide +kernel
theorem dX4_filled_16 : decode cX4_filled 16 = .ok (.ifCond .ne 7, 3) := by decide +kernel
theorem dX4_filled_19 : decode cX4_filled 19 = .ok (.iconst 0, 1) := by decide +kernel
theorem dX4_filled_20 : decode cX4_filled 20 = .ok (.goto 4, 3) := by decide +kernel
theorem dX4_filled_23 : decode cX4_filled 23 = .ok (.iconst 1, 1) := by decide +kernel
theorem dX4_filled_24 : decode cX4_filled 24 = .ok (.iadd, 1) := by decide +kernel
theorem dX4_filled_25 : decode cX4_filled 25 = .ok (.istore_n 2, 1) := by decide +kernel
theorem dX4_filled_26 : decode cX4_filled 26 = .ok (.iinc 3 1, 3) := by decide +kernel
theorem dX4_filled_29 : decode cX4_filled 29 = .ok (.goto (-25), 3) := by decide +kernel
theorem dX4_filled_32 : decode cX4_filled 32 = .ok (.iload_n 2, 1) := by decide +kernel
theorem dX4_filled_33 : decode cX4_filled 33 = .ok (.ireturn, 1) := by decide +kernel
theorem dX4_copies_0 : decode cX4_copies 0 = .ok (.iload_n 2, 1) := by decide +kernel
theorem dX4_copies_1 : decode cX4_copies 1 = .ok (.tableswitch 48 1 3 #[27, 34, 41], 27) := by decide +kernel
theorem dX4_copies_28 : decode cX4_copies 28 = .ok (.aload_n 0, 1) := by decide +kernel
theorem dX4_copies_29 : decode cX4_copies 29 = .ok (.getfield 33, 3) := by decide +kernel
theorem dX4_copies_32 : decode cX4_copies 32 = .ok (.iload_n 1, 1) := by decide +kernel
theorem dX4_copies_33 : decode cX4_copies 33 = .ok (.iaload, 1) := by decide +kernel
theorem dX4_copies_34 : decode cX4_copies 34 = .ok (.ireturn, 1) := by decide +kernel
theorem dX4_copies_35 : decode cX4_copies 35 = .ok (.aload_n 0, 1) := by decide +kernel
theorem dX4_copies_36 : decode cX4_copies 36 = .ok (.getfield 36, 3) := by decide +kernel
theorem dX4_copies_39 : decode cX4_copies 39 = .ok (.iload_n 1, 1) := by decide +kernel
theorem dX4_copies_40 : decode cX4_copies 40 = .ok (.iaload, 1) := by decide +kernel
theorem dX4_copies_41 : decode cX4_copies 41 = .ok (.ireturn, 1) := by decide +kernel
theorem dX4_copies_42 : decode cX4_copies 42 = .ok (.aload_n 0, 1) := by decide +kernel
theorem dX4_copies_43 : decode cX4_copies 43 = .ok (.getfield 39, 3) := by decide +kernel
theorem dX4_copies_46 : decode cX4_copies 46 = .ok (.iload_n 1, 1) := by decide +kernel
theorem dX4_copies_47 : decode cX4_copies 47 = .ok (.iaload, 1) := by decide +kernel
theorem dX4_copies_48 : decode cX4_copies 48 = .ok (.ireturn, 1) := by decide +kernel
theorem dX4_copies_49 : decode cX4_copies 49 = .ok (.aload_n 0, 1) := by decide +kernel
theorem dX4_copies_50 : decode cX4_copies 50 = .ok (.getfield 33, 3) := by decide +kernel
theorem dX4_copies_53 : decode cX4_copies 53 = .ok (.iload_n 1, 1) := by decide +kernel
theorem dX4_copies_54 : decode cX4_copies 54 = .ok (.iaload, 1) := by decide +kernel
theorem dX4_copies_55 : decode cX4_copies 55 = .ok (.aload_n 0, 1) := by decide +kernel
theorem dX4_copies_56 : decode cX4_copies 56 = .ok (.getfield 36, 3) := by decide +kernel
theorem dX4_copies_59 : decode cX4_copies 59 = .ok (.iload_n 1, 1) := by decide +kernel
theorem dX4_copies_60 : decode cX4_copies 60 = .ok (.iaload, 1) := by decide +kernel
theorem dX4_copies_61 : decode cX4_copies 61 = .ok (.iadd, 1) := by decide +kernel
theorem dX4_copies_62 : decode cX4_copies 62 = .ok (.aload_n 0, 1) := by decide +kernel
theorem dX4_copies_63 : decode cX4_copies 63 = .ok (.getfield 39, 3) := by decide +kernel
theorem dX4_copies_66 : decode cX4_copies 66 = .ok (.iload_n 1, 1) := by decide +kernel
theorem dX4_copies_67 : decode cX4_copies 67 = .ok (.iaload, 1) := by decide +kernel
theorem dX4_copies_68 : decode cX4_copies 68 = .ok (.iadd, 1) := by decide +kernel
theorem dX4_copies_69 : decode cX4_copies 69 = .ok (.ireturn, 1) := by decide +kernel
theorem dX4_copiesInAll_0 : decode cX4_copiesInAll 0 = .ok (.iconst 0, 1) := by decide +kernel
theorem dX4_copiesInAll_1 : decode cX4_copiesInAll 1 = .ok (.istore_n 2, 1) := by decide +kernel
theorem dX4_copiesInAll_2 : decode cX4_copiesInAll 2 = .ok (.iconst 0, 1) := by decide +kernel
theorem dX4_copiesInAll_3 : decode cX4_copiesInAll 3 = .ok (.istore_n 3, 1) := by decide +kernel
theorem dX4_copiesInAll_4 : decode cX4_copiesInAll 4 = .ok (.iload_n 3, 1) := by decide +kernel
theorem dX4_copiesInAll_5 : decode cX4_copiesInAll 5 = .ok (.bipush 6, 2) := by decide +kernel
theorem dX4_copiesInAll_7 : decode cX4_copiesInAll 7 = .ok (.if_icmp .ge 18, 3) := by decide +kernel
theorem dX4_copiesInAll_10 : decode cX4_copiesInAll 10 = .ok (.iload_n 2, 1) := by decide +kernel
theorem dX4_copiesInAll_11 : decode cX4_copiesInAll 11 = .ok (.aload_n 0, 1) := by decide +kernel
theorem dX4_copiesInAll_12 : decode cX4_copiesInAll 12 = .ok (.iload_n 3, 1) := by decide +kernel
theorem dX4_copiesInAll_13 : decode cX4_copiesInAll 13 = .ok (.iload_n 1, 1) := by decide +kernel
theorem dX4_copiesInAll_14 : decode cX4_copiesInAll 14 = .ok (.invokevirtual 90, 3) := by decide +kernel
theorem dX4_copiesInAll_17 : decode cX4_copiesInAll 17 = .ok (.iadd, 1) := by decide +kernel
theorem dX4_copiesInAll_18 : decode cX4_copiesInAll 18 = .ok (.istore_n 2, 1) := by decide +kernel
theorem dX4_copiesInAll_19 : decode cX4_copiesInAll 19 = .ok (.iinc 3 1, 3) := by decide +kernel
theorem dX4_copiesInAll_22 : decode cX4_copiesInAll 22 = .ok (.goto (-18), 3) := by decide +kernel
theorem dX4_copiesInAll_25 : decode cX4_copiesInAll 25 = .ok (.iload_n 2, 1) := by decide +kernel
theorem dX4_copiesInAll_26 : decode cX4_copiesInAll 26 = .ok (.ireturn, 1) := by decide +kernel
theorem dX4_isBought_0 : decode cX4_isBought 0 = .ok (.aload_n 0, 1) := by decide +kernel
theorem dX4_isBought_1 : decode cX4_isBought 1 = .ok (.iconst 0, 1) := by decide +kernel
theorem dX4_isBought_2 : decode cX4_isBought 2 = .ok (.invokevirtual 94, 3) := by decide +kernel
theorem dX4_isBought_5 : decode cX4_isBought 5 = .ok (.ifCond .le 7, 3) := by decide +kernel
theorem dX4_isBought_8 : decode cX4_isBought 8 = .ok (.iconst 1, 1) := by decide +kernel
theorem dX4_isBought_9 : decode cX4_isBought 9 = .ok (.goto 4, 3) := by decide +kernel
theorem dX4_isBought_12 : decode cX4_isBought 12 = .ok (.iconst 0, 1) := by decide +kernel
theorem dX4_isBought_13 : decode cX4_isBought 13 = .ok (.ireturn, 1) := by decide +kernel
theorem dX5_init_0 : decode cX5_init 0 = .ok (.aload_n 0, 1) := by decide +kernel
theorem dX5_init_1 : decode cX5_init 1 = .ok (.invokespecial 3, 3) := by decide +kernel
theorem dX5_init_4 : decode cX5_init 4 = .ok (.aload_n 0, 1) := by decide +kernel
theorem dX5_init_5 : decode cX5_init 5 = .ok (.bipush 9, 2) := by decide +kernel
theorem dX5_init_7 : decode cX5_init 7 = .ok (.anewarray 11, 3) := by decide +kernel
theorem dX5_init_10 : decode cX5_init 10 = .ok (.putfield 13, 3) := by decide +kernel
theorem dX5_init_13 : decode cX5_init 13 = .ok (.iconst 0, 1) := by decide +kernel
theorem dX5_init_14 : decode cX5_init 14 = .ok (.istore_n 1, 1) := by decide +kernel
theorem dX5_init_15 : decode cX5_init 15 = .ok (.iload_n 1, 1) := by decide +kernel
theorem dX5_init_16 : decode cX5_init 16 = .ok (.bipush 9, 2) := by decide +kernel
theorem dX5_init_18 : decode cX5_init 18 = .ok (.if_icmp .ge 22, 3) := by decide +kernel
theorem dX5_init_21 : decode cX5_init 21 = .ok (.aload_n 0, 1) := by decide +kernel
theorem dX5_init_22 : decode cX5_init 22 = .ok (.getfield 13, 3) := by decide +kernel
theorem dX5_init_25 : decode cX5_init 25 = .ok (.iload_n 1, 1) := by decide +kernel
theorem dX5_init_26 : decode cX5_init 26 = .ok (.new 11, 3) := by decide +kernel
theorem dX5_init_29 : decode cX5_init 29 = .ok (.dup, 1) := by decide +kernel
theorem dX5_init_30 : decode cX5_init 30 = .ok (.invokespecial 17, 3) := by decide +kernel
theorem dX5_init_33 : decode cX5_init 33 = .ok (.aastore, 1) := by decide +kernel
theorem dX5_init_34 : decode cX5_init 34 = .ok (.iinc 1 1, 3) := by decide +kernel
theorem dX5_init_37 : decode cX5_init 37 = .ok (.goto (-22), 3) := by decide +kernel
theorem dX5_init_40 : decode cX5_init 40 = .ok (.return_, 1) := by decide +kernel
theorem dX5_prepare_0 : decode cX5_prepare 0 = .ok (.aload_n 0, 1) := by decide +kernel
theorem dX5_prepare_1 : decode cX5_prepare 1 = .ok (.invokevirtual 18, 3) := by decide +kernel
theorem dX5_prepare_4 : decode cX5_prepare 4 = .ok (.aload_n 1, 1) := by decide +kernel
theorem dX5_prepare_5 : decode cX5_prepare 5 = .ok (.invokevirtual 22, 3) := by decide +kernel
theorem dX5_prepare_8 : decode cX5_prepare 8 = .ok (.return_, 1) := by decide +kernel
theorem dX5_commit_0 : decode cX5_commit 0 = .ok (.aload_n 0, 1) := by decide +kernel
theorem dX5_commit_1 : decode cX5_commit 1 = .ok (.getfield 26, 3) := by decide +kernel
theorem dX5_commit_4 : decode cX5_commit 4 = .ok (.bipush 8, 2) := by decide +kernel
theorem dX5_commit_6 : decode cX5_commit 6 = .ok (.if_icmp .ge 16, 3) := by decide +kernel
theorem dX5_commit_9 : decode cX5_commit 9 = .ok (.aload_n 0, 1) := by decide +kernel
theorem dX5_commit_10 : decode cX5_commit 10 = .ok (.dup, 1) := by decide +kernel
theorem dX5_commit_11 : decode cX5_commit 11 = .ok (.getfield 26, 3) := by decide +kernel
theorem dX5_commit_14 : decode cX5_commit 14 = .ok (.iconst 1, 1) := by decide +kernel
theorem dX5_commit_15 : decode cX5_commit 15 = .ok (.iadd, 1) := by decide +kernel
theorem dX5_commit_16 : decode cX5_commit 16 = .ok (.putfield 26, 3) := by decide +kernel
theorem dX5_commit_19 : decode cX5_commit 19 = .ok (.goto 16, 3) := by decide +kernel
theorem dX5_commit_22 : decode cX5_commit 22 = .ok (.aload_n 0, 1) := by decide +kernel
theorem dX5_commit_23 : decode cX5_commit 23 = .ok (.aload_n 0, 1) := by decide +kernel
theorem dX5_commit_24 : decode cX5_commit 24 = .ok (.getfield 30, 3) := by decide +kernel
theorem dX5_commit_27 : decode cX5_commit 27 = .ok (.iconst 1, 1) := by decide +kernel
theorem dX5_commit_28 : decode cX5_commit 28 = .ok (.iadd, 1) := by decide +kernel
theorem dX5_commit_29 : decode cX5_commit 29 = .ok (.bipush 9, 2) := by decide +kernel
theorem dX5_commit_31 : decode cX5_commit 31 = .ok (.irem, 1) := by decide +kernel
theorem dX5_commit_32 : decode cX5_commit 32 = .ok (.putfield 30, 3) := by decide +kernel
theorem dX5_commit_35 : decode cX5_commit 35 = .ok (.return_, 1) := by decide +kernel
theorem dX5_keep_0 : decode cX5_keep 0 = .ok (.aload_n 0, 1) := by decide +kernel
theorem dX5_keep_1 : decode cX5_keep 1 = .ok (.aload_n 1, 1) := by decide +kernel
theorem dX5_keep_2 : decode cX5_keep 2 = .ok (.invokevirtual 33, 3) := by decide +kernel
theorem dX5_keep_5 : decode cX5_keep 5 = .ok (.aload_n 0, 1) := by decide +kernel
theorem dX5_keep_6 : decode cX5_keep 6 = .ok (.invokevirtual 36, 3) := by decide +kernel
theorem dX5_keep_9 : decode cX5_keep 9 = .ok (.return_, 1) := by decide +kernel
theorem dX5_takeBack_0 : decode cX5_takeBack 0 = .ok (.aload_n 1, 1) := by decide +kernel
theorem dX5_takeBack_1 : decode cX5_takeBack 1 = .ok (.aload_n 0, 1) := by decide +kernel
theorem dX5_takeBack_2 : decode cX5_takeBack 2 = .ok (.invokevirtual 18, 3) := by decide +kernel
theorem dX5_takeBack_5 : decode cX5_takeBack 5 = .ok (.invokevirtual 22, 3) := by decide +kernel
theorem dX5_takeBack_8 : decode cX5_takeBack 8 = .ok (.return_, 1) := by decide +kernel
theorem dX5_goBack_0 : decode cX5_goBack 0 = .ok (.aload_n 0, 1) := by decide +kernel
theorem dX5_goBack_1 : decode cX5_goBack 1 = .ok (.dup, 1) := by decide +kernel
theorem dX5_goBack_2 : decode cX5_goBack 2 = .ok (.getfield 26, 3) := by decide +kernel
theorem dX5_goBack_5 : decode cX5_goBack 5 = .ok (.iconst 1, 1) := by decide +kernel
theorem dX5_goBack_6 : decode cX5_goBack 6 = .ok (.isub, 1) := by decide +kernel
theorem dX5_goBack_7 : decode cX5_goBack 7 = .ok (.putfield 26, 3) := by decide +kernel
theorem dX5_goBack_10 : decode cX5_goBack 10 = .ok (.aload_n 0, 1) := by decide +kernel
theorem dX5_goBack_11 : decode cX5_goBack 11 = .ok (.aload_n 1, 1) := by decide +kernel
theorem dX5_goBack_12 : decode cX5_goBack 12 = .ok (.invokevirtual 39, 3) := by decide +kernel
theorem dX5_goBack_15 : decode cX5_goBack 15 = .ok (.return_, 1) := by decide +kernel
theorem dX5_spareRow_0 : decode cX5_spareRow 0 = .ok (.aload_n 0, 1) := by decide +kernel
theorem dX5_spareRow_1 : decode cX5_spareRow 1 = .ok (.getfield 13, 3) := by decide +kernel
theorem dX5_spareRow_4 : decode cX5_spareRow 4 = .ok (.aload_n 0, 1) := by decide +kernel
theorem dX5_spareRow_5 : decode cX5_spareRow 5 = .ok (.getfield 30, 3) := by decide +kernel
theorem dX5_spareRow_8 : decode cX5_spareRow 8 = .ok (.aload_n 0, 1) := by decide +kernel
theorem dX5_spareRow_9 : decode cX5_spareRow 9 = .ok (.getfield 26, 3) := by decide +kernel
theorem dX5_spareRow_12 : decode cX5_spareRow 12 = .ok (.iadd, 1) := by decide +kernel
theorem dX5_spareRow_13 : decode cX5_spareRow 13 = .ok (.bipush 9, 2) := by decide +kernel
theorem dX5_spareRow_15 : decode cX5_spareRow 15 = .ok (.irem, 1) := by decide +kernel
theorem dX5_spareRow_16 : decode cX5_spareRow 16 = .ok (.aaload, 1) := by decide +kernel
theorem dX5_spareRow_17 : decode cX5_spareRow 17 = .ok (.areturn, 1) := by decide +kernel
theorem dX6_init_0 : decode cX6_init 0 = .ok (.aload_n 0, 1) := by decide +kernel
theorem dX6_init_1 : decode cX6_init 1 = .ok (.invokespecial 3, 3) := by decide +kernel
theorem dX6_init_4 : decode cX6_init 4 = .ok (.aload_n 0, 1) := by decide +kernel
theorem dX6_init_5 : decode cX6_init 5 = .ok (.bipush 6, 2) := by decide +kernel
theorem dX6_init_7 : decode cX6_init 7 = .ok (.anewarray 9, 3) := by decide +kernel
theorem dX6_init_10 : decode cX6_init 10 = .ok (.putfield 11, 3) := by decide +kernel
theorem dX6_init_13 : decode cX6_init 13 = .ok (.iconst 0, 1) := by decide +kernel
theorem dX6_init_14 : decode cX6_init 14 = .ok (.istore_n 1, 1) := by decide +kernel
theorem dX6_init_15 : decode cX6_init 15 = .ok (.iload_n 1, 1) := by decide +kernel
theorem dX6_init_16 : decode cX6_init 16 = .ok (.bipush 6, 2) := by decide +kernel
theorem dX6_init_18 : decode cX6_init 18 = .ok (.if_icmp .ge 22, 3) := by decide +kernel
theorem dX6_init_21 : decode cX6_init 21 = .ok (.aload_n 0, 1) := by decide +kernel
theorem dX6_init_22 : decode cX6_init 22 = .ok (.getfield 11, 3) := by decide +kernel
theorem dX6_init_25 : decode cX6_init 25 = .ok (.iload_n 1, 1) := by decide +kernel
theorem dX6_init_26 : decode cX6_init 26 = .ok (.new 9, 3) := by decide +kernel
theorem dX6_init_29 : decode cX6_init 29 = .ok (.dup, 1) := by decide +kernel
theorem dX6_init_30 : decode cX6_init 30 = .ok (.invokespecial 17, 3) := by decide +kernel
theorem dX6_init_33 : decode cX6_init 33 = .ok (.aastore, 1) := by decide +kernel
theorem dX6_init_34 : decode cX6_init 34 = .ok (.iinc 1 1, 3) := by decide +kernel
theorem dX6_init_37 : decode cX6_init 37 = .ok (.goto (-22), 3) := by decide +kernel
theorem dX6_init_40 : decode cX6_init 40 = .ok (.aload_n 0, 1) := by decide +kernel
theorem dX6_init_41 : decode cX6_init 41 = .ok (.iconst 4, 1) := by decide +kernel
theorem dX6_init_42 : decode cX6_init 42 = .ok (.newarray .int, 2) := by decide +kernel
theorem dX6_init_44 : decode cX6_init 44 = .ok (.putfield 18, 3) := by decide +kernel
theorem dX6_init_47 : decode cX6_init 47 = .ok (.aload_n 0, 1) := by decide +kernel
theorem dX6_init_48 : decode cX6_init 48 = .ok (.iconst 4, 1) := by decide +kernel
theorem dX6_init_49 : decode cX6_init 49 = .ok (.newarray .int, 2) := by decide +kernel
theorem dX6_init_51 : decode cX6_init 51 = .ok (.putfield 22, 3) := by decide +kernel
theorem dX6_init_54 : decode cX6_init 54 = .ok (.aload_n 0, 1) := by decide +kernel
theorem dX6_init_55 : decode cX6_init 55 = .ok (.bipush 6, 2) := by decide +kernel
theorem dX6_init_57 : decode cX6_init 57 = .ok (.newarray .int, 2) := by decide +kernel
theorem dX6_init_59 : decode cX6_init 59 = .ok (.putfield 25, 3) := by decide +kernel
theorem dX6_init_62 : decode cX6_init 62 = .ok (.aload_n 0, 1) := by decide +kernel
theorem dX6_init_63 : decode cX6_init 63 = .ok (.bipush 20, 2) := by decide +kernel
theorem dX6_init_65 : decode cX6_init 65 = .ok (.anewarray 28, 3) := by decide +kernel
theorem dX6_init_68 : decode cX6_init 68 = .ok (.putfield 30, 3) := by decide +kernel
theorem dX6_init_71 : decode cX6_init 71 = .ok (.iconst 0, 1) := by decide +kernel
theorem dX6_init_72 : decode cX6_init 72 = .ok (.istore_n 1, 1) := by decide +kernel
theorem dX6_init_73 : decode cX6_init 73 = .ok (.iload_n 1, 1) := by decide +kernel
theorem dX6_init_74 : decode cX6_init 74 = .ok (.bipush 20, 2) := by decide +kernel
theorem dX6_init_76 : decode cX6_init 76 = .ok (.if_icmp .ge 22, 3) := by decide +kernel
theorem dX6_init_79 : decode cX6_init 79 = .ok (.aload_n 0, 1) := by decide +kernel
theorem dX6_init_80 : decode cX6_init 80 = .ok (.getfield 30, 3) := by decide +kernel
theorem dX6_init_83 : decode cX6_init 83 = .ok (.iload_n 1, 1) := by decide +kernel
theorem dX6_init_84 : decode cX6_init 84 = .ok (.new 28, 3) := by decide +kernel
theorem dX6_init_87 : decode cX6_init 87 = .ok (.dup, 1) := by decide +kernel
theorem dX6_init_88 : decode cX6_init 88 = .ok (.invokespecial 34, 3) := by decide +kernel
theorem dX6_init_91 : decode cX6_init 91 = .ok (.aastore, 1) := by decide +kernel
theorem dX6_init_92 : decode cX6_init 92 = .ok (.iinc 1 1, 3) := by decide +kernel
theorem dX6_init_95 : decode cX6_init 95 = .ok (.goto (-22), 3) := by decide +kernel
theorem dX6_init_98 : decode cX6_init 98 = .ok (.return_, 1) := by decide +kernel
theorem dX6_becomeLike_0 : decode cX6_becomeLike 0 = .ok (.aload_n 0, 1) := by decide +kernel
theorem dX6_becomeLike_1 : decode cX6_becomeLike 1 = .ok (.aload_n 1, 1) := by decide +kernel
theorem dX6_becomeLike_2 : decode cX6_becomeLike 2 = .ok (.getfield 35, 3) := by decide +kernel
theorem dX6_becomeLike_5 : decode cX6_becomeLike 5 = .ok (.putfield 35, 3) := by decide +kernel
theorem dX6_becomeLike_8 : decode cX6_becomeLike 8 = .ok (.iconst 0, 1) := by decide +kernel
theorem dX6_becomeLike_9 : decode cX6_becomeLike 9 = .ok (.istore_n 2, 1) := by decide +kernel
theorem dX6_becomeLike_10 : decode cX6_becomeLike 10 = .ok (.iload_n 2, 1) := by decide +kernel
theorem dX6_becomeLike_11 : decode cX6_becomeLike 11 = .ok (.aload_n 0, 1) := by decide +kernel
theorem dX6_becomeLike_12 : decode cX6_becomeLike 12 = .ok (.getfield 35, 3) := by decide +kernel
theorem dX6_becomeLike_15 : decode cX6_becomeLike 15 = .ok (.if_icmp .ge 24, 3) := by decide +kernel
theorem dX6_becomeLike_18 : decode cX6_becomeLike 18 = .ok (.aload_n 0, 1) := by decide +kernel
theorem dX6_becomeLike_19 : decode cX6_becomeLike 19 = .ok (.getfield 11, 3) := by decide +kernel
theorem dX6_becomeLike_22 : decode cX6_becomeLike 22 = .ok (.iload_n 2, 1) := by decide +kernel
theorem dX6_becomeLike_23 : decode cX6_becomeLike 23 = .ok (.aaload, 1) := by decide +kernel
theorem dX6_becomeLike_24 : decode cX6_becomeLike 24 = .ok (.aload_n 1, 1) := by decide +kernel
theorem dX6_becomeLike_25 : decode cX6_becomeLike 25 = .ok (.getfield 11, 3) := by decide +kernel
theorem dX6_becomeLike_28 : decode cX6_becomeLike 28 = .ok (.iload_n 2, 1) := by decide +kernel
theorem dX6_becomeLike_29 : decode cX6_becomeLike 29 = .ok (.aaload, 1) := by decide +kernel
theorem dX6_becomeLike_30 : decode cX6_becomeLike 30 = .ok (.invokevirtual 39, 3) := by decide +kernel
theorem dX6_becomeLike_33 : decode cX6_becomeLike 33 = .ok (.iinc 2 1, 3) := by decide +kernel
theorem dX6_becomeLike_36 : decode cX6_becomeLike 36 = .ok (.goto (-26), 3) := by decide +kernel
theorem dX6_becomeLike_39 : decode cX6_becomeLike 39 = .ok (.aload_n 1, 1) := by decide +kernel
theorem dX6_becomeLike_40 : decode cX6_becomeLike 40 = .ok (.getfield 18, 3) := by decide +kernel
theorem dX6_becomeLike_43 : decode cX6_becomeLike 43 = .ok (.iconst 0, 1) := by decide +kernel
theorem dX6_becomeLike_44 : decode cX6_becomeLike 44 = .ok (.aload_n 0, 1) := by decide +kernel
theorem dX6_becomeLike_45 : decode cX6_becomeLike 45 = .ok (.getfield 18, 3) := by decide +kernel
theorem dX6_becomeLike_48 : decode cX6_becomeLike 48 = .ok (.iconst 0, 1) := by decide +kernel
theorem dX6_becomeLike_49 : decode cX6_becomeLike 49 = .ok (.iconst 4, 1) := by decide +kernel
theorem dX6_becomeLike_50 : decode cX6_becomeLike 50 = .ok (.invokestatic 43, 3) := by decide +kernel
theorem dX6_becomeLike_53 : decode cX6_becomeLike 53 = .ok (.aload_n 1, 1) := by decide +kernel
theorem dX6_becomeLike_54 : decode cX6_becomeLike 54 = .ok (.getfield 22, 3) := by decide +kernel
theorem dX6_becomeLike_57 : decode cX6_becomeLike 57 = .ok (.iconst 0, 1) := by decide +kernel
theorem dX6_becomeLike_58 : decode cX6_becomeLike 58 = .ok (.aload_n 0, 1) := by decide +kernel
theorem dX6_becomeLike_59 : decode cX6_becomeLike 59 = .ok (.getfield 22, 3) := by decide +kernel
theorem dX6_becomeLike_62 : decode cX6_becomeLike 62 = .ok (.iconst 0, 1) := by decide +kernel
theorem dX6_becomeLike_63 : decode cX6_becomeLike 63 = .ok (.iconst 4, 1) := by decide +kernel
theorem dX6_becomeLike_64 : decode cX6_becomeLike 64 = .ok (.invokestatic 43, 3) := by decide +kernel
theorem dX6_becomeLike_67 : decode cX6_becomeLike 67 = .ok (.aload_n 1, 1) := by decide +kernel
theorem dX6_becomeLike_68 : decode cX6_becomeLike 68 = .ok (.getfield 25, 3) := by decide +kernel
theorem dX6_becomeLike_71 : decode cX6_becomeLike 71 = .ok (.iconst 0, 1) := by decide +kernel
theorem dX6_becomeLike_72 : decode cX6_becomeLike 72 = .ok (.aload_n 0, 1) := by decide +kernel
theorem dX6_becomeLike_73 : decode cX6_becomeLike 73 = .ok (.getfield 25, 3) := by decide +kernel
theorem dX6_becomeLike_76 : decode cX6_becomeLike 76 = .ok (.iconst 0, 1) := by decide +kernel
theorem dX6_becomeLike_77 : decode cX6_becomeLike 77 = .ok (.bipush 6, 2) := by decide +kernel
theorem dX6_becomeLike_79 : decode cX6_becomeLike 79 = .ok (.invokestatic 43, 3) := by decide +kernel
theorem dX6_becomeLike_82 : decode cX6_becomeLike 82 = .ok (.aload_n 0, 1) := by decide +kernel
theorem dX6_becomeLike_83 : decode cX6_becomeLike 83 = .ok (.aload_n 1, 1) := by decide +kernel
theorem dX6_becomeLike_84 : decode cX6_becomeLike 84 = .ok (.getfield 49, 3) := by decide +kernel
theorem dX6_becomeLike_87 : decode cX6_becomeLike 87 = .ok (.putfield 49, 3) := by decide +kernel
theorem dX6_becomeLike_90 : decode cX6_becomeLike 90 = .ok (.iconst 0, 1) := by decide +kernel
theorem dX6_becomeLike_91 : decode cX6_becomeLike 91 = .ok (.istore_n 2, 1) := by decide +kernel
theorem dX6_becomeLike_92 : decode cX6_becomeLike 92 = .ok (.iload_n 2, 1) := by decide +kernel
theorem dX6_becomeLike_93 : decode cX6_becomeLike 93 = .ok (.aload_n 0, 1) := by decide +kernel
theorem dX6_becomeLike_94 : decode cX6_becomeLike 94 = .ok (.getfield 49, 3) := by decide +kernel
theorem dX6_becomeLike_97 : decode cX6_becomeLike 97 = .ok (.if_icmp .ge 24, 3) := by decide +kernel
theorem dX6_becomeLike_100 : decode cX6_becomeLike 100 = .ok (.aload_n 0, 1) := by decide +kernel
theorem dX6_becomeLike_101 : decode cX6_becomeLike 101 = .ok (.getfield 30, 3) := by decide +kernel
theorem dX6_becomeLike_104 : decode cX6_becomeLike 104 = .ok (.iload_n 2, 1) := by decide +kernel
theorem dX6_becomeLike_105 : decode cX6_becomeLike 105 = .ok (.aaload, 1) := by decide +kernel
theorem dX6_becomeLike_106 : decode cX6_becomeLike 106 = .ok (.aload_n 1, 1) := by decide +kernel
theorem dX6_becomeLike_107 : decode cX6_becomeLike 107 = .ok (.getfield 30, 3) := by decide +kernel
theorem dX6_becomeLike_110 : decode cX6_becomeLike 110 = .ok (.iload_n 2, 1) := by decide +kernel
theorem dX6_becomeLike_111 : decode cX6_becomeLike 111 = .ok (.aaload, 1) := by decide +kernel
theorem dX6_becomeLike_112 : decode cX6_becomeLike 112 = .ok (.invokevirtual 52, 3) := by decide +kernel
theorem dX6_becomeLike_115 : decode cX6_becomeLike 115 = .ok (.iinc 2 1, 3) := by decide +kernel
theorem dX6_becomeLike_118 : decode cX6_becomeLike 118 = .ok (.goto (-26), 3) := by decide +kernel
theorem dX6_becomeLike_121 : decode cX6_becomeLike 121 = .ok (.aload_n 0, 1) := by decide +kernel
theorem dX6_becomeLike_122 : decode cX6_becomeLike 122 = .ok (.aload_n 1, 1) := by decide +kernel
theorem dX6_becomeLike_123 : decode cX6_becomeLike 123 = .ok (.getfield 55, 3) := by decide +kernel
theorem dX6_becomeLike_126 : decode cX6_becomeLike 126 = .ok (.putfield 55, 3) := by decide +kernel
theorem dX6_becomeLike_129 : decode cX6_becomeLike 129 = .ok (.return_, 1) := by decide +kernel
theorem dX6_hasWork_0 : decode cX6_hasWork 0 = .ok (.iconst 0, 1) := by decide +kernel
theorem dX6_hasWork_1 : decode cX6_hasWork 1 = .ok (.istore_n 2, 1) := by decide +kernel
theorem dX6_hasWork_2 : decode cX6_hasWork 2 = .ok (.iload_n 2, 1) := by decide +kernel
theorem dX6_hasWork_3 : decode cX6_hasWork 3 = .ok (.aload_n 0, 1) := by decide +kernel
theorem dX6_hasWork_4 : decode cX6_hasWork 4 = .ok (.getfield 35, 3) := by decide +kernel
theorem dX6_hasWork_7 : decode cX6_hasWork 7 = .ok (.if_icmp .ge 24, 3) := by decide +kernel
theorem dX6_hasWork_10 : decode cX6_hasWork 10 = .ok (.aload_n 0, 1) := by decide +kernel
theorem dX6_hasWork_11 : decode cX6_hasWork 11 = .ok (.getfield 11, 3) := by decide +kernel
theorem dX6_hasWork_14 : decode cX6_hasWork 14 = .ok (.iload_n 2, 1) := by decide +kernel
theorem dX6_hasWork_15 : decode cX6_hasWork 15 = .ok (.aaload, 1) := by decide +kernel
theorem dX6_hasWork_16 : decode cX6_hasWork 16 = .ok (.getfield 58, 3) := by decide +kernel
theorem dX6_hasWork_19 : decode cX6_hasWork 19 = .ok (.iload_n 1, 1) := by decide +kernel
theorem dX6_hasWork_20 : decode cX6_hasWork 20 = .ok (.if_icmp .ne 5, 3) := by decide +kernel
theorem dX6_hasWork_23 : decode cX6_hasWork 23 = .ok (.iconst 1, 1) := by decide +kernel
theorem dX6_hasWork_24 : decode cX6_hasWork 24 = .ok (.ireturn, 1) := by decide +kernel
theorem dX6_hasWork_25 : decode cX6_hasWork 25 = .ok (.iinc 2 1, 3) := by decide +kernel
theorem dX6_hasWork_28 : decode cX6_hasWork 28 = .ok (.goto (-26), 3) := by decide +kernel
theorem dX6_hasWork_31 : decode cX6_hasWork 31 = .ok (.iconst 0, 1) := by decide +kernel
theorem dX6_hasWork_32 : decode cX6_hasWork 32 = .ok (.ireturn, 1) := by decide +kernel
theorem dX6_addFirst_0 : decode cX6_addFirst 0 = .ok (.aload_n 0, 1) := by decide +kernel
theorem dX6_addFirst_1 : decode cX6_addFirst 1 = .ok (.getfield 35, 3) := by decide +kernel
theorem dX6_addFirst_4 : decode cX6_addFirst 4 = .ok (.istore 4, 2) := by decide +kernel
theorem dX6_addFirst_6 : decode cX6_addFirst 6 = .ok (.aload_n 0, 1) := by decide +kernel
theorem dX6_addFirst_7 : decode cX6_addFirst 7 = .ok (.getfield 11, 3) := by decide +kernel
theorem dX6_addFirst_10 : decode cX6_addFirst 10 = .ok (.iload 4, 2) := by decide +kernel
theorem dX6_addFirst_12 : decode cX6_addFirst 12 = .ok (.aaload, 1) := by decide +kernel
theorem dX6_addFirst_13 : decode cX6_addFirst 13 = .ok (.iload_n 1, 1) := by decide +kernel
theorem dX6_addFirst_14 : decode cX6_addFirst 14 = .ok (.iload_n 2, 1) := by decide +kernel
theorem dX6_addFirst_15 : decode cX6_addFirst 15 = .ok (.iload_n 3, 1) := by decide +kernel
theorem dX6_addFirst_16 : decode cX6_addFirst 16 = .ok (.invokevirtual 61, 3) := by decide +kernel
theorem dX6_addFirst_19 : decode cX6_addFirst 19 = .ok (.aload_n 0, 1) := by decide +kernel
theorem dX6_addFirst_20 : decode cX6_addFirst 20 = .ok (.getfield 18, 3) := by decide +kernel
theorem dX6_addFirst_23 : decode cX6_addFirst 23 = .ok (.iload_n 1, 1) := by decide +kernel
theorem dX6_addFirst_24 : decode cX6_addFirst 24 = .ok (.iload_n 2, 1) := by decide +kernel
theorem dX6_addFirst_25 : decode cX6_addFirst 25 = .ok (.iastore, 1) := by decide +kernel
theorem dX6_addFirst_26 : decode cX6_addFirst 26 = .ok (.aload_n 0, 1) := by decide +kernel
theorem dX6_addFirst_27 : decode cX6_addFirst 27 = .ok (.getfield 22, 3) := by decide +kernel
theorem dX6_addFirst_30 : decode cX6_addFirst 30 = .ok (.iload_n 1, 1) := by decide +kernel
theorem dX6_addFirst_31 : decode cX6_addFirst 31 = .ok (.iconst 0, 1) := by decide +kernel
theorem dX6_addFirst_32 : decode cX6_addFirst 32 = .ok (.iastore, 1) := by decide +kernel
theorem dX6_addFirst_33 : decode cX6_addFirst 33 = .ok (.aload_n 0, 1) := by decide +kernel
theorem dX6_addFirst_34 : decode cX6_addFirst 34 = .ok (.dup, 1) := by decide +kernel
theorem dX6_addFirst_35 : decode cX6_addFirst 35 = .ok (.getfield 35, 3) := by decide +kernel
theorem dX6_addFirst_38 : decode cX6_addFirst 38 = .ok (.iconst 1, 1) := by decide +kernel
theorem dX6_addFirst_39 : decode cX6_addFirst 39 = .ok (.iadd, 1) := by decide +kernel
theorem dX6_addFirst_40 : decode cX6_addFirst 40 = .ok (.putfield 35, 3) := by decide +kernel
theorem dX6_addFirst_43 : decode cX6_addFirst 43 = .ok (.iload 4, 2) := by decide +kernel
theorem dX6_addFirst_45 : decode cX6_addFirst 45 = .ok (.ireturn, 1) := by decide +kernel
theorem dX6_addCopy_0 : decode cX6_addCopy 0 = .ok (.aload_n 0, 1) := by decide +kernel
theorem dX6_addCopy_1 : decode cX6_addCopy 1 = .ok (.getfield 35, 3) := by decide +kernel
theorem dX6_addCopy_4 : decode cX6_addCopy 4 = .ok (.istore_n 2, 1) := by decide +kernel
theorem dX6_addCopy_5 : decode cX6_addCopy 5 = .ok (.aload_n 0, 1) := by decide +kernel
theorem dX6_addCopy_6 : decode cX6_addCopy 6 = .ok (.getfield 11, 3) := by decide +kernel
theorem dX6_addCopy_9 : decode cX6_addCopy 9 = .ok (.iload_n 2, 1) := by decide +kernel
theorem dX6_addCopy_10 : decode cX6_addCopy 10 = .ok (.aaload, 1) := by decide +kernel
theorem dX6_addCopy_11 : decode cX6_addCopy 11 = .ok (.aload_n 0, 1) := by decide +kernel
theorem dX6_addCopy_12 : decode cX6_addCopy 12 = .ok (.getfield 11, 3) := by decide +kernel
theorem dX6_addCopy_15 : decode cX6_addCopy 15 = .ok (.iload_n 1, 1) := by decide +kernel
theorem dX6_addCopy_16 : decode cX6_addCopy 16 = .ok (.aaload, 1) := by decide +kernel
theorem dX6_addCopy_17 : decode cX6_addCopy 17 = .ok (.iload_n 1, 1) := by decide +kernel
theorem dX6_addCopy_18 : decode cX6_addCopy 18 = .ok (.invokevirtual 65, 3) := by decide +kernel
theorem dX6_addCopy_21 : decode cX6_addCopy 21 = .ok (.aload_n 0, 1) := by decide +kernel
theorem dX6_addCopy_22 : decode cX6_addCopy 22 = .ok (.dup, 1) := by decide +kernel
theorem dX6_addCopy_23 : decode cX6_addCopy 23 = .ok (.getfield 35, 3) := by decide +kernel
theorem dX6_addCopy_26 : decode cX6_addCopy 26 = .ok (.iconst 1, 1) := by decide +kernel
theorem dX6_addCopy_27 : decode cX6_addCopy 27 = .ok (.iadd, 1) := by decide +kernel
theorem dX6_addCopy_28 : decode cX6_addCopy 28 = .ok (.putfield 35, 3) := by decide +kernel
theorem dX6_addCopy_31 : decode cX6_addCopy 31 = .ok (.iload_n 2, 1) := by decide +kernel
theorem dX6_addCopy_32 : decode cX6_addCopy 32 = .ok (.ireturn, 1) := by decide +kernel
theorem dX6_copiesOfModel_0 : decode cX6_copiesOfModel 0 = .ok (.iconst 0, 1) := by decide +kernel
theorem dX6_copiesOfModel_1 : decode cX6_copiesOfModel 1 = .ok (.istore_n 2, 1) := by decide +kernel
theorem dX6_copiesOfModel_2 : decode cX6_copiesOfModel 2 = .ok (.iconst 0, 1) := by decide +kernel
theorem dX6_copiesOfModel_3 : decode cX6_copiesOfModel 3 = .ok (.istore_n 3, 1) := by decide +kernel
theorem dX6_copiesOfModel_4 : decode cX6_copiesOfModel 4 = .ok (.iload_n 3, 1) := by decide +kernel
theorem dX6_copiesOfModel_5 : decode cX6_copiesOfModel 5 = .ok (.aload_n 0, 1) := by decide +kernel
theorem dX6_copiesOfModel_6 : decode cX6_copiesOfModel 6 = .ok (.getfield 35, 3) := by decide +kernel
theorem dX6_copiesOfModel_9 : decode cX6_copiesOfModel 9 = .ok (.if_icmp .ge 30, 3) := by decide +kernel
theorem dX6_copiesOfModel_12 : decode cX6_copiesOfModel 12 = .ok (.iload_n 2, 1) := by decide +kernel
theorem dX6_copiesOfModel_13 : decode cX6_copiesOfModel 13 = .ok (.aload_n 0, 1) := by decide +kernel
theorem dX6_copiesOfModel_14 : decode cX6_copiesOfModel 14 = .ok (.getfield 11, 3) := by decide +kernel
theorem dX6_copiesOfModel_17 : decode cX6_copiesOfModel 17 = .ok (.iload_n 3, 1) := by decide +kernel
theorem dX6_copiesOfModel_18 : decode cX6_copiesOfModel 18 = .ok (.aaload, 1) := by decide +kernel
theorem dX6_copiesOfModel_19 : decode cX6_copiesOfModel 19 = .ok (.getfield 69, 3) := by decide +kernel
theorem dX6_copiesOfModel_22 : decode cX6_copiesOfModel 22 = .ok (.iload_n 1, 1) := by decide +kernel
theorem dX6_copiesOfModel_23 : decode cX6_copiesOfModel 23 = .ok (.if_icmp .ne 7, 3) := by decide +kernel
theorem dX6_copiesOfModel_26 : decode cX6_copiesOfModel 26 = .ok (.iconst 1, 1) := by decide +kernel
theorem dX6_copiesOfModel_27 : decode cX6_copiesOfModel 27 = .ok (.goto 4, 3) := by decide +kernel
theorem dX6_copiesOfModel_30 : decode cX6_copiesOfModel 30 = .ok (.iconst 0, 1) := by decide +kernel
theorem dX6_copiesOfModel_31 : decode cX6_copiesOfModel 31 = .ok (.iadd, 1) := by decide +kernel
theorem dX6_copiesOfModel_32 : decode cX6_copiesOfModel 32 = .ok (.istore_n 2, 1) := by decide +kernel
theorem dX6_copiesOfModel_33 : decode cX6_copiesOfModel 33 = .ok (.iinc 3 1, 3) := by decide +kernel
theorem dX6_copiesOfModel_36 : decode cX6_copiesOfModel 36 = .ok (.goto (-32), 3) := by decide +kernel
theorem dX6_copiesOfModel_39 : decode cX6_copiesOfModel 39 = .ok (.iload_n 2, 1) := by decide +kernel
theorem dX6_copiesOfModel_40 : decode cX6_copiesOfModel 40 = .ok (.ireturn, 1) := by decide +kernel
theorem dX6_desks_0 : decode cX6_desks 0 = .ok (.iload_n 1, 1) := by decide +kernel
theorem dX6_desks_1 : decode cX6_desks 1 = .ok (.iconst 4, 1) := by decide +kernel
theorem dX6_desks_2 : decode cX6_desks 2 = .ok (.if_icmp .ge 16, 3) := by decide +kernel
theorem dX6_desks_5 : decode cX6_desks 5 = .ok (.aload_n 0, 1) := by decide +kernel
theorem dX6_desks_6 : decode cX6_desks 6 = .ok (.getfield 25, 3) := by decide +kernel
theorem dX6_desks_9 : decode cX6_desks 9 = .ok (.iload_n 1, 1) := by decide +kernel
theorem dX6_desks_10 : decode cX6_desks 10 = .ok (.iaload, 1) := by decide +kernel
theorem dX6_desks_11 : decode cX6_desks 11 = .ok (.iconst 1, 1) := by decide +kernel
theorem dX6_desks_12 : decode cX6_desks 12 = .ok (.iadd, 1) := by decide +kernel
theorem dX6_desks_13 : decode cX6_desks 13 = .ok (.iconst 2, 1) := by decide +kernel
theorem dX6_desks_14 : decode cX6_desks 14 = .ok (.idiv, 1) := by decide +kernel
theorem dX6_desks_15 : decode cX6_desks 15 = .ok (.goto 9, 3) := by decide +kernel
theorem dX6_desks_18 : decode cX6_desks 18 = .ok (.aload_n 0, 1) := by decide +kernel
theorem dX6_desks_19 : decode cX6_desks 19 = .ok (.getfield 25, 3) := by decide +kernel
theorem dX6_desks_22 : decode cX6_desks 22 = .ok (.iload_n 1, 1) := by decide +kernel
theorem dX6_desks_23 : decode cX6_desks 23 = .ok (.iaload, 1) := by decide +kernel
theorem dX6_desks_24 : decode cX6_desks 24 = .ok (.ireturn, 1) := by decide +kernel
theorem dX6_instrumentsWithPlayers_0 : decode cX6_instrumentsWithPlayers 0 = .ok (.iconst 0, 1) := by decide +kernel
theorem dX6_instrumentsWithPlayers_1 : decode cX6_instrumentsWithPlayers 1 = .ok (.istore_n 1, 1) := by decide +kernel
theorem dX6_instrumentsWithPlayers_2 : decode cX6_instrumentsWithPlayers 2 = .ok (.iconst 0, 1) := by decide +kernel
theorem dX6_instrumentsWithPlayers_3 : decode cX6_instrumentsWithPlayers 3 = .ok (.istore_n 2, 1) := by decide +kernel
theorem dX6_instrumentsWithPlayers_4 : decode cX6_instrumentsWithPlayers 4 = .ok (.iload_n 2, 1) := by decide +kernel
theorem dX6_instrumentsWithPlayers_5 : decode cX6_instrumentsWithPlayers 5 = .ok (.bipush 6, 2) := by decide +kernel
theorem dX6_instrumentsWithPlayers_7 : decode cX6_instrumentsWithPlayers 7 = .ok (.if_icmp .ge 26, 3) := by decide +kernel
theorem dX6_instrumentsWithPlayers_10 : decode cX6_instrumentsWithPlayers 10 = .ok (.iload_n 1, 1) := by decide +kernel
theorem dX6_instrumentsWithPlayers_11 : decode cX6_instrumentsWithPlayers 11 = .ok (.aload_n 0, 1) := by decide +kernel
theorem dX6_instrumentsWithPlayers_12 : decode cX6_instrumentsWithPlayers 12 = .ok (.getfield 25, 3) := by decide +kernel
theorem dX6_instrumentsWithPlayers_15 : decode cX6_instrumentsWithPlayers 15 = .ok (.iload_n 2, 1) := by decide +kernel
theorem dX6_instrumentsWithPlayers_16 : decode cX6_instrumentsWithPlayers 16 = .ok (.iaload, 1) := by decide +kernel
theorem dX6_instrumentsWithPlayers_17 : decode cX6_instrumentsWithPlayers 17 = .ok (.ifCond .le 7, 3) := by decide +kernel
theorem dX6_instrumentsWithPlayers_20 : decode cX6_instrumentsWithPlayers 20 = .ok (.iconst 1, 1) := by decide +kernel
theorem dX6_instrumentsWithPlayers_21 : decode cX6_instrumentsWithPlayers 21 = .ok (.goto 4, 3) := by decide +kernel
theorem dX6_instrumentsWithPlayers_24 : decode cX6_instrumentsWithPlayers 24 = .ok (.iconst 0, 1) := by decide +kernel
theorem dX6_instrumentsWithPlayers_25 : decode cX6_instrumentsWithPlayers 25 = .ok (.iadd, 1) := by decide +kernel
theorem dX6_instrumentsWithPlayers_26 : decode cX6_instrumentsWithPlayers 26 = .ok (.istore_n 1, 1) := by decide +kernel
theorem dX6_instrumentsWithPlayers_27 : decode cX6_instrumentsWithPlayers 27 = .ok (.iinc 2 1, 3) := by decide +kernel
theorem dX6_instrumentsWithPlayers_30 : decode cX6_instrumentsWithPlayers 30 = .ok (.goto (-26), 3) := by decide +kernel
theorem dX6_instrumentsWithPlayers_33 : decode cX6_instrumentsWithPlayers 33 = .ok (.iload_n 1, 1) := by decide +kernel
theorem dX6_instrumentsWithPlayers_34 : decode cX6_instrumentsWithPlayers 34 = .ok (.ireturn, 1) := by decide +kernel
theorem dX6_hasAllNeeded_0 : decode cX6_hasAllNeeded 0 = .ok (.iconst 0, 1) := by decide +kernel
theorem dX6_hasAllNeeded_1 : decode cX6_hasAllNeeded 1 = .ok (.istore_n 2, 1) := by decide +kernel
theorem dX6_hasAllNeeded_2 : decode cX6_hasAllNeeded 2 = .ok (.iload_n 2, 1) := by decide +kernel
theorem dX6_hasAllNeeded_3 : decode cX6_hasAllNeeded 3 = .ok (.bipush 6, 2) := by decide +kernel
theorem dX6_hasAllNeeded_5 : decode cX6_hasAllNeeded 5 = .ok (.if_icmp .ge 30, 3) := by decide +kernel
theorem dX6_hasAllNeeded_8 : decode cX6_hasAllNeeded 8 = .ok (.aload_n 0, 1) := by decide +kernel
theorem dX6_hasAllNeeded_9 : decode cX6_hasAllNeeded 9 = .ok (.iload_n 2, 1) := by decide +kernel
theorem dX6_hasAllNeeded_10 : decode cX6_hasAllNeeded 10 = .ok (.invokevirtual 72, 3) := by decide +kernel
theorem dX6_hasAllNeeded_13 : decode cX6_hasAllNeeded 13 = .ok (.aload_n 0, 1) := by decide +kernel
theorem dX6_hasAllNeeded_14 : decode cX6_hasAllNeeded 14 = .ok (.getfield 11, 3) := by decide +kernel
theorem dX6_hasAllNeeded_17 : decode cX6_hasAllNeeded 17 = .ok (.iload_n 1, 1) := by decide +kernel
theorem dX6_hasAllNeeded_18 : decode cX6_hasAllNeeded 18 = .ok (.aaload, 1) := by decide +kernel
theorem dX6_hasAllNeeded_19 : decode cX6_hasAllNeeded 19 = .ok (.getfield 76, 3) := by decide +kernel
theorem dX6_hasAllNeeded_22 : decode cX6_hasAllNeeded 22 = .ok (.iload_n 2, 1) := by decide +kernel
theorem dX6_hasAllNeeded_23 : decode cX6_hasAllNeeded 23 = .ok (.iaload, 1) := by decide +kernel
theorem dX6_hasAllNeeded_24 : decode cX6_hasAllNeeded 24 = .ok (.if_icmp .le 5, 3) := by decide +kernel
theorem dX6_hasAllNeeded_27 : decode cX6_hasAllNeeded 27 = .ok (.iconst 0, 1) := by decide +kernel
theorem dX6_hasAllNeeded_28 : decode cX6_hasAllNeeded 28 = .ok (.ireturn, 1) := by decide +kernel
theorem dX6_hasAllNeeded_29 : decode cX6_hasAllNeeded 29 = .ok (.iinc 2 1, 3) := by decide +kernel
theorem dX6_hasAllNeeded_32 : decode cX6_hasAllNeeded 32 = .ok (.goto (-30), 3) := by decide +kernel
theorem dX6_hasAllNeeded_35 : decode cX6_hasAllNeeded 35 = .ok (.iconst 1, 1) := by decide +kernel
theorem dX6_hasAllNeeded_36 : decode cX6_hasAllNeeded 36 = .ok (.ireturn, 1) := by decide +kernel
theorem dX6_addLoansOfAllNeeded_0 : decode cX6_addLoansOfAllNeeded 0 = .ok (.iconst 0, 1) := by decide +kernel
theorem dX6_addLoansOfAllNeeded_1 : decode cX6_addLoansOfAllNeeded 1 = .ok (.istore 4, 2) := by decide +kernel
theorem dX6_addLoansOfAllNeeded_3 : decode cX6_addLoansOfAllNeeded 3 = .ok (.iload 4, 2) := by decide +kernel
theorem dX6_addLoansOfAllNeeded_5 : decode cX6_addLoansOfAllNeeded 5 = .ok (.bipush 6, 2) := by decide +kernel
theorem dX6_addLoansOfAllNeeded_7 : decode cX6_addLoansOfAllNeeded 7 = .ok (.if_icmp .ge 35, 3) := by decide +kernel
theorem dX6_addLoansOfAllNeeded_10 : decode cX6_addLoansOfAllNeeded 10 = .ok (.aload_n 0, 1) := by decide +kernel
theorem dX6_addLoansOfAllNeeded_11 : decode cX6_addLoansOfAllNeeded 11 = .ok (.getfield 25, 3) := by decide +kernel
theorem dX6_addLoansOfAllNeeded_14 : decode cX6_addLoansOfAllNeeded 14 = .ok (.iload 4, 2) := by decide +kernel
theorem dX6_addLoansOfAllNeeded_16 : decode cX6_addLoansOfAllNeeded 16 = .ok (.iaload, 1) := by decide +kernel
theorem dX6_addLoansOfAllNeeded_17 : decode cX6_addLoansOfAllNeeded 17 = .ok (.ifCond .le 19, 3) := by decide +kernel
theorem dX6_addLoansOfAllNeeded_20 : decode cX6_addLoansOfAllNeeded 20 = .ok (.aload_n 0, 1) := by decide +kernel
theorem dX6_addLoansOfAllNeeded_21 : decode cX6_addLoansOfAllNeeded 21 = .ok (.iload_n 1, 1) := by decide +kernel
theorem dX6_addLoansOfAllNeeded_22 : decode cX6_addLoansOfAllNeeded 22 = .ok (.iload_n 2, 1) := by decide +kernel
theorem dX6_addLoansOfAllNeeded_23 : decode cX6_addLoansOfAllNeeded 23 = .ok (.iload 4, 2) := by decide +kernel
theorem dX6_addLoansOfAllNeeded_25 : decode cX6_addLoansOfAllNeeded 25 = .ok (.aload_n 0, 1) := by decide +kernel
theorem dX6_addLoansOfAllNeeded_26 : decode cX6_addLoansOfAllNeeded 26 = .ok (.iload 4, 2) := by decide +kernel
theorem dX6_addLoansOfAllNeeded_28 : decode cX6_addLoansOfAllNeeded 28 = .ok (.invokevirtual 72, 3) := by decide +kernel
theorem dX6_addLoansOfAllNeeded_31 : decode cX6_addLoansOfAllNeeded 31 = .ok (.iload_n 3, 1) := by decide +kernel
theorem dX6_addLoansOfAllNeeded_32 : decode cX6_addLoansOfAllNeeded 32 = .ok (.invokevirtual 79, 3) := by decide +kernel
theorem dX6_addLoansOfAllNeeded_35 : decode cX6_addLoansOfAllNeeded 35 = .ok (.pop, 1) := by decide +kernel
theorem dX6_addLoansOfAllNeeded_36 : decode cX6_addLoansOfAllNeeded 36 = .ok (.iinc 4 1, 3) := by decide +kernel
theorem dX6_addLoansOfAllNeeded_39 : decode cX6_addLoansOfAllNeeded 39 = .ok (.goto (-36), 3) := by decide +kernel
theorem dX6_addLoansOfAllNeeded_42 : decode cX6_addLoansOfAllNeeded 42 = .ok (.return_, 1) := by decide +kernel
theorem dX6_addLoan_0 : decode cX6_addLoan 0 = .ok (.aload_n 0, 1) := by decide +kernel
theorem dX6_addLoan_1 : decode cX6_addLoan 1 = .ok (.getfield 49, 3) := by decide +kernel
theorem dX6_addLoan_4 : decode cX6_addLoan 4 = .ok (.istore 6, 2) := by decide +kernel
theorem dX6_addLoan_6 : decode cX6_addLoan 6 = .ok (.aload_n 0, 1) := by decide +kernel
theorem dX6_addLoan_7 : decode cX6_addLoan 7 = .ok (.getfield 30, 3) := by decide +kernel
theorem dX6_addLoan_10 : decode cX6_addLoan 10 = .ok (.iload 6, 2) := by decide +kernel
theorem dX6_addLoan_12 : decode cX6_addLoan 12 = .ok (.aaload, 1) := by decide +kernel
theorem dX6_addLoan_13 : decode cX6_addLoan 13 = .ok (.astore 7, 2) := by decide +kernel
theorem dX6_addLoan_15 : decode cX6_addLoan 15 = .ok (.aload 7, 2) := by decide +kernel
theorem dX6_addLoan_17 : decode cX6_addLoan 17 = .ok (.iload_n 1, 1) := by decide +kernel
theorem dX6_addLoan_18 : decode cX6_addLoan 18 = .ok (.putfield 83, 3) := by decide +kernel
theorem dX6_addLoan_21 : decode cX6_addLoan 21 = .ok (.aload 7, 2) := by decide +kernel
theorem dX6_addLoan_23 : decode cX6_addLoan 23 = .ok (.iload_n 2, 1) := by decide +kernel
theorem dX6_addLoan_24 : decode cX6_addLoan 24 = .ok (.putfield 86, 3) := by decide +kernel
theorem dX6_addLoan_27 : decode cX6_addLoan 27 = .ok (.aload 7, 2) := by decide +kernel
theorem dX6_addLoan_29 : decode cX6_addLoan 29 = .ok (.iload_n 3, 1) := by decide +kernel
theorem dX6_addLoan_30 : decode cX6_addLoan 30 = .ok (.putfield 89, 3) := by decide +kernel
theorem dX6_addLoan_33 : decode cX6_addLoan 33 = .ok (.aload 7, 2) := by decide +kernel
theorem dX6_addLoan_35 : decode cX6_addLoan 35 = .ok (.iload 4, 2) := by decide +kernel
theorem dX6_addLoan_37 : decode cX6_addLoan 37 = .ok (.putfield 92, 3) := by decide +kernel
theorem dX6_addLoan_40 : decode cX6_addLoan 40 = .ok (.aload 7, 2) := by decide +kernel
theorem dX6_addLoan_42 : decode cX6_addLoan 42 = .ok (.iload 4, 2) := by decide +kernel
theorem dX6_addLoan_44 : decode cX6_addLoan 44 = .ok (.putfield 95, 3) := by decide +kernel
theorem dX6_addLoan_47 : decode cX6_addLoan 47 = .ok (.aload 7, 2) := by decide +kernel
theorem dX6_addLoan_49 : decode cX6_addLoan 49 = .ok (.iconst 0, 1) := by decide +kernel
theorem dX6_addLoan_50 : decode cX6_addLoan 50 = .ok (.putfield 98, 3) := by decide +kernel
theorem dX6_addLoan_53 : decode cX6_addLoan 53 = .ok (.aload 7, 2) := by decide +kernel
theorem dX6_addLoan_55 : decode cX6_addLoan 55 = .ok (.aload_n 0, 1) := by decide +kernel
theorem dX6_addLoan_56 : decode cX6_addLoan 56 = .ok (.getfield 55, 3) := by decide +kernel
theorem dX6_addLoan_59 : decode cX6_addLoan 59 = .ok (.iload 5, 2) := by decide +kernel
theorem dX6_addLoan_61 : decode cX6_addLoan 61 = .ok (.iadd, 1) := by decide +kernel
theorem dX6_addLoan_62 : decode cX6_addLoan 62 = .ok (.putfield 101, 3) := by decide +kernel
theorem dX6_addLoan_65 : decode cX6_addLoan 65 = .ok (.aload 7, 2) := by decide +kernel
theorem dX6_addLoan_67 : decode cX6_addLoan 67 = .ok (.iconst 0, 1) := by decide +kernel
theorem dX6_addLoan_68 : decode cX6_addLoan 68 = .ok (.putfield 104, 3) := by decide +kernel
theorem dX6_addLoan_71 : decode cX6_addLoan 71 = .ok (.aload_n 0, 1) := by decide +kernel
theorem dX6_addLoan_72 : decode cX6_addLoan 72 = .ok (.dup, 1) := by decide +kernel
theorem dX6_addLoan_73 : decode cX6_addLoan 73 = .ok (.getfield 49, 3) := by decide +kernel
theorem dX6_addLoan_76 : decode cX6_addLoan 76 = .ok (.iconst 1, 1) := by decide +kernel
theorem dX6_addLoan_77 : decode cX6_addLoan 77 = .ok (.iadd, 1) := by decide +kernel
theorem dX6_addLoan_78 : decode cX6_addLoan 78 = .ok (.putfield 49, 3) := by decide +kernel
theorem dX6_addLoan_81 : decode cX6_addLoan 81 = .ok (.aload_n 0, 1) := by decide +kernel
theorem dX6_addLoan_82 : decode cX6_addLoan 82 = .ok (.getfield 11, 3) := by decide +kernel
theorem dX6_addLoan_85 : decode cX6_addLoan 85 = .ok (.iload_n 2, 1) := by decide +kernel
theorem dX6_addLoan_86 : decode cX6_addLoan 86 = .ok (.aaload, 1) := by decide +kernel
theorem dX6_addLoan_87 : decode cX6_addLoan 87 = .ok (.getfield 76, 3) := by decide +kernel
theorem dX6_addLoan_90 : decode cX6_addLoan 90 = .ok (.iload_n 3, 1) := by decide +kernel
theorem dX6_addLoan_91 : decode cX6_addLoan 91 = .ok (.dup2, 1) := by decide +kernel
theorem dX6_addLoan_92 : decode cX6_addLoan 92 = .ok (.iaload, 1) := by decide +kernel
theorem dX6_addLoan_93 : decode cX6_addLoan 93 = .ok (.iload 4, 2) := by decide +kernel
theorem dX6_addLoan_95 : decode cX6_addLoan 95 = .ok (.isub, 1) := by decide +kernel
theorem dX6_addLoan_96 : decode cX6_addLoan 96 = .ok (.iastore, 1) := by decide +kernel
theorem dX6_addLoan_97 : decode cX6_addLoan 97 = .ok (.aload_n 0, 1) := by decide +kernel
theorem dX6_addLoan_98 : decode cX6_addLoan 98 = .ok (.getfield 11, 3) := by decide +kernel
theorem dX6_addLoan_101 : decode cX6_addLoan 101 = .ok (.iload_n 2, 1) := by decide +kernel
theorem dX6_addLoan_102 : decode cX6_addLoan 102 = .ok (.aaload, 1) := by decide +kernel
theorem dX6_addLoan_103 : decode cX6_addLoan 103 = .ok (.getfield 107, 3) := by decide +kernel
theorem dX6_addLoan_106 : decode cX6_addLoan 106 = .ok (.iload_n 3, 1) := by decide +kernel
theorem dX6_addLoan_107 : decode cX6_addLoan 107 = .ok (.dup2, 1) := by decide +kernel
theorem dX6_addLoan_108 : decode cX6_addLoan 108 = .ok (.iaload, 1) := by decide +kernel
theorem dX6_addLoan_109 : decode cX6_addLoan 109 = .ok (.iload 4, 2) := by decide +kernel
theorem dX6_addLoan_111 : decode cX6_addLoan 111 = .ok (.iadd, 1) := by decide +kernel
theorem dX6_addLoan_112 : decode cX6_addLoan 112 = .ok (.iastore, 1) := by decide +kernel
theorem dX6_addLoan_113 : decode cX6_addLoan 113 = .ok (.iload 6, 2) := by decide +kernel
theorem dX6_addLoan_115 : decode cX6_addLoan 115 = .ok (.ireturn, 1) := by decide +kernel
theorem dX6_takeBack_0 : decode cX6_takeBack 0 = .ok (.aload_n 0, 1) := by decide +kernel
theorem dX6_takeBack_1 : decode cX6_takeBack 1 = .ok (.getfield 30, 3) := by decide +kernel
theorem dX6_takeBack_4 : decode cX6_takeBack 4 = .ok (.iload_n 1, 1) := by decide +kernel
theorem dX6_takeBack_5 : decode cX6_takeBack 5 = .ok (.aaload, 1) := by decide +kernel
theorem dX6_takeBack_6 : decode cX6_takeBack 6 = .ok (.astore 4, 2) := by decide +kernel
theorem dX6_takeBack_8 : decode cX6_takeBack 8 = .ok (.iconst 0, 1) := by decide +kernel
theorem dX6_takeBack_9 : decode cX6_takeBack 9 = .ok (.aload_n 0, 1) := by decide +kernel
theorem dX6_takeBack_10 : decode cX6_takeBack 10 = .ok (.getfield 55, 3) := by decide +kernel
theorem dX6_takeBack_13 : decode cX6_takeBack 13 = .ok (.aload 4, 2) := by decide +kernel
theorem dX6_takeBack_15 : decode cX6_takeBack 15 = .ok (.getfield 101, 3) := by decide +kernel
theorem dX6_takeBack_18 : decode cX6_takeBack 18 = .ok (.isub, 1) := by decide +kernel
theorem dX6_takeBack_19 : decode cX6_takeBack 19 = .ok (.invokestatic 110, 3) := by decide +kernel
theorem dX6_takeBack_22 : decode cX6_takeBack 22 = .ok (.istore 5, 2) := by decide +kernel
theorem dX6_takeBack_24 : decode cX6_takeBack 24 = .ok (.iload_n 2, 1) := by decide +kernel
theorem dX6_takeBack_25 : decode cX6_takeBack 25 = .ok (.iload_n 3, 1) := by decide +kernel
theorem dX6_takeBack_26 : decode cX6_takeBack 26 = .ok (.iadd, 1) := by decide +kernel
theorem dX6_takeBack_27 : decode cX6_takeBack 27 = .ok (.iload 5, 2) := by decide +kernel
theorem dX6_takeBack_29 : decode cX6_takeBack 29 = .ok (.bipush 20, 2) := by decide +kernel
theorem dX6_takeBack_31 : decode cX6_takeBack 31 = .ok (.invokestatic 116, 3) := by decide +kernel
theorem dX6_takeBack_34 : decode cX6_takeBack 34 = .ok (.imul, 1) := by decide +kernel
theorem dX6_takeBack_35 : decode cX6_takeBack 35 = .ok (.iload_n 3, 1) := by decide +kernel
theorem dX6_takeBack_36 : decode cX6_takeBack 36 = .ok (.bipush 50, 2) := by decide +kernel
theorem dX6_takeBack_38 : decode cX6_takeBack 38 = .ok (.imul, 1) := by decide +kernel
theorem dX6_takeBack_39 : decode cX6_takeBack 39 = .ok (.iadd, 1) := by decide +kernel
theorem dX6_takeBack_40 : decode cX6_takeBack 40 = .ok (.istore 6, 2) := by decide +kernel
theorem dX6_takeBack_42 : decode cX6_takeBack 42 = .ok (.aload 4, 2) := by decide +kernel
theorem dX6_takeBack_44 : decode cX6_takeBack 44 = .ok (.dup, 1) := by decide +kernel
theorem dX6_takeBack_45 : decode cX6_takeBack 45 = .ok (.getfield 95, 3) := by decide +kernel
theorem dX6_takeBack_48 : decode cX6_takeBack 48 = .ok (.iload_n 2, 1) := by decide +kernel
theorem dX6_takeBack_49 : decode cX6_takeBack 49 = .ok (.iload_n 3, 1) := by decide +kernel
theorem dX6_takeBack_50 : decode cX6_takeBack 50 = .ok (.iadd, 1) := by decide +kernel
theorem dX6_takeBack_51 : decode cX6_takeBack 51 = .ok (.isub, 1) := by decide +kernel
theorem dX6_takeBack_52 : decode cX6_takeBack 52 = .ok (.putfield 95, 3) := by decide +kernel
theorem dX6_takeBack_55 : decode cX6_takeBack 55 = .ok (.aload 4, 2) := by decide +kernel
theorem dX6_takeBack_57 : decode cX6_takeBack 57 = .ok (.dup, 1) := by decide +kernel
theorem dX6_takeBack_58 : decode cX6_takeBack 58 = .ok (.getfield 98, 3) := by decide +kernel
theorem dX6_takeBack_61 : decode cX6_takeBack 61 = .ok (.iload_n 3, 1) := by decide +kernel
theorem dX6_takeBack_62 : decode cX6_takeBack 62 = .ok (.iadd, 1) := by decide +kernel
theorem dX6_takeBack_63 : decode cX6_takeBack 63 = .ok (.putfield 98, 3) := by decide +kernel
theorem dX6_takeBack_66 : decode cX6_takeBack 66 = .ok (.aload 4, 2) := by decide +kernel
theorem dX6_takeBack_68 : decode cX6_takeBack 68 = .ok (.dup, 1) := by decide +kernel
theorem dX6_takeBack_69 : decode cX6_takeBack 69 = .ok (.getfield 104, 3) := by decide +kernel
theorem dX6_takeBack_72 : decode cX6_takeBack 72 = .ok (.iload 6, 2) := by decide +kernel
theorem dX6_takeBack_74 : decode cX6_takeBack 74 = .ok (.iadd, 1) := by decide +kernel
theorem dX6_takeBack_75 : decode cX6_takeBack 75 = .ok (.putfield 104, 3) := by decide +kernel
theorem dX6_takeBack_78 : decode cX6_takeBack 78 = .ok (.aload_n 0, 1) := by decide +kernel
theorem dX6_takeBack_79 : decode cX6_takeBack 79 = .ok (.getfield 11, 3) := by decide +kernel
theorem dX6_takeBack_82 : decode cX6_takeBack 82 = .ok (.aload 4, 2) := by decide +kernel
theorem dX6_takeBack_84 : decode cX6_takeBack 84 = .ok (.getfield 86, 3) := by decide +kernel
theorem dX6_takeBack_87 : decode cX6_takeBack 87 = .ok (.aaload, 1) := by decide +kernel
theorem dX6_takeBack_88 : decode cX6_takeBack 88 = .ok (.astore 7, 2) := by decide +kernel
theorem dX6_takeBack_90 : decode cX6_takeBack 90 = .ok (.aload 7, 2) := by decide +kernel
theorem dX6_takeBack_92 : decode cX6_takeBack 92 = .ok (.getfield 107, 3) := by decide +kernel
theorem dX6_takeBack_95 : decode cX6_takeBack 95 = .ok (.aload 4, 2) := by decide +kernel
theorem dX6_takeBack_97 : decode cX6_takeBack 97 = .ok (.getfield 89, 3) := by decide +kernel
theorem dX6_takeBack_100 : decode cX6_takeBack 100 = .ok (.dup2, 1) := by decide +kernel
theorem dX6_takeBack_101 : decode cX6_takeBack 101 = .ok (.iaload, 1) := by decide +kernel
theorem dX6_takeBack_102 : decode cX6_takeBack 102 = .ok (.iload_n 2, 1) := by decide +kernel
theorem dX6_takeBack_103 : decode cX6_takeBack 103 = .ok (.iload_n 3, 1) := by decide +kernel
theorem dX6_takeBack_104 : decode cX6_takeBack 104 = .ok (.iadd, 1) := by decide +kernel
theorem dX6_takeBack_105 : decode cX6_takeBack 105 = .ok (.isub, 1) := by decide +kernel
theorem dX6_takeBack_106 : decode cX6_takeBack 106 = .ok (.iastore, 1) := by decide +kernel
theorem dX6_takeBack_107 : decode cX6_takeBack 107 = .ok (.aload 7, 2) := by decide +kernel
theorem dX6_takeBack_109 : decode cX6_takeBack 109 = .ok (.getfield 76, 3) := by decide +kernel
theorem dX6_takeBack_112 : decode cX6_takeBack 112 = .ok (.aload 4, 2) := by decide +kernel
theorem dX6_takeBack_114 : decode cX6_takeBack 114 = .ok (.getfield 89, 3) := by decide +kernel
theorem dX6_takeBack_117 : decode cX6_takeBack 117 = .ok (.dup2, 1) := by decide +kernel
theorem dX6_takeBack_118 : decode cX6_takeBack 118 = .ok (.iaload, 1) := by decide +kernel
theorem dX6_takeBack_119 : decode cX6_takeBack 119 = .ok (.iload_n 2, 1) := by decide +kernel
theorem dX6_takeBack_120 : decode cX6_takeBack 120 = .ok (.iadd, 1) := by decide +kernel
theorem dX6_takeBack_121 : decode cX6_takeBack 121 = .ok (.iastore, 1) := by decide +kernel
theorem dX6_takeBack_122 : decode cX6_takeBack 122 = .ok (.aload 7, 2) := by decide +kernel
theorem dX6_takeBack_124 : decode cX6_takeBack 124 = .ok (.getfield 119, 3) := by decide +kernel
theorem dX6_takeBack_127 : decode cX6_takeBack 127 = .ok (.aload 4, 2) := by decide +kernel
theorem dX6_takeBack_129 : decode cX6_takeBack 129 = .ok (.getfield 89, 3) := by decide +kernel
theorem dX6_takeBack_132 : decode cX6_takeBack 132 = .ok (.dup2, 1) := by decide +kernel
theorem dX6_takeBack_133 : decode cX6_takeBack 133 = .ok (.iaload, 1) := by decide +kernel
theorem dX6_takeBack_134 : decode cX6_takeBack 134 = .ok (.iload_n 3, 1) := by decide +kernel
theorem dX6_takeBack_135 : decode cX6_takeBack 135 = .ok (.iadd, 1) := by decide +kernel
theorem dX6_takeBack_136 : decode cX6_takeBack 136 = .ok (.iastore, 1) := by decide +kernel
theorem dX6_takeBack_137 : decode cX6_takeBack 137 = .ok (.iload 6, 2) := by decide +kernel
theorem dX6_takeBack_139 : decode cX6_takeBack 139 = .ok (.ireturn, 1) := by decide +kernel
theorem dX6_overdueLoanAt_0 : decode cX6_overdueLoanAt 0 = .ok (.iconst 0, 1) := by decide +kernel
theorem dX6_overdueLoanAt_1 : decode cX6_overdueLoanAt 1 = .ok (.istore_n 2, 1) := by decide +kernel
theorem dX6_overdueLoanAt_2 : decode cX6_overdueLoanAt 2 = .ok (.iload_n 2, 1) := by decide +kernel
theorem dX6_overdueLoanAt_3 : decode cX6_overdueLoanAt 3 = .ok (.aload_n 0, 1) := by decide +kernel
theorem dX6_overdueLoanAt_4 : decode cX6_overdueLoanAt 4 = .ok (.getfield 49, 3) := by decide +kernel
theorem dX6_overdueLoanAt_7 : decode cX6_overdueLoanAt 7 = .ok (.if_icmp .ge 36, 3) := by decide +kernel
theorem dX6_overdueLoanAt_10 : decode cX6_overdueLoanAt 10 = .ok (.aload_n 0, 1) := by decide +kernel
theorem dX6_overdueLoanAt_11 : decode cX6_overdueLoanAt 11 = .ok (.getfield 30, 3) := by decide +kernel
theorem dX6_overdueLoanAt_14 : decode cX6_overdueLoanAt 14 = .ok (.iload_n 2, 1) := by decide +kernel
theorem dX6_overdueLoanAt_15 : decode cX6_overdueLoanAt 15 = .ok (.aaload, 1) := by decide +kernel
theorem dX6_overdueLoanAt_16 : decode cX6_overdueLoanAt 16 = .ok (.aload_n 0, 1) := by decide +kernel
theorem dX6_overdueLoanAt_17 : decode cX6_overdueLoanAt 17 = .ok (.getfield 55, 3) := by decide +kernel
theorem dX6_overdueLoanAt_20 : decode cX6_overdueLoanAt 20 = .ok (.invokevirtual 122, 3) := by decide +kernel
theorem dX6_overdueLoanAt_23 : decode cX6_overdueLoanAt 23 = .ok (.ifCond .eq 14, 3) := by decide +kernel
theorem dX6_overdueLoanAt_26 : decode cX6_overdueLoanAt 26 = .ok (.aload_n 0, 1) := by decide +kernel
theorem dX6_overdueLoanAt_27 : decode cX6_overdueLoanAt 27 = .ok (.iload_n 2, 1) := by decide +kernel
theorem dX6_overdueLoanAt_28 : decode cX6_overdueLoanAt 28 = .ok (.invokevirtual 126, 3) := by decide +kernel
theorem dX6_overdueLoanAt_31 : decode cX6_overdueLoanAt 31 = .ok (.iload_n 1, 1) := by decide +kernel
theorem dX6_overdueLoanAt_32 : decode cX6_overdueLoanAt 32 = .ok (.if_icmp .ne 5, 3) := by decide +kernel
theorem dX6_overdueLoanAt_35 : decode cX6_overdueLoanAt 35 = .ok (.iload_n 2, 1) := by decide +kernel
theorem dX6_overdueLoanAt_36 : decode cX6_overdueLoanAt 36 = .ok (.ireturn, 1) := by decide +kernel
theorem dX6_overdueLoanAt_37 : decode cX6_overdueLoanAt 37 = .ok (.iinc 2 1, 3) := by decide +kernel
theorem dX6_overdueLoanAt_40 : decode cX6_overdueLoanAt 40 = .ok (.goto (-38), 3) := by decide +kernel
theorem dX6_overdueLoanAt_43 : decode cX6_overdueLoanAt 43 = .ok (.bipush (-7), 2) := by decide +kernel
theorem dX6_overdueLoanAt_45 : decode cX6_overdueLoanAt 45 = .ok (.ireturn, 1) := by decide +kernel
theorem dX6_overdueAhead_0 : decode cX6_overdueAhead 0 = .ok (.iconst 0, 1) := by decide +kernel
theorem dX6_overdueAhead_1 : decode cX6_overdueAhead 1 = .ok (.istore_n 2, 1) := by decide +kernel
theorem dX6_overdueAhead_2 : decode cX6_overdueAhead 2 = .ok (.iconst 0, 1) := by decide +kernel
theorem dX6_overdueAhead_3 : decode cX6_overdueAhead 3 = .ok (.istore_n 3, 1) := by decide +kernel
theorem dX6_overdueAhead_4 : decode cX6_overdueAhead 4 = .ok (.iload_n 3, 1) := by decide +kernel
theorem dX6_overdueAhead_5 : decode cX6_overdueAhead 5 = .ok (.aload_n 0, 1) := by decide +kernel
theorem dX6_overdueAhead_6 : decode cX6_overdueAhead 6 = .ok (.getfield 49, 3) := by decide +kernel
theorem dX6_overdueAhead_9 : decode cX6_overdueAhead 9 = .ok (.if_icmp .ge 92, 3) := by decide +kernel
theorem dX6_overdueAhead_12 : decode cX6_overdueAhead 12 = .ok (.aload_n 0, 1) := by decide +kernel
theorem dX6_overdueAhead_13 : decode cX6_overdueAhead 13 = .ok (.getfield 30, 3) := by decide +kernel
theorem dX6_overdueAhead_16 : decode cX6_overdueAhead 16 = .ok (.iload_n 3, 1) := by decide +kernel
theorem dX6_overdueAhead_17 : decode cX6_overdueAhead 17 = .ok (.aaload, 1) := by decide +kernel
theorem dX6_overdueAhead_18 : decode cX6_overdueAhead 18 = .ok (.getfield 101, 3) := by decide +kernel
theorem dX6_overdueAhead_21 : decode cX6_overdueAhead 21 = .ok (.aload_n 0, 1) := by decide +kernel
theorem dX6_overdueAhead_22 : decode cX6_overdueAhead 22 = .ok (.getfield 30, 3) := by decide +kernel
theorem dX6_overdueAhead_25 : decode cX6_overdueAhead 25 = .ok (.iload_n 1, 1) := by decide +kernel
theorem dX6_overdueAhead_26 : decode cX6_overdueAhead 26 = .ok (.aaload, 1) := by decide +kernel
theorem dX6_overdueAhead_27 : decode cX6_overdueAhead 27 = .ok (.getfield 101, 3) := by decide +kernel
theorem dX6_overdueAhead_30 : decode cX6_overdueAhead 30 = .ok (.if_icmp .lt 29, 3) := by decide +kernel
theorem dX6_overdueAhead_33 : decode cX6_overdueAhead 33 = .ok (.aload_n 0, 1) := by decide +kernel
theorem dX6_overdueAhead_34 : decode cX6_overdueAhead 34 = .ok (.getfield 30, 3) := by decide +kernel
theorem dX6_overdueAhead_37 : decode cX6_overdueAhead 37 = .ok (.iload_n 3, 1) := by decide +kernel
theorem dX6_overdueAhead_38 : decode cX6_overdueAhead 38 = .ok (.aaload, 1) := by decide +kernel
theorem dX6_overdueAhead_39 : decode cX6_overdueAhead 39 = .ok (.getfield 101, 3) := by decide +kernel
theorem dX6_overdueAhead_42 : decode cX6_overdueAhead 42 = .ok (.aload_n 0, 1) := by decide +kernel
theorem dX6_overdueAhead_43 : decode cX6_overdueAhead 43 = .ok (.getfield 30, 3) := by decide +kernel
theorem dX6_overdueAhead_46 : decode cX6_overdueAhead 46 = .ok (.iload_n 1, 1) := by decide +kernel
theorem dX6_overdueAhead_47 : decode cX6_overdueAhead 47 = .ok (.aaload, 1) := by decide +kernel
theorem dX6_overdueAhead_48 : decode cX6_overdueAhead 48 = .ok (.getfield 101, 3) := by decide +kernel
theorem dX6_overdueAhead_51 : decode cX6_overdueAhead 51 = .ok (.if_icmp .ne 12, 3) := by decide +kernel
theorem dX6_overdueAhead_54 : decode cX6_overdueAhead 54 = .ok (.iload_n 3, 1) := by decide +kernel
theorem dX6_overdueAhead_55 : decode cX6_overdueAhead 55 = .ok (.iload_n 1, 1) := by decide +kernel
theorem dX6_overdueAhead_56 : decode cX6_overdueAhead 56 = .ok (.if_icmp .ge 7, 3) := by decide +kernel
theorem dX6_overdueAhead_59 : decode cX6_overdueAhead 59 = .ok (.iconst 1, 1) := by decide +kernel
theorem dX6_overdueAhead_60 : decode cX6_overdueAhead 60 = .ok (.goto 4, 3) := by decide +kernel
theorem dX6_overdueAhead_63 : decode cX6_overdueAhead 63 = .ok (.iconst 0, 1) := by decide +kernel
theorem dX6_overdueAhead_64 : decode cX6_overdueAhead 64 = .ok (.istore 4, 2) := by decide +kernel
theorem dX6_overdueAhead_66 : decode cX6_overdueAhead 66 = .ok (.iload_n 2, 1) := by decide +kernel
theorem dX6_overdueAhead_67 : decode cX6_overdueAhead 67 = .ok (.aload_n 0, 1) := by decide +kernel
theorem dX6_overdueAhead_68 : decode cX6_overdueAhead 68 = .ok (.getfield 30, 3) := by decide +kernel
theorem dX6_overdueAhead_71 : decode cX6_overdueAhead 71 = .ok (.iload_n 3, 1) := by decide +kernel
theorem dX6_overdueAhead_72 : decode cX6_overdueAhead 72 = .ok (.aaload, 1) := by decide +kernel
theorem dX6_overdueAhead_73 : decode cX6_overdueAhead 73 = .ok (.aload_n 0, 1) := by decide +kernel
theorem dX6_overdueAhead_74 : decode cX6_overdueAhead 74 = .ok (.getfield 55, 3) := by decide +kernel
theorem dX6_overdueAhead_77 : decode cX6_overdueAhead 77 = .ok (.invokevirtual 122, 3) := by decide +kernel
theorem dX6_overdueAhead_80 : decode cX6_overdueAhead 80 = .ok (.ifCond .eq 12, 3) := by decide +kernel
theorem dX6_overdueAhead_83 : decode cX6_overdueAhead 83 = .ok (.iload 4, 2) := by decide +kernel
theorem dX6_overdueAhead_85 : decode cX6_overdueAhead 85 = .ok (.ifCond .eq 7, 3) := by decide +kernel
theorem dX6_overdueAhead_88 : decode cX6_overdueAhead 88 = .ok (.iconst 1, 1) := by decide +kernel
theorem dX6_overdueAhead_89 : decode cX6_overdueAhead 89 = .ok (.goto 4, 3) := by decide +kernel
theorem dX6_overdueAhead_92 : decode cX6_overdueAhead 92 = .ok (.iconst 0, 1) := by decide +kernel
theorem dX6_overdueAhead_93 : decode cX6_overdueAhead 93 = .ok (.iadd, 1) := by decide +kernel
theorem dX6_overdueAhead_94 : decode cX6_overdueAhead 94 = .ok (.istore_n 2, 1) := by decide +kernel
theorem dX6_overdueAhead_95 : decode cX6_overdueAhead 95 = .ok (.iinc 3 1, 3) := by decide +kernel
theorem dX6_overdueAhead_98 : decode cX6_overdueAhead 98 = .ok (.goto (-94), 3) := by decide +kernel
theorem dX6_overdueAhead_101 : decode cX6_overdueAhead 101 = .ok (.iload_n 2, 1) := by decide +kernel
theorem dX6_overdueAhead_102 : decode cX6_overdueAhead 102 = .ok (.ireturn, 1) := by decide +kernel
theorem dX6_sumOfLoans_0 : decode cX6_sumOfLoans 0 = .ok (.iconst 0, 1) := by decide +kernel
theorem dX6_sumOfLoans_1 : decode cX6_sumOfLoans 1 = .ok (.istore_n 3, 1) := by decide +kernel
theorem dX6_sumOfLoans_2 : decode cX6_sumOfLoans 2 = .ok (.iconst 0, 1) := by decide +kernel
theorem dX6_sumOfLoans_3 : decode cX6_sumOfLoans 3 = .ok (.istore 4, 2) := by decide +kernel
theorem dX6_sumOfLoans_5 : decode cX6_sumOfLoans 5 = .ok (.iload 4, 2) := by decide +kernel
theorem dX6_sumOfLoans_7 : decode cX6_sumOfLoans 7 = .ok (.aload_n 0, 1) := by decide +kernel
theorem dX6_sumOfLoans_8 : decode cX6_sumOfLoans 8 = .ok (.getfield 49, 3) := by decide +kernel
theorem dX6_sumOfLoans_11 : decode cX6_sumOfLoans 11 = .ok (.if_icmp .ge 45, 3) := by decide +kernel
theorem dX6_sumOfLoans_14 : decode cX6_sumOfLoans 14 = .ok (.iload_n 3, 1) := by decide +kernel
theorem dX6_sumOfLoans_15 : decode cX6_sumOfLoans 15 = .ok (.aload_n 0, 1) := by decide +kernel
theorem dX6_sumOfLoans_16 : decode cX6_sumOfLoans 16 = .ok (.getfield 30, 3) := by decide +kernel
theorem dX6_sumOfLoans_19 : decode cX6_sumOfLoans 19 = .ok (.iload 4, 2) := by decide +kernel
theorem dX6_sumOfLoans_21 : decode cX6_sumOfLoans 21 = .ok (.aaload, 1) := by decide +kernel
theorem dX6_sumOfLoans_22 : decode cX6_sumOfLoans 22 = .ok (.getfield 83, 3) := by decide +kernel
theorem dX6_sumOfLoans_25 : decode cX6_sumOfLoans 25 = .ok (.iload_n 1, 1) := by decide +kernel
theorem dX6_sumOfLoans_26 : decode cX6_sumOfLoans 26 = .ok (.if_icmp .ne 21, 3) := by decide +kernel
theorem dX6_sumOfLoans_29 : decode cX6_sumOfLoans 29 = .ok (.aload_n 0, 1) := by decide +kernel
theorem dX6_sumOfLoans_30 : decode cX6_sumOfLoans 30 = .ok (.getfield 30, 3) := by decide +kernel
theorem dX6_sumOfLoans_33 : decode cX6_sumOfLoans 33 = .ok (.iload 4, 2) := by decide +kernel
theorem dX6_sumOfLoans_35 : decode cX6_sumOfLoans 35 = .ok (.aaload, 1) := by decide +kernel
theorem dX6_sumOfLoans_36 : decode cX6_sumOfLoans 36 = .ok (.iload_n 2, 1) := by decide +kernel
theorem dX6_sumOfLoans_37 : decode cX6_sumOfLoans 37 = .ok (.aload_n 0, 1) := by decide +kernel
theorem dX6_sumOfLoans_38 : decode cX6_sumOfLoans 38 = .ok (.getfield 55, 3) := by decide +kernel
theorem dX6_sumOfLoans_41 : decode cX6_sumOfLoans 41 = .ok (.invokevirtual 129, 3) := by decide +kernel
theorem dX6_sumOfLoans_44 : decode cX6_sumOfLoans 44 = .ok (.goto 4, 3) := by decide +kernel
theorem dX6_sumOfLoans_47 : decode cX6_sumOfLoans 47 = .ok (.iconst 0, 1) := by decide +kernel
theorem dX6_sumOfLoans_48 : decode cX6_sumOfLoans 48 = .ok (.iadd, 1) := by decide +kernel
theorem dX6_sumOfLoans_49 : decode cX6_sumOfLoans 49 = .ok (.istore_n 3, 1) := by decide +kernel
theorem dX6_sumOfLoans_50 : decode cX6_sumOfLoans 50 = .ok (.iinc 4 1, 3) := by decide +kernel
theorem dX6_sumOfLoans_53 : decode cX6_sumOfLoans 53 = .ok (.goto (-48), 3) := by decide +kernel
theorem dX6_sumOfLoans_56 : decode cX6_sumOfLoans 56 = .ok (.iload_n 3, 1) := by decide +kernel
theorem dX6_sumOfLoans_57 : decode cX6_sumOfLoans 57 = .ok (.ireturn, 1) := by decide +kernel
theorem dX6_feesInAll_0 : decode cX6_feesInAll 0 = .ok (.iconst 0, 1) := by decide +kernel
theorem dX6_feesInAll_1 : decode cX6_feesInAll 1 = .ok (.istore_n 1, 1) := by decide +kernel
theorem dX6_feesInAll_2 : decode cX6_feesInAll 2 = .ok (.iconst 0, 1) := by decide +kernel
theorem dX6_feesInAll_3 : decode cX6_feesInAll 3 = .ok (.istore_n 2, 1) := by decide +kernel
theorem dX6_feesInAll_4 : decode cX6_feesInAll 4 = .ok (.iload_n 2, 1) := by decide +kernel
theorem dX6_feesInAll_5 : decode cX6_feesInAll 5 = .ok (.aload_n 0, 1) := by decide +kernel
theorem dX6_feesInAll_6 : decode cX6_feesInAll 6 = .ok (.getfield 49, 3) := by decide +kernel
theorem dX6_feesInAll_9 : decode cX6_feesInAll 9 = .ok (.if_icmp .ge 21, 3) := by decide +kernel
theorem dX6_feesInAll_12 : decode cX6_feesInAll 12 = .ok (.iload_n 1, 1) := by decide +kernel
theorem dX6_feesInAll_13 : decode cX6_feesInAll 13 = .ok (.aload_n 0, 1) := by decide +kernel
theorem dX6_feesInAll_14 : decode cX6_feesInAll 14 = .ok (.getfield 30, 3) := by decide +kernel
theorem dX6_feesInAll_17 : decode cX6_feesInAll 17 = .ok (.iload_n 2, 1) := by decide +kernel
theorem dX6_feesInAll_18 : decode cX6_feesInAll 18 = .ok (.aaload, 1) := by decide +kernel
theorem dX6_feesInAll_19 : decode cX6_feesInAll 19 = .ok (.getfield 104, 3) := by decide +kernel
theorem dX6_feesInAll_22 : decode cX6_feesInAll 22 = .ok (.iadd, 1) := by decide +kernel
theorem dX6_feesInAll_23 : decode cX6_feesInAll 23 = .ok (.istore_n 1, 1) := by decide +kernel
theorem dX6_feesInAll_24 : decode cX6_feesInAll 24 = .ok (.iinc 2 1, 3) := by decide +kernel
theorem dX6_feesInAll_27 : decode cX6_feesInAll 27 = .ok (.goto (-23), 3) := by decide +kernel
theorem dX6_feesInAll_30 : decode cX6_feesInAll 30 = .ok (.iload_n 1, 1) := by decide +kernel
theorem dX6_feesInAll_31 : decode cX6_feesInAll 31 = .ok (.ireturn, 1) := by decide +kernel
theorem dX6_openLoans_0 : decode cX6_openLoans 0 = .ok (.iconst 0, 1) := by decide +kernel
theorem dX6_openLoans_1 : decode cX6_openLoans 1 = .ok (.istore_n 1, 1) := by decide +kernel
theorem dX6_openLoans_2 : decode cX6_openLoans 2 = .ok (.iconst 0, 1) := by decide +kernel
theorem dX6_openLoans_3 : decode cX6_openLoans 3 = .ok (.istore_n 2, 1) := by decide +kernel
theorem dX6_openLoans_4 : decode cX6_openLoans 4 = .ok (.iload_n 2, 1) := by decide +kernel
theorem dX6_openLoans_5 : decode cX6_openLoans 5 = .ok (.aload_n 0, 1) := by decide +kernel
theorem dX6_openLoans_6 : decode cX6_openLoans 6 = .ok (.getfield 49, 3) := by decide +kernel
theorem dX6_openLoans_9 : decode cX6_openLoans 9 = .ok (.if_icmp .ge 29, 3) := by decide +kernel
theorem dX6_openLoans_12 : decode cX6_openLoans 12 = .ok (.iload_n 1, 1) := by decide +kernel
theorem dX6_openLoans_13 : decode cX6_openLoans 13 = .ok (.aload_n 0, 1) := by decide +kernel
theorem dX6_openLoans_14 : decode cX6_openLoans 14 = .ok (.getfield 30, 3) := by decide +kernel
theorem dX6_openLoans_17 : decode cX6_openLoans 17 = .ok (.iload_n 2, 1) := by decide +kernel
theorem dX6_openLoans_18 : decode cX6_openLoans 18 = .ok (.aaload, 1) := by decide +kernel
theorem dX6_openLoans_19 : decode cX6_openLoans 19 = .ok (.getfield 95, 3) := by decide +kernel
theorem dX6_openLoans_22 : decode cX6_openLoans 22 = .ok (.ifCond .le 7, 3) := by decide +kernel
theorem dX6_openLoans_25 : decode cX6_openLoans 25 = .ok (.iconst 1, 1) := by decide +kernel
theorem dX6_openLoans_26 : decode cX6_openLoans 26 = .ok (.goto 4, 3) := by decide +kernel
theorem dX6_openLoans_29 : decode cX6_openLoans 29 = .ok (.iconst 0, 1) := by decide +kernel
theorem dX6_openLoans_30 : decode cX6_openLoans 30 = .ok (.iadd, 1) := by decide +kernel
theorem dX6_openLoans_31 : decode cX6_openLoans 31 = .ok (.istore_n 1, 1) := by decide +kernel
theorem dX6_openLoans_32 : decode cX6_openLoans 32 = .ok (.iinc 2 1, 3) := by decide +kernel
theorem dX6_openLoans_35 : decode cX6_openLoans 35 = .ok (.goto (-31), 3) := by decide +kernel
theorem dX6_openLoans_38 : decode cX6_openLoans 38 = .ok (.iload_n 1, 1) := by decide +kernel
theorem dX6_openLoans_39 : decode cX6_openLoans 39 = .ok (.ireturn, 1) := by decide +kernel
theorem dX6_copiesInAll_0 : decode cX6_copiesInAll 0 = .ok (.iconst 0, 1) := by decide +kernel
theorem dX6_copiesInAll_1 : decode cX6_copiesInAll 1 = .ok (.istore_n 2, 1) := by decide +kernel
theorem dX6_copiesInAll_2 : decode cX6_copiesInAll 2 = .ok (.iconst 0, 1) := by decide +kernel
theorem dX6_copiesInAll_3 : decode cX6_copiesInAll 3 = .ok (.istore_n 3, 1) := by decide +kernel
theorem dX6_copiesInAll_4 : decode cX6_copiesInAll 4 = .ok (.iload_n 3, 1) := by decide +kernel
theorem dX6_copiesInAll_5 : decode cX6_copiesInAll 5 = .ok (.aload_n 0, 1) := by decide +kernel
theorem dX6_copiesInAll_6 : decode cX6_copiesInAll 6 = .ok (.getfield 35, 3) := by decide +kernel
theorem dX6_copiesInAll_9 : decode cX6_copiesInAll 9 = .ok (.if_icmp .ge 22, 3) := by decide +kernel
theorem dX6_copiesInAll_12 : decode cX6_copiesInAll 12 = .ok (.iload_n 2, 1) := by decide +kernel
theorem dX6_copiesInAll_13 : decode cX6_copiesInAll 13 = .ok (.aload_n 0, 1) := by decide +kernel
theorem dX6_copiesInAll_14 : decode cX6_copiesInAll 14 = .ok (.getfield 11, 3) := by decide +kernel
theorem dX6_copiesInAll_17 : decode cX6_copiesInAll 17 = .ok (.iload_n 3, 1) := by decide +kernel
theorem dX6_copiesInAll_18 : decode cX6_copiesInAll 18 = .ok (.aaload, 1) := by decide +kernel
theorem dX6_copiesInAll_19 : decode cX6_copiesInAll 19 = .ok (.iload_n 1, 1) := by decide +kernel
theorem dX6_copiesInAll_20 : decode cX6_copiesInAll 20 = .ok (.invokevirtual 132, 3) := by decide +kernel
theorem dX6_copiesInAll_23 : decode cX6_copiesInAll 23 = .ok (.iadd, 1) := by decide +kernel
theorem dX6_copiesInAll_24 : decode cX6_copiesInAll 24 = .ok (.istore_n 2, 1) := by decide +kernel
theorem dX6_copiesInAll_25 : decode cX6_copiesInAll 25 = .ok (.iinc 3 1, 3) := by decide +kernel
theorem dX6_copiesInAll_28 : decode cX6_copiesInAll 28 = .ok (.goto (-24), 3) := by decide +kernel
theorem dX6_copiesInAll_31 : decode cX6_copiesInAll 31 = .ok (.iload_n 2, 1) := by decide +kernel
theorem dX6_copiesInAll_32 : decode cX6_copiesInAll 32 = .ok (.ireturn, 1) := by decide +kernel
theorem dX7_init_0 : decode cX7_init 0 = .ok (.aload_n 0, 1) := by decide +kernel
theorem dX7_init_1 : decode cX7_init 1 = .ok (.invokespecial 3, 3) := by decide +kernel
theorem dX7_init_4 : decode cX7_init 4 = .ok (.return_, 1) := by decide +kernel
theorem dX7_becomeLike_0 : decode cX7_becomeLike 0 = .ok (.aload_n 0, 1) := by decide +kernel
theorem dX7_becomeLike_1 : decode cX7_becomeLike 1 = .ok (.aload_n 1, 1) := by decide +kernel
theorem dX7_becomeLike_2 : decode cX7_becomeLike 2 = .ok (.getfield 9, 3) := by decide +kernel
theorem dX7_becomeLike_5 : decode cX7_becomeLike 5 = .ok (.putfield 9, 3) := by decide +kernel
theorem dX7_becomeLike_8 : decode cX7_becomeLike 8 = .ok (.aload_n 0, 1) := by decide +kernel
theorem dX7_becomeLike_9 : decode cX7_becomeLike 9 = .ok (.aload_n 1, 1) := by decide +kernel
theorem dX7_becomeLike_10 : decode cX7_becomeLike 10 = .ok (.getfield 15, 3) := by decide +kernel
theorem dX7_becomeLike_13 : decode cX7_becomeLike 13 = .ok (.putfield 15, 3) := by decide +kernel
theorem dX7_becomeLike_16 : decode cX7_becomeLike 16 = .ok (.aload_n 0, 1) := by decide +kernel
theorem dX7_becomeLike_17 : decode cX7_becomeLike 17 = .ok (.aload_n 1, 1) := by decide +kernel
theorem dX7_becomeLike_18 : decode cX7_becomeLike 18 = .ok (.getfield 18, 3) := by decide +kernel
theorem dX7_becomeLike_21 : decode cX7_becomeLike 21 = .ok (.putfield 18, 3) := by decide +kernel
theorem dX7_becomeLike_24 : decode cX7_becomeLike 24 = .ok (.aload_n 0, 1) := by decide +kernel
theorem dX7_becomeLike_25 : decode cX7_becomeLike 25 = .ok (.aload_n 1, 1) := by decide +kernel
theorem dX7_becomeLike_26 : decode cX7_becomeLike 26 = .ok (.getfield 21, 3) := by decide +kernel
theorem dX7_becomeLike_29 : decode cX7_becomeLike 29 = .ok (.putfield 21, 3) := by decide +kernel
theorem dX7_becomeLike_32 : decode cX7_becomeLike 32 = .ok (.aload_n 0, 1) := by decide +kernel
theorem dX7_becomeLike_33 : decode cX7_becomeLike 33 = .ok (.aload_n 1, 1) := by decide +kernel
theorem dX7_becomeLike_34 : decode cX7_becomeLike 34 = .ok (.getfield 24, 3) := by decide +kernel
theorem dX7_becomeLike_37 : decode cX7_becomeLike 37 = .ok (.putfield 24, 3) := by decide +kernel
theorem dX7_becomeLike_40 : decode cX7_becomeLike 40 = .ok (.aload_n 0, 1) := by decide +kernel
theorem dX7_becomeLike_41 : decode cX7_becomeLike 41 = .ok (.aload_n 1, 1) := by decide +kernel
theorem dX7_becomeLike_42 : decode cX7_becomeLike 42 = .ok (.getfield 27, 3) := by decide +kernel
theorem dX7_becomeLike_45 : decode cX7_becomeLike 45 = .ok (.putfield 27, 3) := by decide +kernel
theorem dX7_becomeLike_48 : decode cX7_becomeLike 48 = .ok (.aload_n 0, 1) := by decide +kernel
theorem dX7_becomeLike_49 : decode cX7_becomeLike 49 = .ok (.aload_n 1, 1) := by decide +kernel
theorem dX7_becomeLike_50 : decode cX7_becomeLike 50 = .ok (.getfield 30, 3) := by decide +kernel
theorem dX7_becomeLike_53 : decode cX7_becomeLike 53 = .ok (.putfield 30, 3) := by decide +kernel
theorem dX7_becomeLike_56 : decode cX7_becomeLike 56 = .ok (.aload_n 0, 1) := by decide +kernel
theorem dX7_becomeLike_57 : decode cX7_becomeLike 57 = .ok (.aload_n 1, 1) := by decide +kernel
theorem dX7_becomeLike_58 : decode cX7_becomeLike 58 = .ok (.getfield 33, 3) := by decide +kernel
theorem dX7_becomeLike_61 : decode cX7_becomeLike 61 = .ok (.putfield 33, 3) := by decide +kernel
theorem dX7_becomeLike_64 : decode cX7_becomeLike 64 = .ok (.return_, 1) := by decide +kernel
theorem dX7_isOverdue_0 : decode cX7_isOverdue 0 = .ok (.aload_n 0, 1) := by decide +kernel
theorem dX7_isOverdue_1 : decode cX7_isOverdue 1 = .ok (.getfield 24, 3) := by decide +kernel
theorem dX7_isOverdue_4 : decode cX7_isOverdue 4 = .ok (.ifCond .le 15, 3) := by decide +kernel
theorem dX7_isOverdue_7 : decode cX7_isOverdue 7 = .ok (.iload_n 1, 1) := by decide +kernel
theorem dX7_isOverdue_8 : decode cX7_isOverdue 8 = .ok (.aload_n 0, 1) := by decide +kernel
theorem dX7_isOverdue_9 : decode cX7_isOverdue 9 = .ok (.getfield 30, 3) := by decide +kernel
theorem dX7_isOverdue_12 : decode cX7_isOverdue 12 = .ok (.if_icmp .le 7, 3) := by decide +kernel
theorem dX7_isOverdue_15 : decode cX7_isOverdue 15 = .ok (.iconst 1, 1) := by decide +kernel
theorem dX7_isOverdue_16 : decode cX7_isOverdue 16 = .ok (.goto 4, 3) := by decide +kernel
theorem dX7_isOverdue_19 : decode cX7_isOverdue 19 = .ok (.iconst 0, 1) := by decide +kernel
theorem dX7_isOverdue_20 : decode cX7_isOverdue 20 = .ok (.ireturn, 1) := by decide +kernel
theorem dX7_number_0 : decode cX7_number 0 = .ok (.iload_n 1, 1) := by decide +kernel
theorem dX7_number_1 : decode cX7_number 1 = .ok (.tableswitch 42 0 2 #[27, 32, 37], 27) := by decide +kernel
theorem dX7_number_28 : decode cX7_number 28 = .ok (.aload_n 0, 1) := by decide +kernel
theorem dX7_number_29 : decode cX7_number 29 = .ok (.getfield 24, 3) := by decide +kernel
theorem dX7_number_32 : decode cX7_number 32 = .ok (.ireturn, 1) := by decide +kernel
theorem dX7_number_33 : decode cX7_number 33 = .ok (.aload_n 0, 1) := by decide +kernel
theorem dX7_number_34 : decode cX7_number 34 = .ok (.getfield 27, 3) := by decide +kernel
theorem dX7_number_37 : decode cX7_number 37 = .ok (.ireturn, 1) := by decide +kernel
theorem dX7_number_38 : decode cX7_number 38 = .ok (.aload_n 0, 1) := by decide +kernel
theorem dX7_number_39 : decode cX7_number 39 = .ok (.getfield 33, 3) := by decide +kernel
theorem dX7_number_42 : decode cX7_number 42 = .ok (.ireturn, 1) := by decide +kernel
theorem dX7_number_43 : decode cX7_number 43 = .ok (.aload_n 0, 1) := by decide +kernel
theorem dX7_number_44 : decode cX7_number 44 = .ok (.iload_n 2, 1) := by decide +kernel
theorem dX7_number_45 : decode cX7_number 45 = .ok (.invokevirtual 36, 3) := by decide +kernel
theorem dX7_number_48 : decode cX7_number 48 = .ok (.ifCond .eq 7, 3) := by decide +kernel
theorem dX7_number_51 : decode cX7_number 51 = .ok (.iconst 1, 1) := by decide +kernel
theorem dX7_number_52 : decode cX7_number 52 = .ok (.goto 4, 3) := by decide +kernel
theorem dX7_number_55 : decode cX7_number 55 = .ok (.iconst 0, 1) := by decide +kernel
theorem dX7_number_56 : decode cX7_number 56 = .ok (.ireturn, 1) := by decide +kernel
theorem dX8_init_0 : decode cX8_init 0 = .ok (.aload_n 0, 1) := by decide +kernel
theorem dX8_init_1 : decode cX8_init 1 = .ok (.invokespecial 1, 3) := by decide +kernel
theorem dX8_init_4 : decode cX8_init 4 = .ok (.aload_n 0, 1) := by decide +kernel
theorem dX8_init_5 : decode cX8_init 5 = .ok (.new 7, 3) := by decide +kernel
theorem dX8_init_8 : decode cX8_init 8 = .ok (.dup, 1) := by decide +kernel
theorem dX8_init_9 : decode cX8_init 9 = .ok (.invokespecial 9, 3) := by decide +kernel
theorem dX8_init_12 : decode cX8_init 12 = .ok (.putfield 10, 3) := by decide +kernel
theorem dX8_init_15 : decode cX8_init 15 = .ok (.aload_n 0, 1) := by decide +kernel
theorem dX8_init_16 : decode cX8_init 16 = .ok (.new 7, 3) := by decide +kernel
theorem dX8_init_19 : decode cX8_init 19 = .ok (.dup, 1) := by decide +kernel
theorem dX8_init_20 : decode cX8_init 20 = .ok (.invokespecial 9, 3) := by decide +kernel
theorem dX8_init_23 : decode cX8_init 23 = .ok (.putfield 16, 3) := by decide +kernel
theorem dX8_init_26 : decode cX8_init 26 = .ok (.aload_n 0, 1) := by decide +kernel
theorem dX8_init_27 : decode cX8_init 27 = .ok (.new 19, 3) := by decide +kernel
theorem dX8_init_30 : decode cX8_init 30 = .ok (.dup, 1) := by decide +kernel
theorem dX8_init_31 : decode cX8_init 31 = .ok (.invokespecial 21, 3) := by decide +kernel
theorem dX8_init_34 : decode cX8_init 34 = .ok (.putfield 22, 3) := by decide +kernel
theorem dX8_init_37 : decode cX8_init 37 = .ok (.aload_n 0, 1) := by decide +kernel
theorem dX8_init_38 : decode cX8_init 38 = .ok (.new 26, 3) := by decide +kernel
theorem dX8_init_41 : decode cX8_init 41 = .ok (.dup, 1) := by decide +kernel
theorem dX8_init_42 : decode cX8_init 42 = .ok (.invokespecial 28, 3) := by decide +kernel
theorem dX8_init_45 : decode cX8_init 45 = .ok (.putfield 29, 3) := by decide +kernel
theorem dX8_init_48 : decode cX8_init 48 = .ok (.aload_n 0, 1) := by decide +kernel
theorem dX8_init_49 : decode cX8_init 49 = .ok (.new 33, 3) := by decide +kernel
theorem dX8_init_52 : decode cX8_init 52 = .ok (.dup, 1) := by decide +kernel
theorem dX8_init_53 : decode cX8_init 53 = .ok (.invokespecial 35, 3) := by decide +kernel
theorem dX8_init_56 : decode cX8_init 56 = .ok (.putfield 36, 3) := by decide +kernel
theorem dX8_init_59 : decode cX8_init 59 = .ok (.aload_n 0, 1) := by decide +kernel
theorem dX8_init_60 : decode cX8_init 60 = .ok (.iconst 3, 1) := by decide +kernel
theorem dX8_init_61 : decode cX8_init 61 = .ok (.anewarray 40, 3) := by decide +kernel
theorem dX8_init_64 : decode cX8_init 64 = .ok (.putfield 42, 3) := by decide +kernel
theorem dX8_init_67 : decode cX8_init 67 = .ok (.iconst 0, 1) := by decide +kernel
theorem dX8_init_68 : decode cX8_init 68 = .ok (.istore_n 1, 1) := by decide +kernel
theorem dX8_init_69 : decode cX8_init 69 = .ok (.iload_n 1, 1) := by decide +kernel
theorem dX8_init_70 : decode cX8_init 70 = .ok (.iconst 3, 1) := by decide +kernel
theorem dX8_init_71 : decode cX8_init 71 = .ok (.if_icmp .ge 22, 3) := by decide +kernel
theorem dX8_init_74 : decode cX8_init 74 = .ok (.aload_n 0, 1) := by decide +kernel
theorem dX8_init_75 : decode cX8_init 75 = .ok (.getfield 42, 3) := by decide +kernel
theorem dX8_init_78 : decode cX8_init 78 = .ok (.iload_n 1, 1) := by decide +kernel
theorem dX8_init_79 : decode cX8_init 79 = .ok (.new 40, 3) := by decide +kernel
theorem dX8_init_82 : decode cX8_init 82 = .ok (.dup, 1) := by decide +kernel
theorem dX8_init_83 : decode cX8_init 83 = .ok (.invokespecial 46, 3) := by decide +kernel
theorem dX8_init_86 : decode cX8_init 86 = .ok (.aastore, 1) := by decide +kernel
theorem dX8_init_87 : decode cX8_init 87 = .ok (.iinc 1 1, 3) := by decide +kernel
theorem dX8_init_90 : decode cX8_init 90 = .ok (.goto (-21), 3) := by decide +kernel
theorem dX8_init_93 : decode cX8_init 93 = .ok (.aload_n 0, 1) := by decide +kernel
theorem dX8_init_94 : decode cX8_init 94 = .ok (.new 47, 3) := by decide +kernel
theorem dX8_init_97 : decode cX8_init 97 = .ok (.dup, 1) := by decide +kernel
theorem dX8_init_98 : decode cX8_init 98 = .ok (.invokespecial 49, 3) := by decide +kernel
theorem dX8_init_101 : decode cX8_init 101 = .ok (.putfield 50, 3) := by decide +kernel
theorem dX8_init_104 : decode cX8_init 104 = .ok (.aload_n 0, 1) := by decide +kernel
theorem dX8_init_105 : decode cX8_init 105 = .ok (.iconst 0, 1) := by decide +kernel
theorem dX8_init_106 : decode cX8_init 106 = .ok (.putfield 54, 3) := by decide +kernel
theorem dX8_init_109 : decode cX8_init 109 = .ok (.aload_n 0, 1) := by decide +kernel
theorem dX8_init_110 : decode cX8_init 110 = .ok (.bipush (-7), 2) := by decide +kernel
theorem dX8_init_112 : decode cX8_init 112 = .ok (.putfield 58, 3) := by decide +kernel
theorem dX8_init_115 : decode cX8_init 115 = .ok (.aload_n 0, 1) := by decide +kernel
theorem dX8_init_116 : decode cX8_init 116 = .ok (.bipush (-7), 2) := by decide +kernel
theorem dX8_init_118 : decode cX8_init 118 = .ok (.putfield 62, 3) := by decide +kernel
theorem dX8_init_121 : decode cX8_init 121 = .ok (.aload_n 0, 1) := by decide +kernel
theorem dX8_init_122 : decode cX8_init 122 = .ok (.bipush (-7), 2) := by decide +kernel
theorem dX8_init_124 : decode cX8_init 124 = .ok (.putfield 65, 3) := by decide +kernel
theorem dX8_init_127 : decode cX8_init 127 = .ok (.return_, 1) := by decide +kernel
theorem dX8_edition_0 : decode cX8_edition 0 = .ok (.iload_n 1, 1) := by decide +kernel
theorem dX8_edition_1 : decode cX8_edition 1 = .ok (.iconst 0, 1) := by decide +kernel
theorem dX8_edition_2 : decode cX8_edition 2 = .ok (.iconst 3, 1) := by decide +kernel
theorem dX8_edition_3 : decode cX8_edition 3 = .ok (.invokestatic 68, 3) := by decide +kernel
theorem dX8_edition_6 : decode cX8_edition 6 = .ok (.ifCond .ne 5, 3) := by decide +kernel
theorem dX8_edition_9 : decode cX8_edition 9 = .ok (.iconst (-1), 1) := by decide +kernel
theorem dX8_edition_10 : decode cX8_edition 10 = .ok (.ireturn, 1) := by decide +kernel
theorem dX8_edition_11 : decode cX8_edition 11 = .ok (.iload_n 2, 1) := by decide +kernel
theorem dX8_edition_12 : decode cX8_edition 12 = .ok (.iconst 1, 1) := by decide +kernel
theorem dX8_edition_13 : decode cX8_edition 13 = .ok (.bipush 99, 2) := by decide +kernel
theorem dX8_edition_15 : decode cX8_edition 15 = .ok (.invokestatic 68, 3) := by decide +kernel
theorem dX8_edition_18 : decode cX8_edition 18 = .ok (.ifCond .eq 13, 3) := by decide +kernel
theorem dX8_edition_21 : decode cX8_edition 21 = .ok (.iload_n 3, 1) := by decide +kernel
theorem dX8_edition_22 : decode cX8_edition 22 = .ok (.iconst 1, 1) := by decide +kernel
theorem dX8_edition_23 : decode cX8_edition 23 = .ok (.bipush 9, 2) := by decide +kernel
theorem dX8_edition_25 : decode cX8_edition 25 = .ok (.invokestatic 68, 3) := by decide +kernel
theorem dX8_edition_28 : decode cX8_edition 28 = .ok (.ifCond .ne 6, 3) := by decide +kernel
theorem dX8_edition_31 : decode cX8_edition 31 = .ok (.bipush (-2), 2) := by decide +kernel
theorem dX8_edition_33 : decode cX8_edition 33 = .ok (.ireturn, 1) := by decide +kernel
theorem dX8_edition_34 : decode cX8_edition 34 = .ok (.aload_n 0, 1) := by decide +kernel
theorem dX8_edition_35 : decode cX8_edition 35 = .ok (.getfield 10, 3) := by decide +kernel
theorem dX8_edition_38 : decode cX8_edition 38 = .ok (.iload_n 1, 1) := by decide +kernel
theorem dX8_edition_39 : decode cX8_edition 39 = .ok (.invokevirtual 72, 3) := by decide +kernel
theorem dX8_edition_42 : decode cX8_edition 42 = .ok (.ifCond .eq 6, 3) := by decide +kernel
theorem dX8_edition_45 : decode cX8_edition 45 = .ok (.bipush (-3), 2) := by decide +kernel
theorem dX8_edition_47 : decode cX8_edition 47 = .ok (.ireturn, 1) := by decide +kernel
theorem dX8_edition_48 : decode cX8_edition 48 = .ok (.aload_n 0, 1) := by decide +kernel
theorem dX8_edition_49 : decode cX8_edition 49 = .ok (.getfield 10, 3) := by decide +kernel
theorem dX8_edition_52 : decode cX8_edition 52 = .ok (.getfield 76, 3) := by decide +kernel
theorem dX8_edition_55 : decode cX8_edition 55 = .ok (.bipush 6, 2) := by decide +kernel
theorem dX8_edition_57 : decode cX8_edition 57 = .ok (.if_icmp .lt 6, 3) := by decide +kernel
theorem dX8_edition_60 : decode cX8_edition 60 = .ok (.bipush (-4), 2) := by decide +kernel
theorem dX8_edition_62 : decode cX8_edition 62 = .ok (.ireturn, 1) := by decide +kernel
theorem dX8_edition_63 : decode cX8_edition 63 = .ok (.aload_n 0, 1) := by decide +kernel
theorem dX8_edition_64 : decode cX8_edition 64 = .ok (.getfield 22, 3) := by decide +kernel
theorem dX8_edition_67 : decode cX8_edition 67 = .ok (.aload_n 0, 1) := by decide +kernel
theorem dX8_edition_68 : decode cX8_edition 68 = .ok (.getfield 10, 3) := by decide +kernel
theorem dX8_edition_71 : decode cX8_edition 71 = .ok (.invokevirtual 79, 3) := by decide +kernel
theorem dX8_edition_74 : decode cX8_edition 74 = .ok (.aload_n 0, 1) := by decide +kernel
theorem dX8_edition_75 : decode cX8_edition 75 = .ok (.getfield 10, 3) := by decide +kernel
theorem dX8_edition_78 : decode cX8_edition 78 = .ok (.iload_n 1, 1) := by decide +kernel
theorem dX8_edition_79 : decode cX8_edition 79 = .ok (.iload_n 2, 1) := by decide +kernel
theorem dX8_edition_80 : decode cX8_edition 80 = .ok (.iload_n 3, 1) := by decide +kernel
theorem dX8_edition_81 : decode cX8_edition 81 = .ok (.invokevirtual 83, 3) := by decide +kernel
theorem dX8_edition_84 : decode cX8_edition 84 = .ok (.ireturn, 1) := by decide +kernel
theorem dX8_derive_0 : decode cX8_derive 0 = .ok (.aload_n 0, 1) := by decide +kernel
theorem dX8_derive_1 : decode cX8_derive 1 = .ok (.iload_n 1, 1) := by decide +kernel
theorem dX8_derive_2 : decode cX8_derive 2 = .ok (.invokevirtual 87, 3) := by decide +kernel
theorem dX8_derive_5 : decode cX8_derive 5 = .ok (.ifCond .ne 5, 3) := by decide +kernel
theorem dX8_derive_8 : decode cX8_derive 8 = .ok (.iconst (-1), 1) := by decide +kernel
theorem dX8_derive_9 : decode cX8_derive 9 = .ok (.ireturn, 1) := by decide +kernel
theorem dX8_derive_10 : decode cX8_derive 10 = .ok (.aload_n 0, 1) := by decide +kernel
theorem dX8_derive_11 : decode cX8_derive 11 = .ok (.getfield 10, 3) := by decide +kernel
theorem dX8_derive_14 : decode cX8_derive 14 = .ok (.getfield 76, 3) := by decide +kernel
theorem dX8_derive_17 : decode cX8_derive 17 = .ok (.bipush 6, 2) := by decide +kernel
theorem dX8_derive_19 : decode cX8_derive 19 = .ok (.if_icmp .lt 6, 3) := by decide +kernel
theorem dX8_derive_22 : decode cX8_derive 22 = .ok (.bipush (-4), 2) := by decide +kernel
theorem dX8_derive_24 : decode cX8_derive 24 = .ok (.ireturn, 1) := by decide +kernel
theorem dX8_derive_25 : decode cX8_derive 25 = .ok (.aload_n 0, 1) := by decide +kernel
theorem dX8_derive_26 : decode cX8_derive 26 = .ok (.getfield 22, 3) := by decide +kernel
theorem dX8_derive_29 : decode cX8_derive 29 = .ok (.aload_n 0, 1) := by decide +kernel
theorem dX8_derive_30 : decode cX8_derive 30 = .ok (.getfield 10, 3) := by decide +kernel
theorem dX8_derive_33 : decode cX8_derive 33 = .ok (.invokevirtual 79, 3) := by decide +kernel
theorem dX8_derive_36 : decode cX8_derive 36 = .ok (.aload_n 0, 1) := by decide +kernel
theorem dX8_derive_37 : decode cX8_derive 37 = .ok (.getfield 10, 3) := by decide +kernel
theorem dX8_derive_40 : decode cX8_derive 40 = .ok (.iload_n 1, 1) := by decide +kernel
theorem dX8_derive_41 : decode cX8_derive 41 = .ok (.invokevirtual 90, 3) := by decide +kernel
theorem dX8_derive_44 : decode cX8_derive 44 = .ok (.ireturn, 1) := by decide +kernel
theorem dX8_cut_0 : decode cX8_cut 0 = .ok (.aload_n 0, 1) := by decide +kernel
theorem dX8_cut_1 : decode cX8_cut 1 = .ok (.getfield 22, 3) := by decide +kernel
theorem dX8_cut_4 : decode cX8_cut 4 = .ok (.aload_n 0, 1) := by decide +kernel
theorem dX8_cut_5 : decode cX8_cut 5 = .ok (.getfield 10, 3) := by decide +kernel
theorem dX8_cut_8 : decode cX8_cut 8 = .ok (.invokevirtual 94, 3) := by decide +kernel
theorem dX8_cut_11 : decode cX8_cut 11 = .ok (.aload_n 0, 1) := by decide +kernel
theorem dX8_cut_12 : decode cX8_cut 12 = .ok (.aload_n 0, 1) := by decide +kernel
theorem dX8_cut_13 : decode cX8_cut 13 = .ok (.iload_n 1, 1) := by decide +kernel
theorem dX8_cut_14 : decode cX8_cut 14 = .ok (.iload_n 2, 1) := by decide +kernel
theorem dX8_cut_15 : decode cX8_cut 15 = .ok (.iload_n 3, 1) := by decide +kernel
theorem dX8_cut_16 : decode cX8_cut 16 = .ok (.invokevirtual 97, 3) := by decide +kernel
theorem dX8_cut_19 : decode cX8_cut 19 = .ok (.invokevirtual 100, 3) := by decide +kernel
theorem dX8_cut_22 : decode cX8_cut 22 = .ok (.ireturn, 1) := by decide +kernel
theorem dX8_cutBars_0 : decode cX8_cutBars 0 = .ok (.aload_n 0, 1) := by decide +kernel
theorem dX8_cutBars_1 : decode cX8_cutBars 1 = .ok (.iload_n 1, 1) := by decide +kernel
theorem dX8_cutBars_2 : decode cX8_cutBars 2 = .ok (.iload_n 2, 1) := by decide +kernel
theorem dX8_cutBars_3 : decode cX8_cutBars 3 = .ok (.invokevirtual 103, 3) := by decide +kernel
theorem dX8_cutBars_6 : decode cX8_cutBars 6 = .ok (.ifCond .eq 12, 3) := by decide +kernel
theorem dX8_cutBars_9 : decode cX8_cutBars 9 = .ok (.aload_n 0, 1) := by decide +kernel
theorem dX8_cutBars_10 : decode cX8_cutBars 10 = .ok (.iload_n 1, 1) := by decide +kernel
theorem dX8_cutBars_11 : decode cX8_cutBars 11 = .ok (.iload_n 3, 1) := by decide +kernel
theorem dX8_cutBars_12 : decode cX8_cutBars 12 = .ok (.invokevirtual 103, 3) := by decide +kernel
theorem dX8_cutBars_15 : decode cX8_cutBars 15 = .ok (.ifCond .ne 5, 3) := by decide +kernel
theorem dX8_cutBars_18 : decode cX8_cutBars 18 = .ok (.iconst (-1), 1) := by decide +kernel
theorem dX8_cutBars_19 : decode cX8_cutBars 19 = .ok (.ireturn, 1) := by decide +kernel
theorem dX8_cutBars_20 : decode cX8_cutBars 20 = .ok (.aload_n 0, 1) := by decide +kernel
theorem dX8_cutBars_21 : decode cX8_cutBars 21 = .ok (.getfield 10, 3) := by decide +kernel
theorem dX8_cutBars_24 : decode cX8_cutBars 24 = .ok (.getfield 107, 3) := by decide +kernel
theorem dX8_cutBars_27 : decode cX8_cutBars 27 = .ok (.iload_n 1, 1) := by decide +kernel
theorem dX8_cutBars_28 : decode cX8_cutBars 28 = .ok (.aaload, 1) := by decide +kernel
theorem dX8_cutBars_29 : decode cX8_cutBars 29 = .ok (.astore 4, 2) := by decide +kernel
theorem dX8_cutBars_31 : decode cX8_cutBars 31 = .ok (.iload_n 3, 1) := by decide +kernel
theorem dX8_cutBars_32 : decode cX8_cutBars 32 = .ok (.iload_n 2, 1) := by decide +kernel
theorem dX8_cutBars_33 : decode cX8_cutBars 33 = .ok (.if_icmp .lt 16, 3) := by decide +kernel
theorem dX8_cutBars_36 : decode cX8_cutBars 36 = .ok (.iload_n 3, 1) := by decide +kernel
theorem dX8_cutBars_37 : decode cX8_cutBars 37 = .ok (.iload_n 2, 1) := by decide +kernel
theorem dX8_cutBars_38 : decode cX8_cutBars 38 = .ok (.isub, 1) := by decide +kernel
theorem dX8_cutBars_39 : decode cX8_cutBars 39 = .ok (.iconst 1, 1) := by decide +kernel
theorem dX8_cutBars_40 : decode cX8_cutBars 40 = .ok (.iadd, 1) := by decide +kernel
theorem dX8_cutBars_41 : decode cX8_cutBars 41 = .ok (.aload 4, 2) := by decide +kernel
theorem dX8_cutBars_43 : decode cX8_cutBars 43 = .ok (.getfield 111, 3) := by decide +kernel
theorem dX8_cutBars_46 : decode cX8_cutBars 46 = .ok (.if_icmp .lt 6, 3) := by decide +kernel
theorem dX8_cutBars_49 : decode cX8_cutBars 49 = .ok (.bipush (-2), 2) := by decide +kernel
theorem dX8_cutBars_51 : decode cX8_cutBars 51 = .ok (.ireturn, 1) := by decide +kernel
theorem dX8_cutBars_52 : decode cX8_cutBars 52 = .ok (.aload 4, 2) := by decide +kernel
theorem dX8_cutBars_54 : decode cX8_cutBars 54 = .ok (.invokevirtual 116, 3) := by decide +kernel
theorem dX8_cutBars_57 : decode cX8_cutBars 57 = .ok (.ifCond .eq 9, 3) := by decide +kernel
theorem dX8_cutBars_60 : decode cX8_cutBars 60 = .ok (.aload_n 0, 1) := by decide +kernel
theorem dX8_cutBars_61 : decode cX8_cutBars 61 = .ok (.iconst 4, 1) := by decide +kernel
theorem dX8_cutBars_62 : decode cX8_cutBars 62 = .ok (.invokevirtual 120, 3) := by decide +kernel
theorem dX8_cutBars_65 : decode cX8_cutBars 65 = .ok (.ireturn, 1) := by decide +kernel
theorem dX8_cutBars_66 : decode cX8_cutBars 66 = .ok (.aload 4, 2) := by decide +kernel
theorem dX8_cutBars_68 : decode cX8_cutBars 68 = .ok (.iload_n 2, 1) := by decide +kernel
theorem dX8_cutBars_69 : decode cX8_cutBars 69 = .ok (.iload_n 3, 1) := by decide +kernel
theorem dX8_cutBars_70 : decode cX8_cutBars 70 = .ok (.invokevirtual 123, 3) := by decide +kernel
theorem dX8_cutBars_73 : decode cX8_cutBars 73 = .ok (.aload 4, 2) := by decide +kernel
theorem dX8_cutBars_75 : decode cX8_cutBars 75 = .ok (.getfield 111, 3) := by decide +kernel
theorem dX8_cutBars_78 : decode cX8_cutBars 78 = .ok (.ireturn, 1) := by decide +kernel
theorem dX8_insert_0 : decode cX8_insert 0 = .ok (.aload_n 0, 1) := by decide +kernel
theorem dX8_insert_1 : decode cX8_insert 1 = .ok (.getfield 22, 3) := by decide +kernel
theorem dX8_insert_4 : decode cX8_insert 4 = .ok (.aload_n 0, 1) := by decide +kernel
theorem dX8_insert_5 : decode cX8_insert 5 = .ok (.getfield 10, 3) := by decide +kernel
theorem dX8_insert_8 : decode cX8_insert 8 = .ok (.invokevirtual 94, 3) := by decide +kernel
theorem dX8_insert_11 : decode cX8_insert 11 = .ok (.aload_n 0, 1) := by decide +kernel
theorem dX8_insert_12 : decode cX8_insert 12 = .ok (.aload_n 0, 1) := by decide +kernel
theorem dX8_insert_13 : decode cX8_insert 13 = .ok (.iload_n 1, 1) := by decide +kernel
theorem dX8_insert_14 : decode cX8_insert 14 = .ok (.iload_n 2, 1) := by decide +kernel
theorem dX8_insert_15 : decode cX8_insert 15 = .ok (.iload_n 3, 1) := by decide +kernel
theorem dX8_insert_16 : decode cX8_insert 16 = .ok (.iload 4, 2) := by decide +kernel
theorem dX8_insert_18 : decode cX8_insert 18 = .ok (.invokevirtual 127, 3) := by decide +kernel
theorem dX8_insert_21 : decode cX8_insert 21 = .ok (.invokevirtual 100, 3) := by decide +kernel
theorem dX8_insert_24 : decode cX8_insert 24 = .ok (.ireturn, 1) := by decide +kernel
theorem dX8_insertBars_0 : decode cX8_insertBars 0 = .ok (.aload_n 0, 1) := by decide +kernel
theorem dX8_insertBars_1 : decode cX8_insertBars 1 = .ok (.iload_n 1, 1) := by decide +kernel
theorem dX8_insertBars_2 : decode cX8_insertBars 2 = .ok (.invokevirtual 87, 3) := by decide +kernel
theorem dX8_insertBars_5 : decode cX8_insertBars 5 = .ok (.ifCond .eq 23, 3) := by decide +kernel
theorem dX8_insertBars_8 : decode cX8_insertBars 8 = .ok (.iload_n 2, 1) := by decide +kernel
theorem dX8_insertBars_9 : decode cX8_insertBars 9 = .ok (.iconst 0, 1) := by decide +kernel
theorem dX8_insertBars_10 : decode cX8_insertBars 10 = .ok (.aload_n 0, 1) := by decide +kernel
theorem dX8_insertBars_11 : decode cX8_insertBars 11 = .ok (.getfield 10, 3) := by decide +kernel
theorem dX8_insertBars_14 : decode cX8_insertBars 14 = .ok (.getfield 107, 3) := by decide +kernel
theorem dX8_insertBars_17 : decode cX8_insertBars 17 = .ok (.iload_n 1, 1) := by decide +kernel
theorem dX8_insertBars_18 : decode cX8_insertBars 18 = .ok (.aaload, 1) := by decide +kernel
theorem dX8_insertBars_19 : decode cX8_insertBars 19 = .ok (.getfield 111, 3) := by decide +kernel
theorem dX8_insertBars_22 : decode cX8_insertBars 22 = .ok (.invokestatic 68, 3) := by decide +kernel
theorem dX8_insertBars_25 : decode cX8_insertBars 25 = .ok (.ifCond .ne 5, 3) := by decide +kernel
theorem dX8_insertBars_28 : decode cX8_insertBars 28 = .ok (.iconst (-1), 1) := by decide +kernel
theorem dX8_insertBars_29 : decode cX8_insertBars 29 = .ok (.ireturn, 1) := by decide +kernel
theorem dX8_insertBars_30 : decode cX8_insertBars 30 = .ok (.iload_n 3, 1) := by decide +kernel
theorem dX8_insertBars_31 : decode cX8_insertBars 31 = .ok (.iconst 1, 1) := by decide +kernel
theorem dX8_insertBars_32 : decode cX8_insertBars 32 = .ok (.bipush 99, 2) := by decide +kernel
theorem dX8_insertBars_34 : decode cX8_insertBars 34 = .ok (.invokestatic 68, 3) := by decide +kernel
theorem dX8_insertBars_37 : decode cX8_insertBars 37 = .ok (.ifCond .eq 14, 3) := by decide +kernel
theorem dX8_insertBars_40 : decode cX8_insertBars 40 = .ok (.iload 4, 2) := by decide +kernel
theorem dX8_insertBars_42 : decode cX8_insertBars 42 = .ok (.iconst 1, 1) := by decide +kernel
theorem dX8_insertBars_43 : decode cX8_insertBars 43 = .ok (.bipush 9, 2) := by decide +kernel
theorem dX8_insertBars_45 : decode cX8_insertBars 45 = .ok (.invokestatic 68, 3) := by decide +kernel
theorem dX8_insertBars_48 : decode cX8_insertBars 48 = .ok (.ifCond .ne 6, 3) := by decide +kernel
theorem dX8_insertBars_51 : decode cX8_insertBars 51 = .ok (.bipush (-2), 2) := by decide +kernel
theorem dX8_insertBars_53 : decode cX8_insertBars 53 = .ok (.ireturn, 1) := by decide +kernel
theorem dX8_insertBars_54 : decode cX8_insertBars 54 = .ok (.aload_n 0, 1) := by decide +kernel
theorem dX8_insertBars_55 : decode cX8_insertBars 55 = .ok (.getfield 10, 3) := by decide +kernel
theorem dX8_insertBars_58 : decode cX8_insertBars 58 = .ok (.getfield 107, 3) := by decide +kernel
theorem dX8_insertBars_61 : decode cX8_insertBars 61 = .ok (.iload_n 1, 1) := by decide +kernel
theorem dX8_insertBars_62 : decode cX8_insertBars 62 = .ok (.aaload, 1) := by decide +kernel
theorem dX8_insertBars_63 : decode cX8_insertBars 63 = .ok (.astore 5, 2) := by decide +kernel
theorem dX8_insertBars_65 : decode cX8_insertBars 65 = .ok (.aload 5, 2) := by decide +kernel
theorem dX8_insertBars_67 : decode cX8_insertBars 67 = .ok (.getfield 111, 3) := by decide +kernel
theorem dX8_insertBars_70 : decode cX8_insertBars 70 = .ok (.iload_n 3, 1) := by decide +kernel
theorem dX8_insertBars_71 : decode cX8_insertBars 71 = .ok (.iadd, 1) := by decide +kernel
theorem dX8_insertBars_72 : decode cX8_insertBars 72 = .ok (.bipush 99, 2) := by decide +kernel
theorem dX8_insertBars_74 : decode cX8_insertBars 74 = .ok (.if_icmp .le 6, 3) := by decide +kernel
theorem dX8_insertBars_77 : decode cX8_insertBars 77 = .ok (.bipush (-4), 2) := by decide +kernel
theorem dX8_insertBars_79 : decode cX8_insertBars 79 = .ok (.ireturn, 1) := by decide +kernel
theorem dX8_insertBars_80 : decode cX8_insertBars 80 = .ok (.aload 5, 2) := by decide +kernel
theorem dX8_insertBars_82 : decode cX8_insertBars 82 = .ok (.invokevirtual 116, 3) := by decide +kernel
theorem dX8_insertBars_85 : decode cX8_insertBars 85 = .ok (.ifCond .eq 9, 3) := by decide +kernel
theorem dX8_insertBars_88 : decode cX8_insertBars 88 = .ok (.aload_n 0, 1) := by decide +kernel
theorem dX8_insertBars_89 : decode cX8_insertBars 89 = .ok (.iconst 4, 1) := by decide +kernel
theorem dX8_insertBars_90 : decode cX8_insertBars 90 = .ok (.invokevirtual 120, 3) := by decide +kernel
theorem dX8_insertBars_93 : decode cX8_insertBars 93 = .ok (.ireturn, 1) := by decide +kernel
theorem dX8_insertBars_94 : decode cX8_insertBars 94 = .ok (.aload 5, 2) := by decide +kernel
theorem dX8_insertBars_96 : decode cX8_insertBars 96 = .ok (.iload_n 2, 1) := by decide +kernel
theorem dX8_insertBars_97 : decode cX8_insertBars 97 = .ok (.iload_n 3, 1) := by decide +kernel
theorem dX8_insertBars_98 : decode cX8_insertBars 98 = .ok (.iload 4, 2) := by decide +kernel
theorem dX8_insertBars_100 : decode cX8_insertBars 100 = .ok (.aload_n 0, 1) := by decide +kernel
theorem dX8_insertBars_101 : decode cX8_insertBars 101 = .ok (.getfield 10, 3) := by decide +kernel
theorem dX8_insertBars_104 : decode cX8_insertBars 104 = .ok (.getfield 131, 3) := by decide +kernel
theorem dX8_insertBars_107 : decode cX8_insertBars 107 = .ok (.aload 5, 2) := by decide +kernel
theorem dX8_insertBars_109 : decode cX8_insertBars 109 = .ok (.getfield 135, 3) := by decide +kernel
theorem dX8_insertBars_112 : decode cX8_insertBars 112 = .ok (.iaload, 1) := by decide +kernel
theorem dX8_insertBars_113 : decode cX8_insertBars 113 = .ok (.invokevirtual 138, 3) := by decide +kernel
theorem dX8_insertBars_116 : decode cX8_insertBars 116 = .ok (.aload_n 0, 1) := by decide +kernel
theorem dX8_insertBars_117 : decode cX8_insertBars 117 = .ok (.getfield 10, 3) := by decide +kernel
theorem dX8_insertBars_120 : decode cX8_insertBars 120 = .ok (.getfield 131, 3) := by decide +kernel
theorem dX8_insertBars_123 : decode cX8_insertBars 123 = .ok (.aload 5, 2) := by decide +kernel
theorem dX8_insertBars_125 : decode cX8_insertBars 125 = .ok (.getfield 135, 3) := by decide +kernel
theorem dX8_insertBars_128 : decode cX8_insertBars 128 = .ok (.dup2, 1) := by decide +kernel
theorem dX8_insertBars_129 : decode cX8_insertBars 129 = .ok (.iaload, 1) := by decide +kernel
theorem dX8_insertBars_130 : decode cX8_insertBars 130 = .ok (.iload_n 3, 1) := by decide +kernel
theorem dX8_insertBars_131 : decode cX8_insertBars 131 = .ok (.iadd, 1) := by decide +kernel
theorem dX8_insertBars_132 : decode cX8_insertBars 132 = .ok (.iastore, 1) := by decide +kernel
theorem dX8_insertBars_133 : decode cX8_insertBars 133 = .ok (.aload 5, 2) := by decide +kernel
theorem dX8_insertBars_135 : decode cX8_insertBars 135 = .ok (.getfield 111, 3) := by decide +kernel
theorem dX8_insertBars_138 : decode cX8_insertBars 138 = .ok (.ireturn, 1) := by decide +kernel
theorem dX8_rework_0 : decode cX8_rework 0 = .ok (.aload_n 0, 1) := by decide +kernel
theorem dX8_rework_1 : decode cX8_rework 1 = .ok (.getfield 22, 3) := by decide +kernel
theorem dX8_rework_4 : decode cX8_rework 4 = .ok (.aload_n 0, 1) := by decide +kernel
theorem dX8_rework_5 : decode cX8_rework 5 = .ok (.getfield 10, 3) := by decide +kernel
theorem dX8_rework_8 : decode cX8_rework 8 = .ok (.invokevirtual 94, 3) := by decide +kernel
theorem dX8_rework_11 : decode cX8_rework 11 = .ok (.aload_n 0, 1) := by decide +kernel
theorem dX8_rework_12 : decode cX8_rework 12 = .ok (.aload_n 0, 1) := by decide +kernel
theorem dX8_rework_13 : decode cX8_rework 13 = .ok (.iload_n 1, 1) := by decide +kernel
theorem dX8_rework_14 : decode cX8_rework 14 = .ok (.iload_n 2, 1) := by decide +kernel
theorem dX8_rework_15 : decode cX8_rework 15 = .ok (.iload_n 3, 1) := by decide +kernel
theorem dX8_rework_16 : decode cX8_rework 16 = .ok (.invokevirtual 142, 3) := by decide +kernel
theorem dX8_rework_19 : decode cX8_rework 19 = .ok (.invokevirtual 100, 3) := by decide +kernel
theorem dX8_rework_22 : decode cX8_rework 22 = .ok (.ireturn, 1) := by decide +kernel
theorem dX8_reworkBar_0 : decode cX8_reworkBar 0 = .ok (.aload_n 0, 1) := by decide +kernel
theorem dX8_reworkBar_1 : decode cX8_reworkBar 1 = .ok (.iload_n 1, 1) := by decide +kernel
theorem dX8_reworkBar_2 : decode cX8_reworkBar 2 = .ok (.iload_n 2, 1) := by decide +kernel
theorem dX8_reworkBar_3 : decode cX8_reworkBar 3 = .ok (.invokevirtual 103, 3) := by decide +kernel
theorem dX8_reworkBar_6 : decode cX8_reworkBar 6 = .ok (.ifCond .ne 5, 3) := by decide +kernel
theorem dX8_reworkBar_9 : decode cX8_reworkBar 9 = .ok (.iconst (-1), 1) := by decide +kernel
theorem dX8_reworkBar_10 : decode cX8_reworkBar 10 = .ok (.ireturn, 1) := by decide +kernel
theorem dX8_reworkBar_11 : decode cX8_reworkBar 11 = .ok (.iload_n 3, 1) := by decide +kernel
theorem dX8_reworkBar_12 : decode cX8_reworkBar 12 = .ok (.iconst 1, 1) := by decide +kernel
theorem dX8_reworkBar_13 : decode cX8_reworkBar 13 = .ok (.bipush 9, 2) := by decide +kernel
theorem dX8_reworkBar_15 : decode cX8_reworkBar 15 = .ok (.invokestatic 68, 3) := by decide +kernel
theorem dX8_reworkBar_18 : decode cX8_reworkBar 18 = .ok (.ifCond .ne 6, 3) := by decide +kernel
theorem dX8_reworkBar_21 : decode cX8_reworkBar 21 = .ok (.bipush (-2), 2) := by decide +kernel
theorem dX8_reworkBar_23 : decode cX8_reworkBar 23 = .ok (.ireturn, 1) := by decide +kernel
theorem dX8_reworkBar_24 : decode cX8_reworkBar 24 = .ok (.aload_n 0, 1) := by decide +kernel
theorem dX8_reworkBar_25 : decode cX8_reworkBar 25 = .ok (.getfield 10, 3) := by decide +kernel
theorem dX8_reworkBar_28 : decode cX8_reworkBar 28 = .ok (.getfield 107, 3) := by decide +kernel
theorem dX8_reworkBar_31 : decode cX8_reworkBar 31 = .ok (.iload_n 1, 1) := by decide +kernel
theorem dX8_reworkBar_32 : decode cX8_reworkBar 32 = .ok (.aaload, 1) := by decide +kernel
theorem dX8_reworkBar_33 : decode cX8_reworkBar 33 = .ok (.astore 4, 2) := by decide +kernel
theorem dX8_reworkBar_35 : decode cX8_reworkBar 35 = .ok (.aload 4, 2) := by decide +kernel
theorem dX8_reworkBar_37 : decode cX8_reworkBar 37 = .ok (.invokevirtual 116, 3) := by decide +kernel
theorem dX8_reworkBar_40 : decode cX8_reworkBar 40 = .ok (.ifCond .eq 9, 3) := by decide +kernel
theorem dX8_reworkBar_43 : decode cX8_reworkBar 43 = .ok (.aload_n 0, 1) := by decide +kernel
theorem dX8_reworkBar_44 : decode cX8_reworkBar 44 = .ok (.iconst 4, 1) := by decide +kernel
theorem dX8_reworkBar_45 : decode cX8_reworkBar 45 = .ok (.invokevirtual 120, 3) := by decide +kernel
theorem dX8_reworkBar_48 : decode cX8_reworkBar 48 = .ok (.ireturn, 1) := by decide +kernel
theorem dX8_reworkBar_49 : decode cX8_reworkBar 49 = .ok (.aload_n 0, 1) := by decide +kernel
theorem dX8_reworkBar_50 : decode cX8_reworkBar 50 = .ok (.getfield 10, 3) := by decide +kernel
theorem dX8_reworkBar_53 : decode cX8_reworkBar 53 = .ok (.getfield 145, 3) := by decide +kernel
theorem dX8_reworkBar_56 : decode cX8_reworkBar 56 = .ok (.aload 4, 2) := by decide +kernel
theorem dX8_reworkBar_58 : decode cX8_reworkBar 58 = .ok (.getfield 135, 3) := by decide +kernel
theorem dX8_reworkBar_61 : decode cX8_reworkBar 61 = .ok (.dup2, 1) := by decide +kernel
theorem dX8_reworkBar_62 : decode cX8_reworkBar 62 = .ok (.iaload, 1) := by decide +kernel
theorem dX8_reworkBar_63 : decode cX8_reworkBar 63 = .ok (.iconst 1, 1) := by decide +kernel
theorem dX8_reworkBar_64 : decode cX8_reworkBar 64 = .ok (.iadd, 1) := by decide +kernel
theorem dX8_reworkBar_65 : decode cX8_reworkBar 65 = .ok (.iastore, 1) := by decide +kernel
theorem dX8_reworkBar_66 : decode cX8_reworkBar 66 = .ok (.aload 4, 2) := by decide +kernel
theorem dX8_reworkBar_68 : decode cX8_reworkBar 68 = .ok (.getfield 148, 3) := by decide +kernel
theorem dX8_reworkBar_71 : decode cX8_reworkBar 71 = .ok (.iload_n 2, 1) := by decide +kernel
theorem dX8_reworkBar_72 : decode cX8_reworkBar 72 = .ok (.aload_n 0, 1) := by decide +kernel
theorem dX8_reworkBar_73 : decode cX8_reworkBar 73 = .ok (.getfield 10, 3) := by decide +kernel
theorem dX8_reworkBar_76 : decode cX8_reworkBar 76 = .ok (.getfield 145, 3) := by decide +kernel
theorem dX8_reworkBar_79 : decode cX8_reworkBar 79 = .ok (.aload 4, 2) := by decide +kernel
theorem dX8_reworkBar_81 : decode cX8_reworkBar 81 = .ok (.getfield 135, 3) := by decide +kernel
theorem dX8_reworkBar_84 : decode cX8_reworkBar 84 = .ok (.iaload, 1) := by decide +kernel
theorem dX8_reworkBar_85 : decode cX8_reworkBar 85 = .ok (.iastore, 1) := by decide +kernel
theorem dX8_reworkBar_86 : decode cX8_reworkBar 86 = .ok (.aload 4, 2) := by decide +kernel
theorem dX8_reworkBar_88 : decode cX8_reworkBar 88 = .ok (.getfield 151, 3) := by decide +kernel
theorem dX8_reworkBar_91 : decode cX8_reworkBar 91 = .ok (.iload_n 2, 1) := by decide +kernel
theorem dX8_reworkBar_92 : decode cX8_reworkBar 92 = .ok (.iload_n 3, 1) := by decide +kernel
theorem dX8_reworkBar_93 : decode cX8_reworkBar 93 = .ok (.iastore, 1) := by decide +kernel
theorem dX8_reworkBar_94 : decode cX8_reworkBar 94 = .ok (.aload 4, 2) := by decide +kernel
theorem dX8_reworkBar_96 : decode cX8_reworkBar 96 = .ok (.getfield 148, 3) := by decide +kernel
theorem dX8_reworkBar_99 : decode cX8_reworkBar 99 = .ok (.iload_n 2, 1) := by decide +kernel
theorem dX8_reworkBar_100 : decode cX8_reworkBar 100 = .ok (.iaload, 1) := by decide +kernel
theorem dX8_reworkBar_101 : decode cX8_reworkBar 101 = .ok (.ireturn, 1) := by decide +kernel
theorem dX8_ofEdition_0 : decode cX8_ofEdition 0 = .ok (.aload_n 0, 1) := by decide +kernel
theorem dX8_ofEdition_1 : decode cX8_ofEdition 1 = .ok (.iload_n 1, 1) := by decide +kernel
theorem dX8_ofEdition_2 : decode cX8_ofEdition 2 = .ok (.invokevirtual 87, 3) := by decide +kernel
theorem dX8_ofEdition_5 : decode cX8_ofEdition 5 = .ok (.ifCond .ne 5, 3) := by decide +kernel
theorem dX8_ofEdition_8 : decode cX8_ofEdition 8 = .ok (.iconst (-1), 1) := by decide +kernel
theorem dX8_ofEdition_9 : decode cX8_ofEdition 9 = .ok (.ireturn, 1) := by decide +kernel
theorem dX8_ofEdition_10 : decode cX8_ofEdition 10 = .ok (.aload_n 0, 1) := by decide +kernel
theorem dX8_ofEdition_11 : decode cX8_ofEdition 11 = .ok (.getfield 10, 3) := by decide +kernel
theorem dX8_ofEdition_14 : decode cX8_ofEdition 14 = .ok (.getfield 107, 3) := by decide +kernel
theorem dX8_ofEdition_17 : decode cX8_ofEdition 17 = .ok (.iload_n 1, 1) := by decide +kernel
theorem dX8_ofEdition_18 : decode cX8_ofEdition 18 = .ok (.aaload, 1) := by decide +kernel
theorem dX8_ofEdition_19 : decode cX8_ofEdition 19 = .ok (.astore_n 3, 1) := by decide +kernel
theorem dX8_ofEdition_20 : decode cX8_ofEdition 20 = .ok (.iload_n 2, 1) := by decide +kernel
theorem dX8_ofEdition_21 : decode cX8_ofEdition 21 = .ok (.tableswitch 83 0 6 #[43, 48, 53, 58, 67, 73, 78], 43) := by decide +kernel
theorem dX8_ofEdition_64 : decode cX8_ofEdition 64 = .ok (.aload_n 3, 1) := by decide +kernel
theorem dX8_ofEdition_65 : decode cX8_ofEdition 65 = .ok (.getfield 135, 3) := by decide +kernel
theorem dX8_ofEdition_68 : decode cX8_ofEdition 68 = .ok (.ireturn, 1) := by decide +kernel
theorem dX8_ofEdition_69 : decode cX8_ofEdition 69 = .ok (.aload_n 3, 1) := by decide +kernel
theorem dX8_ofEdition_70 : decode cX8_ofEdition 70 = .ok (.getfield 111, 3) := by decide +kernel
theorem dX8_ofEdition_73 : decode cX8_ofEdition 73 = .ok (.ireturn, 1) := by decide +kernel
theorem dX8_ofEdition_74 : decode cX8_ofEdition 74 = .ok (.aload_n 3, 1) := by decide +kernel
theorem dX8_ofEdition_75 : decode cX8_ofEdition 75 = .ok (.getfield 154, 3) := by decide +kernel
theorem dX8_ofEdition_78 : decode cX8_ofEdition 78 = .ok (.ireturn, 1) := by decide +kernel
theorem dX8_ofEdition_79 : decode cX8_ofEdition 79 = .ok (.aload_n 0, 1) := by decide +kernel
theorem dX8_ofEdition_80 : decode cX8_ofEdition 80 = .ok (.getfield 10, 3) := by decide +kernel
theorem dX8_ofEdition_83 : decode cX8_ofEdition 83 = .ok (.iload_n 1, 1) := by decide +kernel
theorem dX8_ofEdition_84 : decode cX8_ofEdition 84 = .ok (.invokevirtual 157, 3) := by decide +kernel
theorem dX8_ofEdition_87 : decode cX8_ofEdition 87 = .ok (.ireturn, 1) := by decide +kernel
theorem dX8_ofEdition_88 : decode cX8_ofEdition 88 = .ok (.aload_n 3, 1) := by decide +kernel
theorem dX8_ofEdition_89 : decode cX8_ofEdition 89 = .ok (.iconst 0, 1) := by decide +kernel
theorem dX8_ofEdition_90 : decode cX8_ofEdition 90 = .ok (.invokevirtual 160, 3) := by decide +kernel
theorem dX8_ofEdition_93 : decode cX8_ofEdition 93 = .ok (.ireturn, 1) := by decide +kernel
theorem dX8_ofEdition_94 : decode cX8_ofEdition 94 = .ok (.aload_n 3, 1) := by decide +kernel
theorem dX8_ofEdition_95 : decode cX8_ofEdition 95 = .ok (.invokevirtual 163, 3) := by decide +kernel
theorem dX8_ofEdition_98 : decode cX8_ofEdition 98 = .ok (.ireturn, 1) := by decide +kernel
theorem dX8_ofEdition_99 : decode cX8_ofEdition 99 = .ok (.aload_n 3, 1) := by decide +kernel
theorem dX8_ofEdition_100 : decode cX8_ofEdition 100 = .ok (.invokevirtual 167, 3) := by decide +kernel
theorem dX8_ofEdition_103 : decode cX8_ofEdition 103 = .ok (.ireturn, 1) := by decide +kernel
theorem dX8_ofEdition_104 : decode cX8_ofEdition 104 = .ok (.iconst (-1), 1) := by decide +kernel
theorem dX8_ofEdition_105 : decode cX8_ofEdition 105 = .ok (.ireturn, 1) := by decide +kernel
theorem dX8_bar_0 : decode cX8_bar 0 = .ok (.aload_n 0, 1) := by decide +kernel
theorem dX8_bar_1 : decode cX8_bar 1 = .ok (.iload_n 1, 1) := by decide +kernel
theorem dX8_bar_2 : decode cX8_bar 2 = .ok (.iload_n 2, 1) := by decide +kernel
theorem dX8_bar_3 : decode cX8_bar 3 = .ok (.invokevirtual 103, 3) := by decide +kernel
theorem dX8_bar_6 : decode cX8_bar 6 = .ok (.ifCond .ne 5, 3) := by decide +kernel
theorem dX8_bar_9 : decode cX8_bar 9 = .ok (.iconst (-1), 1) := by decide +kernel
theorem dX8_bar_10 : decode cX8_bar 10 = .ok (.ireturn, 1) := by decide +kernel
theorem dX8_bar_11 : decode cX8_bar 11 = .ok (.aload_n 0, 1) := by decide +kernel
theorem dX8_bar_12 : decode cX8_bar 12 = .ok (.getfield 10, 3) := by decide +kernel
theorem dX8_bar_15 : decode cX8_bar 15 = .ok (.getfield 107, 3) := by decide +kernel
theorem dX8_bar_18 : decode cX8_bar 18 = .ok (.iload_n 1, 1) := by decide +kernel
theorem dX8_bar_19 : decode cX8_bar 19 = .ok (.aaload, 1) := by decide +kernel
theorem dX8_bar_20 : decode cX8_bar 20 = .ok (.astore 4, 2) := by decide +kernel
theorem dX8_bar_22 : decode cX8_bar 22 = .ok (.iload_n 3, 1) := by decide +kernel
theorem dX8_bar_23 : decode cX8_bar 23 = .ok (.tableswitch 71 0 4 #[33, 41, 49, 57, 64], 33) := by decide +kernel
theorem dX8_bar_56 : decode cX8_bar 56 = .ok (.aload 4, 2) := by decide +kernel
theorem dX8_bar_58 : decode cX8_bar 58 = .ok (.getfield 170, 3) := by decide +kernel
theorem dX8_bar_61 : decode cX8_bar 61 = .ok (.iload_n 2, 1) := by decide +kernel
theorem dX8_bar_62 : decode cX8_bar 62 = .ok (.iaload, 1) := by decide +kernel
theorem dX8_bar_63 : decode cX8_bar 63 = .ok (.ireturn, 1) := by decide +kernel
theorem dX8_bar_64 : decode cX8_bar 64 = .ok (.aload 4, 2) := by decide +kernel
theorem dX8_bar_66 : decode cX8_bar 66 = .ok (.getfield 148, 3) := by decide +kernel
theorem dX8_bar_69 : decode cX8_bar 69 = .ok (.iload_n 2, 1) := by decide +kernel
theorem dX8_bar_70 : decode cX8_bar 70 = .ok (.iaload, 1) := by decide +kernel
theorem dX8_bar_71 : decode cX8_bar 71 = .ok (.ireturn, 1) := by decide +kernel
theorem dX8_bar_72 : decode cX8_bar 72 = .ok (.aload 4, 2) := by decide +kernel
theorem dX8_bar_74 : decode cX8_bar 74 = .ok (.getfield 151, 3) := by decide +kernel
theorem dX8_bar_77 : decode cX8_bar 77 = .ok (.iload_n 2, 1) := by decide +kernel
theorem dX8_bar_78 : decode cX8_bar 78 = .ok (.iaload, 1) := by decide +kernel
theorem dX8_bar_79 : decode cX8_bar 79 = .ok (.ireturn, 1) := by decide +kernel
theorem dX8_bar_80 : decode cX8_bar 80 = .ok (.aload 4, 2) := by decide +kernel
theorem dX8_bar_82 : decode cX8_bar 82 = .ok (.iload_n 2, 1) := by decide +kernel
theorem dX8_bar_83 : decode cX8_bar 83 = .ok (.invokevirtual 173, 3) := by decide +kernel
theorem dX8_bar_86 : decode cX8_bar 86 = .ok (.ireturn, 1) := by decide +kernel
theorem dX8_bar_87 : decode cX8_bar 87 = .ok (.aload 4, 2) := by decide +kernel
theorem dX8_bar_89 : decode cX8_bar 89 = .ok (.iload_n 2, 1) := by decide +kernel
theorem dX8_bar_90 : decode cX8_bar 90 = .ok (.invokevirtual 176, 3) := by decide +kernel
theorem dX8_bar_93 : decode cX8_bar 93 = .ok (.ireturn, 1) := by decide +kernel
theorem dX8_bar_94 : decode cX8_bar 94 = .ok (.iconst (-1), 1) := by decide +kernel
theorem dX8_bar_95 : decode cX8_bar 95 = .ok (.ireturn, 1) := by decide +kernel
theorem dX8_carry_0 : decode cX8_carry 0 = .ok (.aload_n 0, 1) := by decide +kernel
theorem dX8_carry_1 : decode cX8_carry 1 = .ok (.iload_n 1, 1) := by decide +kernel
theorem dX8_carry_2 : decode cX8_carry 2 = .ok (.iload_n 2, 1) := by decide +kernel
theorem dX8_carry_3 : decode cX8_carry 3 = .ok (.invokevirtual 103, 3) := by decide +kernel
theorem dX8_carry_6 : decode cX8_carry 6 = .ok (.ifCond .eq 11, 3) := by decide +kernel
theorem dX8_carry_9 : decode cX8_carry 9 = .ok (.aload_n 0, 1) := by decide +kernel
theorem dX8_carry_10 : decode cX8_carry 10 = .ok (.iload_n 3, 1) := by decide +kernel
theorem dX8_carry_11 : decode cX8_carry 11 = .ok (.invokevirtual 87, 3) := by decide +kernel
theorem dX8_carry_14 : decode cX8_carry 14 = .ok (.ifCond .ne 5, 3) := by decide +kernel
theorem dX8_carry_17 : decode cX8_carry 17 = .ok (.iconst (-1), 1) := by decide +kernel
theorem dX8_carry_18 : decode cX8_carry 18 = .ok (.ireturn, 1) := by decide +kernel
theorem dX8_carry_19 : decode cX8_carry 19 = .ok (.aload_n 0, 1) := by decide +kernel
theorem dX8_carry_20 : decode cX8_carry 20 = .ok (.iload_n 1, 1) := by decide +kernel
theorem dX8_carry_21 : decode cX8_carry 21 = .ok (.iload_n 3, 1) := by decide +kernel
theorem dX8_carry_22 : decode cX8_carry 22 = .ok (.invokevirtual 179, 3) := by decide +kernel
theorem dX8_carry_25 : decode cX8_carry 25 = .ok (.ifCond .ne 6, 3) := by decide +kernel
theorem dX8_carry_28 : decode cX8_carry 28 = .ok (.bipush (-2), 2) := by decide +kernel
theorem dX8_carry_30 : decode cX8_carry 30 = .ok (.ireturn, 1) := by decide +kernel
theorem dX8_carry_31 : decode cX8_carry 31 = .ok (.aload_n 0, 1) := by decide +kernel
theorem dX8_carry_32 : decode cX8_carry 32 = .ok (.getfield 10, 3) := by decide +kernel
theorem dX8_carry_35 : decode cX8_carry 35 = .ok (.getfield 107, 3) := by decide +kernel
theorem dX8_carry_38 : decode cX8_carry 38 = .ok (.iload_n 3, 1) := by decide +kernel
theorem dX8_carry_39 : decode cX8_carry 39 = .ok (.aaload, 1) := by decide +kernel
theorem dX8_carry_40 : decode cX8_carry 40 = .ok (.aload_n 0, 1) := by decide +kernel
theorem dX8_carry_41 : decode cX8_carry 41 = .ok (.getfield 10, 3) := by decide +kernel
theorem dX8_carry_44 : decode cX8_carry 44 = .ok (.getfield 107, 3) := by decide +kernel
theorem dX8_carry_47 : decode cX8_carry 47 = .ok (.iload_n 1, 1) := by decide +kernel
theorem dX8_carry_48 : decode cX8_carry 48 = .ok (.aaload, 1) := by decide +kernel
theorem dX8_carry_49 : decode cX8_carry 49 = .ok (.getfield 170, 3) := by decide +kernel
theorem dX8_carry_52 : decode cX8_carry 52 = .ok (.iload_n 2, 1) := by decide +kernel
theorem dX8_carry_53 : decode cX8_carry 53 = .ok (.iaload, 1) := by decide +kernel
theorem dX8_carry_54 : decode cX8_carry 54 = .ok (.iconst 1, 1) := by decide +kernel
theorem dX8_carry_55 : decode cX8_carry 55 = .ok (.invokevirtual 182, 3) := by decide +kernel
theorem dX8_carry_58 : decode cX8_carry 58 = .ok (.istore 4, 2) := by decide +kernel
theorem dX8_carry_60 : decode cX8_carry 60 = .ok (.iload 4, 2) := by decide +kernel
theorem dX8_carry_62 : decode cX8_carry 62 = .ok (.ifCond .ne 8, 3) := by decide +kernel
theorem dX8_carry_65 : decode cX8_carry 65 = .ok (.bipush (-7), 2) := by decide +kernel
theorem dX8_carry_67 : decode cX8_carry 67 = .ok (.goto 5, 3) := by decide +kernel
theorem dX8_carry_70 : decode cX8_carry 70 = .ok (.iload 4, 2) := by decide +kernel
theorem dX8_carry_72 : decode cX8_carry 72 = .ok (.ireturn, 1) := by decide +kernel
theorem dX8_compare_0 : decode cX8_compare 0 = .ok (.aload_n 0, 1) := by decide +kernel
theorem dX8_compare_1 : decode cX8_compare 1 = .ok (.iload_n 1, 1) := by decide +kernel
theorem dX8_compare_2 : decode cX8_compare 2 = .ok (.invokevirtual 87, 3) := by decide +kernel
theorem dX8_compare_5 : decode cX8_compare 5 = .ok (.ifCond .eq 20, 3) := by decide +kernel
theorem dX8_compare_8 : decode cX8_compare 8 = .ok (.aload_n 0, 1) := by decide +kernel
theorem dX8_compare_9 : decode cX8_compare 9 = .ok (.iload_n 2, 1) := by decide +kernel
theorem dX8_compare_10 : decode cX8_compare 10 = .ok (.invokevirtual 87, 3) := by decide +kernel
theorem dX8_compare_13 : decode cX8_compare 13 = .ok (.ifCond .eq 12, 3) := by decide +kernel
theorem dX8_compare_16 : decode cX8_compare 16 = .ok (.iload_n 3, 1) := by decide +kernel
theorem dX8_compare_17 : decode cX8_compare 17 = .ok (.iconst 0, 1) := by decide +kernel
theorem dX8_compare_18 : decode cX8_compare 18 = .ok (.iconst 4, 1) := by decide +kernel
theorem dX8_compare_19 : decode cX8_compare 19 = .ok (.invokestatic 68, 3) := by decide +kernel
theorem dX8_compare_22 : decode cX8_compare 22 = .ok (.ifCond .ne 5, 3) := by decide +kernel
theorem dX8_compare_25 : decode cX8_compare 25 = .ok (.iconst (-1), 1) := by decide +kernel
theorem dX8_compare_26 : decode cX8_compare 26 = .ok (.ireturn, 1) := by decide +kernel
theorem dX8_compare_27 : decode cX8_compare 27 = .ok (.aload_n 0, 1) := by decide +kernel
theorem dX8_compare_28 : decode cX8_compare 28 = .ok (.iload_n 1, 1) := by decide +kernel
theorem dX8_compare_29 : decode cX8_compare 29 = .ok (.iload_n 2, 1) := by decide +kernel
theorem dX8_compare_30 : decode cX8_compare 30 = .ok (.invokevirtual 179, 3) := by decide +kernel
theorem dX8_compare_33 : decode cX8_compare 33 = .ok (.ifCond .ne 6, 3) := by decide +kernel
theorem dX8_compare_36 : decode cX8_compare 36 = .ok (.bipush (-2), 2) := by decide +kernel
theorem dX8_compare_38 : decode cX8_compare 38 = .ok (.ireturn, 1) := by decide +kernel
theorem dX8_compare_39 : decode cX8_compare 39 = .ok (.aload_n 0, 1) := by decide +kernel
theorem dX8_compare_40 : decode cX8_compare 40 = .ok (.getfield 29, 3) := by decide +kernel
theorem dX8_compare_43 : decode cX8_compare 43 = .ok (.aload_n 0, 1) := by decide +kernel
theorem dX8_compare_44 : decode cX8_compare 44 = .ok (.getfield 10, 3) := by decide +kernel
theorem dX8_compare_47 : decode cX8_compare 47 = .ok (.getfield 107, 3) := by decide +kernel
theorem dX8_compare_50 : decode cX8_compare 50 = .ok (.iload_n 1, 1) := by decide +kernel
theorem dX8_compare_51 : decode cX8_compare 51 = .ok (.aaload, 1) := by decide +kernel
theorem dX8_compare_52 : decode cX8_compare 52 = .ok (.aload_n 0, 1) := by decide +kernel
theorem dX8_compare_53 : decode cX8_compare 53 = .ok (.getfield 10, 3) := by decide +kernel
theorem dX8_compare_56 : decode cX8_compare 56 = .ok (.getfield 107, 3) := by decide +kernel
theorem dX8_compare_59 : decode cX8_compare 59 = .ok (.iload_n 2, 1) := by decide +kernel
theorem dX8_compare_60 : decode cX8_compare 60 = .ok (.aaload, 1) := by decide +kernel
theorem dX8_compare_61 : decode cX8_compare 61 = .ok (.invokevirtual 186, 3) := by decide +kernel
theorem dX8_compare_64 : decode cX8_compare 64 = .ok (.iload_n 3, 1) := by decide +kernel
theorem dX8_compare_65 : decode cX8_compare 65 = .ok (.tableswitch 89 0 3 #[31, 39, 47, 68], 31) := by decide +kernel
theorem dX8_compare_96 : decode cX8_compare 96 = .ok (.aload_n 0, 1) := by decide +kernel
theorem dX8_compare_97 : decode cX8_compare 97 = .ok (.getfield 29, 3) := by decide +kernel
theorem dX8_compare_100 : decode cX8_compare 100 = .ok (.getfield 190, 3) := by decide +kernel
theorem dX8_compare_103 : decode cX8_compare 103 = .ok (.ireturn, 1) := by decide +kernel
theorem dX8_compare_104 : decode cX8_compare 104 = .ok (.aload_n 0, 1) := by decide +kernel
theorem dX8_compare_105 : decode cX8_compare 105 = .ok (.getfield 29, 3) := by decide +kernel
theorem dX8_compare_108 : decode cX8_compare 108 = .ok (.getfield 193, 3) := by decide +kernel
theorem dX8_compare_111 : decode cX8_compare 111 = .ok (.ireturn, 1) := by decide +kernel
theorem dX8_compare_112 : decode cX8_compare 112 = .ok (.aload_n 0, 1) := by decide +kernel
theorem dX8_compare_113 : decode cX8_compare 113 = .ok (.getfield 10, 3) := by decide +kernel
theorem dX8_compare_116 : decode cX8_compare 116 = .ok (.getfield 107, 3) := by decide +kernel
theorem dX8_compare_119 : decode cX8_compare 119 = .ok (.iload_n 1, 1) := by decide +kernel
theorem dX8_compare_120 : decode cX8_compare 120 = .ok (.aaload, 1) := by decide +kernel
theorem dX8_compare_121 : decode cX8_compare 121 = .ok (.getfield 111, 3) := by decide +kernel
theorem dX8_compare_124 : decode cX8_compare 124 = .ok (.aload_n 0, 1) := by decide +kernel
theorem dX8_compare_125 : decode cX8_compare 125 = .ok (.getfield 29, 3) := by decide +kernel
theorem dX8_compare_128 : decode cX8_compare 128 = .ok (.getfield 190, 3) := by decide +kernel
theorem dX8_compare_131 : decode cX8_compare 131 = .ok (.isub, 1) := by decide +kernel
theorem dX8_compare_132 : decode cX8_compare 132 = .ok (.ireturn, 1) := by decide +kernel
theorem dX8_compare_133 : decode cX8_compare 133 = .ok (.aload_n 0, 1) := by decide +kernel
theorem dX8_compare_134 : decode cX8_compare 134 = .ok (.getfield 10, 3) := by decide +kernel
theorem dX8_compare_137 : decode cX8_compare 137 = .ok (.getfield 107, 3) := by decide +kernel
theorem dX8_compare_140 : decode cX8_compare 140 = .ok (.iload_n 2, 1) := by decide +kernel
theorem dX8_compare_141 : decode cX8_compare 141 = .ok (.aaload, 1) := by decide +kernel
theorem dX8_compare_142 : decode cX8_compare 142 = .ok (.getfield 111, 3) := by decide +kernel
theorem dX8_compare_145 : decode cX8_compare 145 = .ok (.aload_n 0, 1) := by decide +kernel
theorem dX8_compare_146 : decode cX8_compare 146 = .ok (.getfield 29, 3) := by decide +kernel
theorem dX8_compare_149 : decode cX8_compare 149 = .ok (.getfield 190, 3) := by decide +kernel
theorem dX8_compare_152 : decode cX8_compare 152 = .ok (.isub, 1) := by decide +kernel
theorem dX8_compare_153 : decode cX8_compare 153 = .ok (.ireturn, 1) := by decide +kernel
theorem dX8_compare_154 : decode cX8_compare 154 = .ok (.aload_n 0, 1) := by decide +kernel
theorem dX8_compare_155 : decode cX8_compare 155 = .ok (.getfield 29, 3) := by decide +kernel
theorem dX8_compare_158 : decode cX8_compare 158 = .ok (.getfield 196, 3) := by decide +kernel
theorem dX8_compare_161 : decode cX8_compare 161 = .ok (.ireturn, 1) := by decide +kernel
theorem dX8_difference_0 : decode cX8_difference 0 = .ok (.aload_n 0, 1) := by decide +kernel
theorem dX8_difference_1 : decode cX8_difference 1 = .ok (.iload_n 1, 1) := by decide +kernel
theorem dX8_difference_2 : decode cX8_difference 2 = .ok (.invokevirtual 87, 3) := by decide +kernel
theorem dX8_difference_5 : decode cX8_difference 5 = .ok (.ifCond .eq 25, 3) := by decide +kernel
theorem dX8_difference_8 : decode cX8_difference 8 = .ok (.aload_n 0, 1) := by decide +kernel
theorem dX8_difference_9 : decode cX8_difference 9 = .ok (.iload_n 2, 1) := by decide +kernel
theorem dX8_difference_10 : decode cX8_difference 10 = .ok (.invokevirtual 87, 3) := by decide +kernel
theorem dX8_difference_13 : decode cX8_difference 13 = .ok (.ifCond .eq 17, 3) := by decide +kernel
theorem dX8_difference_16 : decode cX8_difference 16 = .ok (.iload_n 3, 1) := by decide +kernel
theorem dX8_difference_17 : decode cX8_difference 17 = .ok (.ifCond .lt 13, 3) := by decide +kernel
theorem dX8_difference_20 : decode cX8_difference 20 = .ok (.iload 4, 2) := by decide +kernel
theorem dX8_difference_22 : decode cX8_difference 22 = .ok (.iconst 0, 1) := by decide +kernel
theorem dX8_difference_23 : decode cX8_difference 23 = .ok (.iconst 3, 1) := by decide +kernel
theorem dX8_difference_24 : decode cX8_difference 24 = .ok (.invokestatic 68, 3) := by decide +kernel
theorem dX8_difference_27 : decode cX8_difference 27 = .ok (.ifCond .ne 5, 3) := by decide +kernel
theorem dX8_difference_30 : decode cX8_difference 30 = .ok (.iconst (-1), 1) := by decide +kernel
theorem dX8_difference_31 : decode cX8_difference 31 = .ok (.ireturn, 1) := by decide +kernel
theorem dX8_difference_32 : decode cX8_difference 32 = .ok (.aload_n 0, 1) := by decide +kernel
theorem dX8_difference_33 : decode cX8_difference 33 = .ok (.iload_n 1, 1) := by decide +kernel
theorem dX8_difference_34 : decode cX8_difference 34 = .ok (.iload_n 2, 1) := by decide +kernel
theorem dX8_difference_35 : decode cX8_difference 35 = .ok (.invokevirtual 179, 3) := by decide +kernel
theorem dX8_difference_38 : decode cX8_difference 38 = .ok (.ifCond .ne 6, 3) := by decide +kernel
theorem dX8_difference_41 : decode cX8_difference 41 = .ok (.bipush (-2), 2) := by decide +kernel
theorem dX8_difference_43 : decode cX8_difference 43 = .ok (.ireturn, 1) := by decide +kernel
theorem dX8_difference_44 : decode cX8_difference 44 = .ok (.aload_n 0, 1) := by decide +kernel
theorem dX8_difference_45 : decode cX8_difference 45 = .ok (.getfield 29, 3) := by decide +kernel
theorem dX8_difference_48 : decode cX8_difference 48 = .ok (.aload_n 0, 1) := by decide +kernel
theorem dX8_difference_49 : decode cX8_difference 49 = .ok (.getfield 10, 3) := by decide +kernel
theorem dX8_difference_52 : decode cX8_difference 52 = .ok (.getfield 107, 3) := by decide +kernel
theorem dX8_difference_55 : decode cX8_difference 55 = .ok (.iload_n 1, 1) := by decide +kernel
theorem dX8_difference_56 : decode cX8_difference 56 = .ok (.aaload, 1) := by decide +kernel
theorem dX8_difference_57 : decode cX8_difference 57 = .ok (.aload_n 0, 1) := by decide +kernel
theorem dX8_difference_58 : decode cX8_difference 58 = .ok (.getfield 10, 3) := by decide +kernel
theorem dX8_difference_61 : decode cX8_difference 61 = .ok (.getfield 107, 3) := by decide +kernel
theorem dX8_difference_64 : decode cX8_difference 64 = .ok (.iload_n 2, 1) := by decide +kernel
theorem dX8_difference_65 : decode cX8_difference 65 = .ok (.aaload, 1) := by decide +kernel
theorem dX8_difference_66 : decode cX8_difference 66 = .ok (.invokevirtual 186, 3) := by decide +kernel
theorem dX8_difference_69 : decode cX8_difference 69 = .ok (.iload_n 3, 1) := by decide +kernel
theorem dX8_difference_70 : decode cX8_difference 70 = .ok (.aload_n 0, 1) := by decide +kernel
theorem dX8_difference_71 : decode cX8_difference 71 = .ok (.getfield 29, 3) := by decide +kernel
theorem dX8_difference_74 : decode cX8_difference 74 = .ok (.getfield 196, 3) := by decide +kernel
theorem dX8_difference_77 : decode cX8_difference 77 = .ok (.if_icmp .lt 6, 3) := by decide +kernel
theorem dX8_difference_80 : decode cX8_difference 80 = .ok (.bipush (-7), 2) := by decide +kernel
theorem dX8_difference_82 : decode cX8_difference 82 = .ok (.ireturn, 1) := by decide +kernel
theorem dX8_difference_83 : decode cX8_difference 83 = .ok (.iload 4, 2) := by decide +kernel
theorem dX8_difference_85 : decode cX8_difference 85 = .ok (.tableswitch 57 0 2 #[27, 37, 47], 27) := by decide +kernel
theorem dX8_difference_112 : decode cX8_difference 112 = .ok (.aload_n 0, 1) := by decide +kernel
theorem dX8_difference_113 : decode cX8_difference 113 = .ok (.getfield 29, 3) := by decide +kernel
theorem dX8_difference_116 : decode cX8_difference 116 = .ok (.getfield 199, 3) := by decide +kernel
theorem dX8_difference_119 : decode cX8_difference 119 = .ok (.iload_n 3, 1) := by decide +kernel
theorem dX8_difference_120 : decode cX8_difference 120 = .ok (.iaload, 1) := by decide +kernel
theorem dX8_difference_121 : decode cX8_difference 121 = .ok (.ireturn, 1) := by decide +kernel
theorem dX8_difference_122 : decode cX8_difference 122 = .ok (.aload_n 0, 1) := by decide +kernel
theorem dX8_difference_123 : decode cX8_difference 123 = .ok (.getfield 29, 3) := by decide +kernel
theorem dX8_difference_126 : decode cX8_difference 126 = .ok (.getfield 202, 3) := by decide +kernel
theorem dX8_difference_129 : decode cX8_difference 129 = .ok (.iload_n 3, 1) := by decide +kernel
theorem dX8_difference_130 : decode cX8_difference 130 = .ok (.iaload, 1) := by decide +kernel
theorem dX8_difference_131 : decode cX8_difference 131 = .ok (.ireturn, 1) := by decide +kernel
theorem dX8_difference_132 : decode cX8_difference 132 = .ok (.aload_n 0, 1) := by decide +kernel
theorem dX8_difference_133 : decode cX8_difference 133 = .ok (.getfield 29, 3) := by decide +kernel
theorem dX8_difference_136 : decode cX8_difference 136 = .ok (.getfield 205, 3) := by decide +kernel
theorem dX8_difference_139 : decode cX8_difference 139 = .ok (.iload_n 3, 1) := by decide +kernel
theorem dX8_difference_140 : decode cX8_difference 140 = .ok (.iaload, 1) := by decide +kernel
theorem dX8_difference_141 : decode cX8_difference 141 = .ok (.ireturn, 1) := by decide +kernel
theorem dX8_difference_142 : decode cX8_difference 142 = .ok (.aload_n 0, 1) := by decide +kernel
theorem dX8_difference_143 : decode cX8_difference 143 = .ok (.getfield 29, 3) := by decide +kernel
theorem dX8_difference_146 : decode cX8_difference 146 = .ok (.getfield 208, 3) := by decide +kernel
theorem dX8_difference_149 : decode cX8_difference 149 = .ok (.iload_n 3, 1) := by decide +kernel
theorem dX8_difference_150 : decode cX8_difference 150 = .ok (.iaload, 1) := by decide +kernel
theorem dX8_difference_151 : decode cX8_difference 151 = .ok (.ireturn, 1) := by decide +kernel
theorem dX8_tempo_0 : decode cX8_tempo 0 = .ok (.aload_n 0, 1) := by decide +kernel
theorem dX8_tempo_1 : decode cX8_tempo 1 = .ok (.getfield 22, 3) := by decide +kernel
theorem dX8_tempo_4 : decode cX8_tempo 4 = .ok (.aload_n 0, 1) := by decide +kernel
theorem dX8_tempo_5 : decode cX8_tempo 5 = .ok (.getfield 10, 3) := by decide +kernel
theorem dX8_tempo_8 : decode cX8_tempo 8 = .ok (.invokevirtual 94, 3) := by decide +kernel
theorem dX8_tempo_11 : decode cX8_tempo 11 = .ok (.aload_n 0, 1) := by decide +kernel
theorem dX8_tempo_12 : decode cX8_tempo 12 = .ok (.aload_n 0, 1) := by decide +kernel
theorem dX8_tempo_13 : decode cX8_tempo 13 = .ok (.iload_n 1, 1) := by decide +kernel
theorem dX8_tempo_14 : decode cX8_tempo 14 = .ok (.iload_n 2, 1) := by decide +kernel
theorem dX8_tempo_15 : decode cX8_tempo 15 = .ok (.iload_n 3, 1) := by decide +kernel
theorem dX8_tempo_16 : decode cX8_tempo 16 = .ok (.invokevirtual 211, 3) := by decide +kernel
theorem dX8_tempo_19 : decode cX8_tempo 19 = .ok (.invokevirtual 100, 3) := by decide +kernel
theorem dX8_tempo_22 : decode cX8_tempo 22 = .ok (.ireturn, 1) := by decide +kernel
theorem dX8_setTempo_0 : decode cX8_setTempo 0 = .ok (.aload_n 0, 1) := by decide +kernel
theorem dX8_setTempo_1 : decode cX8_setTempo 1 = .ok (.iload_n 1, 1) := by decide +kernel
theorem dX8_setTempo_2 : decode cX8_setTempo 2 = .ok (.iload_n 2, 1) := by decide +kernel
theorem dX8_setTempo_3 : decode cX8_setTempo 3 = .ok (.invokevirtual 103, 3) := by decide +kernel
theorem dX8_setTempo_6 : decode cX8_setTempo 6 = .ok (.ifCond .ne 5, 3) := by decide +kernel
theorem dX8_setTempo_9 : decode cX8_setTempo 9 = .ok (.iconst (-1), 1) := by decide +kernel
theorem dX8_setTempo_10 : decode cX8_setTempo 10 = .ok (.ireturn, 1) := by decide +kernel
theorem dX8_setTempo_11 : decode cX8_setTempo 11 = .ok (.iload_n 3, 1) := by decide +kernel
theorem dX8_setTempo_12 : decode cX8_setTempo 12 = .ok (.ifCond .eq 19, 3) := by decide +kernel
theorem dX8_setTempo_15 : decode cX8_setTempo 15 = .ok (.iload_n 3, 1) := by decide +kernel
theorem dX8_setTempo_16 : decode cX8_setTempo 16 = .ok (.sipush 200, 3) := by decide +kernel
theorem dX8_setTempo_19 : decode cX8_setTempo 19 = .ok (.sipush 2500, 3) := by decide +kernel
theorem dX8_setTempo_22 : decode cX8_setTempo 22 = .ok (.invokestatic 68, 3) := by decide +kernel
theorem dX8_setTempo_25 : decode cX8_setTempo 25 = .ok (.ifCond .ne 6, 3) := by decide +kernel
theorem dX8_setTempo_28 : decode cX8_setTempo 28 = .ok (.bipush (-2), 2) := by decide +kernel
theorem dX8_setTempo_30 : decode cX8_setTempo 30 = .ok (.ireturn, 1) := by decide +kernel
theorem dX8_setTempo_31 : decode cX8_setTempo 31 = .ok (.aload_n 0, 1) := by decide +kernel
theorem dX8_setTempo_32 : decode cX8_setTempo 32 = .ok (.getfield 10, 3) := by decide +kernel
theorem dX8_setTempo_35 : decode cX8_setTempo 35 = .ok (.getfield 107, 3) := by decide +kernel
theorem dX8_setTempo_38 : decode cX8_setTempo 38 = .ok (.iload_n 1, 1) := by decide +kernel
theorem dX8_setTempo_39 : decode cX8_setTempo 39 = .ok (.aaload, 1) := by decide +kernel
theorem dX8_setTempo_40 : decode cX8_setTempo 40 = .ok (.iload_n 2, 1) := by decide +kernel
theorem dX8_setTempo_41 : decode cX8_setTempo 41 = .ok (.invokevirtual 173, 3) := by decide +kernel
theorem dX8_setTempo_44 : decode cX8_setTempo 44 = .ok (.istore 4, 2) := by decide +kernel
theorem dX8_setTempo_46 : decode cX8_setTempo 46 = .ok (.aload_n 0, 1) := by decide +kernel
theorem dX8_setTempo_47 : decode cX8_setTempo 47 = .ok (.getfield 10, 3) := by decide +kernel
theorem dX8_setTempo_50 : decode cX8_setTempo 50 = .ok (.getfield 107, 3) := by decide +kernel
theorem dX8_setTempo_53 : decode cX8_setTempo 53 = .ok (.iload_n 1, 1) := by decide +kernel
theorem dX8_setTempo_54 : decode cX8_setTempo 54 = .ok (.aaload, 1) := by decide +kernel
theorem dX8_setTempo_55 : decode cX8_setTempo 55 = .ok (.getfield 214, 3) := by decide +kernel
theorem dX8_setTempo_58 : decode cX8_setTempo 58 = .ok (.iload_n 2, 1) := by decide +kernel
theorem dX8_setTempo_59 : decode cX8_setTempo 59 = .ok (.iload_n 3, 1) := by decide +kernel
theorem dX8_setTempo_60 : decode cX8_setTempo 60 = .ok (.iastore, 1) := by decide +kernel
theorem dX8_setTempo_61 : decode cX8_setTempo 61 = .ok (.iload 4, 2) := by decide +kernel
theorem dX8_setTempo_63 : decode cX8_setTempo 63 = .ok (.ireturn, 1) := by decide +kernel
theorem dX8_seconds_0 : decode cX8_seconds 0 = .ok (.aload_n 0, 1) := by decide +kernel
theorem dX8_seconds_1 : decode cX8_seconds 1 = .ok (.iload_n 1, 1) := by decide +kernel
theorem dX8_seconds_2 : decode cX8_seconds 2 = .ok (.iload_n 2, 1) := by decide +kernel
theorem dX8_seconds_3 : decode cX8_seconds 3 = .ok (.invokevirtual 103, 3) := by decide +kernel
theorem dX8_seconds_6 : decode cX8_seconds 6 = .ok (.ifCond .eq 12, 3) := by decide +kernel
theorem dX8_seconds_9 : decode cX8_seconds 9 = .ok (.aload_n 0, 1) := by decide +kernel
theorem dX8_seconds_10 : decode cX8_seconds 10 = .ok (.iload_n 1, 1) := by decide +kernel
theorem dX8_seconds_11 : decode cX8_seconds 11 = .ok (.iload_n 3, 1) := by decide +kernel
theorem dX8_seconds_12 : decode cX8_seconds 12 = .ok (.invokevirtual 103, 3) := by decide +kernel
theorem dX8_seconds_15 : decode cX8_seconds 15 = .ok (.ifCond .ne 5, 3) := by decide +kernel
theorem dX8_seconds_18 : decode cX8_seconds 18 = .ok (.iconst (-1), 1) := by decide +kernel
theorem dX8_seconds_19 : decode cX8_seconds 19 = .ok (.ireturn, 1) := by decide +kernel
theorem dX8_seconds_20 : decode cX8_seconds 20 = .ok (.iload_n 3, 1) := by decide +kernel
theorem dX8_seconds_21 : decode cX8_seconds 21 = .ok (.iload_n 2, 1) := by decide +kernel
theorem dX8_seconds_22 : decode cX8_seconds 22 = .ok (.if_icmp .ge 6, 3) := by decide +kernel
theorem dX8_seconds_25 : decode cX8_seconds 25 = .ok (.bipush (-2), 2) := by decide +kernel
theorem dX8_seconds_27 : decode cX8_seconds 27 = .ok (.ireturn, 1) := by decide +kernel
theorem dX8_seconds_28 : decode cX8_seconds 28 = .ok (.aload_n 0, 1) := by decide +kernel
theorem dX8_seconds_29 : decode cX8_seconds 29 = .ok (.getfield 10, 3) := by decide +kernel
theorem dX8_seconds_32 : decode cX8_seconds 32 = .ok (.getfield 107, 3) := by decide +kernel
theorem dX8_seconds_35 : decode cX8_seconds 35 = .ok (.iload_n 1, 1) := by decide +kernel
theorem dX8_seconds_36 : decode cX8_seconds 36 = .ok (.aaload, 1) := by decide +kernel
theorem dX8_seconds_37 : decode cX8_seconds 37 = .ok (.iload_n 2, 1) := by decide +kernel
theorem dX8_seconds_38 : decode cX8_seconds 38 = .ok (.iload_n 3, 1) := by decide +kernel
theorem dX8_seconds_39 : decode cX8_seconds 39 = .ok (.invokevirtual 217, 3) := by decide +kernel
theorem dX8_seconds_42 : decode cX8_seconds 42 = .ok (.invokestatic 221, 3) := by decide +kernel
theorem dX8_seconds_45 : decode cX8_seconds 45 = .ok (.ireturn, 1) := by decide +kernel
theorem dX8_length_0 : decode cX8_length 0 = .ok (.aload_n 0, 1) := by decide +kernel
theorem dX8_length_1 : decode cX8_length 1 = .ok (.iload_n 1, 1) := by decide +kernel
theorem dX8_length_2 : decode cX8_length 2 = .ok (.invokevirtual 87, 3) := by decide +kernel
theorem dX8_length_5 : decode cX8_length 5 = .ok (.ifCond .ne 5, 3) := by decide +kernel
theorem dX8_length_8 : decode cX8_length 8 = .ok (.iconst (-1), 1) := by decide +kernel
theorem dX8_length_9 : decode cX8_length 9 = .ok (.ireturn, 1) := by decide +kernel
theorem dX8_length_10 : decode cX8_length 10 = .ok (.aload_n 0, 1) := by decide +kernel
theorem dX8_length_11 : decode cX8_length 11 = .ok (.getfield 10, 3) := by decide +kernel
theorem dX8_length_14 : decode cX8_length 14 = .ok (.getfield 107, 3) := by decide +kernel
theorem dX8_length_17 : decode cX8_length 17 = .ok (.iload_n 1, 1) := by decide +kernel
theorem dX8_length_18 : decode cX8_length 18 = .ok (.aaload, 1) := by decide +kernel
theorem dX8_length_19 : decode cX8_length 19 = .ok (.invokevirtual 225, 3) := by decide +kernel
theorem dX8_length_22 : decode cX8_length 22 = .ok (.f2i, 1) := by decide +kernel
theorem dX8_length_23 : decode cX8_length 23 = .ok (.ireturn, 1) := by decide +kernel
theorem dX8_barAt_0 : decode cX8_barAt 0 = .ok (.aload_n 0, 1) := by decide +kernel
theorem dX8_barAt_1 : decode cX8_barAt 1 = .ok (.iload_n 1, 1) := by decide +kernel
theorem dX8_barAt_2 : decode cX8_barAt 2 = .ok (.invokevirtual 87, 3) := by decide +kernel
theorem dX8_barAt_5 : decode cX8_barAt 5 = .ok (.ifCond .ne 5, 3) := by decide +kernel
theorem dX8_barAt_8 : decode cX8_barAt 8 = .ok (.iconst (-1), 1) := by decide +kernel
theorem dX8_barAt_9 : decode cX8_barAt 9 = .ok (.ireturn, 1) := by decide +kernel
theorem dX8_barAt_10 : decode cX8_barAt 10 = .ok (.iload_n 2, 1) := by decide +kernel
theorem dX8_barAt_11 : decode cX8_barAt 11 = .ok (.ifCond .ge 6, 3) := by decide +kernel
theorem dX8_barAt_14 : decode cX8_barAt 14 = .ok (.bipush (-2), 2) := by decide +kernel
theorem dX8_barAt_16 : decode cX8_barAt 16 = .ok (.ireturn, 1) := by decide +kernel
theorem dX8_barAt_17 : decode cX8_barAt 17 = .ok (.aload_n 0, 1) := by decide +kernel
theorem dX8_barAt_18 : decode cX8_barAt 18 = .ok (.getfield 10, 3) := by decide +kernel
theorem dX8_barAt_21 : decode cX8_barAt 21 = .ok (.getfield 107, 3) := by decide +kernel
theorem dX8_barAt_24 : decode cX8_barAt 24 = .ok (.iload_n 1, 1) := by decide +kernel
theorem dX8_barAt_25 : decode cX8_barAt 25 = .ok (.aaload, 1) := by decide +kernel
theorem dX8_barAt_26 : decode cX8_barAt 26 = .ok (.iload_n 2, 1) := by decide +kernel
theorem dX8_barAt_27 : decode cX8_barAt 27 = .ok (.i2f, 1) := by decide +kernel
theorem dX8_barAt_28 : decode cX8_barAt 28 = .ok (.invokevirtual 229, 3) := by decide +kernel
theorem dX8_barAt_31 : decode cX8_barAt 31 = .ok (.istore_n 3, 1) := by decide +kernel
theorem dX8_barAt_32 : decode cX8_barAt 32 = .ok (.iload_n 3, 1) := by decide +kernel
theorem dX8_barAt_33 : decode cX8_barAt 33 = .ok (.ifCond .ne 8, 3) := by decide +kernel
theorem dX8_barAt_36 : decode cX8_barAt 36 = .ok (.bipush (-7), 2) := by decide +kernel
theorem dX8_barAt_38 : decode cX8_barAt 38 = .ok (.goto 4, 3) := by decide +kernel
theorem dX8_barAt_41 : decode cX8_barAt 41 = .ok (.iload_n 3, 1) := by decide +kernel
theorem dX8_barAt_42 : decode cX8_barAt 42 = .ok (.ireturn, 1) := by decide +kernel
theorem dX8_pace_0 : decode cX8_pace 0 = .ok (.aload_n 0, 1) := by decide +kernel
theorem dX8_pace_1 : decode cX8_pace 1 = .ok (.iload_n 1, 1) := by decide +kernel
theorem dX8_pace_2 : decode cX8_pace 2 = .ok (.invokevirtual 87, 3) := by decide +kernel
theorem dX8_pace_5 : decode cX8_pace 5 = .ok (.ifCond .ne 5, 3) := by decide +kernel
theorem dX8_pace_8 : decode cX8_pace 8 = .ok (.iconst (-1), 1) := by decide +kernel
theorem dX8_pace_9 : decode cX8_pace 9 = .ok (.ireturn, 1) := by decide +kernel
theorem dX8_pace_10 : decode cX8_pace 10 = .ok (.aload_n 0, 1) := by decide +kernel
theorem dX8_pace_11 : decode cX8_pace 11 = .ok (.getfield 10, 3) := by decide +kernel
theorem dX8_pace_14 : decode cX8_pace 14 = .ok (.getfield 107, 3) := by decide +kernel
theorem dX8_pace_17 : decode cX8_pace 17 = .ok (.iload_n 1, 1) := by decide +kernel
theorem dX8_pace_18 : decode cX8_pace 18 = .ok (.aaload, 1) := by decide +kernel
theorem dX8_pace_19 : decode cX8_pace 19 = .ok (.astore_n 2, 1) := by decide +kernel
theorem dX8_pace_20 : decode cX8_pace 20 = .ok (.aload_n 2, 1) := by decide +kernel
theorem dX8_pace_21 : decode cX8_pace 21 = .ok (.invokevirtual 232, 3) := by decide +kernel
theorem dX8_pace_24 : decode cX8_pace 24 = .ok (.i2f, 1) := by decide +kernel
theorem dX8_pace_25 : decode cX8_pace 25 = .ok (.ldc 235, 2) := by decide +kernel
theorem dX8_pace_27 : decode cX8_pace 27 = .ok (.fmul, 1) := by decide +kernel
theorem dX8_pace_28 : decode cX8_pace 28 = .ok (.aload_n 2, 1) := by decide +kernel
theorem dX8_pace_29 : decode cX8_pace 29 = .ok (.invokevirtual 225, 3) := by decide +kernel
theorem dX8_pace_32 : decode cX8_pace 32 = .ok (.fdiv, 1) := by decide +kernel
theorem dX8_pace_33 : decode cX8_pace 33 = .ok (.invokestatic 221, 3) := by decide +kernel
theorem dX8_pace_36 : decode cX8_pace 36 = .ok (.ireturn, 1) := by decide +kernel
theorem dX8_bitsOf_0 : decode cX8_bitsOf 0 = .ok (.fload_n 0, 1) := by decide +kernel
theorem dX8_bitsOf_1 : decode cX8_bitsOf 1 = .ok (.fstore_n 1, 1) := by decide +kernel
theorem dX8_bitsOf_2 : decode cX8_bitsOf 2 = .ok (.bipush 127, 2) := by decide +kernel
theorem dX8_bitsOf_4 : decode cX8_bitsOf 4 = .ok (.istore_n 2, 1) := by decide +kernel
theorem dX8_bitsOf_5 : decode cX8_bitsOf 5 = .ok (.iconst 0, 1) := by decide +kernel
theorem dX8_bitsOf_6 : decode cX8_bitsOf 6 = .ok (.istore_n 3, 1) := by decide +kernel
theorem dX8_bitsOf_7 : decode cX8_bitsOf 7 = .ok (.iload_n 3, 1) := by decide +kernel
theorem dX8_bitsOf_8 : decode cX8_bitsOf 8 = .ok (.bipush 127, 2) := by decide +kernel
theorem dX8_bitsOf_10 : decode cX8_bitsOf 10 = .ok (.if_icmp .ge 22, 3) := by decide +kernel
theorem dX8_bitsOf_13 : decode cX8_bitsOf 13 = .ok (.fload_n 1, 1) := by decide +kernel
theorem dX8_bitsOf_14 : decode cX8_bitsOf 14 = .ok (.fconst 2, 1) := by decide +kernel
theorem dX8_bitsOf_15 : decode cX8_bitsOf 15 = .ok (.fcmp .l, 1) := by decide +kernel
theorem dX8_bitsOf_16 : decode cX8_bitsOf 16 = .ok (.ifCond .lt 16, 3) := by decide +kernel
theorem dX8_bitsOf_19 : decode cX8_bitsOf 19 = .ok (.fload_n 1, 1) := by decide +kernel
theorem dX8_bitsOf_20 : decode cX8_bitsOf 20 = .ok (.fconst 2, 1) := by decide +kernel
theorem dX8_bitsOf_21 : decode cX8_bitsOf 21 = .ok (.fdiv, 1) := by decide +kernel
theorem dX8_bitsOf_22 : decode cX8_bitsOf 22 = .ok (.fstore_n 1, 1) := by decide +kernel
theorem dX8_bitsOf_23 : decode cX8_bitsOf 23 = .ok (.iinc 2 1, 3) := by decide +kernel
theorem dX8_bitsOf_26 : decode cX8_bitsOf 26 = .ok (.iinc 3 1, 3) := by decide +kernel
theorem dX8_bitsOf_29 : decode cX8_bitsOf 29 = .ok (.goto (-22), 3) := by decide +kernel
theorem dX8_bitsOf_32 : decode cX8_bitsOf 32 = .ok (.iconst 0, 1) := by decide +kernel
theorem dX8_bitsOf_33 : decode cX8_bitsOf 33 = .ok (.istore_n 3, 1) := by decide +kernel
theorem dX8_bitsOf_34 : decode cX8_bitsOf 34 = .ok (.iload_n 3, 1) := by decide +kernel
theorem dX8_bitsOf_35 : decode cX8_bitsOf 35 = .ok (.bipush 126, 2) := by decide +kernel
theorem dX8_bitsOf_37 : decode cX8_bitsOf 37 = .ok (.if_icmp .ge 22, 3) := by decide +kernel
theorem dX8_bitsOf_40 : decode cX8_bitsOf 40 = .ok (.fload_n 1, 1) := by decide +kernel
theorem dX8_bitsOf_41 : decode cX8_bitsOf 41 = .ok (.fconst 1, 1) := by decide +kernel
theorem dX8_bitsOf_42 : decode cX8_bitsOf 42 = .ok (.fcmp .g, 1) := by decide +kernel
theorem dX8_bitsOf_43 : decode cX8_bitsOf 43 = .ok (.ifCond .ge 16, 3) := by decide +kernel
theorem dX8_bitsOf_46 : decode cX8_bitsOf 46 = .ok (.fload_n 1, 1) := by decide +kernel
theorem dX8_bitsOf_47 : decode cX8_bitsOf 47 = .ok (.fconst 2, 1) := by decide +kernel
theorem dX8_bitsOf_48 : decode cX8_bitsOf 48 = .ok (.fmul, 1) := by decide +kernel
theorem dX8_bitsOf_49 : decode cX8_bitsOf 49 = .ok (.fstore_n 1, 1) := by decide +kernel
theorem dX8_bitsOf_50 : decode cX8_bitsOf 50 = .ok (.iinc 2 (-1), 3) := by decide +kernel
theorem dX8_bitsOf_53 : decode cX8_bitsOf 53 = .ok (.iinc 3 1, 3) := by decide +kernel
theorem dX8_bitsOf_56 : decode cX8_bitsOf 56 = .ok (.goto (-22), 3) := by decide +kernel
theorem dX8_bitsOf_59 : decode cX8_bitsOf 59 = .ok (.fload_n 1, 1) := by decide +kernel
theorem dX8_bitsOf_60 : decode cX8_bitsOf 60 = .ok (.ldc 236, 2) := by decide +kernel
theorem dX8_bitsOf_62 : decode cX8_bitsOf 62 = .ok (.fmul, 1) := by decide +kernel
theorem dX8_bitsOf_63 : decode cX8_bitsOf 63 = .ok (.f2i, 1) := by decide +kernel
theorem dX8_bitsOf_64 : decode cX8_bitsOf 64 = .ok (.istore_n 3, 1) := by decide +kernel
theorem dX8_bitsOf_65 : decode cX8_bitsOf 65 = .ok (.iload_n 2, 1) := by decide +kernel
theorem dX8_bitsOf_66 : decode cX8_bitsOf 66 = .ok (.bipush 23, 2) := by decide +kernel
theorem dX8_bitsOf_68 : decode cX8_bitsOf 68 = .ok (.ishl, 1) := by decide +kernel
theorem dX8_bitsOf_69 : decode cX8_bitsOf 69 = .ok (.iload_n 3, 1) := by decide +kernel
theorem dX8_bitsOf_70 : decode cX8_bitsOf 70 = .ok (.ldc 237, 2) := by decide +kernel
theorem dX8_bitsOf_72 : decode cX8_bitsOf 72 = .ok (.iand, 1) := by decide +kernel
theorem dX8_bitsOf_73 : decode cX8_bitsOf 73 = .ok (.ior, 1) := by decide +kernel
theorem dX8_bitsOf_74 : decode cX8_bitsOf 74 = .ok (.ireturn, 1) := by decide +kernel
theorem dX8_seat_0 : decode cX8_seat 0 = .ok (.iload_n 1, 1) := by decide +kernel
theorem dX8_seat_1 : decode cX8_seat 1 = .ok (.invokestatic 238, 3) := by decide +kernel
theorem dX8_seat_4 : decode cX8_seat 4 = .ok (.ifCond .ne 5, 3) := by decide +kernel
theorem dX8_seat_7 : decode cX8_seat 7 = .ok (.iconst (-1), 1) := by decide +kernel
theorem dX8_seat_8 : decode cX8_seat 8 = .ok (.ireturn, 1) := by decide +kernel
theorem dX8_seat_9 : decode cX8_seat 9 = .ok (.iload_n 2, 1) := by decide +kernel
theorem dX8_seat_10 : decode cX8_seat 10 = .ok (.iconst 0, 1) := by decide +kernel
theorem dX8_seat_11 : decode cX8_seat 11 = .ok (.bipush 20, 2) := by decide +kernel
theorem dX8_seat_13 : decode cX8_seat 13 = .ok (.invokestatic 68, 3) := by decide +kernel
theorem dX8_seat_16 : decode cX8_seat 16 = .ok (.ifCond .ne 6, 3) := by decide +kernel
theorem dX8_seat_19 : decode cX8_seat 19 = .ok (.bipush (-2), 2) := by decide +kernel
theorem dX8_seat_21 : decode cX8_seat 21 = .ok (.ireturn, 1) := by decide +kernel
theorem dX8_seat_22 : decode cX8_seat 22 = .ok (.aload_n 0, 1) := by decide +kernel
theorem dX8_seat_23 : decode cX8_seat 23 = .ok (.getfield 22, 3) := by decide +kernel
theorem dX8_seat_26 : decode cX8_seat 26 = .ok (.aload_n 0, 1) := by decide +kernel
theorem dX8_seat_27 : decode cX8_seat 27 = .ok (.getfield 10, 3) := by decide +kernel
theorem dX8_seat_30 : decode cX8_seat 30 = .ok (.invokevirtual 79, 3) := by decide +kernel
theorem dX8_seat_33 : decode cX8_seat 33 = .ok (.aload_n 0, 1) := by decide +kernel
theorem dX8_seat_34 : decode cX8_seat 34 = .ok (.getfield 10, 3) := by decide +kernel
theorem dX8_seat_37 : decode cX8_seat 37 = .ok (.getfield 241, 3) := by decide +kernel
theorem dX8_seat_40 : decode cX8_seat 40 = .ok (.iload_n 1, 1) := by decide +kernel
theorem dX8_seat_41 : decode cX8_seat 41 = .ok (.iaload, 1) := by decide +kernel
theorem dX8_seat_42 : decode cX8_seat 42 = .ok (.istore_n 3, 1) := by decide +kernel
theorem dX8_seat_43 : decode cX8_seat 43 = .ok (.aload_n 0, 1) := by decide +kernel
theorem dX8_seat_44 : decode cX8_seat 44 = .ok (.getfield 10, 3) := by decide +kernel
theorem dX8_seat_47 : decode cX8_seat 47 = .ok (.getfield 241, 3) := by decide +kernel
theorem dX8_seat_50 : decode cX8_seat 50 = .ok (.iload_n 1, 1) := by decide +kernel
theorem dX8_seat_51 : decode cX8_seat 51 = .ok (.iload_n 2, 1) := by decide +kernel
theorem dX8_seat_52 : decode cX8_seat 52 = .ok (.iastore, 1) := by decide +kernel
theorem dX8_seat_53 : decode cX8_seat 53 = .ok (.iload_n 3, 1) := by decide +kernel
theorem dX8_seat_54 : decode cX8_seat 54 = .ok (.ireturn, 1) := by decide +kernel
theorem dX8_needs_0 : decode cX8_needs 0 = .ok (.iload_n 1, 1) := by decide +kernel
theorem dX8_needs_1 : decode cX8_needs 1 = .ok (.invokestatic 238, 3) := by decide +kernel
theorem dX8_needs_4 : decode cX8_needs 4 = .ok (.ifCond .eq 14, 3) := by decide +kernel
theorem dX8_needs_7 : decode cX8_needs 7 = .ok (.aload_n 0, 1) := by decide +kernel
theorem dX8_needs_8 : decode cX8_needs 8 = .ok (.getfield 10, 3) := by decide +kernel
theorem dX8_needs_11 : decode cX8_needs 11 = .ok (.iload_n 1, 1) := by decide +kernel
theorem dX8_needs_12 : decode cX8_needs 12 = .ok (.invokevirtual 244, 3) := by decide +kernel
theorem dX8_needs_15 : decode cX8_needs 15 = .ok (.goto 4, 3) := by decide +kernel
theorem dX8_needs_18 : decode cX8_needs 18 = .ok (.iconst (-1), 1) := by decide +kernel
theorem dX8_needs_19 : decode cX8_needs 19 = .ok (.ireturn, 1) := by decide +kernel
theorem dX8_buy_0 : decode cX8_buy 0 = .ok (.aload_n 0, 1) := by decide +kernel
theorem dX8_buy_1 : decode cX8_buy 1 = .ok (.iload_n 1, 1) := by decide +kernel
theorem dX8_buy_2 : decode cX8_buy 2 = .ok (.invokevirtual 87, 3) := by decide +kernel
theorem dX8_buy_5 : decode cX8_buy 5 = .ok (.ifCond .eq 10, 3) := by decide +kernel
theorem dX8_buy_8 : decode cX8_buy 8 = .ok (.iload_n 2, 1) := by decide +kernel
theorem dX8_buy_9 : decode cX8_buy 9 = .ok (.invokestatic 238, 3) := by decide +kernel
theorem dX8_buy_12 : decode cX8_buy 12 = .ok (.ifCond .ne 5, 3) := by decide +kernel
theorem dX8_buy_15 : decode cX8_buy 15 = .ok (.iconst (-1), 1) := by decide +kernel
theorem dX8_buy_16 : decode cX8_buy 16 = .ok (.ireturn, 1) := by decide +kernel
theorem dX8_buy_17 : decode cX8_buy 17 = .ok (.iload_n 3, 1) := by decide +kernel
theorem dX8_buy_18 : decode cX8_buy 18 = .ok (.iconst 1, 1) := by decide +kernel
theorem dX8_buy_19 : decode cX8_buy 19 = .ok (.bipush 30, 2) := by decide +kernel
theorem dX8_buy_21 : decode cX8_buy 21 = .ok (.invokestatic 68, 3) := by decide +kernel
theorem dX8_buy_24 : decode cX8_buy 24 = .ok (.ifCond .ne 6, 3) := by decide +kernel
theorem dX8_buy_27 : decode cX8_buy 27 = .ok (.bipush (-2), 2) := by decide +kernel
theorem dX8_buy_29 : decode cX8_buy 29 = .ok (.ireturn, 1) := by decide +kernel
theorem dX8_buy_30 : decode cX8_buy 30 = .ok (.aload_n 0, 1) := by decide +kernel
theorem dX8_buy_31 : decode cX8_buy 31 = .ok (.getfield 10, 3) := by decide +kernel
theorem dX8_buy_34 : decode cX8_buy 34 = .ok (.getfield 107, 3) := by decide +kernel
theorem dX8_buy_37 : decode cX8_buy 37 = .ok (.iload_n 1, 1) := by decide +kernel
theorem dX8_buy_38 : decode cX8_buy 38 = .ok (.aaload, 1) := by decide +kernel
theorem dX8_buy_39 : decode cX8_buy 39 = .ok (.astore 4, 2) := by decide +kernel
theorem dX8_buy_41 : decode cX8_buy 41 = .ok (.aload 4, 2) := by decide +kernel
theorem dX8_buy_43 : decode cX8_buy 43 = .ok (.iload_n 2, 1) := by decide +kernel
theorem dX8_buy_44 : decode cX8_buy 44 = .ok (.iconst 0, 1) := by decide +kernel
theorem dX8_buy_45 : decode cX8_buy 45 = .ok (.invokevirtual 247, 3) := by decide +kernel
theorem dX8_buy_48 : decode cX8_buy 48 = .ok (.iload_n 3, 1) := by decide +kernel
theorem dX8_buy_49 : decode cX8_buy 49 = .ok (.iadd, 1) := by decide +kernel
theorem dX8_buy_50 : decode cX8_buy 50 = .ok (.bipush 30, 2) := by decide +kernel
theorem dX8_buy_52 : decode cX8_buy 52 = .ok (.if_icmp .le 6, 3) := by decide +kernel
theorem dX8_buy_55 : decode cX8_buy 55 = .ok (.bipush (-4), 2) := by decide +kernel
theorem dX8_buy_57 : decode cX8_buy 57 = .ok (.ireturn, 1) := by decide +kernel
theorem dX8_buy_58 : decode cX8_buy 58 = .ok (.aload_n 0, 1) := by decide +kernel
theorem dX8_buy_59 : decode cX8_buy 59 = .ok (.getfield 22, 3) := by decide +kernel
theorem dX8_buy_62 : decode cX8_buy 62 = .ok (.aload_n 0, 1) := by decide +kernel
theorem dX8_buy_63 : decode cX8_buy 63 = .ok (.getfield 10, 3) := by decide +kernel
theorem dX8_buy_66 : decode cX8_buy 66 = .ok (.invokevirtual 79, 3) := by decide +kernel
theorem dX8_buy_69 : decode cX8_buy 69 = .ok (.aload 4, 2) := by decide +kernel
theorem dX8_buy_71 : decode cX8_buy 71 = .ok (.getfield 250, 3) := by decide +kernel
theorem dX8_buy_74 : decode cX8_buy 74 = .ok (.iload_n 2, 1) := by decide +kernel
theorem dX8_buy_75 : decode cX8_buy 75 = .ok (.dup2, 1) := by decide +kernel
theorem dX8_buy_76 : decode cX8_buy 76 = .ok (.iaload, 1) := by decide +kernel
theorem dX8_buy_77 : decode cX8_buy 77 = .ok (.iload_n 3, 1) := by decide +kernel
theorem dX8_buy_78 : decode cX8_buy 78 = .ok (.iadd, 1) := by decide +kernel
theorem dX8_buy_79 : decode cX8_buy 79 = .ok (.iastore, 1) := by decide +kernel
theorem dX8_buy_80 : decode cX8_buy 80 = .ok (.aload 4, 2) := by decide +kernel
theorem dX8_buy_82 : decode cX8_buy 82 = .ok (.iload_n 2, 1) := by decide +kernel
theorem dX8_buy_83 : decode cX8_buy 83 = .ok (.iconst 0, 1) := by decide +kernel
theorem dX8_buy_84 : decode cX8_buy 84 = .ok (.invokevirtual 247, 3) := by decide +kernel
theorem dX8_buy_87 : decode cX8_buy 87 = .ok (.ireturn, 1) := by decide +kernel
theorem dX8_stock_0 : decode cX8_stock 0 = .ok (.aload_n 0, 1) := by decide +kernel
theorem dX8_stock_1 : decode cX8_stock 1 = .ok (.iload_n 1, 1) := by decide +kernel
theorem dX8_stock_2 : decode cX8_stock 2 = .ok (.invokevirtual 87, 3) := by decide +kernel
theorem dX8_stock_5 : decode cX8_stock 5 = .ok (.ifCond .eq 10, 3) := by decide +kernel
theorem dX8_stock_8 : decode cX8_stock 8 = .ok (.iload_n 2, 1) := by decide +kernel
theorem dX8_stock_9 : decode cX8_stock 9 = .ok (.invokestatic 238, 3) := by decide +kernel
theorem dX8_stock_12 : decode cX8_stock 12 = .ok (.ifCond .ne 5, 3) := by decide +kernel
theorem dX8_stock_15 : decode cX8_stock 15 = .ok (.iconst (-1), 1) := by decide +kernel
theorem dX8_stock_16 : decode cX8_stock 16 = .ok (.ireturn, 1) := by decide +kernel
theorem dX8_stock_17 : decode cX8_stock 17 = .ok (.iload_n 3, 1) := by decide +kernel
theorem dX8_stock_18 : decode cX8_stock 18 = .ok (.iconst 0, 1) := by decide +kernel
theorem dX8_stock_19 : decode cX8_stock 19 = .ok (.iconst 3, 1) := by decide +kernel
theorem dX8_stock_20 : decode cX8_stock 20 = .ok (.invokestatic 68, 3) := by decide +kernel
theorem dX8_stock_23 : decode cX8_stock 23 = .ok (.ifCond .eq 20, 3) := by decide +kernel
theorem dX8_stock_26 : decode cX8_stock 26 = .ok (.aload_n 0, 1) := by decide +kernel
theorem dX8_stock_27 : decode cX8_stock 27 = .ok (.getfield 10, 3) := by decide +kernel
theorem dX8_stock_30 : decode cX8_stock 30 = .ok (.getfield 107, 3) := by decide +kernel
theorem dX8_stock_33 : decode cX8_stock 33 = .ok (.iload_n 1, 1) := by decide +kernel
theorem dX8_stock_34 : decode cX8_stock 34 = .ok (.aaload, 1) := by decide +kernel
theorem dX8_stock_35 : decode cX8_stock 35 = .ok (.iload_n 2, 1) := by decide +kernel
theorem dX8_stock_36 : decode cX8_stock 36 = .ok (.iload_n 3, 1) := by decide +kernel
theorem dX8_stock_37 : decode cX8_stock 37 = .ok (.invokevirtual 247, 3) := by decide +kernel
theorem dX8_stock_40 : decode cX8_stock 40 = .ok (.goto 4, 3) := by decide +kernel
theorem dX8_stock_43 : decode cX8_stock 43 = .ok (.iconst (-1), 1) := by decide +kernel
theorem dX8_stock_44 : decode cX8_stock 44 = .ok (.ireturn, 1) := by decide +kernel
theorem dX8_bow_0 : decode cX8_bow 0 = .ok (.aload_n 0, 1) := by decide +kernel
theorem dX8_bow_1 : decode cX8_bow 1 = .ok (.getfield 22, 3) := by decide +kernel
theorem dX8_bow_4 : decode cX8_bow 4 = .ok (.aload_n 0, 1) := by decide +kernel
theorem dX8_bow_5 : decode cX8_bow 5 = .ok (.getfield 10, 3) := by decide +kernel
theorem dX8_bow_8 : decode cX8_bow 8 = .ok (.invokevirtual 94, 3) := by decide +kernel
theorem dX8_bow_11 : decode cX8_bow 11 = .ok (.aload_n 0, 1) := by decide +kernel
theorem dX8_bow_12 : decode cX8_bow 12 = .ok (.aload_n 0, 1) := by decide +kernel
theorem dX8_bow_13 : decode cX8_bow 13 = .ok (.iload_n 1, 1) := by decide +kernel
theorem dX8_bow_14 : decode cX8_bow 14 = .ok (.iload_n 2, 1) := by decide +kernel
theorem dX8_bow_15 : decode cX8_bow 15 = .ok (.iload_n 3, 1) := by decide +kernel
theorem dX8_bow_16 : decode cX8_bow 16 = .ok (.iload 4, 2) := by decide +kernel
theorem dX8_bow_18 : decode cX8_bow 18 = .ok (.invokevirtual 253, 3) := by decide +kernel
theorem dX8_bow_21 : decode cX8_bow 21 = .ok (.invokevirtual 100, 3) := by decide +kernel
theorem dX8_bow_24 : decode cX8_bow 24 = .ok (.ireturn, 1) := by decide +kernel
theorem dX8_setBowing_0 : decode cX8_setBowing 0 = .ok (.aload_n 0, 1) := by decide +kernel
theorem dX8_setBowing_1 : decode cX8_setBowing 1 = .ok (.iload_n 1, 1) := by decide +kernel
theorem dX8_setBowing_2 : decode cX8_setBowing 2 = .ok (.iload_n 3, 1) := by decide +kernel
theorem dX8_setBowing_3 : decode cX8_setBowing 3 = .ok (.invokevirtual 103, 3) := by decide +kernel
theorem dX8_setBowing_6 : decode cX8_setBowing 6 = .ok (.ifCond .eq 10, 3) := by decide +kernel
theorem dX8_setBowing_9 : decode cX8_setBowing 9 = .ok (.iload_n 2, 1) := by decide +kernel
theorem dX8_setBowing_10 : decode cX8_setBowing 10 = .ok (.invokestatic 256, 3) := by decide +kernel
theorem dX8_setBowing_13 : decode cX8_setBowing 13 = .ok (.ifCond .ne 5, 3) := by decide +kernel
theorem dX8_setBowing_16 : decode cX8_setBowing 16 = .ok (.iconst (-1), 1) := by decide +kernel
theorem dX8_setBowing_17 : decode cX8_setBowing 17 = .ok (.ireturn, 1) := by decide +kernel
theorem dX8_setBowing_18 : decode cX8_setBowing 18 = .ok (.iload 4, 2) := by decide +kernel
theorem dX8_setBowing_20 : decode cX8_setBowing 20 = .ok (.iconst 0, 1) := by decide +kernel
theorem dX8_setBowing_21 : decode cX8_setBowing 21 = .ok (.iconst 4, 1) := by decide +kernel
theorem dX8_setBowing_22 : decode cX8_setBowing 22 = .ok (.invokestatic 68, 3) := by decide +kernel
theorem dX8_setBowing_25 : decode cX8_setBowing 25 = .ok (.ifCond .ne 6, 3) := by decide +kernel
theorem dX8_setBowing_28 : decode cX8_setBowing 28 = .ok (.bipush (-2), 2) := by decide +kernel
theorem dX8_setBowing_30 : decode cX8_setBowing 30 = .ok (.ireturn, 1) := by decide +kernel
theorem dX8_setBowing_31 : decode cX8_setBowing 31 = .ok (.aload_n 0, 1) := by decide +kernel
theorem dX8_setBowing_32 : decode cX8_setBowing 32 = .ok (.getfield 10, 3) := by decide +kernel
theorem dX8_setBowing_35 : decode cX8_setBowing 35 = .ok (.getfield 107, 3) := by decide +kernel
theorem dX8_setBowing_38 : decode cX8_setBowing 38 = .ok (.iload_n 1, 1) := by decide +kernel
theorem dX8_setBowing_39 : decode cX8_setBowing 39 = .ok (.aaload, 1) := by decide +kernel
theorem dX8_setBowing_40 : decode cX8_setBowing 40 = .ok (.getfield 259, 3) := by decide +kernel
theorem dX8_setBowing_43 : decode cX8_setBowing 43 = .ok (.iload_n 2, 1) := by decide +kernel
theorem dX8_setBowing_44 : decode cX8_setBowing 44 = .ok (.aaload, 1) := by decide +kernel
theorem dX8_setBowing_45 : decode cX8_setBowing 45 = .ok (.astore 5, 2) := by decide +kernel
theorem dX8_setBowing_47 : decode cX8_setBowing 47 = .ok (.aload 5, 2) := by decide +kernel
theorem dX8_setBowing_49 : decode cX8_setBowing 49 = .ok (.iload_n 3, 1) := by decide +kernel
theorem dX8_setBowing_50 : decode cX8_setBowing 50 = .ok (.iaload, 1) := by decide +kernel
theorem dX8_setBowing_51 : decode cX8_setBowing 51 = .ok (.istore 6, 2) := by decide +kernel
theorem dX8_setBowing_53 : decode cX8_setBowing 53 = .ok (.aload 5, 2) := by decide +kernel
theorem dX8_setBowing_55 : decode cX8_setBowing 55 = .ok (.iload_n 3, 1) := by decide +kernel
theorem dX8_setBowing_56 : decode cX8_setBowing 56 = .ok (.iload 4, 2) := by decide +kernel
theorem dX8_setBowing_58 : decode cX8_setBowing 58 = .ok (.iastore, 1) := by decide +kernel
theorem dX8_setBowing_59 : decode cX8_setBowing 59 = .ok (.iload 6, 2) := by decide +kernel
theorem dX8_setBowing_61 : decode cX8_setBowing 61 = .ok (.ireturn, 1) := by decide +kernel
theorem dX8_bowing_0 : decode cX8_bowing 0 = .ok (.aload_n 0, 1) := by decide +kernel
theorem dX8_bowing_1 : decode cX8_bowing 1 = .ok (.iload_n 1, 1) := by decide +kernel
theorem dX8_bowing_2 : decode cX8_bowing 2 = .ok (.iload_n 3, 1) := by decide +kernel
theorem dX8_bowing_3 : decode cX8_bowing 3 = .ok (.invokevirtual 103, 3) := by decide +kernel
theorem dX8_bowing_6 : decode cX8_bowing 6 = .ok (.ifCond .eq 10, 3) := by decide +kernel
theorem dX8_bowing_9 : decode cX8_bowing 9 = .ok (.iload_n 2, 1) := by decide +kernel
theorem dX8_bowing_10 : decode cX8_bowing 10 = .ok (.invokestatic 256, 3) := by decide +kernel
theorem dX8_bowing_13 : decode cX8_bowing 13 = .ok (.ifCond .ne 5, 3) := by decide +kernel
theorem dX8_bowing_16 : decode cX8_bowing 16 = .ok (.iconst (-1), 1) := by decide +kernel
theorem dX8_bowing_17 : decode cX8_bowing 17 = .ok (.ireturn, 1) := by decide +kernel
theorem dX8_bowing_18 : decode cX8_bowing 18 = .ok (.aload_n 0, 1) := by decide +kernel
theorem dX8_bowing_19 : decode cX8_bowing 19 = .ok (.getfield 10, 3) := by decide +kernel
theorem dX8_bowing_22 : decode cX8_bowing 22 = .ok (.getfield 107, 3) := by decide +kernel
theorem dX8_bowing_25 : decode cX8_bowing 25 = .ok (.iload_n 1, 1) := by decide +kernel
theorem dX8_bowing_26 : decode cX8_bowing 26 = .ok (.aaload, 1) := by decide +kernel
theorem dX8_bowing_27 : decode cX8_bowing 27 = .ok (.getfield 259, 3) := by decide +kernel
theorem dX8_bowing_30 : decode cX8_bowing 30 = .ok (.iload_n 2, 1) := by decide +kernel
theorem dX8_bowing_31 : decode cX8_bowing 31 = .ok (.aaload, 1) := by decide +kernel
theorem dX8_bowing_32 : decode cX8_bowing 32 = .ok (.iload_n 3, 1) := by decide +kernel
theorem dX8_bowing_33 : decode cX8_bowing 33 = .ok (.iaload, 1) := by decide +kernel
theorem dX8_bowing_34 : decode cX8_bowing 34 = .ok (.ireturn, 1) := by decide +kernel
theorem dX8_copyBowings_0 : decode cX8_copyBowings 0 = .ok (.aload_n 0, 1) := by decide +kernel
theorem dX8_copyBowings_1 : decode cX8_copyBowings 1 = .ok (.iload_n 1, 1) := by decide +kernel
theorem dX8_copyBowings_2 : decode cX8_copyBowings 2 = .ok (.invokevirtual 87, 3) := by decide +kernel
theorem dX8_copyBowings_5 : decode cX8_copyBowings 5 = .ok (.ifCond .eq 18, 3) := by decide +kernel
theorem dX8_copyBowings_8 : decode cX8_copyBowings 8 = .ok (.aload_n 0, 1) := by decide +kernel
theorem dX8_copyBowings_9 : decode cX8_copyBowings 9 = .ok (.iload_n 2, 1) := by decide +kernel
theorem dX8_copyBowings_10 : decode cX8_copyBowings 10 = .ok (.invokevirtual 87, 3) := by decide +kernel
theorem dX8_copyBowings_13 : decode cX8_copyBowings 13 = .ok (.ifCond .eq 10, 3) := by decide +kernel
theorem dX8_copyBowings_16 : decode cX8_copyBowings 16 = .ok (.iload_n 3, 1) := by decide +kernel
theorem dX8_copyBowings_17 : decode cX8_copyBowings 17 = .ok (.invokestatic 256, 3) := by decide +kernel
theorem dX8_copyBowings_20 : decode cX8_copyBowings 20 = .ok (.ifCond .ne 5, 3) := by decide +kernel
theorem dX8_copyBowings_23 : decode cX8_copyBowings 23 = .ok (.iconst (-1), 1) := by decide +kernel
theorem dX8_copyBowings_24 : decode cX8_copyBowings 24 = .ok (.ireturn, 1) := by decide +kernel
theorem dX8_copyBowings_25 : decode cX8_copyBowings 25 = .ok (.iload_n 1, 1) := by decide +kernel
theorem dX8_copyBowings_26 : decode cX8_copyBowings 26 = .ok (.iload_n 2, 1) := by decide +kernel
theorem dX8_copyBowings_27 : decode cX8_copyBowings 27 = .ok (.if_icmp .eq 22, 3) := by decide +kernel
theorem dX8_copyBowings_30 : decode cX8_copyBowings 30 = .ok (.aload_n 0, 1) := by decide +kernel
theorem dX8_copyBowings_31 : decode cX8_copyBowings 31 = .ok (.iload_n 1, 1) := by decide +kernel
theorem dX8_copyBowings_32 : decode cX8_copyBowings 32 = .ok (.iload_n 2, 1) := by decide +kernel
theorem dX8_copyBowings_33 : decode cX8_copyBowings 33 = .ok (.invokevirtual 179, 3) := by decide +kernel
theorem dX8_copyBowings_36 : decode cX8_copyBowings 36 = .ok (.ifCond .eq 13, 3) := by decide +kernel
theorem dX8_copyBowings_39 : decode cX8_copyBowings 39 = .ok (.iload 4, 2) := by decide +kernel
theorem dX8_copyBowings_41 : decode cX8_copyBowings 41 = .ok (.iconst 0, 1) := by decide +kernel
theorem dX8_copyBowings_42 : decode cX8_copyBowings 42 = .ok (.iconst 1, 1) := by decide +kernel
theorem dX8_copyBowings_43 : decode cX8_copyBowings 43 = .ok (.invokestatic 68, 3) := by decide +kernel
theorem dX8_copyBowings_46 : decode cX8_copyBowings 46 = .ok (.ifCond .ne 6, 3) := by decide +kernel
theorem dX8_copyBowings_49 : decode cX8_copyBowings 49 = .ok (.bipush (-2), 2) := by decide +kernel
theorem dX8_copyBowings_51 : decode cX8_copyBowings 51 = .ok (.ireturn, 1) := by decide +kernel
theorem dX8_copyBowings_52 : decode cX8_copyBowings 52 = .ok (.aload_n 0, 1) := by decide +kernel
theorem dX8_copyBowings_53 : decode cX8_copyBowings 53 = .ok (.getfield 22, 3) := by decide +kernel
theorem dX8_copyBowings_56 : decode cX8_copyBowings 56 = .ok (.aload_n 0, 1) := by decide +kernel
theorem dX8_copyBowings_57 : decode cX8_copyBowings 57 = .ok (.getfield 10, 3) := by decide +kernel
theorem dX8_copyBowings_60 : decode cX8_copyBowings 60 = .ok (.invokevirtual 79, 3) := by decide +kernel
theorem dX8_copyBowings_63 : decode cX8_copyBowings 63 = .ok (.aload_n 0, 1) := by decide +kernel
theorem dX8_copyBowings_64 : decode cX8_copyBowings 64 = .ok (.getfield 36, 3) := by decide +kernel
theorem dX8_copyBowings_67 : decode cX8_copyBowings 67 = .ok (.aload_n 0, 1) := by decide +kernel
theorem dX8_copyBowings_68 : decode cX8_copyBowings 68 = .ok (.getfield 10, 3) := by decide +kernel
theorem dX8_copyBowings_71 : decode cX8_copyBowings 71 = .ok (.getfield 107, 3) := by decide +kernel
theorem dX8_copyBowings_74 : decode cX8_copyBowings 74 = .ok (.iload_n 1, 1) := by decide +kernel
theorem dX8_copyBowings_75 : decode cX8_copyBowings 75 = .ok (.aaload, 1) := by decide +kernel
theorem dX8_copyBowings_76 : decode cX8_copyBowings 76 = .ok (.aload_n 0, 1) := by decide +kernel
theorem dX8_copyBowings_77 : decode cX8_copyBowings 77 = .ok (.getfield 10, 3) := by decide +kernel
theorem dX8_copyBowings_80 : decode cX8_copyBowings 80 = .ok (.getfield 107, 3) := by decide +kernel
theorem dX8_copyBowings_83 : decode cX8_copyBowings 83 = .ok (.iload_n 2, 1) := by decide +kernel
theorem dX8_copyBowings_84 : decode cX8_copyBowings 84 = .ok (.aaload, 1) := by decide +kernel
theorem dX8_copyBowings_85 : decode cX8_copyBowings 85 = .ok (.iload_n 3, 1) := by decide +kernel
theorem dX8_copyBowings_86 : decode cX8_copyBowings 86 = .ok (.iload 4, 2) := by decide +kernel
theorem dX8_copyBowings_88 : decode cX8_copyBowings 88 = .ok (.iconst 1, 1) := by decide +kernel
theorem dX8_copyBowings_89 : decode cX8_copyBowings 89 = .ok (.if_icmp .ne 7, 3) := by decide +kernel
theorem dX8_copyBowings_92 : decode cX8_copyBowings 92 = .ok (.iconst 1, 1) := by decide +kernel
theorem dX8_copyBowings_93 : decode cX8_copyBowings 93 = .ok (.goto 4, 3) := by decide +kernel
theorem dX8_copyBowings_96 : decode cX8_copyBowings 96 = .ok (.iconst 0, 1) := by decide +kernel
theorem dX8_copyBowings_97 : decode cX8_copyBowings 97 = .ok (.invokevirtual 263, 3) := by decide +kernel
theorem dX8_copyBowings_100 : decode cX8_copyBowings 100 = .ok (.aload_n 0, 1) := by decide +kernel
theorem dX8_copyBowings_101 : decode cX8_copyBowings 101 = .ok (.getfield 36, 3) := by decide +kernel
theorem dX8_copyBowings_104 : decode cX8_copyBowings 104 = .ok (.getfield 267, 3) := by decide +kernel
theorem dX8_copyBowings_107 : decode cX8_copyBowings 107 = .ok (.ireturn, 1) := by decide +kernel
theorem dX8_copied_0 : decode cX8_copied 0 = .ok (.iload_n 1, 1) := by decide +kernel
theorem dX8_copied_1 : decode cX8_copied 1 = .ok (.iconst 0, 1) := by decide +kernel
theorem dX8_copied_2 : decode cX8_copied 2 = .ok (.iconst 3, 1) := by decide +kernel
theorem dX8_copied_3 : decode cX8_copied 3 = .ok (.invokestatic 68, 3) := by decide +kernel
theorem dX8_copied_6 : decode cX8_copied 6 = .ok (.ifCond .ne 5, 3) := by decide +kernel
theorem dX8_copied_9 : decode cX8_copied 9 = .ok (.iconst (-1), 1) := by decide +kernel
theorem dX8_copied_10 : decode cX8_copied 10 = .ok (.ireturn, 1) := by decide +kernel
theorem dX8_copied_11 : decode cX8_copied 11 = .ok (.aload_n 0, 1) := by decide +kernel
theorem dX8_copied_12 : decode cX8_copied 12 = .ok (.getfield 36, 3) := by decide +kernel
theorem dX8_copied_15 : decode cX8_copied 15 = .ok (.getfield 270, 3) := by decide +kernel
theorem dX8_copied_18 : decode cX8_copied 18 = .ok (.ifCond .ne 6, 3) := by decide +kernel
theorem dX8_copied_21 : decode cX8_copied 21 = .ok (.bipush (-7), 2) := by decide +kernel
theorem dX8_copied_23 : decode cX8_copied 23 = .ok (.ireturn, 1) := by decide +kernel
theorem dX8_copied_24 : decode cX8_copied 24 = .ok (.iload_n 1, 1) := by decide +kernel
theorem dX8_copied_25 : decode cX8_copied 25 = .ok (.tableswitch 51 0 2 #[27, 35, 43], 27) := by decide +kernel
theorem dX8_copied_52 : decode cX8_copied 52 = .ok (.aload_n 0, 1) := by decide +kernel
theorem dX8_copied_53 : decode cX8_copied 53 = .ok (.getfield 36, 3) := by decide +kernel
theorem dX8_copied_56 : decode cX8_copied 56 = .ok (.getfield 267, 3) := by decide +kernel
theorem dX8_copied_59 : decode cX8_copied 59 = .ok (.ireturn, 1) := by decide +kernel
theorem dX8_copied_60 : decode cX8_copied 60 = .ok (.aload_n 0, 1) := by decide +kernel
theorem dX8_copied_61 : decode cX8_copied 61 = .ok (.getfield 36, 3) := by decide +kernel
theorem dX8_copied_64 : decode cX8_copied 64 = .ok (.getfield 273, 3) := by decide +kernel
theorem dX8_copied_67 : decode cX8_copied 67 = .ok (.ireturn, 1) := by decide +kernel
theorem dX8_copied_68 : decode cX8_copied 68 = .ok (.aload_n 0, 1) := by decide +kernel
theorem dX8_copied_69 : decode cX8_copied 69 = .ok (.getfield 36, 3) := by decide +kernel
theorem dX8_copied_72 : decode cX8_copied 72 = .ok (.getfield 276, 3) := by decide +kernel
theorem dX8_copied_75 : decode cX8_copied 75 = .ok (.ireturn, 1) := by decide +kernel
theorem dX8_copied_76 : decode cX8_copied 76 = .ok (.aload_n 0, 1) := by decide +kernel
theorem dX8_copied_77 : decode cX8_copied 77 = .ok (.getfield 36, 3) := by decide +kernel
theorem dX8_copied_80 : decode cX8_copied 80 = .ok (.getfield 279, 3) := by decide +kernel
theorem dX8_copied_83 : decode cX8_copied 83 = .ok (.ireturn, 1) := by decide +kernel
theorem dX8_lend_0 : decode cX8_lend 0 = .ok (.aload_n 0, 1) := by decide +kernel
theorem dX8_lend_1 : decode cX8_lend 1 = .ok (.getfield 22, 3) := by decide +kernel
theorem dX8_lend_4 : decode cX8_lend 4 = .ok (.aload_n 0, 1) := by decide +kernel
theorem dX8_lend_5 : decode cX8_lend 5 = .ok (.getfield 10, 3) := by decide +kernel
theorem dX8_lend_8 : decode cX8_lend 8 = .ok (.invokevirtual 94, 3) := by decide +kernel
theorem dX8_lend_11 : decode cX8_lend 11 = .ok (.aload_n 0, 1) := by decide +kernel
theorem dX8_lend_12 : decode cX8_lend 12 = .ok (.aload_n 0, 1) := by decide +kernel
theorem dX8_lend_13 : decode cX8_lend 13 = .ok (.iload_n 1, 1) := by decide +kernel
theorem dX8_lend_14 : decode cX8_lend 14 = .ok (.iload_n 2, 1) := by decide +kernel
theorem dX8_lend_15 : decode cX8_lend 15 = .ok (.iload_n 3, 1) := by decide +kernel
theorem dX8_lend_16 : decode cX8_lend 16 = .ok (.iload 4, 2) := by decide +kernel
theorem dX8_lend_18 : decode cX8_lend 18 = .ok (.iload 5, 2) := by decide +kernel
theorem dX8_lend_20 : decode cX8_lend 20 = .ok (.invokevirtual 282, 3) := by decide +kernel
theorem dX8_lend_23 : decode cX8_lend 23 = .ok (.invokevirtual 100, 3) := by decide +kernel
theorem dX8_lend_26 : decode cX8_lend 26 = .ok (.ireturn, 1) := by decide +kernel
theorem dX8_lendPart_0 : decode cX8_lendPart 0 = .ok (.iload_n 1, 1) := by decide +kernel
theorem dX8_lendPart_1 : decode cX8_lendPart 1 = .ok (.invokestatic 286, 3) := by decide +kernel
theorem dX8_lendPart_4 : decode cX8_lendPart 4 = .ok (.ifCond .eq 18, 3) := by decide +kernel
theorem dX8_lendPart_7 : decode cX8_lendPart 7 = .ok (.aload_n 0, 1) := by decide +kernel
theorem dX8_lendPart_8 : decode cX8_lendPart 8 = .ok (.iload_n 2, 1) := by decide +kernel
theorem dX8_lendPart_9 : decode cX8_lendPart 9 = .ok (.invokevirtual 87, 3) := by decide +kernel
theorem dX8_lendPart_12 : decode cX8_lendPart 12 = .ok (.ifCond .eq 10, 3) := by decide +kernel
theorem dX8_lendPart_15 : decode cX8_lendPart 15 = .ok (.iload_n 3, 1) := by decide +kernel
theorem dX8_lendPart_16 : decode cX8_lendPart 16 = .ok (.invokestatic 238, 3) := by decide +kernel
theorem dX8_lendPart_19 : decode cX8_lendPart 19 = .ok (.ifCond .ne 5, 3) := by decide +kernel
theorem dX8_lendPart_22 : decode cX8_lendPart 22 = .ok (.iconst (-1), 1) := by decide +kernel
theorem dX8_lendPart_23 : decode cX8_lendPart 23 = .ok (.ireturn, 1) := by decide +kernel
theorem dX8_lendPart_24 : decode cX8_lendPart 24 = .ok (.iload 4, 2) := by decide +kernel
theorem dX8_lendPart_26 : decode cX8_lendPart 26 = .ok (.iconst 1, 1) := by decide +kernel
theorem dX8_lendPart_27 : decode cX8_lendPart 27 = .ok (.bipush 30, 2) := by decide +kernel
theorem dX8_lendPart_29 : decode cX8_lendPart 29 = .ok (.invokestatic 68, 3) := by decide +kernel
theorem dX8_lendPart_32 : decode cX8_lendPart 32 = .ok (.ifCond .eq 15, 3) := by decide +kernel
theorem dX8_lendPart_35 : decode cX8_lendPart 35 = .ok (.iload 5, 2) := by decide +kernel
theorem dX8_lendPart_37 : decode cX8_lendPart 37 = .ok (.iconst 0, 1) := by decide +kernel
theorem dX8_lendPart_38 : decode cX8_lendPart 38 = .ok (.sipush 999, 3) := by decide +kernel
theorem dX8_lendPart_41 : decode cX8_lendPart 41 = .ok (.invokestatic 68, 3) := by decide +kernel
theorem dX8_lendPart_44 : decode cX8_lendPart 44 = .ok (.ifCond .ne 6, 3) := by decide +kernel
theorem dX8_lendPart_47 : decode cX8_lendPart 47 = .ok (.bipush (-2), 2) := by decide +kernel
theorem dX8_lendPart_49 : decode cX8_lendPart 49 = .ok (.ireturn, 1) := by decide +kernel
theorem dX8_lendPart_50 : decode cX8_lendPart 50 = .ok (.iload 4, 2) := by decide +kernel
theorem dX8_lendPart_52 : decode cX8_lendPart 52 = .ok (.aload_n 0, 1) := by decide +kernel
theorem dX8_lendPart_53 : decode cX8_lendPart 53 = .ok (.getfield 10, 3) := by decide +kernel
theorem dX8_lendPart_56 : decode cX8_lendPart 56 = .ok (.getfield 107, 3) := by decide +kernel
theorem dX8_lendPart_59 : decode cX8_lendPart 59 = .ok (.iload_n 2, 1) := by decide +kernel
theorem dX8_lendPart_60 : decode cX8_lendPart 60 = .ok (.aaload, 1) := by decide +kernel
theorem dX8_lendPart_61 : decode cX8_lendPart 61 = .ok (.getfield 250, 3) := by decide +kernel
theorem dX8_lendPart_64 : decode cX8_lendPart 64 = .ok (.iload_n 3, 1) := by decide +kernel
theorem dX8_lendPart_65 : decode cX8_lendPart 65 = .ok (.iaload, 1) := by decide +kernel
theorem dX8_lendPart_66 : decode cX8_lendPart 66 = .ok (.if_icmp .le 9, 3) := by decide +kernel
theorem dX8_lendPart_69 : decode cX8_lendPart 69 = .ok (.aload_n 0, 1) := by decide +kernel
theorem dX8_lendPart_70 : decode cX8_lendPart 70 = .ok (.iconst 1, 1) := by decide +kernel
theorem dX8_lendPart_71 : decode cX8_lendPart 71 = .ok (.invokevirtual 120, 3) := by decide +kernel
theorem dX8_lendPart_74 : decode cX8_lendPart 74 = .ok (.ireturn, 1) := by decide +kernel
theorem dX8_lendPart_75 : decode cX8_lendPart 75 = .ok (.aload_n 0, 1) := by decide +kernel
theorem dX8_lendPart_76 : decode cX8_lendPart 76 = .ok (.getfield 10, 3) := by decide +kernel
theorem dX8_lendPart_79 : decode cX8_lendPart 79 = .ok (.iload_n 1, 1) := by decide +kernel
theorem dX8_lendPart_80 : decode cX8_lendPart 80 = .ok (.iconst 3, 1) := by decide +kernel
theorem dX8_lendPart_81 : decode cX8_lendPart 81 = .ok (.invokevirtual 289, 3) := by decide +kernel
theorem dX8_lendPart_84 : decode cX8_lendPart 84 = .ok (.ifCond .le 9, 3) := by decide +kernel
theorem dX8_lendPart_87 : decode cX8_lendPart 87 = .ok (.aload_n 0, 1) := by decide +kernel
theorem dX8_lendPart_88 : decode cX8_lendPart 88 = .ok (.iconst 2, 1) := by decide +kernel
theorem dX8_lendPart_89 : decode cX8_lendPart 89 = .ok (.invokevirtual 120, 3) := by decide +kernel
theorem dX8_lendPart_92 : decode cX8_lendPart 92 = .ok (.ireturn, 1) := by decide +kernel
theorem dX8_lendPart_93 : decode cX8_lendPart 93 = .ok (.aload_n 0, 1) := by decide +kernel
theorem dX8_lendPart_94 : decode cX8_lendPart 94 = .ok (.getfield 10, 3) := by decide +kernel
theorem dX8_lendPart_97 : decode cX8_lendPart 97 = .ok (.getfield 292, 3) := by decide +kernel
theorem dX8_lendPart_100 : decode cX8_lendPart 100 = .ok (.bipush 20, 2) := by decide +kernel
theorem dX8_lendPart_102 : decode cX8_lendPart 102 = .ok (.if_icmp .lt 9, 3) := by decide +kernel
theorem dX8_lendPart_105 : decode cX8_lendPart 105 = .ok (.aload_n 0, 1) := by decide +kernel
theorem dX8_lendPart_106 : decode cX8_lendPart 106 = .ok (.iconst 3, 1) := by decide +kernel
theorem dX8_lendPart_107 : decode cX8_lendPart 107 = .ok (.invokevirtual 120, 3) := by decide +kernel
theorem dX8_lendPart_110 : decode cX8_lendPart 110 = .ok (.ireturn, 1) := by decide +kernel
theorem dX8_lendPart_111 : decode cX8_lendPart 111 = .ok (.aload_n 0, 1) := by decide +kernel
theorem dX8_lendPart_112 : decode cX8_lendPart 112 = .ok (.getfield 10, 3) := by decide +kernel
theorem dX8_lendPart_115 : decode cX8_lendPart 115 = .ok (.iload_n 1, 1) := by decide +kernel
theorem dX8_lendPart_116 : decode cX8_lendPart 116 = .ok (.iload_n 2, 1) := by decide +kernel
theorem dX8_lendPart_117 : decode cX8_lendPart 117 = .ok (.iload_n 3, 1) := by decide +kernel
theorem dX8_lendPart_118 : decode cX8_lendPart 118 = .ok (.iload 4, 2) := by decide +kernel
theorem dX8_lendPart_120 : decode cX8_lendPart 120 = .ok (.iload 5, 2) := by decide +kernel
theorem dX8_lendPart_122 : decode cX8_lendPart 122 = .ok (.invokevirtual 295, 3) := by decide +kernel
theorem dX8_lendPart_125 : decode cX8_lendPart 125 = .ok (.ireturn, 1) := by decide +kernel
theorem dX8_lendAll_0 : decode cX8_lendAll 0 = .ok (.iload_n 1, 1) := by decide +kernel
theorem dX8_lendAll_1 : decode cX8_lendAll 1 = .ok (.invokestatic 286, 3) := by decide +kernel
theorem dX8_lendAll_4 : decode cX8_lendAll 4 = .ok (.ifCond .eq 11, 3) := by decide +kernel
theorem dX8_lendAll_7 : decode cX8_lendAll 7 = .ok (.aload_n 0, 1) := by decide +kernel
theorem dX8_lendAll_8 : decode cX8_lendAll 8 = .ok (.iload_n 2, 1) := by decide +kernel
theorem dX8_lendAll_9 : decode cX8_lendAll 9 = .ok (.invokevirtual 87, 3) := by decide +kernel
theorem dX8_lendAll_12 : decode cX8_lendAll 12 = .ok (.ifCond .ne 5, 3) := by decide +kernel
theorem dX8_lendAll_15 : decode cX8_lendAll 15 = .ok (.iconst (-1), 1) := by decide +kernel
theorem dX8_lendAll_16 : decode cX8_lendAll 16 = .ok (.ireturn, 1) := by decide +kernel
theorem dX8_lendAll_17 : decode cX8_lendAll 17 = .ok (.iload_n 3, 1) := by decide +kernel
theorem dX8_lendAll_18 : decode cX8_lendAll 18 = .ok (.iconst 0, 1) := by decide +kernel
theorem dX8_lendAll_19 : decode cX8_lendAll 19 = .ok (.sipush 999, 3) := by decide +kernel
theorem dX8_lendAll_22 : decode cX8_lendAll 22 = .ok (.invokestatic 68, 3) := by decide +kernel
theorem dX8_lendAll_25 : decode cX8_lendAll 25 = .ok (.ifCond .ne 6, 3) := by decide +kernel
theorem dX8_lendAll_28 : decode cX8_lendAll 28 = .ok (.bipush (-2), 2) := by decide +kernel
theorem dX8_lendAll_30 : decode cX8_lendAll 30 = .ok (.ireturn, 1) := by decide +kernel
theorem dX8_lendAll_31 : decode cX8_lendAll 31 = .ok (.aload_n 0, 1) := by decide +kernel
theorem dX8_lendAll_32 : decode cX8_lendAll 32 = .ok (.getfield 10, 3) := by decide +kernel
theorem dX8_lendAll_35 : decode cX8_lendAll 35 = .ok (.invokevirtual 298, 3) := by decide +kernel
theorem dX8_lendAll_38 : decode cX8_lendAll 38 = .ok (.istore 4, 2) := by decide +kernel
theorem dX8_lendAll_40 : decode cX8_lendAll 40 = .ok (.iload 4, 2) := by decide +kernel
theorem dX8_lendAll_42 : decode cX8_lendAll 42 = .ok (.ifCond .ne 10, 3) := by decide +kernel
theorem dX8_lendAll_45 : decode cX8_lendAll 45 = .ok (.aload_n 0, 1) := by decide +kernel
theorem dX8_lendAll_46 : decode cX8_lendAll 46 = .ok (.bipush 6, 2) := by decide +kernel
theorem dX8_lendAll_48 : decode cX8_lendAll 48 = .ok (.invokevirtual 120, 3) := by decide +kernel
theorem dX8_lendAll_51 : decode cX8_lendAll 51 = .ok (.ireturn, 1) := by decide +kernel
theorem dX8_lendAll_52 : decode cX8_lendAll 52 = .ok (.aload_n 0, 1) := by decide +kernel
theorem dX8_lendAll_53 : decode cX8_lendAll 53 = .ok (.getfield 10, 3) := by decide +kernel
theorem dX8_lendAll_56 : decode cX8_lendAll 56 = .ok (.iload_n 2, 1) := by decide +kernel
theorem dX8_lendAll_57 : decode cX8_lendAll 57 = .ok (.invokevirtual 301, 3) := by decide +kernel
theorem dX8_lendAll_60 : decode cX8_lendAll 60 = .ok (.ifCond .ne 9, 3) := by decide +kernel
theorem dX8_lendAll_63 : decode cX8_lendAll 63 = .ok (.aload_n 0, 1) := by decide +kernel
theorem dX8_lendAll_64 : decode cX8_lendAll 64 = .ok (.iconst 1, 1) := by decide +kernel
theorem dX8_lendAll_65 : decode cX8_lendAll 65 = .ok (.invokevirtual 120, 3) := by decide +kernel
theorem dX8_lendAll_68 : decode cX8_lendAll 68 = .ok (.ireturn, 1) := by decide +kernel
theorem dX8_lendAll_69 : decode cX8_lendAll 69 = .ok (.aload_n 0, 1) := by decide +kernel
theorem dX8_lendAll_70 : decode cX8_lendAll 70 = .ok (.getfield 10, 3) := by decide +kernel
theorem dX8_lendAll_73 : decode cX8_lendAll 73 = .ok (.iload_n 1, 1) := by decide +kernel
theorem dX8_lendAll_74 : decode cX8_lendAll 74 = .ok (.iconst 3, 1) := by decide +kernel
theorem dX8_lendAll_75 : decode cX8_lendAll 75 = .ok (.invokevirtual 289, 3) := by decide +kernel
theorem dX8_lendAll_78 : decode cX8_lendAll 78 = .ok (.ifCond .le 9, 3) := by decide +kernel
theorem dX8_lendAll_81 : decode cX8_lendAll 81 = .ok (.aload_n 0, 1) := by decide +kernel
theorem dX8_lendAll_82 : decode cX8_lendAll 82 = .ok (.iconst 2, 1) := by decide +kernel
theorem dX8_lendAll_83 : decode cX8_lendAll 83 = .ok (.invokevirtual 120, 3) := by decide +kernel
theorem dX8_lendAll_86 : decode cX8_lendAll 86 = .ok (.ireturn, 1) := by decide +kernel
theorem dX8_lendAll_87 : decode cX8_lendAll 87 = .ok (.aload_n 0, 1) := by decide +kernel
theorem dX8_lendAll_88 : decode cX8_lendAll 88 = .ok (.getfield 10, 3) := by decide +kernel
theorem dX8_lendAll_91 : decode cX8_lendAll 91 = .ok (.getfield 292, 3) := by decide +kernel
theorem dX8_lendAll_94 : decode cX8_lendAll 94 = .ok (.iload 4, 2) := by decide +kernel
theorem dX8_lendAll_96 : decode cX8_lendAll 96 = .ok (.iadd, 1) := by decide +kernel
theorem dX8_lendAll_97 : decode cX8_lendAll 97 = .ok (.bipush 20, 2) := by decide +kernel
theorem dX8_lendAll_99 : decode cX8_lendAll 99 = .ok (.if_icmp .le 9, 3) := by decide +kernel
theorem dX8_lendAll_102 : decode cX8_lendAll 102 = .ok (.aload_n 0, 1) := by decide +kernel
theorem dX8_lendAll_103 : decode cX8_lendAll 103 = .ok (.iconst 3, 1) := by decide +kernel
theorem dX8_lendAll_104 : decode cX8_lendAll 104 = .ok (.invokevirtual 120, 3) := by decide +kernel
theorem dX8_lendAll_107 : decode cX8_lendAll 107 = .ok (.ireturn, 1) := by decide +kernel
theorem dX8_lendAll_108 : decode cX8_lendAll 108 = .ok (.aload_n 0, 1) := by decide +kernel
theorem dX8_lendAll_109 : decode cX8_lendAll 109 = .ok (.getfield 22, 3) := by decide +kernel
theorem dX8_lendAll_112 : decode cX8_lendAll 112 = .ok (.aload_n 0, 1) := by decide +kernel
theorem dX8_lendAll_113 : decode cX8_lendAll 113 = .ok (.getfield 10, 3) := by decide +kernel
theorem dX8_lendAll_116 : decode cX8_lendAll 116 = .ok (.invokevirtual 79, 3) := by decide +kernel
theorem dX8_lendAll_119 : decode cX8_lendAll 119 = .ok (.aload_n 0, 1) := by decide +kernel
theorem dX8_lendAll_120 : decode cX8_lendAll 120 = .ok (.getfield 10, 3) := by decide +kernel
theorem dX8_lendAll_123 : decode cX8_lendAll 123 = .ok (.iload_n 1, 1) := by decide +kernel
theorem dX8_lendAll_124 : decode cX8_lendAll 124 = .ok (.iload_n 2, 1) := by decide +kernel
theorem dX8_lendAll_125 : decode cX8_lendAll 125 = .ok (.iload_n 3, 1) := by decide +kernel
theorem dX8_lendAll_126 : decode cX8_lendAll 126 = .ok (.invokevirtual 304, 3) := by decide +kernel
theorem dX8_lendAll_129 : decode cX8_lendAll 129 = .ok (.iload 4, 2) := by decide +kernel
theorem dX8_lendAll_131 : decode cX8_lendAll 131 = .ok (.ireturn, 1) := by decide +kernel
theorem dX8_bring_0 : decode cX8_bring 0 = .ok (.aload_n 0, 1) := by decide +kernel
theorem dX8_bring_1 : decode cX8_bring 1 = .ok (.getfield 22, 3) := by decide +kernel
theorem dX8_bring_4 : decode cX8_bring 4 = .ok (.aload_n 0, 1) := by decide +kernel
theorem dX8_bring_5 : decode cX8_bring 5 = .ok (.getfield 10, 3) := by decide +kernel
theorem dX8_bring_8 : decode cX8_bring 8 = .ok (.invokevirtual 94, 3) := by decide +kernel
theorem dX8_bring_11 : decode cX8_bring 11 = .ok (.aload_n 0, 1) := by decide +kernel
theorem dX8_bring_12 : decode cX8_bring 12 = .ok (.aload_n 0, 1) := by decide +kernel
theorem dX8_bring_13 : decode cX8_bring 13 = .ok (.iload_n 1, 1) := by decide +kernel
theorem dX8_bring_14 : decode cX8_bring 14 = .ok (.iload_n 2, 1) := by decide +kernel
theorem dX8_bring_15 : decode cX8_bring 15 = .ok (.iload_n 3, 1) := by decide +kernel
theorem dX8_bring_16 : decode cX8_bring 16 = .ok (.invokevirtual 308, 3) := by decide +kernel
theorem dX8_bring_19 : decode cX8_bring 19 = .ok (.invokevirtual 100, 3) := by decide +kernel
theorem dX8_bring_22 : decode cX8_bring 22 = .ok (.ireturn, 1) := by decide +kernel
theorem dX8_bringBack_0 : decode cX8_bringBack 0 = .ok (.aload_n 0, 1) := by decide +kernel
theorem dX8_bringBack_1 : decode cX8_bringBack 1 = .ok (.iload_n 1, 1) := by decide +kernel
theorem dX8_bringBack_2 : decode cX8_bringBack 2 = .ok (.invokevirtual 311, 3) := by decide +kernel
theorem dX8_bringBack_5 : decode cX8_bringBack 5 = .ok (.ifCond .ne 5, 3) := by decide +kernel
theorem dX8_bringBack_8 : decode cX8_bringBack 8 = .ok (.iconst (-1), 1) := by decide +kernel
theorem dX8_bringBack_9 : decode cX8_bringBack 9 = .ok (.ireturn, 1) := by decide +kernel
theorem dX8_bringBack_10 : decode cX8_bringBack 10 = .ok (.iload_n 2, 1) := by decide +kernel
theorem dX8_bringBack_11 : decode cX8_bringBack 11 = .ok (.iconst 0, 1) := by decide +kernel
theorem dX8_bringBack_12 : decode cX8_bringBack 12 = .ok (.bipush 30, 2) := by decide +kernel
theorem dX8_bringBack_14 : decode cX8_bringBack 14 = .ok (.invokestatic 68, 3) := by decide +kernel
theorem dX8_bringBack_17 : decode cX8_bringBack 17 = .ok (.ifCond .eq 19, 3) := by decide +kernel
theorem dX8_bringBack_20 : decode cX8_bringBack 20 = .ok (.iload_n 3, 1) := by decide +kernel
theorem dX8_bringBack_21 : decode cX8_bringBack 21 = .ok (.iconst 0, 1) := by decide +kernel
theorem dX8_bringBack_22 : decode cX8_bringBack 22 = .ok (.bipush 30, 2) := by decide +kernel
theorem dX8_bringBack_24 : decode cX8_bringBack 24 = .ok (.invokestatic 68, 3) := by decide +kernel
theorem dX8_bringBack_27 : decode cX8_bringBack 27 = .ok (.ifCond .eq 9, 3) := by decide +kernel
theorem dX8_bringBack_30 : decode cX8_bringBack 30 = .ok (.iload_n 2, 1) := by decide +kernel
theorem dX8_bringBack_31 : decode cX8_bringBack 31 = .ok (.iload_n 3, 1) := by decide +kernel
theorem dX8_bringBack_32 : decode cX8_bringBack 32 = .ok (.iadd, 1) := by decide +kernel
theorem dX8_bringBack_33 : decode cX8_bringBack 33 = .ok (.ifCond .ne 6, 3) := by decide +kernel
theorem dX8_bringBack_36 : decode cX8_bringBack 36 = .ok (.bipush (-2), 2) := by decide +kernel
theorem dX8_bringBack_38 : decode cX8_bringBack 38 = .ok (.ireturn, 1) := by decide +kernel
theorem dX8_bringBack_39 : decode cX8_bringBack 39 = .ok (.iload_n 2, 1) := by decide +kernel
theorem dX8_bringBack_40 : decode cX8_bringBack 40 = .ok (.iload_n 3, 1) := by decide +kernel
theorem dX8_bringBack_41 : decode cX8_bringBack 41 = .ok (.iadd, 1) := by decide +kernel
theorem dX8_bringBack_42 : decode cX8_bringBack 42 = .ok (.aload_n 0, 1) := by decide +kernel
theorem dX8_bringBack_43 : decode cX8_bringBack 43 = .ok (.getfield 10, 3) := by decide +kernel
theorem dX8_bringBack_46 : decode cX8_bringBack 46 = .ok (.getfield 314, 3) := by decide +kernel
theorem dX8_bringBack_49 : decode cX8_bringBack 49 = .ok (.iload_n 1, 1) := by decide +kernel
theorem dX8_bringBack_50 : decode cX8_bringBack 50 = .ok (.aaload, 1) := by decide +kernel
theorem dX8_bringBack_51 : decode cX8_bringBack 51 = .ok (.getfield 318, 3) := by decide +kernel
theorem dX8_bringBack_54 : decode cX8_bringBack 54 = .ok (.if_icmp .le 9, 3) := by decide +kernel
theorem dX8_bringBack_57 : decode cX8_bringBack 57 = .ok (.aload_n 0, 1) := by decide +kernel
theorem dX8_bringBack_58 : decode cX8_bringBack 58 = .ok (.iconst 5, 1) := by decide +kernel
theorem dX8_bringBack_59 : decode cX8_bringBack 59 = .ok (.invokevirtual 120, 3) := by decide +kernel
theorem dX8_bringBack_62 : decode cX8_bringBack 62 = .ok (.ireturn, 1) := by decide +kernel
theorem dX8_bringBack_63 : decode cX8_bringBack 63 = .ok (.aload_n 0, 1) := by decide +kernel
theorem dX8_bringBack_64 : decode cX8_bringBack 64 = .ok (.getfield 10, 3) := by decide +kernel
theorem dX8_bringBack_67 : decode cX8_bringBack 67 = .ok (.iload_n 1, 1) := by decide +kernel
theorem dX8_bringBack_68 : decode cX8_bringBack 68 = .ok (.iload_n 2, 1) := by decide +kernel
theorem dX8_bringBack_69 : decode cX8_bringBack 69 = .ok (.iload_n 3, 1) := by decide +kernel
theorem dX8_bringBack_70 : decode cX8_bringBack 70 = .ok (.invokevirtual 323, 3) := by decide +kernel
theorem dX8_bringBack_73 : decode cX8_bringBack 73 = .ok (.ireturn, 1) := by decide +kernel
theorem dX8_loan_0 : decode cX8_loan 0 = .ok (.aload_n 0, 1) := by decide +kernel
theorem dX8_loan_1 : decode cX8_loan 1 = .ok (.iload_n 1, 1) := by decide +kernel
theorem dX8_loan_2 : decode cX8_loan 2 = .ok (.invokevirtual 311, 3) := by decide +kernel
theorem dX8_loan_5 : decode cX8_loan 5 = .ok (.ifCond .ne 5, 3) := by decide +kernel
theorem dX8_loan_8 : decode cX8_loan 8 = .ok (.iconst (-1), 1) := by decide +kernel
theorem dX8_loan_9 : decode cX8_loan 9 = .ok (.ireturn, 1) := by decide +kernel
theorem dX8_loan_10 : decode cX8_loan 10 = .ok (.aload_n 0, 1) := by decide +kernel
theorem dX8_loan_11 : decode cX8_loan 11 = .ok (.getfield 10, 3) := by decide +kernel
theorem dX8_loan_14 : decode cX8_loan 14 = .ok (.getfield 314, 3) := by decide +kernel
theorem dX8_loan_17 : decode cX8_loan 17 = .ok (.iload_n 1, 1) := by decide +kernel
theorem dX8_loan_18 : decode cX8_loan 18 = .ok (.aaload, 1) := by decide +kernel
theorem dX8_loan_19 : decode cX8_loan 19 = .ok (.astore_n 3, 1) := by decide +kernel
theorem dX8_loan_20 : decode cX8_loan 20 = .ok (.iload_n 2, 1) := by decide +kernel
theorem dX8_loan_21 : decode cX8_loan 21 = .ok (.tableswitch 102 0 7 #[47, 52, 57, 62, 67, 72, 77, 82], 47) := by decide +kernel
theorem dX8_loan_68 : decode cX8_loan 68 = .ok (.aload_n 3, 1) := by decide +kernel
theorem dX8_loan_69 : decode cX8_loan 69 = .ok (.getfield 326, 3) := by decide +kernel
theorem dX8_loan_72 : decode cX8_loan 72 = .ok (.ireturn, 1) := by decide +kernel
theorem dX8_loan_73 : decode cX8_loan 73 = .ok (.aload_n 3, 1) := by decide +kernel
theorem dX8_loan_74 : decode cX8_loan 74 = .ok (.getfield 329, 3) := by decide +kernel
theorem dX8_loan_77 : decode cX8_loan 77 = .ok (.ireturn, 1) := by decide +kernel
theorem dX8_loan_78 : decode cX8_loan 78 = .ok (.aload_n 3, 1) := by decide +kernel
theorem dX8_loan_79 : decode cX8_loan 79 = .ok (.getfield 332, 3) := by decide +kernel
theorem dX8_loan_82 : decode cX8_loan 82 = .ok (.ireturn, 1) := by decide +kernel
theorem dX8_loan_83 : decode cX8_loan 83 = .ok (.aload_n 3, 1) := by decide +kernel
theorem dX8_loan_84 : decode cX8_loan 84 = .ok (.getfield 335, 3) := by decide +kernel
theorem dX8_loan_87 : decode cX8_loan 87 = .ok (.ireturn, 1) := by decide +kernel
theorem dX8_loan_88 : decode cX8_loan 88 = .ok (.aload_n 3, 1) := by decide +kernel
theorem dX8_loan_89 : decode cX8_loan 89 = .ok (.getfield 318, 3) := by decide +kernel
theorem dX8_loan_92 : decode cX8_loan 92 = .ok (.ireturn, 1) := by decide +kernel
theorem dX8_loan_93 : decode cX8_loan 93 = .ok (.aload_n 3, 1) := by decide +kernel
theorem dX8_loan_94 : decode cX8_loan 94 = .ok (.getfield 338, 3) := by decide +kernel
theorem dX8_loan_97 : decode cX8_loan 97 = .ok (.ireturn, 1) := by decide +kernel
theorem dX8_loan_98 : decode cX8_loan 98 = .ok (.aload_n 3, 1) := by decide +kernel
theorem dX8_loan_99 : decode cX8_loan 99 = .ok (.getfield 341, 3) := by decide +kernel
theorem dX8_loan_102 : decode cX8_loan 102 = .ok (.ireturn, 1) := by decide +kernel
theorem dX8_loan_103 : decode cX8_loan 103 = .ok (.aload_n 3, 1) := by decide +kernel
theorem dX8_loan_104 : decode cX8_loan 104 = .ok (.aload_n 0, 1) := by decide +kernel
theorem dX8_loan_105 : decode cX8_loan 105 = .ok (.getfield 10, 3) := by decide +kernel
theorem dX8_loan_108 : decode cX8_loan 108 = .ok (.getfield 344, 3) := by decide +kernel
theorem dX8_loan_111 : decode cX8_loan 111 = .ok (.invokevirtual 347, 3) := by decide +kernel
theorem dX8_loan_114 : decode cX8_loan 114 = .ok (.ifCond .eq 7, 3) := by decide +kernel
theorem dX8_loan_117 : decode cX8_loan 117 = .ok (.iconst 1, 1) := by decide +kernel
theorem dX8_loan_118 : decode cX8_loan 118 = .ok (.goto 4, 3) := by decide +kernel
theorem dX8_loan_121 : decode cX8_loan 121 = .ok (.iconst 0, 1) := by decide +kernel
theorem dX8_loan_122 : decode cX8_loan 122 = .ok (.ireturn, 1) := by decide +kernel
theorem dX8_loan_123 : decode cX8_loan 123 = .ok (.iconst (-1), 1) := by decide +kernel
theorem dX8_loan_124 : decode cX8_loan 124 = .ok (.ireturn, 1) := by decide +kernel
theorem dX8_overdue_0 : decode cX8_overdue 0 = .ok (.iload_n 1, 1) := by decide +kernel
theorem dX8_overdue_1 : decode cX8_overdue 1 = .ok (.ifCond .ge 7, 3) := by decide +kernel
theorem dX8_overdue_4 : decode cX8_overdue 4 = .ok (.iconst (-1), 1) := by decide +kernel
theorem dX8_overdue_5 : decode cX8_overdue 5 = .ok (.goto 11, 3) := by decide +kernel
theorem dX8_overdue_8 : decode cX8_overdue 8 = .ok (.aload_n 0, 1) := by decide +kernel
theorem dX8_overdue_9 : decode cX8_overdue 9 = .ok (.getfield 10, 3) := by decide +kernel
theorem dX8_overdue_12 : decode cX8_overdue 12 = .ok (.iload_n 1, 1) := by decide +kernel
theorem dX8_overdue_13 : decode cX8_overdue 13 = .ok (.invokevirtual 350, 3) := by decide +kernel
theorem dX8_overdue_16 : decode cX8_overdue 16 = .ok (.ireturn, 1) := by decide +kernel
theorem dX8_borrower_0 : decode cX8_borrower 0 = .ok (.iload_n 1, 1) := by decide +kernel
theorem dX8_borrower_1 : decode cX8_borrower 1 = .ok (.invokestatic 286, 3) := by decide +kernel
theorem dX8_borrower_4 : decode cX8_borrower 4 = .ok (.ifCond .eq 12, 3) := by decide +kernel
theorem dX8_borrower_7 : decode cX8_borrower 7 = .ok (.iload_n 2, 1) := by decide +kernel
theorem dX8_borrower_8 : decode cX8_borrower 8 = .ok (.iconst 0, 1) := by decide +kernel
theorem dX8_borrower_9 : decode cX8_borrower 9 = .ok (.iconst 3, 1) := by decide +kernel
theorem dX8_borrower_10 : decode cX8_borrower 10 = .ok (.invokestatic 68, 3) := by decide +kernel
theorem dX8_borrower_13 : decode cX8_borrower 13 = .ok (.ifCond .ne 5, 3) := by decide +kernel
theorem dX8_borrower_16 : decode cX8_borrower 16 = .ok (.iconst (-1), 1) := by decide +kernel
theorem dX8_borrower_17 : decode cX8_borrower 17 = .ok (.ireturn, 1) := by decide +kernel
theorem dX8_borrower_18 : decode cX8_borrower 18 = .ok (.aload_n 0, 1) := by decide +kernel
theorem dX8_borrower_19 : decode cX8_borrower 19 = .ok (.getfield 10, 3) := by decide +kernel
theorem dX8_borrower_22 : decode cX8_borrower 22 = .ok (.iload_n 1, 1) := by decide +kernel
theorem dX8_borrower_23 : decode cX8_borrower 23 = .ok (.iload_n 2, 1) := by decide +kernel
theorem dX8_borrower_24 : decode cX8_borrower 24 = .ok (.invokevirtual 289, 3) := by decide +kernel
theorem dX8_borrower_27 : decode cX8_borrower 27 = .ok (.ireturn, 1) := by decide +kernel
theorem dX8_pass_0 : decode cX8_pass 0 = .ok (.iload_n 1, 1) := by decide +kernel
theorem dX8_pass_1 : decode cX8_pass 1 = .ok (.iconst 1, 1) := by decide +kernel
theorem dX8_pass_2 : decode cX8_pass 2 = .ok (.sipush 999, 3) := by decide +kernel
theorem dX8_pass_5 : decode cX8_pass 5 = .ok (.invokestatic 68, 3) := by decide +kernel
theorem dX8_pass_8 : decode cX8_pass 8 = .ok (.ifCond .ne 6, 3) := by decide +kernel
theorem dX8_pass_11 : decode cX8_pass 11 = .ok (.bipush (-2), 2) := by decide +kernel
theorem dX8_pass_13 : decode cX8_pass 13 = .ok (.ireturn, 1) := by decide +kernel
theorem dX8_pass_14 : decode cX8_pass 14 = .ok (.aload_n 0, 1) := by decide +kernel
theorem dX8_pass_15 : decode cX8_pass 15 = .ok (.getfield 10, 3) := by decide +kernel
theorem dX8_pass_18 : decode cX8_pass 18 = .ok (.getfield 344, 3) := by decide +kernel
theorem dX8_pass_21 : decode cX8_pass 21 = .ok (.iload_n 1, 1) := by decide +kernel
theorem dX8_pass_22 : decode cX8_pass 22 = .ok (.iadd, 1) := by decide +kernel
theorem dX8_pass_23 : decode cX8_pass 23 = .ok (.sipush 9999, 3) := by decide +kernel
theorem dX8_pass_26 : decode cX8_pass 26 = .ok (.if_icmp .le 6, 3) := by decide +kernel
theorem dX8_pass_29 : decode cX8_pass 29 = .ok (.bipush (-4), 2) := by decide +kernel
theorem dX8_pass_31 : decode cX8_pass 31 = .ok (.ireturn, 1) := by decide +kernel
theorem dX8_pass_32 : decode cX8_pass 32 = .ok (.aload_n 0, 1) := by decide +kernel
theorem dX8_pass_33 : decode cX8_pass 33 = .ok (.getfield 22, 3) := by decide +kernel
theorem dX8_pass_36 : decode cX8_pass 36 = .ok (.aload_n 0, 1) := by decide +kernel
theorem dX8_pass_37 : decode cX8_pass 37 = .ok (.getfield 10, 3) := by decide +kernel
theorem dX8_pass_40 : decode cX8_pass 40 = .ok (.invokevirtual 79, 3) := by decide +kernel
theorem dX8_pass_43 : decode cX8_pass 43 = .ok (.aload_n 0, 1) := by decide +kernel
theorem dX8_pass_44 : decode cX8_pass 44 = .ok (.getfield 10, 3) := by decide +kernel
theorem dX8_pass_47 : decode cX8_pass 47 = .ok (.dup, 1) := by decide +kernel
theorem dX8_pass_48 : decode cX8_pass 48 = .ok (.getfield 344, 3) := by decide +kernel
theorem dX8_pass_51 : decode cX8_pass 51 = .ok (.iload_n 1, 1) := by decide +kernel
theorem dX8_pass_52 : decode cX8_pass 52 = .ok (.iadd, 1) := by decide +kernel
theorem dX8_pass_53 : decode cX8_pass 53 = .ok (.putfield 344, 3) := by decide +kernel
theorem dX8_pass_56 : decode cX8_pass 56 = .ok (.aload_n 0, 1) := by decide +kernel
theorem dX8_pass_57 : decode cX8_pass 57 = .ok (.getfield 10, 3) := by decide +kernel
theorem dX8_pass_60 : decode cX8_pass 60 = .ok (.getfield 344, 3) := by decide +kernel
theorem dX8_pass_63 : decode cX8_pass 63 = .ok (.ireturn, 1) := by decide +kernel
theorem dX8_box_0 : decode cX8_box 0 = .ok (.iload_n 1, 1) := by decide +kernel
theorem dX8_box_1 : decode cX8_box 1 = .ok (.invokestatic 353, 3) := by decide +kernel
theorem dX8_box_4 : decode cX8_box 4 = .ok (.ifCond .ne 5, 3) := by decide +kernel
theorem dX8_box_7 : decode cX8_box 7 = .ok (.iconst (-1), 1) := by decide +kernel
theorem dX8_box_8 : decode cX8_box 8 = .ok (.ireturn, 1) := by decide +kernel
theorem dX8_box_9 : decode cX8_box 9 = .ok (.iload_n 2, 1) := by decide +kernel
theorem dX8_box_10 : decode cX8_box 10 = .ok (.iconst 0, 1) := by decide +kernel
theorem dX8_box_11 : decode cX8_box 11 = .ok (.iconst 3, 1) := by decide +kernel
theorem dX8_box_12 : decode cX8_box 12 = .ok (.invokestatic 68, 3) := by decide +kernel
theorem dX8_box_15 : decode cX8_box 15 = .ok (.ifCond .eq 13, 3) := by decide +kernel
theorem dX8_box_18 : decode cX8_box 18 = .ok (.iload_n 3, 1) := by decide +kernel
theorem dX8_box_19 : decode cX8_box 19 = .ok (.iconst 0, 1) := by decide +kernel
theorem dX8_box_20 : decode cX8_box 20 = .ok (.bipush 8, 2) := by decide +kernel
theorem dX8_box_22 : decode cX8_box 22 = .ok (.invokestatic 68, 3) := by decide +kernel
theorem dX8_box_25 : decode cX8_box 25 = .ok (.ifCond .ne 6, 3) := by decide +kernel
theorem dX8_box_28 : decode cX8_box 28 = .ok (.bipush (-2), 2) := by decide +kernel
theorem dX8_box_30 : decode cX8_box 30 = .ok (.ireturn, 1) := by decide +kernel
theorem dX8_box_31 : decode cX8_box 31 = .ok (.aload_n 0, 1) := by decide +kernel
theorem dX8_box_32 : decode cX8_box 32 = .ok (.getfield 42, 3) := by decide +kernel
theorem dX8_box_35 : decode cX8_box 35 = .ok (.iload_n 1, 1) := by decide +kernel
theorem dX8_box_36 : decode cX8_box 36 = .ok (.aaload, 1) := by decide +kernel
theorem dX8_box_37 : decode cX8_box 37 = .ok (.invokevirtual 356, 3) := by decide +kernel
theorem dX8_box_40 : decode cX8_box 40 = .ok (.istore 4, 2) := by decide +kernel
theorem dX8_box_42 : decode cX8_box 42 = .ok (.aload_n 0, 1) := by decide +kernel
theorem dX8_box_43 : decode cX8_box 43 = .ok (.getfield 42, 3) := by decide +kernel
theorem dX8_box_46 : decode cX8_box 46 = .ok (.iload_n 1, 1) := by decide +kernel
theorem dX8_box_47 : decode cX8_box 47 = .ok (.aaload, 1) := by decide +kernel
theorem dX8_box_48 : decode cX8_box 48 = .ok (.iload_n 2, 1) := by decide +kernel
theorem dX8_box_49 : decode cX8_box 49 = .ok (.iload_n 3, 1) := by decide +kernel
theorem dX8_box_50 : decode cX8_box 50 = .ok (.invokevirtual 359, 3) := by decide +kernel
theorem dX8_box_53 : decode cX8_box 53 = .ok (.iload 4, 2) := by decide +kernel
theorem dX8_box_55 : decode cX8_box 55 = .ok (.ireturn, 1) := by decide +kernel
theorem dX8_put_0 : decode cX8_put 0 = .ok (.aload_n 0, 1) := by decide +kernel
theorem dX8_put_1 : decode cX8_put 1 = .ok (.iload_n 1, 1) := by decide +kernel
theorem dX8_put_2 : decode cX8_put 2 = .ok (.iload_n 2, 1) := by decide +kernel
theorem dX8_put_3 : decode cX8_put 3 = .ok (.invokevirtual 362, 3) := by decide +kernel
theorem dX8_put_6 : decode cX8_put 6 = .ok (.ifCond .eq 11, 3) := by decide +kernel
theorem dX8_put_9 : decode cX8_put 9 = .ok (.aload_n 0, 1) := by decide +kernel
theorem dX8_put_10 : decode cX8_put 10 = .ok (.iload_n 3, 1) := by decide +kernel
theorem dX8_put_11 : decode cX8_put 11 = .ok (.invokevirtual 87, 3) := by decide +kernel
theorem dX8_put_14 : decode cX8_put 14 = .ok (.ifCond .ne 5, 3) := by decide +kernel
theorem dX8_put_17 : decode cX8_put 17 = .ok (.iconst (-1), 1) := by decide +kernel
theorem dX8_put_18 : decode cX8_put 18 = .ok (.ireturn, 1) := by decide +kernel
theorem dX8_put_19 : decode cX8_put 19 = .ok (.iload 4, 2) := by decide +kernel
theorem dX8_put_21 : decode cX8_put 21 = .ok (.iconst (-1), 1) := by decide +kernel
theorem dX8_put_22 : decode cX8_put 22 = .ok (.if_icmp .eq 13, 3) := by decide +kernel
theorem dX8_put_25 : decode cX8_put 25 = .ok (.iload 4, 2) := by decide +kernel
theorem dX8_put_27 : decode cX8_put 27 = .ok (.invokestatic 238, 3) := by decide +kernel
theorem dX8_put_30 : decode cX8_put 30 = .ok (.ifCond .ne 5, 3) := by decide +kernel
theorem dX8_put_33 : decode cX8_put 33 = .ok (.iconst (-1), 1) := by decide +kernel
theorem dX8_put_34 : decode cX8_put 34 = .ok (.ireturn, 1) := by decide +kernel
theorem dX8_put_35 : decode cX8_put 35 = .ok (.aload_n 0, 1) := by decide +kernel
theorem dX8_put_36 : decode cX8_put 36 = .ok (.getfield 42, 3) := by decide +kernel
theorem dX8_put_39 : decode cX8_put 39 = .ok (.iload_n 1, 1) := by decide +kernel
theorem dX8_put_40 : decode cX8_put 40 = .ok (.aaload, 1) := by decide +kernel
theorem dX8_put_41 : decode cX8_put 41 = .ok (.astore 5, 2) := by decide +kernel
theorem dX8_put_43 : decode cX8_put 43 = .ok (.aload 5, 2) := by decide +kernel
theorem dX8_put_45 : decode cX8_put 45 = .ok (.iload 4, 2) := by decide +kernel
theorem dX8_put_47 : decode cX8_put 47 = .ok (.invokevirtual 365, 3) := by decide +kernel
theorem dX8_put_50 : decode cX8_put 50 = .ok (.ifCond .ne 6, 3) := by decide +kernel
theorem dX8_put_53 : decode cX8_put 53 = .ok (.bipush (-6), 2) := by decide +kernel
theorem dX8_put_55 : decode cX8_put 55 = .ok (.ireturn, 1) := by decide +kernel
theorem dX8_put_56 : decode cX8_put 56 = .ok (.aload 5, 2) := by decide +kernel
theorem dX8_put_58 : decode cX8_put 58 = .ok (.iload_n 2, 1) := by decide +kernel
theorem dX8_put_59 : decode cX8_put 59 = .ok (.invokevirtual 368, 3) := by decide +kernel
theorem dX8_put_62 : decode cX8_put 62 = .ok (.istore 6, 2) := by decide +kernel
theorem dX8_put_64 : decode cX8_put 64 = .ok (.aload 5, 2) := by decide +kernel
theorem dX8_put_66 : decode cX8_put 66 = .ok (.getfield 371, 3) := by decide +kernel
theorem dX8_put_69 : decode cX8_put 69 = .ok (.iload_n 2, 1) := by decide +kernel
theorem dX8_put_70 : decode cX8_put 70 = .ok (.iload_n 3, 1) := by decide +kernel
theorem dX8_put_71 : decode cX8_put 71 = .ok (.iastore, 1) := by decide +kernel
theorem dX8_put_72 : decode cX8_put 72 = .ok (.aload 5, 2) := by decide +kernel
theorem dX8_put_74 : decode cX8_put 74 = .ok (.getfield 373, 3) := by decide +kernel
theorem dX8_put_77 : decode cX8_put 77 = .ok (.iload_n 2, 1) := by decide +kernel
theorem dX8_put_78 : decode cX8_put 78 = .ok (.iload 4, 2) := by decide +kernel
theorem dX8_put_80 : decode cX8_put 80 = .ok (.iastore, 1) := by decide +kernel
theorem dX8_put_81 : decode cX8_put 81 = .ok (.iload 6, 2) := by decide +kernel
theorem dX8_put_83 : decode cX8_put 83 = .ok (.ifCond .eq 7, 3) := by decide +kernel
theorem dX8_put_86 : decode cX8_put 86 = .ok (.iconst 1, 1) := by decide +kernel
theorem dX8_put_87 : decode cX8_put 87 = .ok (.goto 4, 3) := by decide +kernel
theorem dX8_put_90 : decode cX8_put 90 = .ok (.iconst 0, 1) := by decide +kernel
theorem dX8_put_91 : decode cX8_put 91 = .ok (.ireturn, 1) := by decide +kernel
theorem dX8_look_0 : decode cX8_look 0 = .ok (.aload_n 0, 1) := by decide +kernel
theorem dX8_look_1 : decode cX8_look 1 = .ok (.iload_n 1, 1) := by decide +kernel
theorem dX8_look_2 : decode cX8_look 2 = .ok (.iload_n 2, 1) := by decide +kernel
theorem dX8_look_3 : decode cX8_look 3 = .ok (.invokevirtual 362, 3) := by decide +kernel
theorem dX8_look_6 : decode cX8_look 6 = .ok (.ifCond .eq 12, 3) := by decide +kernel
theorem dX8_look_9 : decode cX8_look 9 = .ok (.iload_n 3, 1) := by decide +kernel
theorem dX8_look_10 : decode cX8_look 10 = .ok (.iconst 0, 1) := by decide +kernel
theorem dX8_look_11 : decode cX8_look 11 = .ok (.iconst 1, 1) := by decide +kernel
theorem dX8_look_12 : decode cX8_look 12 = .ok (.invokestatic 68, 3) := by decide +kernel
theorem dX8_look_15 : decode cX8_look 15 = .ok (.ifCond .ne 5, 3) := by decide +kernel
theorem dX8_look_18 : decode cX8_look 18 = .ok (.iconst (-1), 1) := by decide +kernel
theorem dX8_look_19 : decode cX8_look 19 = .ok (.ireturn, 1) := by decide +kernel
theorem dX8_look_20 : decode cX8_look 20 = .ok (.aload_n 0, 1) := by decide +kernel
theorem dX8_look_21 : decode cX8_look 21 = .ok (.getfield 42, 3) := by decide +kernel
theorem dX8_look_24 : decode cX8_look 24 = .ok (.iload_n 1, 1) := by decide +kernel
theorem dX8_look_25 : decode cX8_look 25 = .ok (.aaload, 1) := by decide +kernel
theorem dX8_look_26 : decode cX8_look 26 = .ok (.iload_n 2, 1) := by decide +kernel
theorem dX8_look_27 : decode cX8_look 27 = .ok (.invokevirtual 368, 3) := by decide +kernel
theorem dX8_look_30 : decode cX8_look 30 = .ok (.ifCond .eq 6, 3) := by decide +kernel
theorem dX8_look_33 : decode cX8_look 33 = .ok (.bipush (-7), 2) := by decide +kernel
theorem dX8_look_35 : decode cX8_look 35 = .ok (.ireturn, 1) := by decide +kernel
theorem dX8_look_36 : decode cX8_look 36 = .ok (.iload_n 3, 1) := by decide +kernel
theorem dX8_look_37 : decode cX8_look 37 = .ok (.ifCond .ne 17, 3) := by decide +kernel
theorem dX8_look_40 : decode cX8_look 40 = .ok (.aload_n 0, 1) := by decide +kernel
theorem dX8_look_41 : decode cX8_look 41 = .ok (.getfield 42, 3) := by decide +kernel
theorem dX8_look_44 : decode cX8_look 44 = .ok (.iload_n 1, 1) := by decide +kernel
theorem dX8_look_45 : decode cX8_look 45 = .ok (.aaload, 1) := by decide +kernel
theorem dX8_look_46 : decode cX8_look 46 = .ok (.getfield 371, 3) := by decide +kernel
theorem dX8_look_49 : decode cX8_look 49 = .ok (.iload_n 2, 1) := by decide +kernel
theorem dX8_look_50 : decode cX8_look 50 = .ok (.iaload, 1) := by decide +kernel
theorem dX8_look_51 : decode cX8_look 51 = .ok (.goto 14, 3) := by decide +kernel
theorem dX8_look_54 : decode cX8_look 54 = .ok (.aload_n 0, 1) := by decide +kernel
theorem dX8_look_55 : decode cX8_look 55 = .ok (.getfield 42, 3) := by decide +kernel
theorem dX8_look_58 : decode cX8_look 58 = .ok (.iload_n 1, 1) := by decide +kernel
theorem dX8_look_59 : decode cX8_look 59 = .ok (.aaload, 1) := by decide +kernel
theorem dX8_look_60 : decode cX8_look 60 = .ok (.getfield 373, 3) := by decide +kernel
theorem dX8_look_63 : decode cX8_look 63 = .ok (.iload_n 2, 1) := by decide +kernel
theorem dX8_look_64 : decode cX8_look 64 = .ok (.iaload, 1) := by decide +kernel
theorem dX8_look_65 : decode cX8_look 65 = .ok (.ireturn, 1) := by decide +kernel
theorem dX8_likeBox_0 : decode cX8_likeBox 0 = .ok (.iload_n 1, 1) := by decide +kernel
theorem dX8_likeBox_1 : decode cX8_likeBox 1 = .ok (.invokestatic 353, 3) := by decide +kernel
theorem dX8_likeBox_4 : decode cX8_likeBox 4 = .ok (.ifCond .eq 10, 3) := by decide +kernel
theorem dX8_likeBox_7 : decode cX8_likeBox 7 = .ok (.iload_n 2, 1) := by decide +kernel
theorem dX8_likeBox_8 : decode cX8_likeBox 8 = .ok (.invokestatic 353, 3) := by decide +kernel
theorem dX8_likeBox_11 : decode cX8_likeBox 11 = .ok (.ifCond .ne 5, 3) := by decide +kernel
theorem dX8_likeBox_14 : decode cX8_likeBox 14 = .ok (.iconst (-1), 1) := by decide +kernel
theorem dX8_likeBox_15 : decode cX8_likeBox 15 = .ok (.ireturn, 1) := by decide +kernel
theorem dX8_likeBox_16 : decode cX8_likeBox 16 = .ok (.aload_n 0, 1) := by decide +kernel
theorem dX8_likeBox_17 : decode cX8_likeBox 17 = .ok (.getfield 42, 3) := by decide +kernel
theorem dX8_likeBox_20 : decode cX8_likeBox 20 = .ok (.iload_n 2, 1) := by decide +kernel
theorem dX8_likeBox_21 : decode cX8_likeBox 21 = .ok (.aaload, 1) := by decide +kernel
theorem dX8_likeBox_22 : decode cX8_likeBox 22 = .ok (.aload_n 0, 1) := by decide +kernel
theorem dX8_likeBox_23 : decode cX8_likeBox 23 = .ok (.getfield 42, 3) := by decide +kernel
theorem dX8_likeBox_26 : decode cX8_likeBox 26 = .ok (.iload_n 1, 1) := by decide +kernel
theorem dX8_likeBox_27 : decode cX8_likeBox 27 = .ok (.aaload, 1) := by decide +kernel
theorem dX8_likeBox_28 : decode cX8_likeBox 28 = .ok (.invokevirtual 376, 3) := by decide +kernel
theorem dX8_likeBox_31 : decode cX8_likeBox 31 = .ok (.aload_n 0, 1) := by decide +kernel
theorem dX8_likeBox_32 : decode cX8_likeBox 32 = .ok (.getfield 42, 3) := by decide +kernel
theorem dX8_likeBox_35 : decode cX8_likeBox 35 = .ok (.iload_n 2, 1) := by decide +kernel
theorem dX8_likeBox_36 : decode cX8_likeBox 36 = .ok (.aaload, 1) := by decide +kernel
theorem dX8_likeBox_37 : decode cX8_likeBox 37 = .ok (.invokevirtual 356, 3) := by decide +kernel
theorem dX8_likeBox_40 : decode cX8_likeBox 40 = .ok (.ireturn, 1) := by decide +kernel
theorem dX8_append_0 : decode cX8_append 0 = .ok (.iload_n 1, 1) := by decide +kernel
theorem dX8_append_1 : decode cX8_append 1 = .ok (.bipush 32, 2) := by decide +kernel
theorem dX8_append_3 : decode cX8_append 3 = .ok (.bipush 126, 2) := by decide +kernel
theorem dX8_append_5 : decode cX8_append 5 = .ok (.invokestatic 68, 3) := by decide +kernel
theorem dX8_append_8 : decode cX8_append 8 = .ok (.ifCond .ne 6, 3) := by decide +kernel
theorem dX8_append_11 : decode cX8_append 11 = .ok (.bipush (-2), 2) := by decide +kernel
theorem dX8_append_13 : decode cX8_append 13 = .ok (.ireturn, 1) := by decide +kernel
theorem dX8_append_14 : decode cX8_append 14 = .ok (.aload_n 0, 1) := by decide +kernel
theorem dX8_append_15 : decode cX8_append 15 = .ok (.getfield 50, 3) := by decide +kernel
theorem dX8_append_18 : decode cX8_append 18 = .ok (.getfield 380, 3) := by decide +kernel
theorem dX8_append_21 : decode cX8_append 21 = .ok (.bipush 60, 2) := by decide +kernel
theorem dX8_append_23 : decode cX8_append 23 = .ok (.if_icmp .lt 6, 3) := by decide +kernel
theorem dX8_append_26 : decode cX8_append 26 = .ok (.bipush (-4), 2) := by decide +kernel
theorem dX8_append_28 : decode cX8_append 28 = .ok (.ireturn, 1) := by decide +kernel
theorem dX8_append_29 : decode cX8_append 29 = .ok (.aload_n 0, 1) := by decide +kernel
theorem dX8_append_30 : decode cX8_append 30 = .ok (.getfield 50, 3) := by decide +kernel
theorem dX8_append_33 : decode cX8_append 33 = .ok (.iload_n 1, 1) := by decide +kernel
theorem dX8_append_34 : decode cX8_append 34 = .ok (.i2c, 1) := by decide +kernel
theorem dX8_append_35 : decode cX8_append 35 = .ok (.invokevirtual 383, 3) := by decide +kernel
theorem dX8_append_38 : decode cX8_append 38 = .ok (.aload_n 0, 1) := by decide +kernel
theorem dX8_append_39 : decode cX8_append 39 = .ok (.getfield 50, 3) := by decide +kernel
theorem dX8_append_42 : decode cX8_append 42 = .ok (.getfield 380, 3) := by decide +kernel
theorem dX8_append_45 : decode cX8_append 45 = .ok (.ireturn, 1) := by decide +kernel
theorem dX8_read_0 : decode cX8_read 0 = .ok (.aload_n 0, 1) := by decide +kernel
theorem dX8_read_1 : decode cX8_read 1 = .ok (.aload_n 0, 1) := by decide +kernel
theorem dX8_read_2 : decode cX8_read 2 = .ok (.getfield 50, 3) := by decide +kernel
theorem dX8_read_5 : decode cX8_read 5 = .ok (.invokevirtual 387, 3) := by decide +kernel
theorem dX8_read_8 : decode cX8_read 8 = .ok (.putfield 58, 3) := by decide +kernel
theorem dX8_read_11 : decode cX8_read 11 = .ok (.aload_n 0, 1) := by decide +kernel
theorem dX8_read_12 : decode cX8_read 12 = .ok (.getfield 50, 3) := by decide +kernel
theorem dX8_read_15 : decode cX8_read 15 = .ok (.iconst 0, 1) := by decide +kernel
theorem dX8_read_16 : decode cX8_read 16 = .ok (.putfield 380, 3) := by decide +kernel
theorem dX8_read_19 : decode cX8_read 19 = .ok (.aload_n 0, 1) := by decide +kernel
theorem dX8_read_20 : decode cX8_read 20 = .ok (.getfield 58, 3) := by decide +kernel
theorem dX8_read_23 : decode cX8_read 23 = .ok (.bipush (-7), 2) := by decide +kernel
theorem dX8_read_25 : decode cX8_read 25 = .ok (.if_icmp .eq 6, 3) := by decide +kernel
theorem dX8_read_28 : decode cX8_read 28 = .ok (.bipush (-2), 2) := by decide +kernel
theorem dX8_read_30 : decode cX8_read 30 = .ok (.ireturn, 1) := by decide +kernel
theorem dX8_read_31 : decode cX8_read 31 = .ok (.aload_n 0, 1) := by decide +kernel
theorem dX8_read_32 : decode cX8_read 32 = .ok (.getfield 22, 3) := by decide +kernel
theorem dX8_read_35 : decode cX8_read 35 = .ok (.aload_n 0, 1) := by decide +kernel
theorem dX8_read_36 : decode cX8_read 36 = .ok (.getfield 10, 3) := by decide +kernel
theorem dX8_read_39 : decode cX8_read 39 = .ok (.invokevirtual 94, 3) := by decide +kernel
theorem dX8_read_42 : decode cX8_read 42 = .ok (.iconst 0, 1) := by decide +kernel
theorem dX8_read_43 : decode cX8_read 43 = .ok (.istore_n 1, 1) := by decide +kernel
theorem dX8_read_44 : decode cX8_read 44 = .ok (.iload_n 1, 1) := by decide +kernel
theorem dX8_read_45 : decode cX8_read 45 = .ok (.aload_n 0, 1) := by decide +kernel
theorem dX8_read_46 : decode cX8_read 46 = .ok (.getfield 50, 3) := by decide +kernel
theorem dX8_read_49 : decode cX8_read 49 = .ok (.getfield 390, 3) := by decide +kernel
theorem dX8_read_52 : decode cX8_read 52 = .ok (.if_icmp .ge 39, 3) := by decide +kernel
theorem dX8_read_55 : decode cX8_read 55 = .ok (.aload_n 0, 1) := by decide +kernel
theorem dX8_read_56 : decode cX8_read 56 = .ok (.iload_n 1, 1) := by decide +kernel
theorem dX8_read_57 : decode cX8_read 57 = .ok (.invokevirtual 393, 3) := by decide +kernel
theorem dX8_read_60 : decode cX8_read 60 = .ok (.invokestatic 396, 3) := by decide +kernel
theorem dX8_read_63 : decode cX8_read 63 = .ok (.ifCond .eq 22, 3) := by decide +kernel
theorem dX8_read_66 : decode cX8_read 66 = .ok (.aload_n 0, 1) := by decide +kernel
theorem dX8_read_67 : decode cX8_read 67 = .ok (.iload_n 1, 1) := by decide +kernel
theorem dX8_read_68 : decode cX8_read 68 = .ok (.putfield 62, 3) := by decide +kernel
theorem dX8_read_71 : decode cX8_read 71 = .ok (.aload_n 0, 1) := by decide +kernel
theorem dX8_read_72 : decode cX8_read 72 = .ok (.getfield 22, 3) := by decide +kernel
theorem dX8_read_75 : decode cX8_read 75 = .ok (.aload_n 0, 1) := by decide +kernel
theorem dX8_read_76 : decode cX8_read 76 = .ok (.getfield 10, 3) := by decide +kernel
theorem dX8_read_79 : decode cX8_read 79 = .ok (.invokevirtual 399, 3) := by decide +kernel
theorem dX8_read_82 : decode cX8_read 82 = .ok (.bipush (-3), 2) := by decide +kernel
theorem dX8_read_84 : decode cX8_read 84 = .ok (.ireturn, 1) := by decide +kernel
theorem dX8_read_85 : decode cX8_read 85 = .ok (.iinc 1 1, 3) := by decide +kernel
theorem dX8_read_88 : decode cX8_read 88 = .ok (.goto (-44), 3) := by decide +kernel
theorem dX8_read_91 : decode cX8_read 91 = .ok (.aload_n 0, 1) := by decide +kernel
theorem dX8_read_92 : decode cX8_read 92 = .ok (.getfield 22, 3) := by decide +kernel
theorem dX8_read_95 : decode cX8_read 95 = .ok (.invokevirtual 401, 3) := by decide +kernel
theorem dX8_read_98 : decode cX8_read 98 = .ok (.aload_n 0, 1) := by decide +kernel
theorem dX8_read_99 : decode cX8_read 99 = .ok (.getfield 50, 3) := by decide +kernel
theorem dX8_read_102 : decode cX8_read 102 = .ok (.getfield 390, 3) := by decide +kernel
theorem dX8_read_105 : decode cX8_read 105 = .ok (.ireturn, 1) := by decide +kernel
theorem dX8_carryOut_0 : decode cX8_carryOut 0 = .ok (.aload_n 0, 1) := by decide +kernel
theorem dX8_carryOut_1 : decode cX8_carryOut 1 = .ok (.getfield 50, 3) := by decide +kernel
theorem dX8_carryOut_4 : decode cX8_carryOut 4 = .ok (.getfield 404, 3) := by decide +kernel
theorem dX8_carryOut_7 : decode cX8_carryOut 7 = .ok (.iload_n 1, 1) := by decide +kernel
theorem dX8_carryOut_8 : decode cX8_carryOut 8 = .ok (.aaload, 1) := by decide +kernel
theorem dX8_carryOut_9 : decode cX8_carryOut 9 = .ok (.astore_n 2, 1) := by decide +kernel
theorem dX8_carryOut_10 : decode cX8_carryOut 10 = .ok (.aload_n 0, 1) := by decide +kernel
theorem dX8_carryOut_11 : decode cX8_carryOut 11 = .ok (.getfield 50, 3) := by decide +kernel
theorem dX8_carryOut_14 : decode cX8_carryOut 14 = .ok (.getfield 407, 3) := by decide +kernel
theorem dX8_carryOut_17 : decode cX8_carryOut 17 = .ok (.iload_n 1, 1) := by decide +kernel
theorem dX8_carryOut_18 : decode cX8_carryOut 18 = .ok (.caload, 1) := by decide +kernel
theorem dX8_carryOut_19 : decode cX8_carryOut 19 = .ok (.lookupswitch 153 #[(98, 116), (99, 57), (105, 71), (108, 133), (116, 102), (119, 88)], 57) := by decide +kernel
theorem dX8_carryOut_76 : decode cX8_carryOut 76 = .ok (.aload_n 0, 1) := by decide +kernel
theorem dX8_carryOut_77 : decode cX8_carryOut 77 = .ok (.aload_n 2, 1) := by decide +kernel
theorem dX8_carryOut_78 : decode cX8_carryOut 78 = .ok (.iconst 0, 1) := by decide +kernel
theorem dX8_carryOut_79 : decode cX8_carryOut 79 = .ok (.iaload, 1) := by decide +kernel
theorem dX8_carryOut_80 : decode cX8_carryOut 80 = .ok (.aload_n 2, 1) := by decide +kernel
theorem dX8_carryOut_81 : decode cX8_carryOut 81 = .ok (.iconst 1, 1) := by decide +kernel
theorem dX8_carryOut_82 : decode cX8_carryOut 82 = .ok (.iaload, 1) := by decide +kernel
theorem dX8_carryOut_83 : decode cX8_carryOut 83 = .ok (.aload_n 2, 1) := by decide +kernel
theorem dX8_carryOut_84 : decode cX8_carryOut 84 = .ok (.iconst 2, 1) := by decide +kernel
theorem dX8_carryOut_85 : decode cX8_carryOut 85 = .ok (.iaload, 1) := by decide +kernel
theorem dX8_carryOut_86 : decode cX8_carryOut 86 = .ok (.invokevirtual 97, 3) := by decide +kernel
theorem dX8_carryOut_89 : decode cX8_carryOut 89 = .ok (.ireturn, 1) := by decide +kernel
theorem dX8_carryOut_90 : decode cX8_carryOut 90 = .ok (.aload_n 0, 1) := by decide +kernel
theorem dX8_carryOut_91 : decode cX8_carryOut 91 = .ok (.aload_n 2, 1) := by decide +kernel
theorem dX8_carryOut_92 : decode cX8_carryOut 92 = .ok (.iconst 0, 1) := by decide +kernel
theorem dX8_carryOut_93 : decode cX8_carryOut 93 = .ok (.iaload, 1) := by decide +kernel
theorem dX8_carryOut_94 : decode cX8_carryOut 94 = .ok (.aload_n 2, 1) := by decide +kernel
theorem dX8_carryOut_95 : decode cX8_carryOut 95 = .ok (.iconst 1, 1) := by decide +kernel
theorem dX8_carryOut_96 : decode cX8_carryOut 96 = .ok (.iaload, 1) := by decide +kernel
theorem dX8_carryOut_97 : decode cX8_carryOut 97 = .ok (.aload_n 2, 1) := by decide +kernel
theorem dX8_carryOut_98 : decode cX8_carryOut 98 = .ok (.iconst 2, 1) := by decide +kernel
theorem dX8_carryOut_99 : decode cX8_carryOut 99 = .ok (.iaload, 1) := by decide +kernel
theorem dX8_carryOut_100 : decode cX8_carryOut 100 = .ok (.aload_n 2, 1) := by decide +kernel
theorem dX8_carryOut_101 : decode cX8_carryOut 101 = .ok (.iconst 3, 1) := by decide +kernel
theorem dX8_carryOut_102 : decode cX8_carryOut 102 = .ok (.iaload, 1) := by decide +kernel
theorem dX8_carryOut_103 : decode cX8_carryOut 103 = .ok (.invokevirtual 127, 3) := by decide +kernel
theorem dX8_carryOut_106 : decode cX8_carryOut 106 = .ok (.ireturn, 1) := by decide +kernel
theorem dX8_carryOut_107 : decode cX8_carryOut 107 = .ok (.aload_n 0, 1) := by decide +kernel
theorem dX8_carryOut_108 : decode cX8_carryOut 108 = .ok (.aload_n 2, 1) := by decide +kernel
theorem dX8_carryOut_109 : decode cX8_carryOut 109 = .ok (.iconst 0, 1) := by decide +kernel
theorem dX8_carryOut_110 : decode cX8_carryOut 110 = .ok (.iaload, 1) := by decide +kernel
theorem dX8_carryOut_111 : decode cX8_carryOut 111 = .ok (.aload_n 2, 1) := by decide +kernel
theorem dX8_carryOut_112 : decode cX8_carryOut 112 = .ok (.iconst 1, 1) := by decide +kernel
theorem dX8_carryOut_113 : decode cX8_carryOut 113 = .ok (.iaload, 1) := by decide +kernel
theorem dX8_carryOut_114 : decode cX8_carryOut 114 = .ok (.aload_n 2, 1) := by decide +kernel
theorem dX8_carryOut_115 : decode cX8_carryOut 115 = .ok (.iconst 2, 1) := by decide +kernel
theorem dX8_carryOut_116 : decode cX8_carryOut 116 = .ok (.iaload, 1) := by decide +kernel
theorem dX8_carryOut_117 : decode cX8_carryOut 117 = .ok (.invokevirtual 142, 3) := by decide +kernel
theorem dX8_carryOut_120 : decode cX8_carryOut 120 = .ok (.ireturn, 1) := by decide +kernel
theorem dX8_carryOut_121 : decode cX8_carryOut 121 = .ok (.aload_n 0, 1) := by decide +kernel
theorem dX8_carryOut_122 : decode cX8_carryOut 122 = .ok (.aload_n 2, 1) := by decide +kernel
theorem dX8_carryOut_123 : decode cX8_carryOut 123 = .ok (.iconst 0, 1) := by decide +kernel
theorem dX8_carryOut_124 : decode cX8_carryOut 124 = .ok (.iaload, 1) := by decide +kernel
theorem dX8_carryOut_125 : decode cX8_carryOut 125 = .ok (.aload_n 2, 1) := by decide +kernel
theorem dX8_carryOut_126 : decode cX8_carryOut 126 = .ok (.iconst 1, 1) := by decide +kernel
theorem dX8_carryOut_127 : decode cX8_carryOut 127 = .ok (.iaload, 1) := by decide +kernel
theorem dX8_carryOut_128 : decode cX8_carryOut 128 = .ok (.aload_n 2, 1) := by decide +kernel
theorem dX8_carryOut_129 : decode cX8_carryOut 129 = .ok (.iconst 2, 1) := by decide +kernel
theorem dX8_carryOut_130 : decode cX8_carryOut 130 = .ok (.iaload, 1) := by decide +kernel
theorem dX8_carryOut_131 : decode cX8_carryOut 131 = .ok (.invokevirtual 211, 3) := by decide +kernel
theorem dX8_carryOut_134 : decode cX8_carryOut 134 = .ok (.ireturn, 1) := by decide +kernel
theorem dX8_carryOut_135 : decode cX8_carryOut 135 = .ok (.aload_n 0, 1) := by decide +kernel
theorem dX8_carryOut_136 : decode cX8_carryOut 136 = .ok (.aload_n 2, 1) := by decide +kernel
theorem dX8_carryOut_137 : decode cX8_carryOut 137 = .ok (.iconst 0, 1) := by decide +kernel
theorem dX8_carryOut_138 : decode cX8_carryOut 138 = .ok (.iaload, 1) := by decide +kernel
theorem dX8_carryOut_139 : decode cX8_carryOut 139 = .ok (.aload_n 2, 1) := by decide +kernel
theorem dX8_carryOut_140 : decode cX8_carryOut 140 = .ok (.iconst 1, 1) := by decide +kernel
theorem dX8_carryOut_141 : decode cX8_carryOut 141 = .ok (.iaload, 1) := by decide +kernel
theorem dX8_carryOut_142 : decode cX8_carryOut 142 = .ok (.aload_n 2, 1) := by decide +kernel
theorem dX8_carryOut_143 : decode cX8_carryOut 143 = .ok (.iconst 2, 1) := by decide +kernel
theorem dX8_carryOut_144 : decode cX8_carryOut 144 = .ok (.iaload, 1) := by decide +kernel
theorem dX8_carryOut_145 : decode cX8_carryOut 145 = .ok (.aload_n 2, 1) := by decide +kernel
theorem dX8_carryOut_146 : decode cX8_carryOut 146 = .ok (.iconst 3, 1) := by decide +kernel
theorem dX8_carryOut_147 : decode cX8_carryOut 147 = .ok (.iaload, 1) := by decide +kernel
theorem dX8_carryOut_148 : decode cX8_carryOut 148 = .ok (.invokevirtual 253, 3) := by decide +kernel
theorem dX8_carryOut_151 : decode cX8_carryOut 151 = .ok (.ireturn, 1) := by decide +kernel
theorem dX8_carryOut_152 : decode cX8_carryOut 152 = .ok (.aload_n 0, 1) := by decide +kernel
theorem dX8_carryOut_153 : decode cX8_carryOut 153 = .ok (.aload_n 2, 1) := by decide +kernel
theorem dX8_carryOut_154 : decode cX8_carryOut 154 = .ok (.iconst 0, 1) := by decide +kernel
theorem dX8_carryOut_155 : decode cX8_carryOut 155 = .ok (.iaload, 1) := by decide +kernel
theorem dX8_carryOut_156 : decode cX8_carryOut 156 = .ok (.aload_n 2, 1) := by decide +kernel
theorem dX8_carryOut_157 : decode cX8_carryOut 157 = .ok (.iconst 1, 1) := by decide +kernel
theorem dX8_carryOut_158 : decode cX8_carryOut 158 = .ok (.iaload, 1) := by decide +kernel
theorem dX8_carryOut_159 : decode cX8_carryOut 159 = .ok (.aload_n 2, 1) := by decide +kernel
theorem dX8_carryOut_160 : decode cX8_carryOut 160 = .ok (.iconst 2, 1) := by decide +kernel
theorem dX8_carryOut_161 : decode cX8_carryOut 161 = .ok (.iaload, 1) := by decide +kernel
theorem dX8_carryOut_162 : decode cX8_carryOut 162 = .ok (.aload_n 2, 1) := by decide +kernel
theorem dX8_carryOut_163 : decode cX8_carryOut 163 = .ok (.iconst 3, 1) := by decide +kernel
theorem dX8_carryOut_164 : decode cX8_carryOut 164 = .ok (.iaload, 1) := by decide +kernel
theorem dX8_carryOut_165 : decode cX8_carryOut 165 = .ok (.aload_n 2, 1) := by decide +kernel
theorem dX8_carryOut_166 : decode cX8_carryOut 166 = .ok (.iconst 4, 1) := by decide +kernel
theorem dX8_carryOut_167 : decode cX8_carryOut 167 = .ok (.iaload, 1) := by decide +kernel
theorem dX8_carryOut_168 : decode cX8_carryOut 168 = .ok (.invokevirtual 282, 3) := by decide +kernel
theorem dX8_carryOut_171 : decode cX8_carryOut 171 = .ok (.ireturn, 1) := by decide +kernel
theorem dX8_carryOut_172 : decode cX8_carryOut 172 = .ok (.aload_n 0, 1) := by decide +kernel
theorem dX8_carryOut_173 : decode cX8_carryOut 173 = .ok (.aload_n 2, 1) := by decide +kernel
theorem dX8_carryOut_174 : decode cX8_carryOut 174 = .ok (.iconst 0, 1) := by decide +kernel
theorem dX8_carryOut_175 : decode cX8_carryOut 175 = .ok (.iaload, 1) := by decide +kernel
theorem dX8_carryOut_176 : decode cX8_carryOut 176 = .ok (.aload_n 2, 1) := by decide +kernel
theorem dX8_carryOut_177 : decode cX8_carryOut 177 = .ok (.iconst 1, 1) := by decide +kernel
theorem dX8_carryOut_178 : decode cX8_carryOut 178 = .ok (.iaload, 1) := by decide +kernel
theorem dX8_carryOut_179 : decode cX8_carryOut 179 = .ok (.aload_n 2, 1) := by decide +kernel
theorem dX8_carryOut_180 : decode cX8_carryOut 180 = .ok (.iconst 2, 1) := by decide +kernel
theorem dX8_carryOut_181 : decode cX8_carryOut 181 = .ok (.iaload, 1) := by decide +kernel
theorem dX8_carryOut_182 : decode cX8_carryOut 182 = .ok (.invokevirtual 308, 3) := by decide +kernel
theorem dX8_carryOut_185 : decode cX8_carryOut 185 = .ok (.ireturn, 1) := by decide +kernel
theorem dX8_faultPosition_0 : decode cX8_faultPosition 0 = .ok (.aload_n 0, 1) := by decide +kernel
theorem dX8_faultPosition_1 : decode cX8_faultPosition 1 = .ok (.getfield 58, 3) := by decide +kernel
theorem dX8_faultPosition_4 : decode cX8_faultPosition 4 = .ok (.ireturn, 1) := by decide +kernel
theorem dX8_failed_0 : decode cX8_failed 0 = .ok (.aload_n 0, 1) := by decide +kernel
theorem dX8_failed_1 : decode cX8_failed 1 = .ok (.getfield 62, 3) := by decide +kernel
theorem dX8_failed_4 : decode cX8_failed 4 = .ok (.ireturn, 1) := by decide +kernel
theorem dX8_refusal_0 : decode cX8_refusal 0 = .ok (.aload_n 0, 1) := by decide +kernel
theorem dX8_refusal_1 : decode cX8_refusal 1 = .ok (.getfield 65, 3) := by decide +kernel
theorem dX8_refusal_4 : decode cX8_refusal 4 = .ok (.ireturn, 1) := by decide +kernel
theorem dX8_count_0 : decode cX8_count 0 = .ok (.iload_n 1, 1) := by decide +kernel
theorem dX8_count_1 : decode cX8_count 1 = .ok (.tableswitch 151 0 10 #[59, 67, 75, 83, 92, 101, 110, 119, 127, 135, 143], 59) := by decide +kernel
theorem dX8_count_60 : decode cX8_count 60 = .ok (.aload_n 0, 1) := by decide +kernel
theorem dX8_count_61 : decode cX8_count 61 = .ok (.getfield 10, 3) := by decide +kernel
theorem dX8_count_64 : decode cX8_count 64 = .ok (.getfield 76, 3) := by decide +kernel
theorem dX8_count_67 : decode cX8_count 67 = .ok (.ireturn, 1) := by decide +kernel
theorem dX8_count_68 : decode cX8_count 68 = .ok (.aload_n 0, 1) := by decide +kernel
theorem dX8_count_69 : decode cX8_count 69 = .ok (.getfield 10, 3) := by decide +kernel
theorem dX8_count_72 : decode cX8_count 72 = .ok (.getfield 292, 3) := by decide +kernel
theorem dX8_count_75 : decode cX8_count 75 = .ok (.ireturn, 1) := by decide +kernel
theorem dX8_count_76 : decode cX8_count 76 = .ok (.aload_n 0, 1) := by decide +kernel
theorem dX8_count_77 : decode cX8_count 77 = .ok (.getfield 10, 3) := by decide +kernel
theorem dX8_count_80 : decode cX8_count 80 = .ok (.invokevirtual 411, 3) := by decide +kernel
theorem dX8_count_83 : decode cX8_count 83 = .ok (.ireturn, 1) := by decide +kernel
theorem dX8_count_84 : decode cX8_count 84 = .ok (.aload_n 0, 1) := by decide +kernel
theorem dX8_count_85 : decode cX8_count 85 = .ok (.getfield 10, 3) := by decide +kernel
theorem dX8_count_88 : decode cX8_count 88 = .ok (.iconst 0, 1) := by decide +kernel
theorem dX8_count_89 : decode cX8_count 89 = .ok (.invokevirtual 414, 3) := by decide +kernel
theorem dX8_count_92 : decode cX8_count 92 = .ok (.ireturn, 1) := by decide +kernel
theorem dX8_count_93 : decode cX8_count 93 = .ok (.aload_n 0, 1) := by decide +kernel
theorem dX8_count_94 : decode cX8_count 94 = .ok (.getfield 10, 3) := by decide +kernel
theorem dX8_count_97 : decode cX8_count 97 = .ok (.iconst 1, 1) := by decide +kernel
theorem dX8_count_98 : decode cX8_count 98 = .ok (.invokevirtual 414, 3) := by decide +kernel
theorem dX8_count_101 : decode cX8_count 101 = .ok (.ireturn, 1) := by decide +kernel
theorem dX8_count_102 : decode cX8_count 102 = .ok (.aload_n 0, 1) := by decide +kernel
theorem dX8_count_103 : decode cX8_count 103 = .ok (.getfield 10, 3) := by decide +kernel
theorem dX8_count_106 : decode cX8_count 106 = .ok (.iconst 2, 1) := by decide +kernel
theorem dX8_count_107 : decode cX8_count 107 = .ok (.invokevirtual 414, 3) := by decide +kernel
theorem dX8_count_110 : decode cX8_count 110 = .ok (.ireturn, 1) := by decide +kernel
theorem dX8_count_111 : decode cX8_count 111 = .ok (.aload_n 0, 1) := by decide +kernel
theorem dX8_count_112 : decode cX8_count 112 = .ok (.getfield 10, 3) := by decide +kernel
theorem dX8_count_115 : decode cX8_count 115 = .ok (.iconst 3, 1) := by decide +kernel
theorem dX8_count_116 : decode cX8_count 116 = .ok (.invokevirtual 414, 3) := by decide +kernel
theorem dX8_count_119 : decode cX8_count 119 = .ok (.ireturn, 1) := by decide +kernel
theorem dX8_count_120 : decode cX8_count 120 = .ok (.aload_n 0, 1) := by decide +kernel
theorem dX8_count_121 : decode cX8_count 121 = .ok (.getfield 10, 3) := by decide +kernel
theorem dX8_count_124 : decode cX8_count 124 = .ok (.invokevirtual 415, 3) := by decide +kernel
theorem dX8_count_127 : decode cX8_count 127 = .ok (.ireturn, 1) := by decide +kernel
theorem dX8_count_128 : decode cX8_count 128 = .ok (.aload_n 0, 1) := by decide +kernel
theorem dX8_count_129 : decode cX8_count 129 = .ok (.getfield 10, 3) := by decide +kernel
theorem dX8_count_132 : decode cX8_count 132 = .ok (.getfield 344, 3) := by decide +kernel
theorem dX8_count_135 : decode cX8_count 135 = .ok (.ireturn, 1) := by decide +kernel
theorem dX8_count_136 : decode cX8_count 136 = .ok (.aload_n 0, 1) := by decide +kernel
theorem dX8_count_137 : decode cX8_count 137 = .ok (.getfield 22, 3) := by decide +kernel
theorem dX8_count_140 : decode cX8_count 140 = .ok (.getfield 418, 3) := by decide +kernel
theorem dX8_count_143 : decode cX8_count 143 = .ok (.ireturn, 1) := by decide +kernel
theorem dX8_count_144 : decode cX8_count 144 = .ok (.aload_n 0, 1) := by decide +kernel
theorem dX8_count_145 : decode cX8_count 145 = .ok (.getfield 50, 3) := by decide +kernel
theorem dX8_count_148 : decode cX8_count 148 = .ok (.getfield 380, 3) := by decide +kernel
theorem dX8_count_151 : decode cX8_count 151 = .ok (.ireturn, 1) := by decide +kernel
theorem dX8_count_152 : decode cX8_count 152 = .ok (.iconst (-1), 1) := by decide +kernel
theorem dX8_count_153 : decode cX8_count 153 = .ok (.ireturn, 1) := by decide +kernel
theorem dX8_undo_0 : decode cX8_undo 0 = .ok (.aload_n 0, 1) := by decide +kernel
theorem dX8_undo_1 : decode cX8_undo 1 = .ok (.getfield 22, 3) := by decide +kernel
theorem dX8_undo_4 : decode cX8_undo 4 = .ok (.getfield 418, 3) := by decide +kernel
theorem dX8_undo_7 : decode cX8_undo 7 = .ok (.ifCond .ne 6, 3) := by decide +kernel
theorem dX8_undo_10 : decode cX8_undo 10 = .ok (.bipush (-3), 2) := by decide +kernel
theorem dX8_undo_12 : decode cX8_undo 12 = .ok (.ireturn, 1) := by decide +kernel
theorem dX8_undo_13 : decode cX8_undo 13 = .ok (.aload_n 0, 1) := by decide +kernel
theorem dX8_undo_14 : decode cX8_undo 14 = .ok (.getfield 22, 3) := by decide +kernel
theorem dX8_undo_17 : decode cX8_undo 17 = .ok (.aload_n 0, 1) := by decide +kernel
theorem dX8_undo_18 : decode cX8_undo 18 = .ok (.getfield 10, 3) := by decide +kernel
theorem dX8_undo_21 : decode cX8_undo 21 = .ok (.invokevirtual 421, 3) := by decide +kernel
theorem dX8_undo_24 : decode cX8_undo 24 = .ok (.aload_n 0, 1) := by decide +kernel
theorem dX8_undo_25 : decode cX8_undo 25 = .ok (.getfield 22, 3) := by decide +kernel
theorem dX8_undo_28 : decode cX8_undo 28 = .ok (.getfield 418, 3) := by decide +kernel
theorem dX8_undo_31 : decode cX8_undo 31 = .ok (.ireturn, 1) := by decide +kernel
theorem dX8_save_0 : decode cX8_save 0 = .ok (.aload_n 0, 1) := by decide +kernel
theorem dX8_save_1 : decode cX8_save 1 = .ok (.getfield 16, 3) := by decide +kernel
theorem dX8_save_4 : decode cX8_save 4 = .ok (.aload_n 0, 1) := by decide +kernel
theorem dX8_save_5 : decode cX8_save 5 = .ok (.getfield 10, 3) := by decide +kernel
theorem dX8_save_8 : decode cX8_save 8 = .ok (.invokevirtual 424, 3) := by decide +kernel
theorem dX8_save_11 : decode cX8_save 11 = .ok (.aload_n 0, 1) := by decide +kernel
theorem dX8_save_12 : decode cX8_save 12 = .ok (.iconst 1, 1) := by decide +kernel
theorem dX8_save_13 : decode cX8_save 13 = .ok (.putfield 54, 3) := by decide +kernel
theorem dX8_save_16 : decode cX8_save 16 = .ok (.aload_n 0, 1) := by decide +kernel
theorem dX8_save_17 : decode cX8_save 17 = .ok (.getfield 10, 3) := by decide +kernel
theorem dX8_save_20 : decode cX8_save 20 = .ok (.getfield 76, 3) := by decide +kernel
theorem dX8_save_23 : decode cX8_save 23 = .ok (.ireturn, 1) := by decide +kernel
theorem dX8_restore_0 : decode cX8_restore 0 = .ok (.aload_n 0, 1) := by decide +kernel
theorem dX8_restore_1 : decode cX8_restore 1 = .ok (.getfield 54, 3) := by decide +kernel
theorem dX8_restore_4 : decode cX8_restore 4 = .ok (.ifCond .ne 6, 3) := by decide +kernel
theorem dX8_restore_7 : decode cX8_restore 7 = .ok (.bipush (-3), 2) := by decide +kernel
theorem dX8_restore_9 : decode cX8_restore 9 = .ok (.ireturn, 1) := by decide +kernel
theorem dX8_restore_10 : decode cX8_restore 10 = .ok (.aload_n 0, 1) := by decide +kernel
theorem dX8_restore_11 : decode cX8_restore 11 = .ok (.getfield 10, 3) := by decide +kernel
theorem dX8_restore_14 : decode cX8_restore 14 = .ok (.aload_n 0, 1) := by decide +kernel
theorem dX8_restore_15 : decode cX8_restore 15 = .ok (.getfield 16, 3) := by decide +kernel
theorem dX8_restore_18 : decode cX8_restore 18 = .ok (.invokevirtual 424, 3) := by decide +kernel
theorem dX8_restore_21 : decode cX8_restore 21 = .ok (.aload_n 0, 1) := by decide +kernel
theorem dX8_restore_22 : decode cX8_restore 22 = .ok (.getfield 22, 3) := by decide +kernel
theorem dX8_restore_25 : decode cX8_restore 25 = .ok (.iconst 0, 1) := by decide +kernel
theorem dX8_restore_26 : decode cX8_restore 26 = .ok (.putfield 418, 3) := by decide +kernel
theorem dX8_restore_29 : decode cX8_restore 29 = .ok (.aload_n 0, 1) := by decide +kernel
theorem dX8_restore_30 : decode cX8_restore 30 = .ok (.getfield 10, 3) := by decide +kernel
theorem dX8_restore_33 : decode cX8_restore 33 = .ok (.getfield 76, 3) := by decide +kernel
theorem dX8_restore_36 : decode cX8_restore 36 = .ok (.ireturn, 1) := by decide +kernel
theorem dX8_settle_0 : decode cX8_settle 0 = .ok (.iload_n 1, 1) := by decide +kernel
theorem dX8_settle_1 : decode cX8_settle 1 = .ok (.invokestatic 396, 3) := by decide +kernel
theorem dX8_settle_4 : decode cX8_settle 4 = .ok (.ifCond .ne 10, 3) := by decide +kernel
theorem dX8_settle_7 : decode cX8_settle 7 = .ok (.aload_n 0, 1) := by decide +kernel
theorem dX8_settle_8 : decode cX8_settle 8 = .ok (.getfield 22, 3) := by decide +kernel
theorem dX8_settle_11 : decode cX8_settle 11 = .ok (.invokevirtual 401, 3) := by decide +kernel
theorem dX8_settle_14 : decode cX8_settle 14 = .ok (.iload_n 1, 1) := by decide +kernel
theorem dX8_settle_15 : decode cX8_settle 15 = .ok (.ireturn, 1) := by decide +kernel
theorem dX8_refuse_0 : decode cX8_refuse 0 = .ok (.aload_n 0, 1) := by decide +kernel
theorem dX8_refuse_1 : decode cX8_refuse 1 = .ok (.iload_n 1, 1) := by decide +kernel
theorem dX8_refuse_2 : decode cX8_refuse 2 = .ok (.putfield 65, 3) := by decide +kernel
theorem dX8_refuse_5 : decode cX8_refuse 5 = .ok (.bipush (-5), 2) := by decide +kernel
theorem dX8_refuse_7 : decode cX8_refuse 7 = .ok (.ireturn, 1) := by decide +kernel
theorem dX8_isError_0 : decode cX8_isError 0 = .ok (.iload_n 0, 1) := by decide +kernel
theorem dX8_isError_1 : decode cX8_isError 1 = .ok (.ifCond .ge 13, 3) := by decide +kernel
theorem dX8_isError_4 : decode cX8_isError 4 = .ok (.iload_n 0, 1) := by decide +kernel
theorem dX8_isError_5 : decode cX8_isError 5 = .ok (.bipush (-7), 2) := by decide +kernel
theorem dX8_isError_7 : decode cX8_isError 7 = .ok (.if_icmp .eq 7, 3) := by decide +kernel
theorem dX8_isError_10 : decode cX8_isError 10 = .ok (.iconst 1, 1) := by decide +kernel
theorem dX8_isError_11 : decode cX8_isError 11 = .ok (.goto 4, 3) := by decide +kernel
theorem dX8_isError_14 : decode cX8_isError 14 = .ok (.iconst 0, 1) := by decide +kernel
theorem dX8_isError_15 : decode cX8_isError 15 = .ok (.ireturn, 1) := by decide +kernel
theorem dX8_within_0 : decode cX8_within 0 = .ok (.iload_n 0, 1) := by decide +kernel
