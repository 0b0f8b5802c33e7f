theorem dX8_init_0 : decode cX8_init 0 = .ok (.aload_n 0, 1) := by decide +kernel
theorem dX8_init_1 : decode cX8_init 1 = .ok (.invokespecial 1, 3) := by decide +kernel
theorem dX8_init_4 : decode cX8_init 4 = .ok (.aload_n 0, 1) := by decide +kernel
theorem dX8_init_5 : decode cX8_init 5 = .ok (.bipush 65, 2) := by decide +kernel
theorem dX8_init_7 : decode cX8_init 7 = .ok (.newarray .int, 2) := by decide +kernel
theorem dX8_init_9 : decode cX8_init 9 = .ok (.putfield 7, 3) := by decide +kernel
theorem dX8_init_12 : decode cX8_init 12 = .ok (.aload_n 0, 1) := by decide +kernel
theorem dX8_init_13 : decode cX8_init 13 = .ok (.bipush 65, 2) := by decide +kernel
theorem dX8_init_15 : decode cX8_init 15 = .ok (.newarray .int, 2) := by decide +kernel
theorem dX8_init_17 : decode cX8_init 17 = .ok (.putfield 13, 3) := by decide +kernel
theorem dX8_init_20 : decode cX8_init 20 = .ok (.aload_n 0, 1) := by decide +kernel
theorem dX8_init_21 : decode cX8_init 21 = .ok (.sipush 200, 3) := by decide +kernel
theorem dX8_init_24 : decode cX8_init 24 = .ok (.newarray .int, 2) := by decide +kernel
theorem dX8_init_26 : decode cX8_init 26 = .ok (.putfield 16, 3) := by decide +kernel
theorem dX8_init_29 : decode cX8_init 29 = .ok (.aload_n 0, 1) := by decide +kernel
theorem dX8_init_30 : decode cX8_init 30 = .ok (.sipush 317, 3) := by decide +kernel
theorem dX8_init_33 : decode cX8_init 33 = .ok (.newarray .int, 2) := by decide +kernel
theorem dX8_init_35 : decode cX8_init 35 = .ok (.putfield 19, 3) := by decide +kernel
theorem dX8_init_38 : decode cX8_init 38 = .ok (.aload_n 0, 1) := by decide +kernel
theorem dX8_init_39 : decode cX8_init 39 = .ok (.sipush 2536, 3) := by decide +kernel
theorem dX8_init_42 : decode cX8_init 42 = .ok (.newarray .int, 2) := by decide +kernel
theorem dX8_init_44 : decode cX8_init 44 = .ok (.putfield 22, 3) := by decide +kernel
theorem dX8_init_47 : decode cX8_init 47 = .ok (.aload_n 0, 1) := by decide +kernel
theorem dX8_init_48 : decode cX8_init 48 = .ok (.sipush 634, 3) := by decide +kernel
theorem dX8_init_51 : decode cX8_init 51 = .ok (.newarray .int, 2) := by decide +kernel
theorem dX8_init_53 : decode cX8_init 53 = .ok (.putfield 25, 3) := by decide +kernel
theorem dX8_init_56 : decode cX8_init 56 = .ok (.aload_n 0, 1) := by decide +kernel
theorem dX8_init_57 : decode cX8_init 57 = .ok (.bipush 32, 2) := by decide +kernel
theorem dX8_init_59 : decode cX8_init 59 = .ok (.newarray .int, 2) := by decide +kernel
theorem dX8_init_61 : decode cX8_init 61 = .ok (.putfield 28, 3) := by decide +kernel
theorem dX8_init_64 : decode cX8_init 64 = .ok (.aload_n 0, 1) := by decide +kernel
theorem dX8_init_65 : decode cX8_init 65 = .ok (.iconst 5, 1) := by decide +kernel
theorem dX8_init_66 : decode cX8_init 66 = .ok (.newarray .int, 2) := by decide +kernel
theorem dX8_init_68 : decode cX8_init 68 = .ok (.putfield 31, 3) := by decide +kernel
theorem dX8_init_71 : decode cX8_init 71 = .ok (.aload_n 0, 1) := by decide +kernel
theorem dX8_init_72 : decode cX8_init 72 = .ok (.bipush 8, 2) := by decide +kernel
theorem dX8_init_74 : decode cX8_init 74 = .ok (.newarray .int, 2) := by decide +kernel
theorem dX8_init_76 : decode cX8_init 76 = .ok (.putfield 34, 3) := by decide +kernel
theorem dX8_init_79 : decode cX8_init 79 = .ok (.aload_n 0, 1) := by decide +kernel
theorem dX8_init_80 : decode cX8_init 80 = .ok (.sipush 317, 3) := by decide +kernel
theorem dX8_init_83 : decode cX8_init 83 = .ok (.newarray .int, 2) := by decide +kernel
theorem dX8_init_85 : decode cX8_init 85 = .ok (.putfield 37, 3) := by decide +kernel
theorem dX8_init_88 : decode cX8_init 88 = .ok (.aload_n 0, 1) := by decide +kernel
theorem dX8_init_89 : decode cX8_init 89 = .ok (.bipush 8, 2) := by decide +kernel
theorem dX8_init_91 : decode cX8_init 91 = .ok (.newarray .int, 2) := by decide +kernel
theorem dX8_init_93 : decode cX8_init 93 = .ok (.putfield 40, 3) := by decide +kernel
theorem dX8_init_96 : decode cX8_init 96 = .ok (.aload_n 0, 1) := by decide +kernel
theorem dX8_init_97 : decode cX8_init 97 = .ok (.bipush 8, 2) := by decide +kernel
theorem dX8_init_99 : decode cX8_init 99 = .ok (.newarray .int, 2) := by decide +kernel
theorem dX8_init_101 : decode cX8_init 101 = .ok (.putfield 43, 3) := by decide +kernel
theorem dX8_init_104 : decode cX8_init 104 = .ok (.aload_n 0, 1) := by decide +kernel
theorem dX8_init_105 : decode cX8_init 105 = .ok (.invokevirtual 46, 3) := by decide +kernel
theorem dX8_init_108 : decode cX8_init 108 = .ok (.aload_n 0, 1) := by decide +kernel
theorem dX8_init_109 : decode cX8_init 109 = .ok (.getfield 13, 3) := by decide +kernel
theorem dX8_init_112 : decode cX8_init 112 = .ok (.iconst 0, 1) := by decide +kernel
theorem dX8_init_113 : decode cX8_init 113 = .ok (.iconst 3, 1) := by decide +kernel
theorem dX8_init_114 : decode cX8_init 114 = .ok (.iastore, 1) := by decide +kernel
theorem dX8_init_115 : decode cX8_init 115 = .ok (.aload_n 0, 1) := by decide +kernel
theorem dX8_init_116 : decode cX8_init 116 = .ok (.iconst 0, 1) := by decide +kernel
theorem dX8_init_117 : decode cX8_init 117 = .ok (.iconst 1, 1) := by decide +kernel
theorem dX8_init_118 : decode cX8_init 118 = .ok (.iconst 4, 1) := by decide +kernel
theorem dX8_init_119 : decode cX8_init 119 = .ok (.invokevirtual 49, 3) := by decide +kernel
theorem dX8_init_122 : decode cX8_init 122 = .ok (.aload_n 0, 1) := by decide +kernel
theorem dX8_init_123 : decode cX8_init 123 = .ok (.iconst 1, 1) := by decide +kernel
theorem dX8_init_124 : decode cX8_init 124 = .ok (.iconst 2, 1) := by decide +kernel
theorem dX8_init_125 : decode cX8_init 125 = .ok (.iconst 5, 1) := by decide +kernel
theorem dX8_init_126 : decode cX8_init 126 = .ok (.invokevirtual 49, 3) := by decide +kernel
theorem dX8_init_129 : decode cX8_init 129 = .ok (.aload_n 0, 1) := by decide +kernel
theorem dX8_init_130 : decode cX8_init 130 = .ok (.iconst 0, 1) := by decide +kernel
theorem dX8_init_131 : decode cX8_init 131 = .ok (.iconst 2, 1) := by decide +kernel
theorem dX8_init_132 : decode cX8_init 132 = .ok (.iconst 2, 1) := by decide +kernel
theorem dX8_init_133 : decode cX8_init 133 = .ok (.invokevirtual 49, 3) := by decide +kernel
theorem dX8_init_136 : decode cX8_init 136 = .ok (.aload_n 0, 1) := by decide +kernel
theorem dX8_init_137 : decode cX8_init 137 = .ok (.iconst 0, 1) := by decide +kernel
theorem dX8_init_138 : decode cX8_init 138 = .ok (.iconst 2, 1) := by decide +kernel
theorem dX8_init_139 : decode cX8_init 139 = .ok (.iconst 3, 1) := by decide +kernel
theorem dX8_init_140 : decode cX8_init 140 = .ok (.iconst 2, 1) := by decide +kernel
theorem dX8_init_141 : decode cX8_init 141 = .ok (.iconst 0, 1) := by decide +kernel
theorem dX8_init_142 : decode cX8_init 142 = .ok (.invokevirtual 53, 3) := by decide +kernel
theorem dX8_init_145 : decode cX8_init 145 = .ok (.aload_n 0, 1) := by decide +kernel
theorem dX8_init_146 : decode cX8_init 146 = .ok (.iconst 2, 1) := by decide +kernel
theorem dX8_init_147 : decode cX8_init 147 = .ok (.iconst 0, 1) := by decide +kernel
theorem dX8_init_148 : decode cX8_init 148 = .ok (.iconst 2, 1) := by decide +kernel
theorem dX8_init_149 : decode cX8_init 149 = .ok (.iconst 1, 1) := by decide +kernel
theorem dX8_init_150 : decode cX8_init 150 = .ok (.iconst 2, 1) := by decide +kernel
theorem dX8_init_151 : decode cX8_init 151 = .ok (.invokevirtual 53, 3) := by decide +kernel
theorem dX8_init_154 : decode cX8_init 154 = .ok (.aload_n 0, 1) := by decide +kernel
theorem dX8_init_155 : decode cX8_init 155 = .ok (.invokevirtual 57, 3) := by decide +kernel
theorem dX8_init_158 : decode cX8_init 158 = .ok (.return_, 1) := by decide +kernel
theorem dX8_in_0 : decode cX8_in 0 = .ok (.lload_n 0, 1) := by decide +kernel
theorem dX8_in_1 : decode cX8_in 1 = .ok (.lload_n 2, 1) := by decide +kernel
theorem dX8_in_2 : decode cX8_in 2 = .ok (.lcmp, 1) := by decide +kernel
theorem dX8_in_3 : decode cX8_in 3 = .ok (.ifCond .lt 14, 3) := by decide +kernel
theorem dX8_in_6 : decode cX8_in 6 = .ok (.lload_n 0, 1) := by decide +kernel
theorem dX8_in_7 : decode cX8_in 7 = .ok (.lload 4, 2) := by decide +kernel
theorem dX8_in_9 : decode cX8_in 9 = .ok (.lcmp, 1) := by decide +kernel
theorem dX8_in_10 : decode cX8_in 10 = .ok (.ifCond .gt 7, 3) := by decide +kernel
theorem dX8_in_13 : decode cX8_in 13 = .ok (.iconst 1, 1) := by decide +kernel
theorem dX8_in_14 : decode cX8_in 14 = .ok (.goto 4, 3) := by decide +kernel
theorem dX8_in_17 : decode cX8_in 17 = .ok (.iconst 0, 1) := by decide +kernel
theorem dX8_in_18 : decode cX8_in 18 = .ok (.ireturn, 1) := by decide +kernel
theorem dX8_isTwo_0 : decode cX8_isTwo 0 = .ok (.iload_n 0, 1) := by decide +kernel
theorem dX8_isTwo_1 : decode cX8_isTwo 1 = .ok (.i2l, 1) := by decide +kernel
theorem dX8_isTwo_2 : decode cX8_isTwo 2 = .ok (.lconst 0, 1) := by decide +kernel
theorem dX8_isTwo_3 : decode cX8_isTwo 3 = .ok (.lconst 1, 1) := by decide +kernel
theorem dX8_isTwo_4 : decode cX8_isTwo 4 = .ok (.invokestatic 60, 3) := by decide +kernel
theorem dX8_isTwo_7 : decode cX8_isTwo 7 = .ok (.ireturn, 1) := by decide +kernel
theorem dX8_write_0 : decode cX8_write 0 = .ok (.iload_n 1, 1) := by decide +kernel
theorem dX8_write_1 : decode cX8_write 1 = .ok (.i2l, 1) := by decide +kernel
theorem dX8_write_2 : decode cX8_write 2 = .ok (.ldc2_w 64, 3) := by decide +kernel
theorem dX8_write_5 : decode cX8_write 5 = .ok (.ldc2_w 66, 3) := by decide +kernel
theorem dX8_write_8 : decode cX8_write 8 = .ok (.invokestatic 60, 3) := by decide +kernel
theorem dX8_write_11 : decode cX8_write 11 = .ok (.ifCond .ne 5, 3) := by decide +kernel
theorem dX8_write_14 : decode cX8_write 14 = .ok (.iconst (-1), 1) := by decide +kernel
theorem dX8_write_15 : decode cX8_write 15 = .ok (.ireturn, 1) := by decide +kernel
theorem dX8_write_16 : decode cX8_write 16 = .ok (.aload_n 0, 1) := by decide +kernel
theorem dX8_write_17 : decode cX8_write 17 = .ok (.getfield 68, 3) := by decide +kernel
theorem dX8_write_20 : decode cX8_write 20 = .ok (.sipush 200, 3) := by decide +kernel
theorem dX8_write_23 : decode cX8_write 23 = .ok (.if_icmp .ne 6, 3) := by decide +kernel
theorem dX8_write_26 : decode cX8_write 26 = .ok (.bipush (-3), 2) := by decide +kernel
theorem dX8_write_28 : decode cX8_write 28 = .ok (.ireturn, 1) := by decide +kernel
theorem dX8_write_29 : decode cX8_write 29 = .ok (.aload_n 0, 1) := by decide +kernel
theorem dX8_write_30 : decode cX8_write 30 = .ok (.getfield 16, 3) := by decide +kernel
theorem dX8_write_33 : decode cX8_write 33 = .ok (.aload_n 0, 1) := by decide +kernel
theorem dX8_write_34 : decode cX8_write 34 = .ok (.getfield 68, 3) := by decide +kernel
theorem dX8_write_37 : decode cX8_write 37 = .ok (.iload_n 1, 1) := by decide +kernel
theorem dX8_write_38 : decode cX8_write 38 = .ok (.iastore, 1) := by decide +kernel
theorem dX8_write_39 : decode cX8_write 39 = .ok (.aload_n 0, 1) := by decide +kernel
theorem dX8_write_40 : decode cX8_write 40 = .ok (.dup, 1) := by decide +kernel
theorem dX8_write_41 : decode cX8_write 41 = .ok (.getfield 68, 3) := by decide +kernel
theorem dX8_write_44 : decode cX8_write 44 = .ok (.iconst 1, 1) := by decide +kernel
theorem dX8_write_45 : decode cX8_write 45 = .ok (.iadd, 1) := by decide +kernel
theorem dX8_write_46 : decode cX8_write 46 = .ok (.putfield 68, 3) := by decide +kernel
theorem dX8_write_49 : decode cX8_write 49 = .ok (.aload_n 0, 1) := by decide +kernel
theorem dX8_write_50 : decode cX8_write 50 = .ok (.getfield 68, 3) := by decide +kernel
theorem dX8_write_53 : decode cX8_write 53 = .ok (.ireturn, 1) := by decide +kernel
theorem dX8_wipe_0 : decode cX8_wipe 0 = .ok (.aload_n 0, 1) := by decide +kernel
theorem dX8_wipe_1 : decode cX8_wipe 1 = .ok (.getfield 68, 3) := by decide +kernel
theorem dX8_wipe_4 : decode cX8_wipe 4 = .ok (.istore_n 1, 1) := by decide +kernel
theorem dX8_wipe_5 : decode cX8_wipe 5 = .ok (.aload_n 0, 1) := by decide +kernel
theorem dX8_wipe_6 : decode cX8_wipe 6 = .ok (.iconst 0, 1) := by decide +kernel
theorem dX8_wipe_7 : decode cX8_wipe 7 = .ok (.putfield 68, 3) := by decide +kernel
theorem dX8_wipe_10 : decode cX8_wipe 10 = .ok (.iload_n 1, 1) := by decide +kernel
theorem dX8_wipe_11 : decode cX8_wipe 11 = .ok (.ireturn, 1) := by decide +kernel
theorem dX8_takes_0 : decode cX8_takes 0 = .ok (.iconst 0, 1) := by decide +kernel
theorem dX8_takes_1 : decode cX8_takes 1 = .ok (.istore_n 2, 1) := by decide +kernel
theorem dX8_takes_2 : decode cX8_takes 2 = .ok (.iload_n 2, 1) := by decide +kernel
theorem dX8_takes_3 : decode cX8_takes 3 = .ok (.iload_n 1, 1) := by decide +kernel
theorem dX8_takes_4 : decode cX8_takes 4 = .ok (.if_icmp .ge 172, 3) := by decide +kernel
theorem dX8_takes_7 : decode cX8_takes 7 = .ok (.iconst 0, 1) := by decide +kernel
theorem dX8_takes_8 : decode cX8_takes 8 = .ok (.istore_n 3, 1) := by decide +kernel
theorem dX8_takes_9 : decode cX8_takes 9 = .ok (.iconst 0, 1) := by decide +kernel
theorem dX8_takes_10 : decode cX8_takes 10 = .ok (.istore 4, 2) := by decide +kernel
theorem dX8_takes_12 : decode cX8_takes 12 = .ok (.aload_n 0, 1) := by decide +kernel
theorem dX8_takes_13 : decode cX8_takes 13 = .ok (.getfield 72, 3) := by decide +kernel
theorem dX8_takes_16 : decode cX8_takes 16 = .ok (.aload_n 0, 1) := by decide +kernel
theorem dX8_takes_17 : decode cX8_takes 17 = .ok (.getfield 68, 3) := by decide +kernel
theorem dX8_takes_20 : decode cX8_takes 20 = .ok (.if_icmp .ge 69, 3) := by decide +kernel
theorem dX8_takes_23 : decode cX8_takes 23 = .ok (.aload_n 0, 1) := by decide +kernel
theorem dX8_takes_24 : decode cX8_takes 24 = .ok (.getfield 16, 3) := by decide +kernel
theorem dX8_takes_27 : decode cX8_takes 27 = .ok (.aload_n 0, 1) := by decide +kernel
theorem dX8_takes_28 : decode cX8_takes 28 = .ok (.getfield 72, 3) := by decide +kernel
theorem dX8_takes_31 : decode cX8_takes 31 = .ok (.iaload, 1) := by decide +kernel
theorem dX8_takes_32 : decode cX8_takes 32 = .ok (.i2l, 1) := by decide +kernel
theorem dX8_takes_33 : decode cX8_takes 33 = .ok (.ldc2_w 75, 3) := by decide +kernel
theorem dX8_takes_36 : decode cX8_takes 36 = .ok (.ldc2_w 77, 3) := by decide +kernel
theorem dX8_takes_39 : decode cX8_takes 39 = .ok (.invokestatic 60, 3) := by decide +kernel
theorem dX8_takes_42 : decode cX8_takes 42 = .ok (.ifCond .eq 47, 3) := by decide +kernel
theorem dX8_takes_45 : decode cX8_takes 45 = .ok (.iload 4, 2) := by decide +kernel
theorem dX8_takes_47 : decode cX8_takes 47 = .ok (.iconst 2, 1) := by decide +kernel
theorem dX8_takes_48 : decode cX8_takes 48 = .ok (.if_icmp .ge 23, 3) := by decide +kernel
theorem dX8_takes_51 : decode cX8_takes 51 = .ok (.bipush 10, 2) := by decide +kernel
theorem dX8_takes_53 : decode cX8_takes 53 = .ok (.iload_n 3, 1) := by decide +kernel
theorem dX8_takes_54 : decode cX8_takes 54 = .ok (.imul, 1) := by decide +kernel
theorem dX8_takes_55 : decode cX8_takes 55 = .ok (.aload_n 0, 1) := by decide +kernel
theorem dX8_takes_56 : decode cX8_takes 56 = .ok (.getfield 16, 3) := by decide +kernel
theorem dX8_takes_59 : decode cX8_takes 59 = .ok (.aload_n 0, 1) := by decide +kernel
theorem dX8_takes_60 : decode cX8_takes 60 = .ok (.getfield 72, 3) := by decide +kernel
theorem dX8_takes_63 : decode cX8_takes 63 = .ok (.iaload, 1) := by decide +kernel
theorem dX8_takes_64 : decode cX8_takes 64 = .ok (.iadd, 1) := by decide +kernel
theorem dX8_takes_65 : decode cX8_takes 65 = .ok (.bipush 48, 2) := by decide +kernel
theorem dX8_takes_67 : decode cX8_takes 67 = .ok (.isub, 1) := by decide +kernel
theorem dX8_takes_68 : decode cX8_takes 68 = .ok (.goto 4, 3) := by decide +kernel
theorem dX8_takes_71 : decode cX8_takes 71 = .ok (.iload_n 3, 1) := by decide +kernel
theorem dX8_takes_72 : decode cX8_takes 72 = .ok (.istore_n 3, 1) := by decide +kernel
theorem dX8_takes_73 : decode cX8_takes 73 = .ok (.iinc 4 1, 3) := by decide +kernel
theorem dX8_takes_76 : decode cX8_takes 76 = .ok (.aload_n 0, 1) := by decide +kernel
theorem dX8_takes_77 : decode cX8_takes 77 = .ok (.dup, 1) := by decide +kernel
theorem dX8_takes_78 : decode cX8_takes 78 = .ok (.getfield 72, 3) := by decide +kernel
theorem dX8_takes_81 : decode cX8_takes 81 = .ok (.iconst 1, 1) := by decide +kernel
theorem dX8_takes_82 : decode cX8_takes 82 = .ok (.iadd, 1) := by decide +kernel
theorem dX8_takes_83 : decode cX8_takes 83 = .ok (.putfield 72, 3) := by decide +kernel
theorem dX8_takes_86 : decode cX8_takes 86 = .ok (.goto (-74), 3) := by decide +kernel
theorem dX8_takes_89 : decode cX8_takes 89 = .ok (.aload_n 0, 1) := by decide +kernel
theorem dX8_takes_90 : decode cX8_takes 90 = .ok (.getfield 72, 3) := by decide +kernel
theorem dX8_takes_93 : decode cX8_takes 93 = .ok (.aload_n 0, 1) := by decide +kernel
theorem dX8_takes_94 : decode cX8_takes 94 = .ok (.getfield 68, 3) := by decide +kernel
theorem dX8_takes_97 : decode cX8_takes 97 = .ok (.if_icmp .ge 33, 3) := by decide +kernel
theorem dX8_takes_100 : decode cX8_takes 100 = .ok (.aload_n 0, 1) := by decide +kernel
theorem dX8_takes_101 : decode cX8_takes 101 = .ok (.getfield 16, 3) := by decide +kernel
theorem dX8_takes_104 : decode cX8_takes 104 = .ok (.aload_n 0, 1) := by decide +kernel
theorem dX8_takes_105 : decode cX8_takes 105 = .ok (.getfield 72, 3) := by decide +kernel
theorem dX8_takes_108 : decode cX8_takes 108 = .ok (.iaload, 1) := by decide +kernel
theorem dX8_takes_109 : decode cX8_takes 109 = .ok (.iload_n 2, 1) := by decide +kernel
theorem dX8_takes_110 : decode cX8_takes 110 = .ok (.iload_n 1, 1) := by decide +kernel
theorem dX8_takes_111 : decode cX8_takes 111 = .ok (.iconst 1, 1) := by decide +kernel
theorem dX8_takes_112 : decode cX8_takes 112 = .ok (.isub, 1) := by decide +kernel
theorem dX8_takes_113 : decode cX8_takes 113 = .ok (.if_icmp .ge 8, 3) := by decide +kernel
theorem dX8_takes_116 : decode cX8_takes 116 = .ok (.bipush 44, 2) := by decide +kernel
theorem dX8_takes_118 : decode cX8_takes 118 = .ok (.goto 5, 3) := by decide +kernel
theorem dX8_takes_121 : decode cX8_takes 121 = .ok (.bipush 59, 2) := by decide +kernel
theorem dX8_takes_123 : decode cX8_takes 123 = .ok (.if_icmp .ne 7, 3) := by decide +kernel
theorem dX8_takes_126 : decode cX8_takes 126 = .ok (.iconst 1, 1) := by decide +kernel
theorem dX8_takes_127 : decode cX8_takes 127 = .ok (.goto 4, 3) := by decide +kernel
theorem dX8_takes_130 : decode cX8_takes 130 = .ok (.iconst 0, 1) := by decide +kernel
theorem dX8_takes_131 : decode cX8_takes 131 = .ok (.istore 5, 2) := by decide +kernel
theorem dX8_takes_133 : decode cX8_takes 133 = .ok (.iload 4, 2) := by decide +kernel
theorem dX8_takes_135 : decode cX8_takes 135 = .ok (.i2l, 1) := by decide +kernel
theorem dX8_takes_136 : decode cX8_takes 136 = .ok (.lconst 1, 1) := by decide +kernel
theorem dX8_takes_137 : decode cX8_takes 137 = .ok (.ldc2_w 79, 3) := by decide +kernel
theorem dX8_takes_140 : decode cX8_takes 140 = .ok (.invokestatic 60, 3) := by decide +kernel
theorem dX8_takes_143 : decode cX8_takes 143 = .ok (.ifCond .eq 8, 3) := by decide +kernel
theorem dX8_takes_146 : decode cX8_takes 146 = .ok (.iload 5, 2) := by decide +kernel
theorem dX8_takes_148 : decode cX8_takes 148 = .ok (.ifCond .ne 5, 3) := by decide +kernel
theorem dX8_takes_151 : decode cX8_takes 151 = .ok (.iconst 0, 1) := by decide +kernel
theorem dX8_takes_152 : decode cX8_takes 152 = .ok (.ireturn, 1) := by decide +kernel
theorem dX8_takes_153 : decode cX8_takes 153 = .ok (.aload_n 0, 1) := by decide +kernel
theorem dX8_takes_154 : decode cX8_takes 154 = .ok (.getfield 31, 3) := by decide +kernel
theorem dX8_takes_157 : decode cX8_takes 157 = .ok (.iload_n 2, 1) := by decide +kernel
theorem dX8_takes_158 : decode cX8_takes 158 = .ok (.iload_n 3, 1) := by decide +kernel
theorem dX8_takes_159 : decode cX8_takes 159 = .ok (.iastore, 1) := by decide +kernel
theorem dX8_takes_160 : decode cX8_takes 160 = .ok (.aload_n 0, 1) := by decide +kernel
theorem dX8_takes_161 : decode cX8_takes 161 = .ok (.dup, 1) := by decide +kernel
theorem dX8_takes_162 : decode cX8_takes 162 = .ok (.getfield 72, 3) := by decide +kernel
theorem dX8_takes_165 : decode cX8_takes 165 = .ok (.iconst 1, 1) := by decide +kernel
theorem dX8_takes_166 : decode cX8_takes 166 = .ok (.iadd, 1) := by decide +kernel
theorem dX8_takes_167 : decode cX8_takes 167 = .ok (.putfield 72, 3) := by decide +kernel
theorem dX8_takes_170 : decode cX8_takes 170 = .ok (.iinc 2 1, 3) := by decide +kernel
theorem dX8_takes_173 : decode cX8_takes 173 = .ok (.goto (-171), 3) := by decide +kernel
theorem dX8_takes_176 : decode cX8_takes 176 = .ok (.iconst 1, 1) := by decide +kernel
theorem dX8_takes_177 : decode cX8_takes 177 = .ok (.ireturn, 1) := by decide +kernel
theorem dX8_is_0 : decode cX8_is 0 = .ok (.aload_n 0, 1) := by decide +kernel
theorem dX8_is_1 : decode cX8_is 1 = .ok (.getfield 31, 3) := by decide +kernel
theorem dX8_is_4 : decode cX8_is 4 = .ok (.iload_n 1, 1) := by decide +kernel
theorem dX8_is_5 : decode cX8_is 5 = .ok (.iaload, 1) := by decide +kernel
theorem dX8_is_6 : decode cX8_is 6 = .ok (.i2l, 1) := by decide +kernel
theorem dX8_is_7 : decode cX8_is 7 = .ok (.iload_n 2, 1) := by decide +kernel
theorem dX8_is_8 : decode cX8_is 8 = .ok (.i2l, 1) := by decide +kernel
theorem dX8_is_9 : decode cX8_is 9 = .ok (.iload_n 3, 1) := by decide +kernel
theorem dX8_is_10 : decode cX8_is 10 = .ok (.i2l, 1) := by decide +kernel
theorem dX8_is_11 : decode cX8_is 11 = .ok (.invokestatic 60, 3) := by decide +kernel
theorem dX8_is_14 : decode cX8_is 14 = .ok (.ireturn, 1) := by decide +kernel
theorem dX8_clean_0 : decode cX8_clean 0 = .ok (.iconst 0, 1) := by decide +kernel
theorem dX8_clean_1 : decode cX8_clean 1 = .ok (.istore_n 1, 1) := by decide +kernel
theorem dX8_clean_2 : decode cX8_clean 2 = .ok (.iload_n 1, 1) := by decide +kernel
theorem dX8_clean_3 : decode cX8_clean 3 = .ok (.bipush 65, 2) := by decide +kernel
theorem dX8_clean_5 : decode cX8_clean 5 = .ok (.if_icmp .ge 16, 3) := by decide +kernel
theorem dX8_clean_8 : decode cX8_clean 8 = .ok (.aload_n 0, 1) := by decide +kernel
theorem dX8_clean_9 : decode cX8_clean 9 = .ok (.getfield 13, 3) := by decide +kernel
theorem dX8_clean_12 : decode cX8_clean 12 = .ok (.iload_n 1, 1) := by decide +kernel
theorem dX8_clean_13 : decode cX8_clean 13 = .ok (.iconst 0, 1) := by decide +kernel
theorem dX8_clean_14 : decode cX8_clean 14 = .ok (.iastore, 1) := by decide +kernel
theorem dX8_clean_15 : decode cX8_clean 15 = .ok (.iinc 1 1, 3) := by decide +kernel
theorem dX8_clean_18 : decode cX8_clean 18 = .ok (.goto (-16), 3) := by decide +kernel
theorem dX8_clean_21 : decode cX8_clean 21 = .ok (.aload_n 0, 1) := by decide +kernel
theorem dX8_clean_22 : decode cX8_clean 22 = .ok (.getfield 13, 3) := by decide +kernel
theorem dX8_clean_25 : decode cX8_clean 25 = .ok (.iconst 0, 1) := by decide +kernel
theorem dX8_clean_26 : decode cX8_clean 26 = .ok (.iconst 4, 1) := by decide +kernel
theorem dX8_clean_27 : decode cX8_clean 27 = .ok (.iastore, 1) := by decide +kernel
theorem dX8_clean_28 : decode cX8_clean 28 = .ok (.aload_n 0, 1) := by decide +kernel
theorem dX8_clean_29 : decode cX8_clean 29 = .ok (.getfield 13, 3) := by decide +kernel
theorem dX8_clean_32 : decode cX8_clean 32 = .ok (.iconst 3, 1) := by decide +kernel
theorem dX8_clean_33 : decode cX8_clean 33 = .ok (.bipush 7, 2) := by decide +kernel
theorem dX8_clean_35 : decode cX8_clean 35 = .ok (.iastore, 1) := by decide +kernel
theorem dX8_clean_36 : decode cX8_clean 36 = .ok (.return_, 1) := by decide +kernel
theorem dX8_lays_0 : decode cX8_lays 0 = .ok (.aload_n 0, 1) := by decide +kernel
theorem dX8_lays_1 : decode cX8_lays 1 = .ok (.getfield 13, 3) := by decide +kernel
theorem dX8_lays_4 : decode cX8_lays 4 = .ok (.iconst 1, 1) := by decide +kernel
theorem dX8_lays_5 : decode cX8_lays 5 = .ok (.iaload, 1) := by decide +kernel
theorem dX8_lays_6 : decode cX8_lays 6 = .ok (.istore 4, 2) := by decide +kernel
theorem dX8_lays_8 : decode cX8_lays 8 = .ok (.aload_n 0, 1) := by decide +kernel
theorem dX8_lays_9 : decode cX8_lays 9 = .ok (.getfield 13, 3) := by decide +kernel
theorem dX8_lays_12 : decode cX8_lays 12 = .ok (.iconst 4, 1) := by decide +kernel
theorem dX8_lays_13 : decode cX8_lays 13 = .ok (.iload 4, 2) := by decide +kernel
theorem dX8_lays_15 : decode cX8_lays 15 = .ok (.iadd, 1) := by decide +kernel
theorem dX8_lays_16 : decode cX8_lays 16 = .ok (.iload_n 1, 1) := by decide +kernel
theorem dX8_lays_17 : decode cX8_lays 17 = .ok (.iastore, 1) := by decide +kernel
theorem dX8_lays_18 : decode cX8_lays 18 = .ok (.aload_n 0, 1) := by decide +kernel
theorem dX8_lays_19 : decode cX8_lays 19 = .ok (.getfield 13, 3) := by decide +kernel
theorem dX8_lays_22 : decode cX8_lays 22 = .ok (.bipush 13, 2) := by decide +kernel
theorem dX8_lays_24 : decode cX8_lays 24 = .ok (.iload 4, 2) := by decide +kernel
theorem dX8_lays_26 : decode cX8_lays 26 = .ok (.iadd, 1) := by decide +kernel
theorem dX8_lays_27 : decode cX8_lays 27 = .ok (.iload_n 2, 1) := by decide +kernel
theorem dX8_lays_28 : decode cX8_lays 28 = .ok (.iastore, 1) := by decide +kernel
theorem dX8_lays_29 : decode cX8_lays 29 = .ok (.aload_n 0, 1) := by decide +kernel
theorem dX8_lays_30 : decode cX8_lays 30 = .ok (.getfield 13, 3) := by decide +kernel
theorem dX8_lays_33 : decode cX8_lays 33 = .ok (.bipush 22, 2) := by decide +kernel
theorem dX8_lays_35 : decode cX8_lays 35 = .ok (.iload 4, 2) := by decide +kernel
theorem dX8_lays_37 : decode cX8_lays 37 = .ok (.iadd, 1) := by decide +kernel
theorem dX8_lays_38 : decode cX8_lays 38 = .ok (.iload_n 3, 1) := by decide +kernel
theorem dX8_lays_39 : decode cX8_lays 39 = .ok (.iastore, 1) := by decide +kernel
theorem dX8_lays_40 : decode cX8_lays 40 = .ok (.aload_n 0, 1) := by decide +kernel
theorem dX8_lays_41 : decode cX8_lays 41 = .ok (.getfield 13, 3) := by decide +kernel
theorem dX8_lays_44 : decode cX8_lays 44 = .ok (.iconst 1, 1) := by decide +kernel
theorem dX8_lays_45 : decode cX8_lays 45 = .ok (.dup2, 1) := by decide +kernel
theorem dX8_lays_46 : decode cX8_lays 46 = .ok (.iaload, 1) := by decide +kernel
theorem dX8_lays_47 : decode cX8_lays 47 = .ok (.iconst 1, 1) := by decide +kernel
theorem dX8_lays_48 : decode cX8_lays 48 = .ok (.iadd, 1) := by decide +kernel
theorem dX8_lays_49 : decode cX8_lays 49 = .ok (.iastore, 1) := by decide +kernel
theorem dX8_lays_50 : decode cX8_lays 50 = .ok (.return_, 1) := by decide +kernel
theorem dX8_comes_0 : decode cX8_comes 0 = .ok (.aload_n 0, 1) := by decide +kernel
theorem dX8_comes_1 : decode cX8_comes 1 = .ok (.getfield 13, 3) := by decide +kernel
theorem dX8_comes_4 : decode cX8_comes 4 = .ok (.iconst 2, 1) := by decide +kernel
theorem dX8_comes_5 : decode cX8_comes 5 = .ok (.iaload, 1) := by decide +kernel
theorem dX8_comes_6 : decode cX8_comes 6 = .ok (.istore 6, 2) := by decide +kernel
theorem dX8_comes_8 : decode cX8_comes 8 = .ok (.aload_n 0, 1) := by decide +kernel
theorem dX8_comes_9 : decode cX8_comes 9 = .ok (.getfield 13, 3) := by decide +kernel
theorem dX8_comes_12 : decode cX8_comes 12 = .ok (.bipush 40, 2) := by decide +kernel
theorem dX8_comes_14 : decode cX8_comes 14 = .ok (.iload 6, 2) := by decide +kernel
theorem dX8_comes_16 : decode cX8_comes 16 = .ok (.iadd, 1) := by decide +kernel
theorem dX8_comes_17 : decode cX8_comes 17 = .ok (.iload_n 1, 1) := by decide +kernel
theorem dX8_comes_18 : decode cX8_comes 18 = .ok (.iastore, 1) := by decide +kernel
theorem dX8_comes_19 : decode cX8_comes 19 = .ok (.aload_n 0, 1) := by decide +kernel
theorem dX8_comes_20 : decode cX8_comes 20 = .ok (.getfield 13, 3) := by decide +kernel
theorem dX8_comes_23 : decode cX8_comes 23 = .ok (.bipush 45, 2) := by decide +kernel
theorem dX8_comes_25 : decode cX8_comes 25 = .ok (.iload 6, 2) := by decide +kernel
theorem dX8_comes_27 : decode cX8_comes 27 = .ok (.iadd, 1) := by decide +kernel
theorem dX8_comes_28 : decode cX8_comes 28 = .ok (.iload_n 2, 1) := by decide +kernel
theorem dX8_comes_29 : decode cX8_comes 29 = .ok (.iastore, 1) := by decide +kernel
theorem dX8_comes_30 : decode cX8_comes 30 = .ok (.aload_n 0, 1) := by decide +kernel
theorem dX8_comes_31 : decode cX8_comes 31 = .ok (.getfield 13, 3) := by decide +kernel
theorem dX8_comes_34 : decode cX8_comes 34 = .ok (.bipush 50, 2) := by decide +kernel
theorem dX8_comes_36 : decode cX8_comes 36 = .ok (.iload 6, 2) := by decide +kernel
theorem dX8_comes_38 : decode cX8_comes 38 = .ok (.iadd, 1) := by decide +kernel
theorem dX8_comes_39 : decode cX8_comes 39 = .ok (.iload_n 3, 1) := by decide +kernel
theorem dX8_comes_40 : decode cX8_comes 40 = .ok (.iastore, 1) := by decide +kernel
theorem dX8_comes_41 : decode cX8_comes 41 = .ok (.aload_n 0, 1) := by decide +kernel
theorem dX8_comes_42 : decode cX8_comes 42 = .ok (.getfield 13, 3) := by decide +kernel
theorem dX8_comes_45 : decode cX8_comes 45 = .ok (.bipush 55, 2) := by decide +kernel
theorem dX8_comes_47 : decode cX8_comes 47 = .ok (.iload 6, 2) := by decide +kernel
theorem dX8_comes_49 : decode cX8_comes 49 = .ok (.iadd, 1) := by decide +kernel
theorem dX8_comes_50 : decode cX8_comes 50 = .ok (.iload 4, 2) := by decide +kernel
theorem dX8_comes_52 : decode cX8_comes 52 = .ok (.iastore, 1) := by decide +kernel
theorem dX8_comes_53 : decode cX8_comes 53 = .ok (.aload_n 0, 1) := by decide +kernel
theorem dX8_comes_54 : decode cX8_comes 54 = .ok (.getfield 13, 3) := by decide +kernel
theorem dX8_comes_57 : decode cX8_comes 57 = .ok (.bipush 60, 2) := by decide +kernel
theorem dX8_comes_59 : decode cX8_comes 59 = .ok (.iload 6, 2) := by decide +kernel
theorem dX8_comes_61 : decode cX8_comes 61 = .ok (.iadd, 1) := by decide +kernel
theorem dX8_comes_62 : decode cX8_comes 62 = .ok (.iload 5, 2) := by decide +kernel
theorem dX8_comes_64 : decode cX8_comes 64 = .ok (.iastore, 1) := by decide +kernel
theorem dX8_comes_65 : decode cX8_comes 65 = .ok (.aload_n 0, 1) := by decide +kernel
theorem dX8_comes_66 : decode cX8_comes 66 = .ok (.getfield 13, 3) := by decide +kernel
theorem dX8_comes_69 : decode cX8_comes 69 = .ok (.iconst 2, 1) := by decide +kernel
theorem dX8_comes_70 : decode cX8_comes 70 = .ok (.dup2, 1) := by decide +kernel
theorem dX8_comes_71 : decode cX8_comes 71 = .ok (.iaload, 1) := by decide +kernel
theorem dX8_comes_72 : decode cX8_comes 72 = .ok (.iconst 1, 1) := by decide +kernel
theorem dX8_comes_73 : decode cX8_comes 73 = .ok (.iadd, 1) := by decide +kernel
theorem dX8_comes_74 : decode cX8_comes 74 = .ok (.iastore, 1) := by decide +kernel
theorem dX8_comes_75 : decode cX8_comes 75 = .ok (.return_, 1) := by decide +kernel
theorem dX8_areTwo_0 : decode cX8_areTwo 0 = .ok (.aload_n 0, 1) := by decide +kernel
theorem dX8_areTwo_1 : decode cX8_areTwo 1 = .ok (.getfield 13, 3) := by decide +kernel
theorem dX8_areTwo_4 : decode cX8_areTwo 4 = .ok (.iconst 0, 1) := by decide +kernel
theorem dX8_areTwo_5 : decode cX8_areTwo 5 = .ok (.iaload, 1) := by decide +kernel
theorem dX8_areTwo_6 : decode cX8_areTwo 6 = .ok (.iconst 1, 1) := by decide +kernel
theorem dX8_areTwo_7 : decode cX8_areTwo 7 = .ok (.isub, 1) := by decide +kernel
theorem dX8_areTwo_8 : decode cX8_areTwo 8 = .ok (.istore_n 1, 1) := by decide +kernel
theorem dX8_areTwo_9 : decode cX8_areTwo 9 = .ok (.aload_n 0, 1) := by decide +kernel
theorem dX8_areTwo_10 : decode cX8_areTwo 10 = .ok (.iconst 0, 1) := by decide +kernel
theorem dX8_areTwo_11 : decode cX8_areTwo 11 = .ok (.iconst 0, 1) := by decide +kernel
theorem dX8_areTwo_12 : decode cX8_areTwo 12 = .ok (.iload_n 1, 1) := by decide +kernel
theorem dX8_areTwo_13 : decode cX8_areTwo 13 = .ok (.invokevirtual 81, 3) := by decide +kernel
theorem dX8_areTwo_16 : decode cX8_areTwo 16 = .ok (.ifCond .eq 32, 3) := by decide +kernel
theorem dX8_areTwo_19 : decode cX8_areTwo 19 = .ok (.aload_n 0, 1) := by decide +kernel
theorem dX8_areTwo_20 : decode cX8_areTwo 20 = .ok (.iconst 1, 1) := by decide +kernel
theorem dX8_areTwo_21 : decode cX8_areTwo 21 = .ok (.iconst 0, 1) := by decide +kernel
theorem dX8_areTwo_22 : decode cX8_areTwo 22 = .ok (.iload_n 1, 1) := by decide +kernel
theorem dX8_areTwo_23 : decode cX8_areTwo 23 = .ok (.invokevirtual 81, 3) := by decide +kernel
theorem dX8_areTwo_26 : decode cX8_areTwo 26 = .ok (.ifCond .eq 22, 3) := by decide +kernel
theorem dX8_areTwo_29 : decode cX8_areTwo 29 = .ok (.aload_n 0, 1) := by decide +kernel
theorem dX8_areTwo_30 : decode cX8_areTwo 30 = .ok (.getfield 31, 3) := by decide +kernel
theorem dX8_areTwo_33 : decode cX8_areTwo 33 = .ok (.iconst 0, 1) := by decide +kernel
theorem dX8_areTwo_34 : decode cX8_areTwo 34 = .ok (.iaload, 1) := by decide +kernel
theorem dX8_areTwo_35 : decode cX8_areTwo 35 = .ok (.aload_n 0, 1) := by decide +kernel
theorem dX8_areTwo_36 : decode cX8_areTwo 36 = .ok (.getfield 31, 3) := by decide +kernel
theorem dX8_areTwo_39 : decode cX8_areTwo 39 = .ok (.iconst 1, 1) := by decide +kernel
theorem dX8_areTwo_40 : decode cX8_areTwo 40 = .ok (.iaload, 1) := by decide +kernel
theorem dX8_areTwo_41 : decode cX8_areTwo 41 = .ok (.if_icmp .eq 7, 3) := by decide +kernel
theorem dX8_areTwo_44 : decode cX8_areTwo 44 = .ok (.iconst 1, 1) := by decide +kernel
theorem dX8_areTwo_45 : decode cX8_areTwo 45 = .ok (.goto 4, 3) := by decide +kernel
theorem dX8_areTwo_48 : decode cX8_areTwo 48 = .ok (.iconst 0, 1) := by decide +kernel
theorem dX8_areTwo_49 : decode cX8_areTwo 49 = .ok (.ireturn, 1) := by decide +kernel
theorem dX8_takesBridge_0 : decode cX8_takesBridge 0 = .ok (.aload_n 0, 1) := by decide +kernel
theorem dX8_takesBridge_1 : decode cX8_takesBridge 1 = .ok (.iconst 3, 1) := by decide +kernel
theorem dX8_takesBridge_2 : decode cX8_takesBridge 2 = .ok (.invokevirtual 85, 3) := by decide +kernel
theorem dX8_takesBridge_5 : decode cX8_takesBridge 5 = .ok (.ifCond .eq 21, 3) := by decide +kernel
theorem dX8_takesBridge_8 : decode cX8_takesBridge 8 = .ok (.aload_n 0, 1) := by decide +kernel
theorem dX8_takesBridge_9 : decode cX8_takesBridge 9 = .ok (.invokevirtual 89, 3) := by decide +kernel
theorem dX8_takesBridge_12 : decode cX8_takesBridge 12 = .ok (.ifCond .eq 14, 3) := by decide +kernel
theorem dX8_takesBridge_15 : decode cX8_takesBridge 15 = .ok (.aload_n 0, 1) := by decide +kernel
theorem dX8_takesBridge_16 : decode cX8_takesBridge 16 = .ok (.getfield 13, 3) := by decide +kernel
theorem dX8_takesBridge_19 : decode cX8_takesBridge 19 = .ok (.iconst 1, 1) := by decide +kernel
theorem dX8_takesBridge_20 : decode cX8_takesBridge 20 = .ok (.iaload, 1) := by decide +kernel
theorem dX8_takesBridge_21 : decode cX8_takesBridge 21 = .ok (.bipush 9, 2) := by decide +kernel
theorem dX8_takesBridge_23 : decode cX8_takesBridge 23 = .ok (.if_icmp .ne 5, 3) := by decide +kernel
theorem dX8_takesBridge_26 : decode cX8_takesBridge 26 = .ok (.iconst 0, 1) := by decide +kernel
theorem dX8_takesBridge_27 : decode cX8_takesBridge 27 = .ok (.ireturn, 1) := by decide +kernel
theorem dX8_takesBridge_28 : decode cX8_takesBridge 28 = .ok (.aload_n 0, 1) := by decide +kernel
theorem dX8_takesBridge_29 : decode cX8_takesBridge 29 = .ok (.aload_n 0, 1) := by decide +kernel
theorem dX8_takesBridge_30 : decode cX8_takesBridge 30 = .ok (.getfield 31, 3) := by decide +kernel
theorem dX8_takesBridge_33 : decode cX8_takesBridge 33 = .ok (.iconst 0, 1) := by decide +kernel
theorem dX8_takesBridge_34 : decode cX8_takesBridge 34 = .ok (.iaload, 1) := by decide +kernel
theorem dX8_takesBridge_35 : decode cX8_takesBridge 35 = .ok (.aload_n 0, 1) := by decide +kernel
theorem dX8_takesBridge_36 : decode cX8_takesBridge 36 = .ok (.getfield 31, 3) := by decide +kernel
theorem dX8_takesBridge_39 : decode cX8_takesBridge 39 = .ok (.iconst 1, 1) := by decide +kernel
theorem dX8_takesBridge_40 : decode cX8_takesBridge 40 = .ok (.iaload, 1) := by decide +kernel
theorem dX8_takesBridge_41 : decode cX8_takesBridge 41 = .ok (.aload_n 0, 1) := by decide +kernel
theorem dX8_takesBridge_42 : decode cX8_takesBridge 42 = .ok (.getfield 31, 3) := by decide +kernel
theorem dX8_takesBridge_45 : decode cX8_takesBridge 45 = .ok (.iconst 2, 1) := by decide +kernel
theorem dX8_takesBridge_46 : decode cX8_takesBridge 46 = .ok (.iaload, 1) := by decide +kernel
theorem dX8_takesBridge_47 : decode cX8_takesBridge 47 = .ok (.invokevirtual 49, 3) := by decide +kernel
theorem dX8_takesBridge_50 : decode cX8_takesBridge 50 = .ok (.iconst 1, 1) := by decide +kernel
theorem dX8_takesBridge_51 : decode cX8_takesBridge 51 = .ok (.ireturn, 1) := by decide +kernel
theorem dX8_takesGoer_0 : decode cX8_takesGoer 0 = .ok (.aload_n 0, 1) := by decide +kernel
theorem dX8_takesGoer_1 : decode cX8_takesGoer 1 = .ok (.iconst 5, 1) := by decide +kernel
theorem dX8_takesGoer_2 : decode cX8_takesGoer 2 = .ok (.invokevirtual 85, 3) := by decide +kernel
theorem dX8_takesGoer_5 : decode cX8_takesGoer 5 = .ok (.ifCond .eq 52, 3) := by decide +kernel
theorem dX8_takesGoer_8 : decode cX8_takesGoer 8 = .ok (.aload_n 0, 1) := by decide +kernel
theorem dX8_takesGoer_9 : decode cX8_takesGoer 9 = .ok (.invokevirtual 89, 3) := by decide +kernel
theorem dX8_takesGoer_12 : decode cX8_takesGoer 12 = .ok (.ifCond .eq 45, 3) := by decide +kernel
theorem dX8_takesGoer_15 : decode cX8_takesGoer 15 = .ok (.aload_n 0, 1) := by decide +kernel
theorem dX8_takesGoer_16 : decode cX8_takesGoer 16 = .ok (.iconst 2, 1) := by decide +kernel
theorem dX8_takesGoer_17 : decode cX8_takesGoer 17 = .ok (.iconst 1, 1) := by decide +kernel
theorem dX8_takesGoer_18 : decode cX8_takesGoer 18 = .ok (.bipush 40, 2) := by decide +kernel
theorem dX8_takesGoer_20 : decode cX8_takesGoer 20 = .ok (.invokevirtual 81, 3) := by decide +kernel
theorem dX8_takesGoer_23 : decode cX8_takesGoer 23 = .ok (.ifCond .eq 34, 3) := by decide +kernel
theorem dX8_takesGoer_26 : decode cX8_takesGoer 26 = .ok (.aload_n 0, 1) := by decide +kernel
theorem dX8_takesGoer_27 : decode cX8_takesGoer 27 = .ok (.iconst 3, 1) := by decide +kernel
theorem dX8_takesGoer_28 : decode cX8_takesGoer 28 = .ok (.iconst 0, 1) := by decide +kernel
theorem dX8_takesGoer_29 : decode cX8_takesGoer 29 = .ok (.bipush 20, 2) := by decide +kernel
theorem dX8_takesGoer_31 : decode cX8_takesGoer 31 = .ok (.invokevirtual 81, 3) := by decide +kernel
theorem dX8_takesGoer_34 : decode cX8_takesGoer 34 = .ok (.ifCond .eq 23, 3) := by decide +kernel
theorem dX8_takesGoer_37 : decode cX8_takesGoer 37 = .ok (.aload_n 0, 1) := by decide +kernel
theorem dX8_takesGoer_38 : decode cX8_takesGoer 38 = .ok (.iconst 4, 1) := by decide +kernel
theorem dX8_takesGoer_39 : decode cX8_takesGoer 39 = .ok (.iconst 0, 1) := by decide +kernel
theorem dX8_takesGoer_40 : decode cX8_takesGoer 40 = .ok (.iconst 4, 1) := by decide +kernel
theorem dX8_takesGoer_41 : decode cX8_takesGoer 41 = .ok (.invokevirtual 81, 3) := by decide +kernel
theorem dX8_takesGoer_44 : decode cX8_takesGoer 44 = .ok (.ifCond .eq 13, 3) := by decide +kernel
theorem dX8_takesGoer_47 : decode cX8_takesGoer 47 = .ok (.aload_n 0, 1) := by decide +kernel
theorem dX8_takesGoer_48 : decode cX8_takesGoer 48 = .ok (.getfield 13, 3) := by decide +kernel
theorem dX8_takesGoer_51 : decode cX8_takesGoer 51 = .ok (.iconst 2, 1) := by decide +kernel
theorem dX8_takesGoer_52 : decode cX8_takesGoer 52 = .ok (.iaload, 1) := by decide +kernel
theorem dX8_takesGoer_53 : decode cX8_takesGoer 53 = .ok (.iconst 5, 1) := by decide +kernel
theorem dX8_takesGoer_54 : decode cX8_takesGoer 54 = .ok (.if_icmp .ne 5, 3) := by decide +kernel
theorem dX8_takesGoer_57 : decode cX8_takesGoer 57 = .ok (.iconst 0, 1) := by decide +kernel
theorem dX8_takesGoer_58 : decode cX8_takesGoer 58 = .ok (.ireturn, 1) := by decide +kernel
theorem dX8_takesGoer_59 : decode cX8_takesGoer 59 = .ok (.aload_n 0, 1) := by decide +kernel
theorem dX8_takesGoer_60 : decode cX8_takesGoer 60 = .ok (.aload_n 0, 1) := by decide +kernel
theorem dX8_takesGoer_61 : decode cX8_takesGoer 61 = .ok (.getfield 31, 3) := by decide +kernel
theorem dX8_takesGoer_64 : decode cX8_takesGoer 64 = .ok (.iconst 0, 1) := by decide +kernel
theorem dX8_takesGoer_65 : decode cX8_takesGoer 65 = .ok (.iaload, 1) := by decide +kernel
theorem dX8_takesGoer_66 : decode cX8_takesGoer 66 = .ok (.aload_n 0, 1) := by decide +kernel
theorem dX8_takesGoer_67 : decode cX8_takesGoer 67 = .ok (.getfield 31, 3) := by decide +kernel
theorem dX8_takesGoer_70 : decode cX8_takesGoer 70 = .ok (.iconst 1, 1) := by decide +kernel
theorem dX8_takesGoer_71 : decode cX8_takesGoer 71 = .ok (.iaload, 1) := by decide +kernel
theorem dX8_takesGoer_72 : decode cX8_takesGoer 72 = .ok (.aload_n 0, 1) := by decide +kernel
theorem dX8_takesGoer_73 : decode cX8_takesGoer 73 = .ok (.getfield 31, 3) := by decide +kernel
theorem dX8_takesGoer_76 : decode cX8_takesGoer 76 = .ok (.iconst 2, 1) := by decide +kernel
theorem dX8_takesGoer_77 : decode cX8_takesGoer 77 = .ok (.iaload, 1) := by decide +kernel
theorem dX8_takesGoer_78 : decode cX8_takesGoer 78 = .ok (.aload_n 0, 1) := by decide +kernel
theorem dX8_takesGoer_79 : decode cX8_takesGoer 79 = .ok (.getfield 31, 3) := by decide +kernel
theorem dX8_takesGoer_82 : decode cX8_takesGoer 82 = .ok (.iconst 3, 1) := by decide +kernel
theorem dX8_takesGoer_83 : decode cX8_takesGoer 83 = .ok (.iaload, 1) := by decide +kernel
theorem dX8_takesGoer_84 : decode cX8_takesGoer 84 = .ok (.aload_n 0, 1) := by decide +kernel
theorem dX8_takesGoer_85 : decode cX8_takesGoer 85 = .ok (.getfield 31, 3) := by decide +kernel
theorem dX8_takesGoer_88 : decode cX8_takesGoer 88 = .ok (.iconst 4, 1) := by decide +kernel
theorem dX8_takesGoer_89 : decode cX8_takesGoer 89 = .ok (.iaload, 1) := by decide +kernel
theorem dX8_takesGoer_90 : decode cX8_takesGoer 90 = .ok (.invokevirtual 53, 3) := by decide +kernel
theorem dX8_takesGoer_93 : decode cX8_takesGoer 93 = .ok (.iconst 1, 1) := by decide +kernel
theorem dX8_takesGoer_94 : decode cX8_takesGoer 94 = .ok (.ireturn, 1) := by decide +kernel
theorem dX8_takesOak_0 : decode cX8_takesOak 0 = .ok (.aload_n 0, 1) := by decide +kernel
theorem dX8_takesOak_1 : decode cX8_takesOak 1 = .ok (.iconst 1, 1) := by decide +kernel
theorem dX8_takesOak_2 : decode cX8_takesOak 2 = .ok (.invokevirtual 85, 3) := by decide +kernel
theorem dX8_takesOak_5 : decode cX8_takesOak 5 = .ok (.ifCond .eq 20, 3) := by decide +kernel
theorem dX8_takesOak_8 : decode cX8_takesOak 8 = .ok (.aload_n 0, 1) := by decide +kernel
theorem dX8_takesOak_9 : decode cX8_takesOak 9 = .ok (.iconst 0, 1) := by decide +kernel
theorem dX8_takesOak_10 : decode cX8_takesOak 10 = .ok (.iconst 0, 1) := by decide +kernel
theorem dX8_takesOak_11 : decode cX8_takesOak 11 = .ok (.aload_n 0, 1) := by decide +kernel
theorem dX8_takesOak_12 : decode cX8_takesOak 12 = .ok (.getfield 13, 3) := by decide +kernel
theorem dX8_takesOak_15 : decode cX8_takesOak 15 = .ok (.iconst 1, 1) := by decide +kernel
theorem dX8_takesOak_16 : decode cX8_takesOak 16 = .ok (.iaload, 1) := by decide +kernel
theorem dX8_takesOak_17 : decode cX8_takesOak 17 = .ok (.iconst 1, 1) := by decide +kernel
theorem dX8_takesOak_18 : decode cX8_takesOak 18 = .ok (.isub, 1) := by decide +kernel
theorem dX8_takesOak_19 : decode cX8_takesOak 19 = .ok (.invokevirtual 81, 3) := by decide +kernel
theorem dX8_takesOak_22 : decode cX8_takesOak 22 = .ok (.ifCond .ne 5, 3) := by decide +kernel
theorem dX8_takesOak_25 : decode cX8_takesOak 25 = .ok (.iconst 0, 1) := by decide +kernel
theorem dX8_takesOak_26 : decode cX8_takesOak 26 = .ok (.ireturn, 1) := by decide +kernel
theorem dX8_takesOak_27 : decode cX8_takesOak 27 = .ok (.aload_n 0, 1) := by decide +kernel
theorem dX8_takesOak_28 : decode cX8_takesOak 28 = .ok (.getfield 13, 3) := by decide +kernel
theorem dX8_takesOak_31 : decode cX8_takesOak 31 = .ok (.bipush 31, 2) := by decide +kernel
theorem dX8_takesOak_33 : decode cX8_takesOak 33 = .ok (.aload_n 0, 1) := by decide +kernel
theorem dX8_takesOak_34 : decode cX8_takesOak 34 = .ok (.getfield 31, 3) := by decide +kernel
theorem dX8_takesOak_37 : decode cX8_takesOak 37 = .ok (.iconst 0, 1) := by decide +kernel
theorem dX8_takesOak_38 : decode cX8_takesOak 38 = .ok (.iaload, 1) := by decide +kernel
theorem dX8_takesOak_39 : decode cX8_takesOak 39 = .ok (.iadd, 1) := by decide +kernel
theorem dX8_takesOak_40 : decode cX8_takesOak 40 = .ok (.iconst 1, 1) := by decide +kernel
theorem dX8_takesOak_41 : decode cX8_takesOak 41 = .ok (.iastore, 1) := by decide +kernel
theorem dX8_takesOak_42 : decode cX8_takesOak 42 = .ok (.iconst 1, 1) := by decide +kernel
theorem dX8_takesOak_43 : decode cX8_takesOak 43 = .ok (.ireturn, 1) := by decide +kernel
theorem dX8_takesOne_0 : decode cX8_takesOne 0 = .ok (.aload_n 0, 1) := by decide +kernel
theorem dX8_takesOne_1 : decode cX8_takesOne 1 = .ok (.iconst 1, 1) := by decide +kernel
theorem dX8_takesOne_2 : decode cX8_takesOne 2 = .ok (.invokevirtual 85, 3) := by decide +kernel
theorem dX8_takesOne_5 : decode cX8_takesOne 5 = .ok (.ifCond .eq 13, 3) := by decide +kernel
theorem dX8_takesOne_8 : decode cX8_takesOne 8 = .ok (.aload_n 0, 1) := by decide +kernel
theorem dX8_takesOne_9 : decode cX8_takesOne 9 = .ok (.iconst 0, 1) := by decide +kernel
theorem dX8_takesOne_10 : decode cX8_takesOne 10 = .ok (.iload_n 2, 1) := by decide +kernel
theorem dX8_takesOne_11 : decode cX8_takesOne 11 = .ok (.iload_n 3, 1) := by decide +kernel
theorem dX8_takesOne_12 : decode cX8_takesOne 12 = .ok (.invokevirtual 81, 3) := by decide +kernel
theorem dX8_takesOne_15 : decode cX8_takesOne 15 = .ok (.ifCond .ne 5, 3) := by decide +kernel
theorem dX8_takesOne_18 : decode cX8_takesOne 18 = .ok (.iconst 0, 1) := by decide +kernel
theorem dX8_takesOne_19 : decode cX8_takesOne 19 = .ok (.ireturn, 1) := by decide +kernel
theorem dX8_takesOne_20 : decode cX8_takesOne 20 = .ok (.aload_n 0, 1) := by decide +kernel
theorem dX8_takesOne_21 : decode cX8_takesOne 21 = .ok (.getfield 13, 3) := by decide +kernel
theorem dX8_takesOne_24 : decode cX8_takesOne 24 = .ok (.iload_n 1, 1) := by decide +kernel
theorem dX8_takesOne_25 : decode cX8_takesOne 25 = .ok (.aload_n 0, 1) := by decide +kernel
theorem dX8_takesOne_26 : decode cX8_takesOne 26 = .ok (.getfield 31, 3) := by decide +kernel
theorem dX8_takesOne_29 : decode cX8_takesOne 29 = .ok (.iconst 0, 1) := by decide +kernel
theorem dX8_takesOne_30 : decode cX8_takesOne 30 = .ok (.iaload, 1) := by decide +kernel
theorem dX8_takesOne_31 : decode cX8_takesOne 31 = .ok (.iastore, 1) := by decide +kernel
theorem dX8_takesOne_32 : decode cX8_takesOne 32 = .ok (.iconst 1, 1) := by decide +kernel
theorem dX8_takesOne_33 : decode cX8_takesOne 33 = .ok (.ireturn, 1) := by decide +kernel
theorem dX8_takesItem_0 : decode cX8_takesItem 0 = .ok (.aload_n 0, 1) := by decide +kernel
theorem dX8_takesItem_1 : decode cX8_takesItem 1 = .ok (.getfield 16, 3) := by decide +kernel
theorem dX8_takesItem_4 : decode cX8_takesItem 4 = .ok (.aload_n 0, 1) := by decide +kernel
theorem dX8_takesItem_5 : decode cX8_takesItem 5 = .ok (.getfield 72, 3) := by decide +kernel
theorem dX8_takesItem_8 : decode cX8_takesItem 8 = .ok (.iaload, 1) := by decide +kernel
theorem dX8_takesItem_9 : decode cX8_takesItem 9 = .ok (.istore_n 2, 1) := by decide +kernel
theorem dX8_takesItem_10 : decode cX8_takesItem 10 = .ok (.aload_n 0, 1) := by decide +kernel
theorem dX8_takesItem_11 : decode cX8_takesItem 11 = .ok (.dup, 1) := by decide +kernel
theorem dX8_takesItem_12 : decode cX8_takesItem 12 = .ok (.getfield 72, 3) := by decide +kernel
theorem dX8_takesItem_15 : decode cX8_takesItem 15 = .ok (.iconst 1, 1) := by decide +kernel
theorem dX8_takesItem_16 : decode cX8_takesItem 16 = .ok (.iadd, 1) := by decide +kernel
theorem dX8_takesItem_17 : decode cX8_takesItem 17 = .ok (.putfield 72, 3) := by decide +kernel
theorem dX8_takesItem_20 : decode cX8_takesItem 20 = .ok (.iload_n 2, 1) := by decide +kernel
theorem dX8_takesItem_21 : decode cX8_takesItem 21 = .ok (.tableswitch 116 98 111 #[101, 116, 92, 116, 116, 111, 116, 71, 116, 116, 116, 116, 116, 106], 71) := by decide +kernel
theorem dX8_takesItem_92 : decode cX8_takesItem 92 = .ok (.iload_n 1, 1) := by decide +kernel
theorem dX8_takesItem_93 : decode cX8_takesItem 93 = .ok (.ifCond .eq 18, 3) := by decide +kernel
theorem dX8_takesItem_96 : decode cX8_takesItem 96 = .ok (.aload_n 0, 1) := by decide +kernel
theorem dX8_takesItem_97 : decode cX8_takesItem 97 = .ok (.iconst 0, 1) := by decide +kernel
theorem dX8_takesItem_98 : decode cX8_takesItem 98 = .ok (.iconst 2, 1) := by decide +kernel
theorem dX8_takesItem_99 : decode cX8_takesItem 99 = .ok (.bipush 8, 2) := by decide +kernel
theorem dX8_takesItem_101 : decode cX8_takesItem 101 = .ok (.invokevirtual 93, 3) := by decide +kernel
theorem dX8_takesItem_104 : decode cX8_takesItem 104 = .ok (.ifCond .eq 7, 3) := by decide +kernel
theorem dX8_takesItem_107 : decode cX8_takesItem 107 = .ok (.iconst 1, 1) := by decide +kernel
theorem dX8_takesItem_108 : decode cX8_takesItem 108 = .ok (.goto 4, 3) := by decide +kernel
theorem dX8_takesItem_111 : decode cX8_takesItem 111 = .ok (.iconst 0, 1) := by decide +kernel
theorem dX8_takesItem_112 : decode cX8_takesItem 112 = .ok (.ireturn, 1) := by decide +kernel
theorem dX8_takesItem_113 : decode cX8_takesItem 113 = .ok (.aload_n 0, 1) := by decide +kernel
theorem dX8_takesItem_114 : decode cX8_takesItem 114 = .ok (.iconst 3, 1) := by decide +kernel
theorem dX8_takesItem_115 : decode cX8_takesItem 115 = .ok (.iconst 1, 1) := by decide +kernel
theorem dX8_takesItem_116 : decode cX8_takesItem 116 = .ok (.bipush 9, 2) := by decide +kernel
theorem dX8_takesItem_118 : decode cX8_takesItem 118 = .ok (.invokevirtual 93, 3) := by decide +kernel
theorem dX8_takesItem_121 : decode cX8_takesItem 121 = .ok (.ireturn, 1) := by decide +kernel
theorem dX8_takesItem_122 : decode cX8_takesItem 122 = .ok (.aload_n 0, 1) := by decide +kernel
theorem dX8_takesItem_123 : decode cX8_takesItem 123 = .ok (.invokevirtual 96, 3) := by decide +kernel
theorem dX8_takesItem_126 : decode cX8_takesItem 126 = .ok (.ireturn, 1) := by decide +kernel
theorem dX8_takesItem_127 : decode cX8_takesItem 127 = .ok (.aload_n 0, 1) := by decide +kernel
theorem dX8_takesItem_128 : decode cX8_takesItem 128 = .ok (.invokevirtual 99, 3) := by decide +kernel
theorem dX8_takesItem_131 : decode cX8_takesItem 131 = .ok (.ireturn, 1) := by decide +kernel
theorem dX8_takesItem_132 : decode cX8_takesItem 132 = .ok (.aload_n 0, 1) := by decide +kernel
theorem dX8_takesItem_133 : decode cX8_takesItem 133 = .ok (.invokevirtual 102, 3) := by decide +kernel
theorem dX8_takesItem_136 : decode cX8_takesItem 136 = .ok (.ireturn, 1) := by decide +kernel
theorem dX8_takesItem_137 : decode cX8_takesItem 137 = .ok (.iconst 0, 1) := by decide +kernel
theorem dX8_takesItem_138 : decode cX8_takesItem 138 = .ok (.ireturn, 1) := by decide +kernel
theorem dX8_faultOf_0 : decode cX8_faultOf 0 = .ok (.aload_n 0, 1) := by decide +kernel
theorem dX8_faultOf_1 : decode cX8_faultOf 1 = .ok (.invokevirtual 46, 3) := by decide +kernel
theorem dX8_faultOf_4 : decode cX8_faultOf 4 = .ok (.aload_n 0, 1) := by decide +kernel
theorem dX8_faultOf_5 : decode cX8_faultOf 5 = .ok (.iconst 0, 1) := by decide +kernel
theorem dX8_faultOf_6 : decode cX8_faultOf 6 = .ok (.putfield 72, 3) := by decide +kernel
theorem dX8_faultOf_9 : decode cX8_faultOf 9 = .ok (.iconst 1, 1) := by decide +kernel
theorem dX8_faultOf_10 : decode cX8_faultOf 10 = .ok (.istore_n 1, 1) := by decide +kernel
theorem dX8_faultOf_11 : decode cX8_faultOf 11 = .ok (.aload_n 0, 1) := by decide +kernel
theorem dX8_faultOf_12 : decode cX8_faultOf 12 = .ok (.getfield 72, 3) := by decide +kernel
theorem dX8_faultOf_15 : decode cX8_faultOf 15 = .ok (.aload_n 0, 1) := by decide +kernel
theorem dX8_faultOf_16 : decode cX8_faultOf 16 = .ok (.getfield 68, 3) := by decide +kernel
theorem dX8_faultOf_19 : decode cX8_faultOf 19 = .ok (.if_icmp .ge 45, 3) := by decide +kernel
theorem dX8_faultOf_22 : decode cX8_faultOf 22 = .ok (.aload_n 0, 1) := by decide +kernel
theorem dX8_faultOf_23 : decode cX8_faultOf 23 = .ok (.getfield 72, 3) := by decide +kernel
theorem dX8_faultOf_26 : decode cX8_faultOf 26 = .ok (.istore_n 2, 1) := by decide +kernel
theorem dX8_faultOf_27 : decode cX8_faultOf 27 = .ok (.iload_n 1, 1) := by decide +kernel
theorem dX8_faultOf_28 : decode cX8_faultOf 28 = .ok (.ifCond .eq 21, 3) := by decide +kernel
theorem dX8_faultOf_31 : decode cX8_faultOf 31 = .ok (.aload_n 0, 1) := by decide +kernel
theorem dX8_faultOf_32 : decode cX8_faultOf 32 = .ok (.getfield 16, 3) := by decide +kernel
theorem dX8_faultOf_35 : decode cX8_faultOf 35 = .ok (.aload_n 0, 1) := by decide +kernel
theorem dX8_faultOf_36 : decode cX8_faultOf 36 = .ok (.getfield 72, 3) := by decide +kernel
theorem dX8_faultOf_39 : decode cX8_faultOf 39 = .ok (.iaload, 1) := by decide +kernel
theorem dX8_faultOf_40 : decode cX8_faultOf 40 = .ok (.bipush 105, 2) := by decide +kernel
theorem dX8_faultOf_42 : decode cX8_faultOf 42 = .ok (.if_icmp .ne 7, 3) := by decide +kernel
theorem dX8_faultOf_45 : decode cX8_faultOf 45 = .ok (.iconst 1, 1) := by decide +kernel
theorem dX8_faultOf_46 : decode cX8_faultOf 46 = .ok (.goto 4, 3) := by decide +kernel
theorem dX8_faultOf_49 : decode cX8_faultOf 49 = .ok (.iconst 0, 1) := by decide +kernel
theorem dX8_faultOf_50 : decode cX8_faultOf 50 = .ok (.istore_n 1, 1) := by decide +kernel
theorem dX8_faultOf_51 : decode cX8_faultOf 51 = .ok (.aload_n 0, 1) := by decide +kernel
theorem dX8_faultOf_52 : decode cX8_faultOf 52 = .ok (.iload_n 1, 1) := by decide +kernel
theorem dX8_faultOf_53 : decode cX8_faultOf 53 = .ok (.invokevirtual 105, 3) := by decide +kernel
theorem dX8_faultOf_56 : decode cX8_faultOf 56 = .ok (.ifCond .ne 5, 3) := by decide +kernel
theorem dX8_faultOf_59 : decode cX8_faultOf 59 = .ok (.iload_n 2, 1) := by decide +kernel
theorem dX8_faultOf_60 : decode cX8_faultOf 60 = .ok (.ireturn, 1) := by decide +kernel
theorem dX8_faultOf_61 : decode cX8_faultOf 61 = .ok (.goto (-50), 3) := by decide +kernel
theorem dX8_faultOf_64 : decode cX8_faultOf 64 = .ok (.bipush (-4), 2) := by decide +kernel
theorem dX8_faultOf_66 : decode cX8_faultOf 66 = .ok (.ireturn, 1) := by decide +kernel
theorem dX8_fault_0 : decode cX8_fault 0 = .ok (.aload_n 0, 1) := by decide +kernel
theorem dX8_fault_1 : decode cX8_fault 1 = .ok (.invokevirtual 109, 3) := by decide +kernel
theorem dX8_fault_4 : decode cX8_fault 4 = .ok (.ireturn, 1) := by decide +kernel
theorem dX8_begins_0 : decode cX8_begins 0 = .ok (.iconst 0, 1) := by decide +kernel
theorem dX8_begins_1 : decode cX8_begins 1 = .ok (.istore_n 1, 1) := by decide +kernel
theorem dX8_begins_2 : decode cX8_begins 2 = .ok (.iload_n 1, 1) := by decide +kernel
theorem dX8_begins_3 : decode cX8_begins 3 = .ok (.bipush 65, 2) := by decide +kernel
theorem dX8_begins_5 : decode cX8_begins 5 = .ok (.if_icmp .ge 21, 3) := by decide +kernel
theorem dX8_begins_8 : decode cX8_begins 8 = .ok (.aload_n 0, 1) := by decide +kernel
theorem dX8_begins_9 : decode cX8_begins 9 = .ok (.getfield 7, 3) := by decide +kernel
theorem dX8_begins_12 : decode cX8_begins 12 = .ok (.iload_n 1, 1) := by decide +kernel
theorem dX8_begins_13 : decode cX8_begins 13 = .ok (.aload_n 0, 1) := by decide +kernel
theorem dX8_begins_14 : decode cX8_begins 14 = .ok (.getfield 13, 3) := by decide +kernel
theorem dX8_begins_17 : decode cX8_begins 17 = .ok (.iload_n 1, 1) := by decide +kernel
theorem dX8_begins_18 : decode cX8_begins 18 = .ok (.iaload, 1) := by decide +kernel
theorem dX8_begins_19 : decode cX8_begins 19 = .ok (.iastore, 1) := by decide +kernel
theorem dX8_begins_20 : decode cX8_begins 20 = .ok (.iinc 1 1, 3) := by decide +kernel
theorem dX8_begins_23 : decode cX8_begins 23 = .ok (.goto (-21), 3) := by decide +kernel
theorem dX8_begins_26 : decode cX8_begins 26 = .ok (.iconst 0, 1) := by decide +kernel
theorem dX8_begins_27 : decode cX8_begins 27 = .ok (.istore_n 1, 1) := by decide +kernel
theorem dX8_begins_28 : decode cX8_begins 28 = .ok (.iload_n 1, 1) := by decide +kernel
theorem dX8_begins_29 : decode cX8_begins 29 = .ok (.sipush 317, 3) := by decide +kernel
theorem dX8_begins_32 : decode cX8_begins 32 = .ok (.if_icmp .ge 16, 3) := by decide +kernel
theorem dX8_begins_35 : decode cX8_begins 35 = .ok (.aload_n 0, 1) := by decide +kernel
theorem dX8_begins_36 : decode cX8_begins 36 = .ok (.getfield 19, 3) := by decide +kernel
theorem dX8_begins_39 : decode cX8_begins 39 = .ok (.iload_n 1, 1) := by decide +kernel
theorem dX8_begins_40 : decode cX8_begins 40 = .ok (.iconst 0, 1) := by decide +kernel
theorem dX8_begins_41 : decode cX8_begins 41 = .ok (.iastore, 1) := by decide +kernel
theorem dX8_begins_42 : decode cX8_begins 42 = .ok (.iinc 1 1, 3) := by decide +kernel
theorem dX8_begins_45 : decode cX8_begins 45 = .ok (.goto (-17), 3) := by decide +kernel
theorem dX8_begins_48 : decode cX8_begins 48 = .ok (.iconst 0, 1) := by decide +kernel
theorem dX8_begins_49 : decode cX8_begins 49 = .ok (.istore_n 1, 1) := by decide +kernel
theorem dX8_begins_50 : decode cX8_begins 50 = .ok (.iload_n 1, 1) := by decide +kernel
theorem dX8_begins_51 : decode cX8_begins 51 = .ok (.aload_n 0, 1) := by decide +kernel
theorem dX8_begins_52 : decode cX8_begins 52 = .ok (.getfield 7, 3) := by decide +kernel
theorem dX8_begins_55 : decode cX8_begins 55 = .ok (.iconst 2, 1) := by decide +kernel
theorem dX8_begins_56 : decode cX8_begins 56 = .ok (.iaload, 1) := by decide +kernel
theorem dX8_begins_57 : decode cX8_begins 57 = .ok (.if_icmp .ge 45, 3) := by decide +kernel
theorem dX8_begins_60 : decode cX8_begins 60 = .ok (.aload_n 0, 1) := by decide +kernel
theorem dX8_begins_61 : decode cX8_begins 61 = .ok (.getfield 19, 3) := by decide +kernel
theorem dX8_begins_64 : decode cX8_begins 64 = .ok (.bipush 19, 2) := by decide +kernel
theorem dX8_begins_66 : decode cX8_begins 66 = .ok (.iload_n 1, 1) := by decide +kernel
theorem dX8_begins_67 : decode cX8_begins 67 = .ok (.iadd, 1) := by decide +kernel
theorem dX8_begins_68 : decode cX8_begins 68 = .ok (.aload_n 0, 1) := by decide +kernel
theorem dX8_begins_69 : decode cX8_begins 69 = .ok (.getfield 7, 3) := by decide +kernel
theorem dX8_begins_72 : decode cX8_begins 72 = .ok (.bipush 40, 2) := by decide +kernel
theorem dX8_begins_74 : decode cX8_begins 74 = .ok (.iload_n 1, 1) := by decide +kernel
theorem dX8_begins_75 : decode cX8_begins 75 = .ok (.iadd, 1) := by decide +kernel
theorem dX8_begins_76 : decode cX8_begins 76 = .ok (.iaload, 1) := by decide +kernel
theorem dX8_begins_77 : decode cX8_begins 77 = .ok (.iastore, 1) := by decide +kernel
theorem dX8_begins_78 : decode cX8_begins 78 = .ok (.aload_n 0, 1) := by decide +kernel
theorem dX8_begins_79 : decode cX8_begins 79 = .ok (.getfield 19, 3) := by decide +kernel
theorem dX8_begins_82 : decode cX8_begins 82 = .ok (.bipush 24, 2) := by decide +kernel
theorem dX8_begins_84 : decode cX8_begins 84 = .ok (.iload_n 1, 1) := by decide +kernel
theorem dX8_begins_85 : decode cX8_begins 85 = .ok (.iadd, 1) := by decide +kernel
theorem dX8_begins_86 : decode cX8_begins 86 = .ok (.aload_n 0, 1) := by decide +kernel
theorem dX8_begins_87 : decode cX8_begins 87 = .ok (.getfield 7, 3) := by decide +kernel
theorem dX8_begins_90 : decode cX8_begins 90 = .ok (.bipush 45, 2) := by decide +kernel
theorem dX8_begins_92 : decode cX8_begins 92 = .ok (.iload_n 1, 1) := by decide +kernel
theorem dX8_begins_93 : decode cX8_begins 93 = .ok (.iadd, 1) := by decide +kernel
theorem dX8_begins_94 : decode cX8_begins 94 = .ok (.iaload, 1) := by decide +kernel
theorem dX8_begins_95 : decode cX8_begins 95 = .ok (.iastore, 1) := by decide +kernel
theorem dX8_begins_96 : decode cX8_begins 96 = .ok (.iinc 1 1, 3) := by decide +kernel
theorem dX8_begins_99 : decode cX8_begins 99 = .ok (.goto (-49), 3) := by decide +kernel
theorem dX8_begins_102 : decode cX8_begins 102 = .ok (.iconst 0, 1) := by decide +kernel
theorem dX8_begins_103 : decode cX8_begins 103 = .ok (.istore_n 1, 1) := by decide +kernel
theorem dX8_begins_104 : decode cX8_begins 104 = .ok (.iload_n 1, 1) := by decide +kernel
theorem dX8_begins_105 : decode cX8_begins 105 = .ok (.aload_n 0, 1) := by decide +kernel
theorem dX8_begins_106 : decode cX8_begins 106 = .ok (.getfield 7, 3) := by decide +kernel
theorem dX8_begins_109 : decode cX8_begins 109 = .ok (.iconst 1, 1) := by decide +kernel
theorem dX8_begins_110 : decode cX8_begins 110 = .ok (.iaload, 1) := by decide +kernel
theorem dX8_begins_111 : decode cX8_begins 111 = .ok (.if_icmp .ge 46, 3) := by decide +kernel
theorem dX8_begins_114 : decode cX8_begins 114 = .ok (.iconst 1, 1) := by decide +kernel
theorem dX8_begins_115 : decode cX8_begins 115 = .ok (.istore_n 2, 1) := by decide +kernel
theorem dX8_begins_116 : decode cX8_begins 116 = .ok (.iload_n 2, 1) := by decide +kernel
theorem dX8_begins_117 : decode cX8_begins 117 = .ok (.bipush 16, 2) := by decide +kernel
theorem dX8_begins_119 : decode cX8_begins 119 = .ok (.if_icmp .ge 32, 3) := by decide +kernel
theorem dX8_begins_122 : decode cX8_begins 122 = .ok (.aload_n 0, 1) := by decide +kernel
theorem dX8_begins_123 : decode cX8_begins 123 = .ok (.getfield 19, 3) := by decide +kernel
theorem dX8_begins_126 : decode cX8_begins 126 = .ok (.bipush 29, 2) := by decide +kernel
theorem dX8_begins_128 : decode cX8_begins 128 = .ok (.bipush 16, 2) := by decide +kernel
theorem dX8_begins_130 : decode cX8_begins 130 = .ok (.iload_n 1, 1) := by decide +kernel
theorem dX8_begins_131 : decode cX8_begins 131 = .ok (.imul, 1) := by decide +kernel
theorem dX8_begins_132 : decode cX8_begins 132 = .ok (.iadd, 1) := by decide +kernel
theorem dX8_begins_133 : decode cX8_begins 133 = .ok (.iload_n 2, 1) := by decide +kernel
theorem dX8_begins_134 : decode cX8_begins 134 = .ok (.iadd, 1) := by decide +kernel
theorem dX8_begins_135 : decode cX8_begins 135 = .ok (.aload_n 0, 1) := by decide +kernel
theorem dX8_begins_136 : decode cX8_begins 136 = .ok (.getfield 7, 3) := by decide +kernel
theorem dX8_begins_139 : decode cX8_begins 139 = .ok (.bipush 22, 2) := by decide +kernel
theorem dX8_begins_141 : decode cX8_begins 141 = .ok (.iload_n 1, 1) := by decide +kernel
theorem dX8_begins_142 : decode cX8_begins 142 = .ok (.iadd, 1) := by decide +kernel
theorem dX8_begins_143 : decode cX8_begins 143 = .ok (.iaload, 1) := by decide +kernel
theorem dX8_begins_144 : decode cX8_begins 144 = .ok (.iastore, 1) := by decide +kernel
theorem dX8_begins_145 : decode cX8_begins 145 = .ok (.iinc 2 1, 3) := by decide +kernel
theorem dX8_begins_148 : decode cX8_begins 148 = .ok (.goto (-32), 3) := by decide +kernel
theorem dX8_begins_151 : decode cX8_begins 151 = .ok (.iinc 1 1, 3) := by decide +kernel
theorem dX8_begins_154 : decode cX8_begins 154 = .ok (.goto (-50), 3) := by decide +kernel
theorem dX8_begins_157 : decode cX8_begins 157 = .ok (.aload_n 0, 1) := by decide +kernel
theorem dX8_begins_158 : decode cX8_begins 158 = .ok (.iconst 0, 1) := by decide +kernel
theorem dX8_begins_159 : decode cX8_begins 159 = .ok (.putfield 113, 3) := by decide +kernel
theorem dX8_begins_162 : decode cX8_begins 162 = .ok (.aload_n 0, 1) := by decide +kernel
theorem dX8_begins_163 : decode cX8_begins 163 = .ok (.iconst 0, 1) := by decide +kernel
theorem dX8_begins_164 : decode cX8_begins 164 = .ok (.putfield 116, 3) := by decide +kernel
theorem dX8_begins_167 : decode cX8_begins 167 = .ok (.aload_n 0, 1) := by decide +kernel
theorem dX8_begins_168 : decode cX8_begins 168 = .ok (.iconst 0, 1) := by decide +kernel
theorem dX8_begins_169 : decode cX8_begins 169 = .ok (.putfield 119, 3) := by decide +kernel
theorem dX8_begins_172 : decode cX8_begins 172 = .ok (.return_, 1) := by decide +kernel
theorem dX8_lay_0 : decode cX8_lay 0 = .ok (.aload_n 0, 1) := by decide +kernel
theorem dX8_lay_1 : decode cX8_lay 1 = .ok (.invokevirtual 109, 3) := by decide +kernel
theorem dX8_lay_4 : decode cX8_lay 4 = .ok (.bipush (-4), 2) := by decide +kernel
theorem dX8_lay_6 : decode cX8_lay 6 = .ok (.if_icmp .ne 12, 3) := by decide +kernel
theorem dX8_lay_9 : decode cX8_lay 9 = .ok (.aload_n 0, 1) := by decide +kernel
theorem dX8_lay_10 : decode cX8_lay 10 = .ok (.getfield 13, 3) := by decide +kernel
theorem dX8_lay_13 : decode cX8_lay 13 = .ok (.iconst 1, 1) := by decide +kernel
theorem dX8_lay_14 : decode cX8_lay 14 = .ok (.iaload, 1) := by decide +kernel
theorem dX8_lay_15 : decode cX8_lay 15 = .ok (.ifCond .ne 6, 3) := by decide +kernel
theorem dX8_lay_18 : decode cX8_lay 18 = .ok (.bipush (-2), 2) := by decide +kernel
theorem dX8_lay_20 : decode cX8_lay 20 = .ok (.ireturn, 1) := by decide +kernel
theorem dX8_lay_21 : decode cX8_lay 21 = .ok (.aload_n 0, 1) := by decide +kernel
theorem dX8_lay_22 : decode cX8_lay 22 = .ok (.invokevirtual 57, 3) := by decide +kernel
theorem dX8_lay_25 : decode cX8_lay 25 = .ok (.aload_n 0, 1) := by decide +kernel
theorem dX8_lay_26 : decode cX8_lay 26 = .ok (.getfield 7, 3) := by decide +kernel
theorem dX8_lay_29 : decode cX8_lay 29 = .ok (.iconst 0, 1) := by decide +kernel
theorem dX8_lay_30 : decode cX8_lay 30 = .ok (.iaload, 1) := by decide +kernel
theorem dX8_lay_31 : decode cX8_lay 31 = .ok (.ireturn, 1) := by decide +kernel
theorem dX8_isIsland_0 : decode cX8_isIsland 0 = .ok (.iload_n 1, 1) := by decide +kernel
theorem dX8_isIsland_1 : decode cX8_isIsland 1 = .ok (.i2l, 1) := by decide +kernel
theorem dX8_isIsland_2 : decode cX8_isIsland 2 = .ok (.lconst 0, 1) := by decide +kernel
theorem dX8_isIsland_3 : decode cX8_isIsland 3 = .ok (.aload_n 0, 1) := by decide +kernel
theorem dX8_isIsland_4 : decode cX8_isIsland 4 = .ok (.getfield 7, 3) := by decide +kernel
theorem dX8_isIsland_7 : decode cX8_isIsland 7 = .ok (.iconst 0, 1) := by decide +kernel
theorem dX8_isIsland_8 : decode cX8_isIsland 8 = .ok (.iaload, 1) := by decide +kernel
theorem dX8_isIsland_9 : decode cX8_isIsland 9 = .ok (.iconst 1, 1) := by decide +kernel
theorem dX8_isIsland_10 : decode cX8_isIsland 10 = .ok (.isub, 1) := by decide +kernel
theorem dX8_isIsland_11 : decode cX8_isIsland 11 = .ok (.i2l, 1) := by decide +kernel
theorem dX8_isIsland_12 : decode cX8_isIsland 12 = .ok (.invokestatic 60, 3) := by decide +kernel
theorem dX8_isIsland_15 : decode cX8_isIsland 15 = .ok (.ireturn, 1) := by decide +kernel
theorem dX8_isBridge_0 : decode cX8_isBridge 0 = .ok (.iload_n 1, 1) := by decide +kernel
theorem dX8_isBridge_1 : decode cX8_isBridge 1 = .ok (.i2l, 1) := by decide +kernel
theorem dX8_isBridge_2 : decode cX8_isBridge 2 = .ok (.lconst 0, 1) := by decide +kernel
theorem dX8_isBridge_3 : decode cX8_isBridge 3 = .ok (.aload_n 0, 1) := by decide +kernel
theorem dX8_isBridge_4 : decode cX8_isBridge 4 = .ok (.getfield 7, 3) := by decide +kernel
theorem dX8_isBridge_7 : decode cX8_isBridge 7 = .ok (.iconst 1, 1) := by decide +kernel
theorem dX8_isBridge_8 : decode cX8_isBridge 8 = .ok (.iaload, 1) := by decide +kernel
theorem dX8_isBridge_9 : decode cX8_isBridge 9 = .ok (.iconst 1, 1) := by decide +kernel
theorem dX8_isBridge_10 : decode cX8_isBridge 10 = .ok (.isub, 1) := by decide +kernel
theorem dX8_isBridge_11 : decode cX8_isBridge 11 = .ok (.i2l, 1) := by decide +kernel
theorem dX8_isBridge_12 : decode cX8_isBridge 12 = .ok (.invokestatic 60, 3) := by decide +kernel
theorem dX8_isBridge_15 : decode cX8_isBridge 15 = .ok (.ireturn, 1) := by decide +kernel
theorem dX8_isGoer_0 : decode cX8_isGoer 0 = .ok (.iload_n 1, 1) := by decide +kernel
theorem dX8_isGoer_1 : decode cX8_isGoer 1 = .ok (.i2l, 1) := by decide +kernel
theorem dX8_isGoer_2 : decode cX8_isGoer 2 = .ok (.lconst 0, 1) := by decide +kernel
theorem dX8_isGoer_3 : decode cX8_isGoer 3 = .ok (.aload_n 0, 1) := by decide +kernel
theorem dX8_isGoer_4 : decode cX8_isGoer 4 = .ok (.getfield 7, 3) := by decide +kernel
theorem dX8_isGoer_7 : decode cX8_isGoer 7 = .ok (.iconst 2, 1) := by decide +kernel
theorem dX8_isGoer_8 : decode cX8_isGoer 8 = .ok (.iaload, 1) := by decide +kernel
theorem dX8_isGoer_9 : decode cX8_isGoer 9 = .ok (.iconst 1, 1) := by decide +kernel
theorem dX8_isGoer_10 : decode cX8_isGoer 10 = .ok (.isub, 1) := by decide +kernel
theorem dX8_isGoer_11 : decode cX8_isGoer 11 = .ok (.i2l, 1) := by decide +kernel
theorem dX8_isGoer_12 : decode cX8_isGoer 12 = .ok (.invokestatic 60, 3) := by decide +kernel
theorem dX8_isGoer_15 : decode cX8_isGoer 15 = .ok (.ireturn, 1) := by decide +kernel
theorem dX8_oakSet_0 : decode cX8_oakSet 0 = .ok (.iconst 0, 1) := by decide +kernel
theorem dX8_oakSet_1 : decode cX8_oakSet 1 = .ok (.istore_n 1, 1) := by decide +kernel
theorem dX8_oakSet_2 : decode cX8_oakSet 2 = .ok (.iconst 0, 1) := by decide +kernel
theorem dX8_oakSet_3 : decode cX8_oakSet 3 = .ok (.istore_n 2, 1) := by decide +kernel
theorem dX8_oakSet_4 : decode cX8_oakSet 4 = .ok (.iload_n 2, 1) := by decide +kernel
theorem dX8_oakSet_5 : decode cX8_oakSet 5 = .ok (.aload_n 0, 1) := by decide +kernel
theorem dX8_oakSet_6 : decode cX8_oakSet 6 = .ok (.getfield 7, 3) := by decide +kernel
theorem dX8_oakSet_9 : decode cX8_oakSet 9 = .ok (.iconst 1, 1) := by decide +kernel
theorem dX8_oakSet_10 : decode cX8_oakSet 10 = .ok (.iaload, 1) := by decide +kernel
theorem dX8_oakSet_11 : decode cX8_oakSet 11 = .ok (.if_icmp .ge 23, 3) := by decide +kernel
theorem dX8_oakSet_14 : decode cX8_oakSet 14 = .ok (.iload_n 1, 1) := by decide +kernel
theorem dX8_oakSet_15 : decode cX8_oakSet 15 = .ok (.aload_n 0, 1) := by decide +kernel
theorem dX8_oakSet_16 : decode cX8_oakSet 16 = .ok (.getfield 7, 3) := by decide +kernel
theorem dX8_oakSet_19 : decode cX8_oakSet 19 = .ok (.bipush 31, 2) := by decide +kernel
theorem dX8_oakSet_21 : decode cX8_oakSet 21 = .ok (.iload_n 2, 1) := by decide +kernel
theorem dX8_oakSet_22 : decode cX8_oakSet 22 = .ok (.iadd, 1) := by decide +kernel
theorem dX8_oakSet_23 : decode cX8_oakSet 23 = .ok (.iaload, 1) := by decide +kernel
theorem dX8_oakSet_24 : decode cX8_oakSet 24 = .ok (.iload_n 2, 1) := by decide +kernel
theorem dX8_oakSet_25 : decode cX8_oakSet 25 = .ok (.ishl, 1) := by decide +kernel
theorem dX8_oakSet_26 : decode cX8_oakSet 26 = .ok (.ior, 1) := by decide +kernel
theorem dX8_oakSet_27 : decode cX8_oakSet 27 = .ok (.istore_n 1, 1) := by decide +kernel
theorem dX8_oakSet_28 : decode cX8_oakSet 28 = .ok (.iinc 2 1, 3) := by decide +kernel
theorem dX8_oakSet_31 : decode cX8_oakSet 31 = .ok (.goto (-27), 3) := by decide +kernel
theorem dX8_oakSet_34 : decode cX8_oakSet 34 = .ok (.iload_n 1, 1) := by decide +kernel
theorem dX8_oakSet_35 : decode cX8_oakSet 35 = .ok (.ireturn, 1) := by decide +kernel
theorem dX8_plainly_0 : decode cX8_plainly 0 = .ok (.aload_n 0, 1) := by decide +kernel
theorem dX8_plainly_1 : decode cX8_plainly 1 = .ok (.aload_n 0, 1) := by decide +kernel
theorem dX8_plainly_2 : decode cX8_plainly 2 = .ok (.getfield 7, 3) := by decide +kernel
theorem dX8_plainly_5 : decode cX8_plainly 5 = .ok (.iconst 3, 1) := by decide +kernel
theorem dX8_plainly_6 : decode cX8_plainly 6 = .ok (.iaload, 1) := by decide +kernel
theorem dX8_plainly_7 : decode cX8_plainly 7 = .ok (.putfield 122, 3) := by decide +kernel
theorem dX8_plainly_10 : decode cX8_plainly 10 = .ok (.aload_n 0, 1) := by decide +kernel
theorem dX8_plainly_11 : decode cX8_plainly 11 = .ok (.aload_n 0, 1) := by decide +kernel
theorem dX8_plainly_12 : decode cX8_plainly 12 = .ok (.invokevirtual 125, 3) := by decide +kernel
theorem dX8_plainly_15 : decode cX8_plainly 15 = .ok (.putfield 128, 3) := by decide +kernel
theorem dX8_plainly_18 : decode cX8_plainly 18 = .ok (.aload_n 0, 1) := by decide +kernel
theorem dX8_plainly_19 : decode cX8_plainly 19 = .ok (.iconst 0, 1) := by decide +kernel
theorem dX8_plainly_20 : decode cX8_plainly 20 = .ok (.putfield 131, 3) := by decide +kernel
theorem dX8_plainly_23 : decode cX8_plainly 23 = .ok (.aload_n 0, 1) := by decide +kernel
theorem dX8_plainly_24 : decode cX8_plainly 24 = .ok (.iconst (-1), 1) := by decide +kernel
theorem dX8_plainly_25 : decode cX8_plainly 25 = .ok (.putfield 134, 3) := by decide +kernel
theorem dX8_plainly_28 : decode cX8_plainly 28 = .ok (.aload_n 0, 1) := by decide +kernel
theorem dX8_plainly_29 : decode cX8_plainly 29 = .ok (.iconst (-1), 1) := by decide +kernel
theorem dX8_plainly_30 : decode cX8_plainly 30 = .ok (.putfield 137, 3) := by decide +kernel
theorem dX8_plainly_33 : decode cX8_plainly 33 = .ok (.aload_n 0, 1) := by decide +kernel
theorem dX8_plainly_34 : decode cX8_plainly 34 = .ok (.iconst 0, 1) := by decide +kernel
theorem dX8_plainly_35 : decode cX8_plainly 35 = .ok (.putfield 140, 3) := by decide +kernel
theorem dX8_plainly_38 : decode cX8_plainly 38 = .ok (.aload_n 0, 1) := by decide +kernel
theorem dX8_plainly_39 : decode cX8_plainly 39 = .ok (.iconst 0, 1) := by decide +kernel
theorem dX8_plainly_40 : decode cX8_plainly 40 = .ok (.putfield 143, 3) := by decide +kernel
theorem dX8_plainly_43 : decode cX8_plainly 43 = .ok (.aload_n 0, 1) := by decide +kernel
theorem dX8_plainly_44 : decode cX8_plainly 44 = .ok (.iconst 0, 1) := by decide +kernel
theorem dX8_plainly_45 : decode cX8_plainly 45 = .ok (.putfield 146, 3) := by decide +kernel
theorem dX8_plainly_48 : decode cX8_plainly 48 = .ok (.aload_n 0, 1) := by decide +kernel
theorem dX8_plainly_49 : decode cX8_plainly 49 = .ok (.iconst 0, 1) := by decide +kernel
theorem dX8_plainly_50 : decode cX8_plainly 50 = .ok (.putfield 149, 3) := by decide +kernel
theorem dX8_plainly_53 : decode cX8_plainly 53 = .ok (.aload_n 0, 1) := by decide +kernel
theorem dX8_plainly_54 : decode cX8_plainly 54 = .ok (.iconst 0, 1) := by decide +kernel
theorem dX8_plainly_55 : decode cX8_plainly 55 = .ok (.putfield 152, 3) := by decide +kernel
theorem dX8_plainly_58 : decode cX8_plainly 58 = .ok (.aload_n 0, 1) := by decide +kernel
theorem dX8_plainly_59 : decode cX8_plainly 59 = .ok (.iconst 0, 1) := by decide +kernel
theorem dX8_plainly_60 : decode cX8_plainly 60 = .ok (.putfield 155, 3) := by decide +kernel
theorem dX8_plainly_63 : decode cX8_plainly 63 = .ok (.return_, 1) := by decide +kernel
theorem dX8_ring_0 : decode cX8_ring 0 = .ok (.iload_n 0, 1) := by decide +kernel
theorem dX8_ring_1 : decode cX8_ring 1 = .ok (.bipush 16, 2) := by decide +kernel
theorem dX8_ring_3 : decode cX8_ring 3 = .ok (.iload_n 1, 1) := by decide +kernel
theorem dX8_ring_4 : decode cX8_ring 4 = .ok (.imul, 1) := by decide +kernel
theorem dX8_ring_5 : decode cX8_ring 5 = .ok (.iadd, 1) := by decide +kernel
theorem dX8_ring_6 : decode cX8_ring 6 = .ok (.iload_n 2, 1) := by decide +kernel
theorem dX8_ring_7 : decode cX8_ring 7 = .ok (.bipush 16, 2) := by decide +kernel
theorem dX8_ring_9 : decode cX8_ring 9 = .ok (.iadd, 1) := by decide +kernel
theorem dX8_ring_10 : decode cX8_ring 10 = .ok (.bipush 16, 2) := by decide +kernel
theorem dX8_ring_12 : decode cX8_ring 12 = .ok (.irem, 1) := by decide +kernel
theorem dX8_ring_13 : decode cX8_ring 13 = .ok (.iadd, 1) := by decide +kernel
theorem dX8_ring_14 : decode cX8_ring 14 = .ok (.ireturn, 1) := by decide +kernel
theorem dX8_shows_0 : decode cX8_shows 0 = .ok (.aload_n 1, 1) := by decide +kernel
theorem dX8_shows_1 : decode cX8_shows 1 = .ok (.bipush 29, 2) := by decide +kernel
theorem dX8_shows_3 : decode cX8_shows 3 = .ok (.iload_n 2, 1) := by decide +kernel
theorem dX8_shows_4 : decode cX8_shows 4 = .ok (.aload_n 1, 1) := by decide +kernel
theorem dX8_shows_5 : decode cX8_shows 5 = .ok (.iconst 0, 1) := by decide +kernel
theorem dX8_shows_6 : decode cX8_shows 6 = .ok (.iaload, 1) := by decide +kernel
theorem dX8_shows_7 : decode cX8_shows 7 = .ok (.aload_n 0, 1) := by decide +kernel
theorem dX8_shows_8 : decode cX8_shows 8 = .ok (.getfield 122, 3) := by decide +kernel
theorem dX8_shows_11 : decode cX8_shows 11 = .ok (.isub, 1) := by decide +kernel
theorem dX8_shows_12 : decode cX8_shows 12 = .ok (.invokestatic 158, 3) := by decide +kernel
theorem dX8_shows_15 : decode cX8_shows 15 = .ok (.iaload, 1) := by decide +kernel
theorem dX8_shows_16 : decode cX8_shows 16 = .ok (.iconst 5, 1) := by decide +kernel
theorem dX8_shows_17 : decode cX8_shows 17 = .ok (.aload_n 0, 1) := by decide +kernel
theorem dX8_shows_18 : decode cX8_shows 18 = .ok (.getfield 128, 3) := by decide +kernel
theorem dX8_shows_21 : decode cX8_shows 21 = .ok (.iload_n 2, 1) := by decide +kernel
theorem dX8_shows_22 : decode cX8_shows 22 = .ok (.ishr, 1) := by decide +kernel
theorem dX8_shows_23 : decode cX8_shows 23 = .ok (.iconst 1, 1) := by decide +kernel
theorem dX8_shows_24 : decode cX8_shows 24 = .ok (.iand, 1) := by decide +kernel
theorem dX8_shows_25 : decode cX8_shows 25 = .ok (.imul, 1) := by decide +kernel
theorem dX8_shows_26 : decode cX8_shows 26 = .ok (.iadd, 1) := by decide +kernel
theorem dX8_shows_27 : decode cX8_shows 27 = .ok (.ireturn, 1) := by decide +kernel
theorem dX8_planksOf_0 : decode cX8_planksOf 0 = .ok (.aload_n 0, 1) := by decide +kernel
theorem dX8_planksOf_1 : decode cX8_planksOf 1 = .ok (.aload_n 1, 1) := by decide +kernel
theorem dX8_planksOf_2 : decode cX8_planksOf 2 = .ok (.iload_n 2, 1) := by decide +kernel
theorem dX8_planksOf_3 : decode cX8_planksOf 3 = .ok (.invokevirtual 162, 3) := by decide +kernel
theorem dX8_planksOf_6 : decode cX8_planksOf 6 = .ok (.aload_n 1, 1) := by decide +kernel
theorem dX8_planksOf_7 : decode cX8_planksOf 7 = .ok (.sipush 173, 3) := by decide +kernel
theorem dX8_planksOf_10 : decode cX8_planksOf 10 = .ok (.iload_n 2, 1) := by decide +kernel
theorem dX8_planksOf_11 : decode cX8_planksOf 11 = .ok (.aload_n 1, 1) := by decide +kernel
theorem dX8_planksOf_12 : decode cX8_planksOf 12 = .ok (.iconst 0, 1) := by decide +kernel
theorem dX8_planksOf_13 : decode cX8_planksOf 13 = .ok (.iaload, 1) := by decide +kernel
theorem dX8_planksOf_14 : decode cX8_planksOf 14 = .ok (.aload_n 0, 1) := by decide +kernel
theorem dX8_planksOf_15 : decode cX8_planksOf 15 = .ok (.getfield 122, 3) := by decide +kernel
theorem dX8_planksOf_18 : decode cX8_planksOf 18 = .ok (.isub, 1) := by decide +kernel
theorem dX8_planksOf_19 : decode cX8_planksOf 19 = .ok (.invokestatic 158, 3) := by decide +kernel
theorem dX8_planksOf_22 : decode cX8_planksOf 22 = .ok (.iaload, 1) := by decide +kernel
theorem dX8_planksOf_23 : decode cX8_planksOf 23 = .ok (.isub, 1) := by decide +kernel
theorem dX8_planksOf_24 : decode cX8_planksOf 24 = .ok (.ireturn, 1) := by decide +kernel
theorem dX8_needs_0 : decode cX8_needs 0 = .ok (.aload_n 0, 1) := by decide +kernel
theorem dX8_needs_1 : decode cX8_needs 1 = .ok (.getfield 7, 3) := by decide +kernel
theorem dX8_needs_4 : decode cX8_needs 4 = .ok (.bipush 60, 2) := by decide +kernel
theorem dX8_needs_6 : decode cX8_needs 6 = .ok (.iload_n 1, 1) := by decide +kernel
theorem dX8_needs_7 : decode cX8_needs 7 = .ok (.iadd, 1) := by decide +kernel
theorem dX8_needs_8 : decode cX8_needs 8 = .ok (.iaload, 1) := by decide +kernel
theorem dX8_needs_9 : decode cX8_needs 9 = .ok (.iconst 1, 1) := by decide +kernel
theorem dX8_needs_10 : decode cX8_needs 10 = .ok (.if_icmp .ne 17, 3) := by decide +kernel
theorem dX8_needs_13 : decode cX8_needs 13 = .ok (.iconst 2, 1) := by decide +kernel
theorem dX8_needs_14 : decode cX8_needs 14 = .ok (.aload_n 0, 1) := by decide +kernel
theorem dX8_needs_15 : decode cX8_needs 15 = .ok (.getfield 7, 3) := by decide +kernel
theorem dX8_needs_18 : decode cX8_needs 18 = .ok (.bipush 50, 2) := by decide +kernel
theorem dX8_needs_20 : decode cX8_needs 20 = .ok (.iload_n 1, 1) := by decide +kernel
theorem dX8_needs_21 : decode cX8_needs 21 = .ok (.iadd, 1) := by decide +kernel
theorem dX8_needs_22 : decode cX8_needs 22 = .ok (.iaload, 1) := by decide +kernel
theorem dX8_needs_23 : decode cX8_needs 23 = .ok (.imul, 1) := by decide +kernel
theorem dX8_needs_24 : decode cX8_needs 24 = .ok (.goto 12, 3) := by decide +kernel
theorem dX8_needs_27 : decode cX8_needs 27 = .ok (.aload_n 0, 1) := by decide +kernel
theorem dX8_needs_28 : decode cX8_needs 28 = .ok (.getfield 7, 3) := by decide +kernel
theorem dX8_needs_31 : decode cX8_needs 31 = .ok (.bipush 50, 2) := by decide +kernel
theorem dX8_needs_33 : decode cX8_needs 33 = .ok (.iload_n 1, 1) := by decide +kernel
theorem dX8_needs_34 : decode cX8_needs 34 = .ok (.iadd, 1) := by decide +kernel
theorem dX8_needs_35 : decode cX8_needs 35 = .ok (.iaload, 1) := by decide +kernel
theorem dX8_needs_36 : decode cX8_needs 36 = .ok (.ireturn, 1) := by decide +kernel
theorem dX8_end_0 : decode cX8_end 0 = .ok (.aload_n 0, 1) := by decide +kernel
theorem dX8_end_1 : decode cX8_end 1 = .ok (.getfield 7, 3) := by decide +kernel
theorem dX8_end_4 : decode cX8_end 4 = .ok (.iconst 4, 1) := by decide +kernel
theorem dX8_end_5 : decode cX8_end 5 = .ok (.iload_n 1, 1) := by decide +kernel
theorem dX8_end_6 : decode cX8_end 6 = .ok (.iadd, 1) := by decide +kernel
theorem dX8_end_7 : decode cX8_end 7 = .ok (.iaload, 1) := by decide +kernel
theorem dX8_end_8 : decode cX8_end 8 = .ok (.iload_n 2, 1) := by decide +kernel
theorem dX8_end_9 : decode cX8_end 9 = .ok (.if_icmp .ne 15, 3) := by decide +kernel
theorem dX8_end_12 : decode cX8_end 12 = .ok (.aload_n 0, 1) := by decide +kernel
theorem dX8_end_13 : decode cX8_end 13 = .ok (.getfield 7, 3) := by decide +kernel
theorem dX8_end_16 : decode cX8_end 16 = .ok (.bipush 13, 2) := by decide +kernel
theorem dX8_end_18 : decode cX8_end 18 = .ok (.iload_n 1, 1) := by decide +kernel
theorem dX8_end_19 : decode cX8_end 19 = .ok (.iadd, 1) := by decide +kernel
theorem dX8_end_20 : decode cX8_end 20 = .ok (.iaload, 1) := by decide +kernel
theorem dX8_end_21 : decode cX8_end 21 = .ok (.goto 28, 3) := by decide +kernel
theorem dX8_end_24 : decode cX8_end 24 = .ok (.aload_n 0, 1) := by decide +kernel
theorem dX8_end_25 : decode cX8_end 25 = .ok (.getfield 7, 3) := by decide +kernel
theorem dX8_end_28 : decode cX8_end 28 = .ok (.bipush 13, 2) := by decide +kernel
theorem dX8_end_30 : decode cX8_end 30 = .ok (.iload_n 1, 1) := by decide +kernel
theorem dX8_end_31 : decode cX8_end 31 = .ok (.iadd, 1) := by decide +kernel
theorem dX8_end_32 : decode cX8_end 32 = .ok (.iaload, 1) := by decide +kernel
theorem dX8_end_33 : decode cX8_end 33 = .ok (.iload_n 2, 1) := by decide +kernel
theorem dX8_end_34 : decode cX8_end 34 = .ok (.if_icmp .ne 14, 3) := by decide +kernel
theorem dX8_end_37 : decode cX8_end 37 = .ok (.aload_n 0, 1) := by decide +kernel
theorem dX8_end_38 : decode cX8_end 38 = .ok (.getfield 7, 3) := by decide +kernel
theorem dX8_end_41 : decode cX8_end 41 = .ok (.iconst 4, 1) := by decide +kernel
theorem dX8_end_42 : decode cX8_end 42 = .ok (.iload_n 1, 1) := by decide +kernel
theorem dX8_end_43 : decode cX8_end 43 = .ok (.iadd, 1) := by decide +kernel
theorem dX8_end_44 : decode cX8_end 44 = .ok (.iaload, 1) := by decide +kernel
theorem dX8_end_45 : decode cX8_end 45 = .ok (.goto 4, 3) := by decide +kernel
theorem dX8_end_48 : decode cX8_end 48 = .ok (.iconst (-1), 1) := by decide +kernel
theorem dX8_end_49 : decode cX8_end 49 = .ok (.ireturn, 1) := by decide +kernel
theorem dX8_mayTake_0 : decode cX8_mayTake 0 = .ok (.aload_n 0, 1) := by decide +kernel
theorem dX8_mayTake_1 : decode cX8_mayTake 1 = .ok (.aload_n 1, 1) := by decide +kernel
theorem dX8_mayTake_2 : decode cX8_mayTake 2 = .ok (.iload_n 3, 1) := by decide +kernel
theorem dX8_mayTake_3 : decode cX8_mayTake 3 = .ok (.invokevirtual 162, 3) := by decide +kernel
theorem dX8_mayTake_6 : decode cX8_mayTake 6 = .ok (.aload_n 0, 1) := by decide +kernel
theorem dX8_mayTake_7 : decode cX8_mayTake 7 = .ok (.iload_n 2, 1) := by decide +kernel
theorem dX8_mayTake_8 : decode cX8_mayTake 8 = .ok (.invokevirtual 166, 3) := by decide +kernel
theorem dX8_mayTake_11 : decode cX8_mayTake 11 = .ok (.if_icmp .lt 27, 3) := by decide +kernel
theorem dX8_mayTake_14 : decode cX8_mayTake 14 = .ok (.iload_n 3, 1) := by decide +kernel
theorem dX8_mayTake_15 : decode cX8_mayTake 15 = .ok (.aload_n 0, 1) := by decide +kernel
theorem dX8_mayTake_16 : decode cX8_mayTake 16 = .ok (.getfield 137, 3) := by decide +kernel
theorem dX8_mayTake_19 : decode cX8_mayTake 19 = .ok (.if_icmp .ne 15, 3) := by decide +kernel
theorem dX8_mayTake_22 : decode cX8_mayTake 22 = .ok (.aload_n 0, 1) := by decide +kernel
theorem dX8_mayTake_23 : decode cX8_mayTake 23 = .ok (.getfield 140, 3) := by decide +kernel
theorem dX8_mayTake_26 : decode cX8_mayTake 26 = .ok (.iload_n 2, 1) := by decide +kernel
theorem dX8_mayTake_27 : decode cX8_mayTake 27 = .ok (.ishr, 1) := by decide +kernel
theorem dX8_mayTake_28 : decode cX8_mayTake 28 = .ok (.iconst 1, 1) := by decide +kernel
theorem dX8_mayTake_29 : decode cX8_mayTake 29 = .ok (.iand, 1) := by decide +kernel
theorem dX8_mayTake_30 : decode cX8_mayTake 30 = .ok (.iconst 1, 1) := by decide +kernel
theorem dX8_mayTake_31 : decode cX8_mayTake 31 = .ok (.if_icmp .eq 7, 3) := by decide +kernel
theorem dX8_mayTake_34 : decode cX8_mayTake 34 = .ok (.iconst 1, 1) := by decide +kernel
theorem dX8_mayTake_35 : decode cX8_mayTake 35 = .ok (.goto 4, 3) := by decide +kernel
theorem dX8_mayTake_38 : decode cX8_mayTake 38 = .ok (.iconst 0, 1) := by decide +kernel
theorem dX8_mayTake_39 : decode cX8_mayTake 39 = .ok (.ireturn, 1) := by decide +kernel
theorem dX8_layOff_0 : decode cX8_layOff 0 = .ok (.iconst 0, 1) := by decide +kernel
theorem dX8_layOff_1 : decode cX8_layOff 1 = .ok (.istore_n 3, 1) := by decide +kernel
theorem dX8_layOff_2 : decode cX8_layOff 2 = .ok (.iload_n 3, 1) := by decide +kernel
theorem dX8_layOff_3 : decode cX8_layOff 3 = .ok (.bipush 8, 2) := by decide +kernel
theorem dX8_layOff_5 : decode cX8_layOff 5 = .ok (.if_icmp .ge 31, 3) := by decide +kernel
theorem dX8_layOff_8 : decode cX8_layOff 8 = .ok (.aload_n 0, 1) := by decide +kernel
theorem dX8_layOff_9 : decode cX8_layOff 9 = .ok (.getfield 34, 3) := by decide +kernel
theorem dX8_layOff_12 : decode cX8_layOff 12 = .ok (.iload_n 3, 1) := by decide +kernel
theorem dX8_layOff_13 : decode cX8_layOff 13 = .ok (.iload_n 3, 1) := by decide +kernel
theorem dX8_layOff_14 : decode cX8_layOff 14 = .ok (.aload_n 1, 1) := by decide +kernel
theorem dX8_layOff_15 : decode cX8_layOff 15 = .ok (.bipush 24, 2) := by decide +kernel
theorem dX8_layOff_17 : decode cX8_layOff 17 = .ok (.iload_n 2, 1) := by decide +kernel
theorem dX8_layOff_18 : decode cX8_layOff 18 = .ok (.iadd, 1) := by decide +kernel
theorem dX8_layOff_19 : decode cX8_layOff 19 = .ok (.iaload, 1) := by decide +kernel
theorem dX8_layOff_20 : decode cX8_layOff 20 = .ok (.if_icmp .ne 7, 3) := by decide +kernel
theorem dX8_layOff_23 : decode cX8_layOff 23 = .ok (.iconst 0, 1) := by decide +kernel
theorem dX8_layOff_24 : decode cX8_layOff 24 = .ok (.goto 5, 3) := by decide +kernel
theorem dX8_layOff_27 : decode cX8_layOff 27 = .ok (.ldc 170, 2) := by decide +kernel
theorem dX8_layOff_29 : decode cX8_layOff 29 = .ok (.iastore, 1) := by decide +kernel
theorem dX8_layOff_30 : decode cX8_layOff 30 = .ok (.iinc 3 1, 3) := by decide +kernel
theorem dX8_layOff_33 : decode cX8_layOff 33 = .ok (.goto (-31), 3) := by decide +kernel
theorem dX8_layOff_36 : decode cX8_layOff 36 = .ok (.iconst 0, 1) := by decide +kernel
theorem dX8_layOff_37 : decode cX8_layOff 37 = .ok (.istore_n 3, 1) := by decide +kernel
theorem dX8_layOff_38 : decode cX8_layOff 38 = .ok (.iload_n 3, 1) := by decide +kernel
theorem dX8_layOff_39 : decode cX8_layOff 39 = .ok (.aload_n 0, 1) := by decide +kernel
theorem dX8_layOff_40 : decode cX8_layOff 40 = .ok (.getfield 7, 3) := by decide +kernel
theorem dX8_layOff_43 : decode cX8_layOff 43 = .ok (.iconst 0, 1) := by decide +kernel
theorem dX8_layOff_44 : decode cX8_layOff 44 = .ok (.iaload, 1) := by decide +kernel
theorem dX8_layOff_45 : decode cX8_layOff 45 = .ok (.if_icmp .ge 153, 3) := by decide +kernel
theorem dX8_layOff_48 : decode cX8_layOff 48 = .ok (.iconst 0, 1) := by decide +kernel
theorem dX8_layOff_49 : decode cX8_layOff 49 = .ok (.istore 4, 2) := by decide +kernel
theorem dX8_layOff_51 : decode cX8_layOff 51 = .ok (.iload 4, 2) := by decide +kernel
theorem dX8_layOff_53 : decode cX8_layOff 53 = .ok (.aload_n 0, 1) := by decide +kernel
theorem dX8_layOff_54 : decode cX8_layOff 54 = .ok (.getfield 7, 3) := by decide +kernel
theorem dX8_layOff_57 : decode cX8_layOff 57 = .ok (.iconst 1, 1) := by decide +kernel
theorem dX8_layOff_58 : decode cX8_layOff 58 = .ok (.iaload, 1) := by decide +kernel
theorem dX8_layOff_59 : decode cX8_layOff 59 = .ok (.if_icmp .ge 133, 3) := by decide +kernel
theorem dX8_layOff_62 : decode cX8_layOff 62 = .ok (.aload_n 0, 1) := by decide +kernel
theorem dX8_layOff_63 : decode cX8_layOff 63 = .ok (.aload_n 1, 1) := by decide +kernel
theorem dX8_layOff_64 : decode cX8_layOff 64 = .ok (.iload_n 2, 1) := by decide +kernel
theorem dX8_layOff_65 : decode cX8_layOff 65 = .ok (.iload 4, 2) := by decide +kernel
theorem dX8_layOff_67 : decode cX8_layOff 67 = .ok (.invokevirtual 171, 3) := by decide +kernel
theorem dX8_layOff_70 : decode cX8_layOff 70 = .ok (.ifCond .eq 116, 3) := by decide +kernel
theorem dX8_layOff_73 : decode cX8_layOff 73 = .ok (.aload_n 0, 1) := by decide +kernel
theorem dX8_layOff_74 : decode cX8_layOff 74 = .ok (.getfield 7, 3) := by decide +kernel
theorem dX8_layOff_77 : decode cX8_layOff 77 = .ok (.iconst 4, 1) := by decide +kernel
theorem dX8_layOff_78 : decode cX8_layOff 78 = .ok (.iload 4, 2) := by decide +kernel
theorem dX8_layOff_80 : decode cX8_layOff 80 = .ok (.iadd, 1) := by decide +kernel
theorem dX8_layOff_81 : decode cX8_layOff 81 = .ok (.iaload, 1) := by decide +kernel
theorem dX8_layOff_82 : decode cX8_layOff 82 = .ok (.istore 5, 2) := by decide +kernel
theorem dX8_layOff_84 : decode cX8_layOff 84 = .ok (.aload_n 0, 1) := by decide +kernel
theorem dX8_layOff_85 : decode cX8_layOff 85 = .ok (.getfield 7, 3) := by decide +kernel
theorem dX8_layOff_88 : decode cX8_layOff 88 = .ok (.bipush 13, 2) := by decide +kernel
theorem dX8_layOff_90 : decode cX8_layOff 90 = .ok (.iload 4, 2) := by decide +kernel
theorem dX8_layOff_92 : decode cX8_layOff 92 = .ok (.iadd, 1) := by decide +kernel
theorem dX8_layOff_93 : decode cX8_layOff 93 = .ok (.iaload, 1) := by decide +kernel
theorem dX8_layOff_94 : decode cX8_layOff 94 = .ok (.istore 6, 2) := by decide +kernel
theorem dX8_layOff_96 : decode cX8_layOff 96 = .ok (.aload_n 0, 1) := by decide +kernel
theorem dX8_layOff_97 : decode cX8_layOff 97 = .ok (.getfield 34, 3) := by decide +kernel
theorem dX8_layOff_100 : decode cX8_layOff 100 = .ok (.iload 5, 2) := by decide +kernel
theorem dX8_layOff_102 : decode cX8_layOff 102 = .ok (.aload_n 0, 1) := by decide +kernel
theorem dX8_layOff_103 : decode cX8_layOff 103 = .ok (.getfield 34, 3) := by decide +kernel
theorem dX8_layOff_106 : decode cX8_layOff 106 = .ok (.iload 6, 2) := by decide +kernel
theorem dX8_layOff_108 : decode cX8_layOff 108 = .ok (.iaload, 1) := by decide +kernel
theorem dX8_layOff_109 : decode cX8_layOff 109 = .ok (.iconst 1, 1) := by decide +kernel
theorem dX8_layOff_110 : decode cX8_layOff 110 = .ok (.iadd, 1) := by decide +kernel
theorem dX8_layOff_111 : decode cX8_layOff 111 = .ok (.aload_n 0, 1) := by decide +kernel
theorem dX8_layOff_112 : decode cX8_layOff 112 = .ok (.getfield 34, 3) := by decide +kernel
theorem dX8_layOff_115 : decode cX8_layOff 115 = .ok (.iload 5, 2) := by decide +kernel
theorem dX8_layOff_117 : decode cX8_layOff 117 = .ok (.iaload, 1) := by decide +kernel
theorem dX8_layOff_118 : decode cX8_layOff 118 = .ok (.if_icmp .ge 15, 3) := by decide +kernel
theorem dX8_layOff_121 : decode cX8_layOff 121 = .ok (.aload_n 0, 1) := by decide +kernel
theorem dX8_layOff_122 : decode cX8_layOff 122 = .ok (.getfield 34, 3) := by decide +kernel
theorem dX8_layOff_125 : decode cX8_layOff 125 = .ok (.iload 6, 2) := by decide +kernel
theorem dX8_layOff_127 : decode cX8_layOff 127 = .ok (.iaload, 1) := by decide +kernel
theorem dX8_layOff_128 : decode cX8_layOff 128 = .ok (.iconst 1, 1) := by decide +kernel
theorem dX8_layOff_129 : decode cX8_layOff 129 = .ok (.iadd, 1) := by decide +kernel
theorem dX8_layOff_130 : decode cX8_layOff 130 = .ok (.goto 10, 3) := by decide +kernel
theorem dX8_layOff_133 : decode cX8_layOff 133 = .ok (.aload_n 0, 1) := by decide +kernel
theorem dX8_layOff_134 : decode cX8_layOff 134 = .ok (.getfield 34, 3) := by decide +kernel
theorem dX8_layOff_137 : decode cX8_layOff 137 = .ok (.iload 5, 2) := by decide +kernel
theorem dX8_layOff_139 : decode cX8_layOff 139 = .ok (.iaload, 1) := by decide +kernel
theorem dX8_layOff_140 : decode cX8_layOff 140 = .ok (.iastore, 1) := by decide +kernel
theorem dX8_layOff_141 : decode cX8_layOff 141 = .ok (.aload_n 0, 1) := by decide +kernel
theorem dX8_layOff_142 : decode cX8_layOff 142 = .ok (.getfield 34, 3) := by decide +kernel
theorem dX8_layOff_145 : decode cX8_layOff 145 = .ok (.iload 6, 2) := by decide +kernel
theorem dX8_layOff_147 : decode cX8_layOff 147 = .ok (.aload_n 0, 1) := by decide +kernel
theorem dX8_layOff_148 : decode cX8_layOff 148 = .ok (.getfield 34, 3) := by decide +kernel
theorem dX8_layOff_151 : decode cX8_layOff 151 = .ok (.iload 5, 2) := by decide +kernel
theorem dX8_layOff_153 : decode cX8_layOff 153 = .ok (.iaload, 1) := by decide +kernel
theorem dX8_layOff_154 : decode cX8_layOff 154 = .ok (.iconst 1, 1) := by decide +kernel
theorem dX8_layOff_155 : decode cX8_layOff 155 = .ok (.iadd, 1) := by decide +kernel
theorem dX8_layOff_156 : decode cX8_layOff 156 = .ok (.aload_n 0, 1) := by decide +kernel
theorem dX8_layOff_157 : decode cX8_layOff 157 = .ok (.getfield 34, 3) := by decide +kernel
theorem dX8_layOff_160 : decode cX8_layOff 160 = .ok (.iload 6, 2) := by decide +kernel
theorem dX8_layOff_162 : decode cX8_layOff 162 = .ok (.iaload, 1) := by decide +kernel
theorem dX8_layOff_163 : decode cX8_layOff 163 = .ok (.if_icmp .ge 15, 3) := by decide +kernel
theorem dX8_layOff_166 : decode cX8_layOff 166 = .ok (.aload_n 0, 1) := by decide +kernel
theorem dX8_layOff_167 : decode cX8_layOff 167 = .ok (.getfield 34, 3) := by decide +kernel
theorem dX8_layOff_170 : decode cX8_layOff 170 = .ok (.iload 5, 2) := by decide +kernel
theorem dX8_layOff_172 : decode cX8_layOff 172 = .ok (.iaload, 1) := by decide +kernel
theorem dX8_layOff_173 : decode cX8_layOff 173 = .ok (.iconst 1, 1) := by decide +kernel
theorem dX8_layOff_174 : decode cX8_layOff 174 = .ok (.iadd, 1) := by decide +kernel
theorem dX8_layOff_175 : decode cX8_layOff 175 = .ok (.goto 10, 3) := by decide +kernel
theorem dX8_layOff_178 : decode cX8_layOff 178 = .ok (.aload_n 0, 1) := by decide +kernel
theorem dX8_layOff_179 : decode cX8_layOff 179 = .ok (.getfield 34, 3) := by decide +kernel
theorem dX8_layOff_182 : decode cX8_layOff 182 = .ok (.iload 6, 2) := by decide +kernel
theorem dX8_layOff_184 : decode cX8_layOff 184 = .ok (.iaload, 1) := by decide +kernel
theorem dX8_layOff_185 : decode cX8_layOff 185 = .ok (.iastore, 1) := by decide +kernel
theorem dX8_layOff_186 : decode cX8_layOff 186 = .ok (.iinc 4 1, 3) := by decide +kernel
theorem dX8_layOff_189 : decode cX8_layOff 189 = .ok (.goto (-138), 3) := by decide +kernel
theorem dX8_layOff_192 : decode cX8_layOff 192 = .ok (.iinc 3 1, 3) := by decide +kernel
theorem dX8_layOff_195 : decode cX8_layOff 195 = .ok (.goto (-157), 3) := by decide +kernel
theorem dX8_layOff_198 : decode cX8_layOff 198 = .ok (.return_, 1) := by decide +kernel
theorem dX8_takenBy_0 : decode cX8_takenBy 0 = .ok (.aload_n 1, 1) := by decide +kernel
theorem dX8_takenBy_1 : decode cX8_takenBy 1 = .ok (.bipush 19, 2) := by decide +kernel
theorem dX8_takenBy_3 : decode cX8_takenBy 3 = .ok (.iload_n 2, 1) := by decide +kernel
theorem dX8_takenBy_4 : decode cX8_takenBy 4 = .ok (.iadd, 1) := by decide +kernel
theorem dX8_takenBy_5 : decode cX8_takenBy 5 = .ok (.iaload, 1) := by decide +kernel
theorem dX8_takenBy_6 : decode cX8_takenBy 6 = .ok (.ifCond .ge 6, 3) := by decide +kernel
theorem dX8_takenBy_9 : decode cX8_takenBy 9 = .ok (.bipush (-4), 2) := by decide +kernel
theorem dX8_takenBy_11 : decode cX8_takenBy 11 = .ok (.ireturn, 1) := by decide +kernel
theorem dX8_takenBy_12 : decode cX8_takenBy 12 = .ok (.aload_n 0, 1) := by decide +kernel
theorem dX8_takenBy_13 : decode cX8_takenBy 13 = .ok (.aload_n 1, 1) := by decide +kernel
theorem dX8_takenBy_14 : decode cX8_takenBy 14 = .ok (.iload_n 2, 1) := by decide +kernel
theorem dX8_takenBy_15 : decode cX8_takenBy 15 = .ok (.invokevirtual 175, 3) := by decide +kernel
theorem dX8_takenBy_18 : decode cX8_takenBy 18 = .ok (.aload_n 0, 1) := by decide +kernel
theorem dX8_takenBy_19 : decode cX8_takenBy 19 = .ok (.getfield 34, 3) := by decide +kernel
theorem dX8_takenBy_22 : decode cX8_takenBy 22 = .ok (.aload_n 1, 1) := by decide +kernel
theorem dX8_takenBy_23 : decode cX8_takenBy 23 = .ok (.bipush 19, 2) := by decide +kernel
theorem dX8_takenBy_25 : decode cX8_takenBy 25 = .ok (.iload_n 2, 1) := by decide +kernel
theorem dX8_takenBy_26 : decode cX8_takenBy 26 = .ok (.iadd, 1) := by decide +kernel
theorem dX8_takenBy_27 : decode cX8_takenBy 27 = .ok (.iaload, 1) := by decide +kernel
theorem dX8_takenBy_28 : decode cX8_takenBy 28 = .ok (.iaload, 1) := by decide +kernel
theorem dX8_takenBy_29 : decode cX8_takenBy 29 = .ok (.istore_n 3, 1) := by decide +kernel
theorem dX8_takenBy_30 : decode cX8_takenBy 30 = .ok (.iconst 0, 1) := by decide +kernel
theorem dX8_takenBy_31 : decode cX8_takenBy 31 = .ok (.istore 4, 2) := by decide +kernel
theorem dX8_takenBy_33 : decode cX8_takenBy 33 = .ok (.iload 4, 2) := by decide +kernel
theorem dX8_takenBy_35 : decode cX8_takenBy 35 = .ok (.aload_n 0, 1) := by decide +kernel
theorem dX8_takenBy_36 : decode cX8_takenBy 36 = .ok (.getfield 7, 3) := by decide +kernel
theorem dX8_takenBy_39 : decode cX8_takenBy 39 = .ok (.iconst 1, 1) := by decide +kernel
theorem dX8_takenBy_40 : decode cX8_takenBy 40 = .ok (.iaload, 1) := by decide +kernel
theorem dX8_takenBy_41 : decode cX8_takenBy 41 = .ok (.if_icmp .ge 61, 3) := by decide +kernel
theorem dX8_takenBy_44 : decode cX8_takenBy 44 = .ok (.iload_n 3, 1) := by decide +kernel
theorem dX8_takenBy_45 : decode cX8_takenBy 45 = .ok (.ldc 170, 2) := by decide +kernel
theorem dX8_takenBy_47 : decode cX8_takenBy 47 = .ok (.if_icmp .ge 55, 3) := by decide +kernel
theorem dX8_takenBy_50 : decode cX8_takenBy 50 = .ok (.aload_n 0, 1) := by decide +kernel
theorem dX8_takenBy_51 : decode cX8_takenBy 51 = .ok (.iload 4, 2) := by decide +kernel
theorem dX8_takenBy_53 : decode cX8_takenBy 53 = .ok (.aload_n 1, 1) := by decide +kernel
theorem dX8_takenBy_54 : decode cX8_takenBy 54 = .ok (.bipush 19, 2) := by decide +kernel
theorem dX8_takenBy_56 : decode cX8_takenBy 56 = .ok (.iload_n 2, 1) := by decide +kernel
theorem dX8_takenBy_57 : decode cX8_takenBy 57 = .ok (.iadd, 1) := by decide +kernel
theorem dX8_takenBy_58 : decode cX8_takenBy 58 = .ok (.iaload, 1) := by decide +kernel
theorem dX8_takenBy_59 : decode cX8_takenBy 59 = .ok (.invokevirtual 179, 3) := by decide +kernel
theorem dX8_takenBy_62 : decode cX8_takenBy 62 = .ok (.istore 5, 2) := by decide +kernel
theorem dX8_takenBy_64 : decode cX8_takenBy 64 = .ok (.iload 5, 2) := by decide +kernel
theorem dX8_takenBy_66 : decode cX8_takenBy 66 = .ok (.ifCond .lt 30, 3) := by decide +kernel
theorem dX8_takenBy_69 : decode cX8_takenBy 69 = .ok (.aload_n 0, 1) := by decide +kernel
theorem dX8_takenBy_70 : decode cX8_takenBy 70 = .ok (.aload_n 1, 1) := by decide +kernel
theorem dX8_takenBy_71 : decode cX8_takenBy 71 = .ok (.iload_n 2, 1) := by decide +kernel
theorem dX8_takenBy_72 : decode cX8_takenBy 72 = .ok (.iload 4, 2) := by decide +kernel
theorem dX8_takenBy_74 : decode cX8_takenBy 74 = .ok (.invokevirtual 171, 3) := by decide +kernel
theorem dX8_takenBy_77 : decode cX8_takenBy 77 = .ok (.ifCond .eq 19, 3) := by decide +kernel
theorem dX8_takenBy_80 : decode cX8_takenBy 80 = .ok (.aload_n 0, 1) := by decide +kernel
theorem dX8_takenBy_81 : decode cX8_takenBy 81 = .ok (.getfield 34, 3) := by decide +kernel
theorem dX8_takenBy_84 : decode cX8_takenBy 84 = .ok (.iload 5, 2) := by decide +kernel
theorem dX8_takenBy_86 : decode cX8_takenBy 86 = .ok (.iaload, 1) := by decide +kernel
theorem dX8_takenBy_87 : decode cX8_takenBy 87 = .ok (.iload_n 3, 1) := by decide +kernel
theorem dX8_takenBy_88 : decode cX8_takenBy 88 = .ok (.iconst 1, 1) := by decide +kernel
theorem dX8_takenBy_89 : decode cX8_takenBy 89 = .ok (.isub, 1) := by decide +kernel
theorem dX8_takenBy_90 : decode cX8_takenBy 90 = .ok (.if_icmp .ne 6, 3) := by decide +kernel
theorem dX8_takenBy_93 : decode cX8_takenBy 93 = .ok (.iload 4, 2) := by decide +kernel
theorem dX8_takenBy_95 : decode cX8_takenBy 95 = .ok (.ireturn, 1) := by decide +kernel
theorem dX8_takenBy_96 : decode cX8_takenBy 96 = .ok (.iinc 4 1, 3) := by decide +kernel
theorem dX8_takenBy_99 : decode cX8_takenBy 99 = .ok (.goto (-66), 3) := by decide +kernel
theorem dX8_takenBy_102 : decode cX8_takenBy 102 = .ok (.bipush (-4), 2) := by decide +kernel
theorem dX8_takenBy_104 : decode cX8_takenBy 104 = .ok (.ireturn, 1) := by decide +kernel
theorem dX8_gives_0 : decode cX8_gives 0 = .ok (.aload_n 1, 1) := by decide +kernel
theorem dX8_gives_1 : decode cX8_gives 1 = .ok (.bipush 29, 2) := by decide +kernel
theorem dX8_gives_3 : decode cX8_gives 3 = .ok (.iload_n 2, 1) := by decide +kernel
theorem dX8_gives_4 : decode cX8_gives 4 = .ok (.aload_n 1, 1) := by decide +kernel
theorem dX8_gives_5 : decode cX8_gives 5 = .ok (.iconst 0, 1) := by decide +kernel
theorem dX8_gives_6 : decode cX8_gives 6 = .ok (.iaload, 1) := by decide +kernel
theorem dX8_gives_7 : decode cX8_gives 7 = .ok (.invokestatic 158, 3) := by decide +kernel
theorem dX8_gives_10 : decode cX8_gives 10 = .ok (.dup2, 1) := by decide +kernel
theorem dX8_gives_11 : decode cX8_gives 11 = .ok (.iaload, 1) := by decide +kernel
theorem dX8_gives_12 : decode cX8_gives 12 = .ok (.iload_n 3, 1) := by decide +kernel
theorem dX8_gives_13 : decode cX8_gives 13 = .ok (.iadd, 1) := by decide +kernel
theorem dX8_gives_14 : decode cX8_gives 14 = .ok (.iastore, 1) := by decide +kernel
theorem dX8_gives_15 : decode cX8_gives 15 = .ok (.aload_n 0, 1) := by decide +kernel
theorem dX8_gives_16 : decode cX8_gives 16 = .ok (.dup, 1) := by decide +kernel
theorem dX8_gives_17 : decode cX8_gives 17 = .ok (.getfield 152, 3) := by decide +kernel
theorem dX8_gives_20 : decode cX8_gives 20 = .ok (.iload_n 3, 1) := by decide +kernel
theorem dX8_gives_21 : decode cX8_gives 21 = .ok (.iadd, 1) := by decide +kernel
theorem dX8_gives_22 : decode cX8_gives 22 = .ok (.putfield 152, 3) := by decide +kernel
theorem dX8_gives_25 : decode cX8_gives 25 = .ok (.return_, 1) := by decide +kernel
theorem dX8_todays_0 : decode cX8_todays 0 = .ok (.aload_n 0, 1) := by decide +kernel
theorem dX8_todays_1 : decode cX8_todays 1 = .ok (.bipush 29, 2) := by decide +kernel
theorem dX8_todays_3 : decode cX8_todays 3 = .ok (.iload_n 1, 1) := by decide +kernel
theorem dX8_todays_4 : decode cX8_todays 4 = .ok (.aload_n 0, 1) := by decide +kernel
theorem dX8_todays_5 : decode cX8_todays 5 = .ok (.iconst 0, 1) := by decide +kernel
theorem dX8_todays_6 : decode cX8_todays 6 = .ok (.iaload, 1) := by decide +kernel
theorem dX8_todays_7 : decode cX8_todays 7 = .ok (.invokestatic 158, 3) := by decide +kernel
theorem dX8_todays_10 : decode cX8_todays 10 = .ok (.iaload, 1) := by decide +kernel
theorem dX8_todays_11 : decode cX8_todays 11 = .ok (.aload_n 0, 1) := by decide +kernel
theorem dX8_todays_12 : decode cX8_todays 12 = .ok (.sipush 173, 3) := by decide +kernel
theorem dX8_todays_15 : decode cX8_todays 15 = .ok (.iload_n 1, 1) := by decide +kernel
theorem dX8_todays_16 : decode cX8_todays 16 = .ok (.aload_n 0, 1) := by decide +kernel
theorem dX8_todays_17 : decode cX8_todays 17 = .ok (.iconst 0, 1) := by decide +kernel
theorem dX8_todays_18 : decode cX8_todays 18 = .ok (.iaload, 1) := by decide +kernel
theorem dX8_todays_19 : decode cX8_todays 19 = .ok (.invokestatic 158, 3) := by decide +kernel
theorem dX8_todays_22 : decode cX8_todays 22 = .ok (.iaload, 1) := by decide +kernel
theorem dX8_todays_23 : decode cX8_todays 23 = .ok (.isub, 1) := by decide +kernel
theorem dX8_todays_24 : decode cX8_todays 24 = .ok (.ireturn, 1) := by decide +kernel
theorem dX8_waits_0 : decode cX8_waits 0 = .ok (.aload_n 0, 1) := by decide +kernel
theorem dX8_waits_1 : decode cX8_waits 1 = .ok (.dup, 1) := by decide +kernel
theorem dX8_waits_2 : decode cX8_waits 2 = .ok (.getfield 146, 3) := by decide +kernel
theorem dX8_waits_5 : decode cX8_waits 5 = .ok (.aload_n 0, 1) := by decide +kernel
theorem dX8_waits_6 : decode cX8_waits 6 = .ok (.getfield 143, 3) := by decide +kernel
theorem dX8_waits_9 : decode cX8_waits 9 = .ok (.ifCond .le 7, 3) := by decide +kernel
theorem dX8_waits_12 : decode cX8_waits 12 = .ok (.iconst 0, 1) := by decide +kernel
theorem dX8_waits_13 : decode cX8_waits 13 = .ok (.goto 4, 3) := by decide +kernel
theorem dX8_waits_16 : decode cX8_waits 16 = .ok (.iconst 1, 1) := by decide +kernel
theorem dX8_waits_17 : decode cX8_waits 17 = .ok (.iadd, 1) := by decide +kernel
theorem dX8_waits_18 : decode cX8_waits 18 = .ok (.putfield 146, 3) := by decide +kernel
theorem dX8_waits_21 : decode cX8_waits 21 = .ok (.iconst 0, 1) := by decide +kernel
theorem dX8_waits_22 : decode cX8_waits 22 = .ok (.istore_n 3, 1) := by decide +kernel
theorem dX8_waits_23 : decode cX8_waits 23 = .ok (.iload_n 3, 1) := by decide +kernel
theorem dX8_waits_24 : decode cX8_waits 24 = .ok (.aload_n 0, 1) := by decide +kernel
theorem dX8_waits_25 : decode cX8_waits 25 = .ok (.getfield 7, 3) := by decide +kernel
theorem dX8_waits_28 : decode cX8_waits 28 = .ok (.iconst 1, 1) := by decide +kernel
theorem dX8_waits_29 : decode cX8_waits 29 = .ok (.iaload, 1) := by decide +kernel
theorem dX8_waits_30 : decode cX8_waits 30 = .ok (.if_icmp .ge 52, 3) := by decide +kernel
theorem dX8_waits_33 : decode cX8_waits 33 = .ok (.aload_n 0, 1) := by decide +kernel
theorem dX8_waits_34 : decode cX8_waits 34 = .ok (.getfield 7, 3) := by decide +kernel
theorem dX8_waits_37 : decode cX8_waits 37 = .ok (.bipush 60, 2) := by decide +kernel
theorem dX8_waits_39 : decode cX8_waits 39 = .ok (.iload_n 2, 1) := by decide +kernel
theorem dX8_waits_40 : decode cX8_waits 40 = .ok (.iadd, 1) := by decide +kernel
theorem dX8_waits_41 : decode cX8_waits 41 = .ok (.iaload, 1) := by decide +kernel
theorem dX8_waits_42 : decode cX8_waits 42 = .ok (.iconst 4, 1) := by decide +kernel
theorem dX8_waits_43 : decode cX8_waits 43 = .ok (.if_icmp .ne 39, 3) := by decide +kernel
theorem dX8_waits_46 : decode cX8_waits 46 = .ok (.aload_n 0, 1) := by decide +kernel
theorem dX8_waits_47 : decode cX8_waits 47 = .ok (.iload_n 3, 1) := by decide +kernel
theorem dX8_waits_48 : decode cX8_waits 48 = .ok (.aload_n 1, 1) := by decide +kernel
theorem dX8_waits_49 : decode cX8_waits 49 = .ok (.bipush 19, 2) := by decide +kernel
theorem dX8_waits_51 : decode cX8_waits 51 = .ok (.iload_n 2, 1) := by decide +kernel
theorem dX8_waits_52 : decode cX8_waits 52 = .ok (.iadd, 1) := by decide +kernel
theorem dX8_waits_53 : decode cX8_waits 53 = .ok (.iaload, 1) := by decide +kernel
theorem dX8_waits_54 : decode cX8_waits 54 = .ok (.invokevirtual 179, 3) := by decide +kernel
theorem dX8_waits_57 : decode cX8_waits 57 = .ok (.ifCond .lt 19, 3) := by decide +kernel
theorem dX8_waits_60 : decode cX8_waits 60 = .ok (.aload_n 0, 1) := by decide +kernel
theorem dX8_waits_61 : decode cX8_waits 61 = .ok (.aload_n 1, 1) := by decide +kernel
theorem dX8_waits_62 : decode cX8_waits 62 = .ok (.iload_n 3, 1) := by decide +kernel
theorem dX8_waits_63 : decode cX8_waits 63 = .ok (.aload_n 0, 1) := by decide +kernel
theorem dX8_waits_64 : decode cX8_waits 64 = .ok (.getfield 7, 3) := by decide +kernel
theorem dX8_waits_67 : decode cX8_waits 67 = .ok (.bipush 55, 2) := by decide +kernel
theorem dX8_waits_69 : decode cX8_waits 69 = .ok (.iload_n 2, 1) := by decide +kernel
theorem dX8_waits_70 : decode cX8_waits 70 = .ok (.iadd, 1) := by decide +kernel
theorem dX8_waits_71 : decode cX8_waits 71 = .ok (.iaload, 1) := by decide +kernel
theorem dX8_waits_72 : decode cX8_waits 72 = .ok (.invokevirtual 183, 3) := by decide +kernel
theorem dX8_waits_75 : decode cX8_waits 75 = .ok (.return_, 1) := by decide +kernel
theorem dX8_waits_76 : decode cX8_waits 76 = .ok (.iinc 3 1, 3) := by decide +kernel
theorem dX8_waits_79 : decode cX8_waits 79 = .ok (.goto (-56), 3) := by decide +kernel
theorem dX8_waits_82 : decode cX8_waits 82 = .ok (.return_, 1) := by decide +kernel
theorem dX8_steals_0 : decode cX8_steals 0 = .ok (.aload_n 1, 1) := by decide +kernel
theorem dX8_steals_1 : decode cX8_steals 1 = .ok (.bipush 10, 2) := by decide +kernel
theorem dX8_steals_3 : decode cX8_steals 3 = .ok (.iload_n 2, 1) := by decide +kernel
theorem dX8_steals_4 : decode cX8_steals 4 = .ok (.iadd, 1) := by decide +kernel
theorem dX8_steals_5 : decode cX8_steals 5 = .ok (.iaload, 1) := by decide +kernel
theorem dX8_steals_6 : decode cX8_steals 6 = .ok (.ifCond .ne 52, 3) := by decide +kernel
theorem dX8_steals_9 : decode cX8_steals 9 = .ok (.aload_n 1, 1) := by decide +kernel
theorem dX8_steals_10 : decode cX8_steals 10 = .ok (.iload_n 2, 1) := by decide +kernel
theorem dX8_steals_11 : decode cX8_steals 11 = .ok (.invokestatic 187, 3) := by decide +kernel
theorem dX8_steals_14 : decode cX8_steals 14 = .ok (.istore 4, 2) := by decide +kernel
theorem dX8_steals_16 : decode cX8_steals 16 = .ok (.iload_n 3, 1) := by decide +kernel
theorem dX8_steals_17 : decode cX8_steals 17 = .ok (.iload 4, 2) := by decide +kernel
theorem dX8_steals_19 : decode cX8_steals 19 = .ok (.if_icmp .ge 7, 3) := by decide +kernel
theorem dX8_steals_22 : decode cX8_steals 22 = .ok (.iload_n 3, 1) := by decide +kernel
theorem dX8_steals_23 : decode cX8_steals 23 = .ok (.goto 5, 3) := by decide +kernel
theorem dX8_steals_26 : decode cX8_steals 26 = .ok (.iload 4, 2) := by decide +kernel
theorem dX8_steals_28 : decode cX8_steals 28 = .ok (.istore 5, 2) := by decide +kernel
theorem dX8_steals_30 : decode cX8_steals 30 = .ok (.aload_n 1, 1) := by decide +kernel
theorem dX8_steals_31 : decode cX8_steals 31 = .ok (.sipush 173, 3) := by decide +kernel
theorem dX8_steals_34 : decode cX8_steals 34 = .ok (.iload_n 2, 1) := by decide +kernel
theorem dX8_steals_35 : decode cX8_steals 35 = .ok (.aload_n 1, 1) := by decide +kernel
theorem dX8_steals_36 : decode cX8_steals 36 = .ok (.iconst 0, 1) := by decide +kernel
theorem dX8_steals_37 : decode cX8_steals 37 = .ok (.iaload, 1) := by decide +kernel
theorem dX8_steals_38 : decode cX8_steals 38 = .ok (.invokestatic 158, 3) := by decide +kernel
theorem dX8_steals_41 : decode cX8_steals 41 = .ok (.dup2, 1) := by decide +kernel
theorem dX8_steals_42 : decode cX8_steals 42 = .ok (.iaload, 1) := by decide +kernel
theorem dX8_steals_43 : decode cX8_steals 43 = .ok (.iload 5, 2) := by decide +kernel
theorem dX8_steals_45 : decode cX8_steals 45 = .ok (.iadd, 1) := by decide +kernel
theorem dX8_steals_46 : decode cX8_steals 46 = .ok (.iastore, 1) := by decide +kernel
theorem dX8_steals_47 : decode cX8_steals 47 = .ok (.aload_n 0, 1) := by decide +kernel
theorem dX8_steals_48 : decode cX8_steals 48 = .ok (.dup, 1) := by decide +kernel
theorem dX8_steals_49 : decode cX8_steals 49 = .ok (.getfield 155, 3) := by decide +kernel
theorem dX8_steals_52 : decode cX8_steals 52 = .ok (.iload 5, 2) := by decide +kernel
theorem dX8_steals_54 : decode cX8_steals 54 = .ok (.iadd, 1) := by decide +kernel
theorem dX8_steals_55 : decode cX8_steals 55 = .ok (.putfield 155, 3) := by decide +kernel
theorem dX8_steals_58 : decode cX8_steals 58 = .ok (.return_, 1) := by decide +kernel
theorem dX8_goes_0 : decode cX8_goes 0 = .ok (.aload_n 0, 1) := by decide +kernel
theorem dX8_goes_1 : decode cX8_goes 1 = .ok (.aload_n 1, 1) := by decide +kernel
theorem dX8_goes_2 : decode cX8_goes 2 = .ok (.iload_n 2, 1) := by decide +kernel
theorem dX8_goes_3 : decode cX8_goes 3 = .ok (.invokevirtual 190, 3) := by decide +kernel
theorem dX8_goes_6 : decode cX8_goes 6 = .ok (.istore_n 3, 1) := by decide +kernel
theorem dX8_goes_7 : decode cX8_goes 7 = .ok (.iload_n 3, 1) := by decide +kernel
theorem dX8_goes_8 : decode cX8_goes 8 = .ok (.bipush (-4), 2) := by decide +kernel
theorem dX8_goes_10 : decode cX8_goes 10 = .ok (.if_icmp .ne 10, 3) := by decide +kernel
theorem dX8_goes_13 : decode cX8_goes 13 = .ok (.aload_n 0, 1) := by decide +kernel
theorem dX8_goes_14 : decode cX8_goes 14 = .ok (.aload_n 1, 1) := by decide +kernel
theorem dX8_goes_15 : decode cX8_goes 15 = .ok (.iload_n 2, 1) := by decide +kernel
theorem dX8_goes_16 : decode cX8_goes 16 = .ok (.invokevirtual 193, 3) := by decide +kernel
theorem dX8_goes_19 : decode cX8_goes 19 = .ok (.return_, 1) := by decide +kernel
theorem dX8_goes_20 : decode cX8_goes 20 = .ok (.aload_n 0, 1) := by decide +kernel
theorem dX8_goes_21 : decode cX8_goes 21 = .ok (.aload_n 1, 1) := by decide +kernel
theorem dX8_goes_22 : decode cX8_goes 22 = .ok (.iload_n 3, 1) := by decide +kernel
theorem dX8_goes_23 : decode cX8_goes 23 = .ok (.invokevirtual 196, 3) := by decide +kernel
theorem dX8_goes_26 : decode cX8_goes 26 = .ok (.aload_n 0, 1) := by decide +kernel
theorem dX8_goes_27 : decode cX8_goes 27 = .ok (.iload_n 2, 1) := by decide +kernel
theorem dX8_goes_28 : decode cX8_goes 28 = .ok (.invokevirtual 166, 3) := by decide +kernel
theorem dX8_goes_31 : decode cX8_goes 31 = .ok (.if_icmp .ge 21, 3) := by decide +kernel
theorem dX8_goes_34 : decode cX8_goes 34 = .ok (.aload_n 1, 1) := by decide +kernel
theorem dX8_goes_35 : decode cX8_goes 35 = .ok (.bipush 19, 2) := by decide +kernel
theorem dX8_goes_37 : decode cX8_goes 37 = .ok (.iload_n 2, 1) := by decide +kernel
theorem dX8_goes_38 : decode cX8_goes 38 = .ok (.iadd, 1) := by decide +kernel
theorem dX8_goes_39 : decode cX8_goes 39 = .ok (.iconst (-1), 1) := by decide +kernel
theorem dX8_goes_40 : decode cX8_goes 40 = .ok (.iastore, 1) := by decide +kernel
theorem dX8_goes_41 : decode cX8_goes 41 = .ok (.aload_n 0, 1) := by decide +kernel
theorem dX8_goes_42 : decode cX8_goes 42 = .ok (.dup, 1) := by decide +kernel
theorem dX8_goes_43 : decode cX8_goes 43 = .ok (.getfield 149, 3) := by decide +kernel
theorem dX8_goes_46 : decode cX8_goes 46 = .ok (.iconst 1, 1) := by decide +kernel
theorem dX8_goes_47 : decode cX8_goes 47 = .ok (.iadd, 1) := by decide +kernel
theorem dX8_goes_48 : decode cX8_goes 48 = .ok (.putfield 149, 3) := by decide +kernel
theorem dX8_goes_51 : decode cX8_goes 51 = .ok (.return_, 1) := by decide +kernel
theorem dX8_goes_52 : decode cX8_goes 52 = .ok (.aload_n 1, 1) := by decide +kernel
theorem dX8_goes_53 : decode cX8_goes 53 = .ok (.bipush 19, 2) := by decide +kernel
theorem dX8_goes_55 : decode cX8_goes 55 = .ok (.iload_n 2, 1) := by decide +kernel
theorem dX8_goes_56 : decode cX8_goes 56 = .ok (.iadd, 1) := by decide +kernel
theorem dX8_goes_57 : decode cX8_goes 57 = .ok (.aload_n 0, 1) := by decide +kernel
theorem dX8_goes_58 : decode cX8_goes 58 = .ok (.iload_n 3, 1) := by decide +kernel
theorem dX8_goes_59 : decode cX8_goes 59 = .ok (.aload_n 1, 1) := by decide +kernel
theorem dX8_goes_60 : decode cX8_goes 60 = .ok (.bipush 19, 2) := by decide +kernel
theorem dX8_goes_62 : decode cX8_goes 62 = .ok (.iload_n 2, 1) := by decide +kernel
theorem dX8_goes_63 : decode cX8_goes 63 = .ok (.iadd, 1) := by decide +kernel
theorem dX8_goes_64 : decode cX8_goes 64 = .ok (.iaload, 1) := by decide +kernel
theorem dX8_goes_65 : decode cX8_goes 65 = .ok (.invokevirtual 179, 3) := by decide +kernel
theorem dX8_goes_68 : decode cX8_goes 68 = .ok (.iastore, 1) := by decide +kernel
theorem dX8_goes_69 : decode cX8_goes 69 = .ok (.aload_n 0, 1) := by decide +kernel
theorem dX8_goes_70 : decode cX8_goes 70 = .ok (.getfield 7, 3) := by decide +kernel
theorem dX8_goes_73 : decode cX8_goes 73 = .ok (.bipush 60, 2) := by decide +kernel
theorem dX8_goes_75 : decode cX8_goes 75 = .ok (.iload_n 2, 1) := by decide +kernel
theorem dX8_goes_76 : decode cX8_goes 76 = .ok (.iadd, 1) := by decide +kernel
theorem dX8_goes_77 : decode cX8_goes 77 = .ok (.iaload, 1) := by decide +kernel
theorem dX8_goes_78 : decode cX8_goes 78 = .ok (.iconst 3, 1) := by decide +kernel
theorem dX8_goes_79 : decode cX8_goes 79 = .ok (.if_icmp .ne 21, 3) := by decide +kernel
theorem dX8_goes_82 : decode cX8_goes 82 = .ok (.aload_n 0, 1) := by decide +kernel
theorem dX8_goes_83 : decode cX8_goes 83 = .ok (.aload_n 1, 1) := by decide +kernel
theorem dX8_goes_84 : decode cX8_goes 84 = .ok (.iload_n 3, 1) := by decide +kernel
theorem dX8_goes_85 : decode cX8_goes 85 = .ok (.aload_n 0, 1) := by decide +kernel
theorem dX8_goes_86 : decode cX8_goes 86 = .ok (.getfield 7, 3) := by decide +kernel
theorem dX8_goes_89 : decode cX8_goes 89 = .ok (.bipush 55, 2) := by decide +kernel
theorem dX8_goes_91 : decode cX8_goes 91 = .ok (.iload_n 2, 1) := by decide +kernel
theorem dX8_goes_92 : decode cX8_goes 92 = .ok (.iadd, 1) := by decide +kernel
theorem dX8_goes_93 : decode cX8_goes 93 = .ok (.iaload, 1) := by decide +kernel
theorem dX8_goes_94 : decode cX8_goes 94 = .ok (.invokevirtual 199, 3) := by decide +kernel
theorem dX8_goes_97 : decode cX8_goes 97 = .ok (.goto 39, 3) := by decide +kernel
theorem dX8_goes_100 : decode cX8_goes 100 = .ok (.aload_n 0, 1) := by decide +kernel
theorem dX8_goes_101 : decode cX8_goes 101 = .ok (.getfield 7, 3) := by decide +kernel
theorem dX8_goes_104 : decode cX8_goes 104 = .ok (.bipush 60, 2) := by decide +kernel
theorem dX8_goes_106 : decode cX8_goes 106 = .ok (.iload_n 2, 1) := by decide +kernel
theorem dX8_goes_107 : decode cX8_goes 107 = .ok (.iadd, 1) := by decide +kernel
theorem dX8_goes_108 : decode cX8_goes 108 = .ok (.iaload, 1) := by decide +kernel
theorem dX8_goes_109 : decode cX8_goes 109 = .ok (.iconst 2, 1) := by decide +kernel
theorem dX8_goes_110 : decode cX8_goes 110 = .ok (.if_icmp .ne 11, 3) := by decide +kernel
theorem dX8_goes_113 : decode cX8_goes 113 = .ok (.aload_n 1, 1) := by decide +kernel
theorem dX8_goes_114 : decode cX8_goes 114 = .ok (.iconst 0, 1) := by decide +kernel
theorem dX8_goes_115 : decode cX8_goes 115 = .ok (.iaload, 1) := by decide +kernel
theorem dX8_goes_116 : decode cX8_goes 116 = .ok (.iconst 2, 1) := by decide +kernel
theorem dX8_goes_117 : decode cX8_goes 117 = .ok (.irem, 1) := by decide +kernel
theorem dX8_goes_118 : decode cX8_goes 118 = .ok (.ifCond .ne 18, 3) := by decide +kernel
theorem dX8_goes_121 : decode cX8_goes 121 = .ok (.aload_n 0, 1) := by decide +kernel
theorem dX8_goes_122 : decode cX8_goes 122 = .ok (.aload_n 1, 1) := by decide +kernel
theorem dX8_goes_123 : decode cX8_goes 123 = .ok (.iload_n 3, 1) := by decide +kernel
theorem dX8_goes_124 : decode cX8_goes 124 = .ok (.aload_n 0, 1) := by decide +kernel
theorem dX8_goes_125 : decode cX8_goes 125 = .ok (.getfield 7, 3) := by decide +kernel
theorem dX8_goes_128 : decode cX8_goes 128 = .ok (.bipush 55, 2) := by decide +kernel
theorem dX8_goes_130 : decode cX8_goes 130 = .ok (.iload_n 2, 1) := by decide +kernel
theorem dX8_goes_131 : decode cX8_goes 131 = .ok (.iadd, 1) := by decide +kernel
theorem dX8_goes_132 : decode cX8_goes 132 = .ok (.iaload, 1) := by decide +kernel
theorem dX8_goes_133 : decode cX8_goes 133 = .ok (.invokevirtual 183, 3) := by decide +kernel
theorem dX8_goes_136 : decode cX8_goes 136 = .ok (.aload_n 1, 1) := by decide +kernel
theorem dX8_goes_137 : decode cX8_goes 137 = .ok (.bipush 19, 2) := by decide +kernel
theorem dX8_goes_139 : decode cX8_goes 139 = .ok (.iload_n 2, 1) := by decide +kernel
theorem dX8_goes_140 : decode cX8_goes 140 = .ok (.iadd, 1) := by decide +kernel
theorem dX8_goes_141 : decode cX8_goes 141 = .ok (.iaload, 1) := by decide +kernel
theorem dX8_goes_142 : decode cX8_goes 142 = .ok (.aload_n 1, 1) := by decide +kernel
theorem dX8_goes_143 : decode cX8_goes 143 = .ok (.bipush 24, 2) := by decide +kernel
theorem dX8_goes_145 : decode cX8_goes 145 = .ok (.iload_n 2, 1) := by decide +kernel
theorem dX8_goes_146 : decode cX8_goes 146 = .ok (.iadd, 1) := by decide +kernel
theorem dX8_goes_147 : decode cX8_goes 147 = .ok (.iaload, 1) := by decide +kernel
theorem dX8_goes_148 : decode cX8_goes 148 = .ok (.if_icmp .ne 48, 3) := by decide +kernel
theorem dX8_goes_151 : decode cX8_goes 151 = .ok (.aload_n 1, 1) := by decide +kernel
theorem dX8_goes_152 : decode cX8_goes 152 = .ok (.bipush 24, 2) := by decide +kernel
theorem dX8_goes_154 : decode cX8_goes 154 = .ok (.iload_n 2, 1) := by decide +kernel
theorem dX8_goes_155 : decode cX8_goes 155 = .ok (.iadd, 1) := by decide +kernel
theorem dX8_goes_156 : decode cX8_goes 156 = .ok (.aload_n 1, 1) := by decide +kernel
theorem dX8_goes_157 : decode cX8_goes 157 = .ok (.bipush 24, 2) := by decide +kernel
theorem dX8_goes_159 : decode cX8_goes 159 = .ok (.iload_n 2, 1) := by decide +kernel
theorem dX8_goes_160 : decode cX8_goes 160 = .ok (.iadd, 1) := by decide +kernel
theorem dX8_goes_161 : decode cX8_goes 161 = .ok (.iaload, 1) := by decide +kernel
theorem dX8_goes_162 : decode cX8_goes 162 = .ok (.aload_n 0, 1) := by decide +kernel
theorem dX8_goes_163 : decode cX8_goes 163 = .ok (.getfield 7, 3) := by decide +kernel
theorem dX8_goes_166 : decode cX8_goes 166 = .ok (.bipush 40, 2) := by decide +kernel
theorem dX8_goes_168 : decode cX8_goes 168 = .ok (.iload_n 2, 1) := by decide +kernel
theorem dX8_goes_169 : decode cX8_goes 169 = .ok (.iadd, 1) := by decide +kernel
theorem dX8_goes_170 : decode cX8_goes 170 = .ok (.iaload, 1) := by decide +kernel
theorem dX8_goes_171 : decode cX8_goes 171 = .ok (.if_icmp .ne 15, 3) := by decide +kernel
theorem dX8_goes_174 : decode cX8_goes 174 = .ok (.aload_n 0, 1) := by decide +kernel
theorem dX8_goes_175 : decode cX8_goes 175 = .ok (.getfield 7, 3) := by decide +kernel
theorem dX8_goes_178 : decode cX8_goes 178 = .ok (.bipush 45, 2) := by decide +kernel
theorem dX8_goes_180 : decode cX8_goes 180 = .ok (.iload_n 2, 1) := by decide +kernel
theorem dX8_goes_181 : decode cX8_goes 181 = .ok (.iadd, 1) := by decide +kernel
theorem dX8_goes_182 : decode cX8_goes 182 = .ok (.iaload, 1) := by decide +kernel
theorem dX8_goes_183 : decode cX8_goes 183 = .ok (.goto 12, 3) := by decide +kernel
theorem dX8_goes_186 : decode cX8_goes 186 = .ok (.aload_n 0, 1) := by decide +kernel
theorem dX8_goes_187 : decode cX8_goes 187 = .ok (.getfield 7, 3) := by decide +kernel
theorem dX8_goes_190 : decode cX8_goes 190 = .ok (.bipush 40, 2) := by decide +kernel
theorem dX8_goes_192 : decode cX8_goes 192 = .ok (.iload_n 2, 1) := by decide +kernel
theorem dX8_goes_193 : decode cX8_goes 193 = .ok (.iadd, 1) := by decide +kernel
theorem dX8_goes_194 : decode cX8_goes 194 = .ok (.iaload, 1) := by decide +kernel
theorem dX8_goes_195 : decode cX8_goes 195 = .ok (.iastore, 1) := by decide +kernel
theorem dX8_goes_196 : decode cX8_goes 196 = .ok (.return_, 1) := by decide +kernel
theorem dX8_tells_0 : decode cX8_tells 0 = .ok (.iconst 0, 1) := by decide +kernel
theorem dX8_tells_1 : decode cX8_tells 1 = .ok (.istore_n 2, 1) := by decide +kernel
theorem dX8_tells_2 : decode cX8_tells 2 = .ok (.iconst 0, 1) := by decide +kernel
theorem dX8_tells_3 : decode cX8_tells 3 = .ok (.istore_n 3, 1) := by decide +kernel
theorem dX8_tells_4 : decode cX8_tells 4 = .ok (.iload_n 3, 1) := by decide +kernel
theorem dX8_tells_5 : decode cX8_tells 5 = .ok (.aload_n 0, 1) := by decide +kernel
theorem dX8_tells_6 : decode cX8_tells 6 = .ok (.getfield 7, 3) := by decide +kernel
theorem dX8_tells_9 : decode cX8_tells 9 = .ok (.iconst 2, 1) := by decide +kernel
theorem dX8_tells_10 : decode cX8_tells 10 = .ok (.iaload, 1) := by decide +kernel
theorem dX8_tells_11 : decode cX8_tells 11 = .ok (.if_icmp .ge 45, 3) := by decide +kernel
theorem dX8_tells_14 : decode cX8_tells 14 = .ok (.iload_n 2, 1) := by decide +kernel
theorem dX8_tells_15 : decode cX8_tells 15 = .ok (.aload_n 0, 1) := by decide +kernel
theorem dX8_tells_16 : decode cX8_tells 16 = .ok (.getfield 140, 3) := by decide +kernel
theorem dX8_tells_19 : decode cX8_tells 19 = .ok (.iload_n 3, 1) := by decide +kernel
theorem dX8_tells_20 : decode cX8_tells 20 = .ok (.ishr, 1) := by decide +kernel
theorem dX8_tells_21 : decode cX8_tells 21 = .ok (.iconst 1, 1) := by decide +kernel
theorem dX8_tells_22 : decode cX8_tells 22 = .ok (.iand, 1) := by decide +kernel
theorem dX8_tells_23 : decode cX8_tells 23 = .ok (.iconst 1, 1) := by decide +kernel
theorem dX8_tells_24 : decode cX8_tells 24 = .ok (.if_icmp .ne 23, 3) := by decide +kernel
theorem dX8_tells_27 : decode cX8_tells 27 = .ok (.aload_n 1, 1) := by decide +kernel
theorem dX8_tells_28 : decode cX8_tells 28 = .ok (.bipush 19, 2) := by decide +kernel
theorem dX8_tells_30 : decode cX8_tells 30 = .ok (.iload_n 3, 1) := by decide +kernel
theorem dX8_tells_31 : decode cX8_tells 31 = .ok (.iadd, 1) := by decide +kernel
theorem dX8_tells_32 : decode cX8_tells 32 = .ok (.iaload, 1) := by decide +kernel
theorem dX8_tells_33 : decode cX8_tells 33 = .ok (.ifCond .lt 14, 3) := by decide +kernel
theorem dX8_tells_36 : decode cX8_tells 36 = .ok (.iconst 1, 1) := by decide +kernel
theorem dX8_tells_37 : decode cX8_tells 37 = .ok (.aload_n 1, 1) := by decide +kernel
theorem dX8_tells_38 : decode cX8_tells 38 = .ok (.bipush 19, 2) := by decide +kernel
theorem dX8_tells_40 : decode cX8_tells 40 = .ok (.iload_n 3, 1) := by decide +kernel
theorem dX8_tells_41 : decode cX8_tells 41 = .ok (.iadd, 1) := by decide +kernel
theorem dX8_tells_42 : decode cX8_tells 42 = .ok (.iaload, 1) := by decide +kernel
theorem dX8_tells_43 : decode cX8_tells 43 = .ok (.ishl, 1) := by decide +kernel
theorem dX8_tells_44 : decode cX8_tells 44 = .ok (.goto 4, 3) := by decide +kernel
theorem dX8_tells_47 : decode cX8_tells 47 = .ok (.iconst 0, 1) := by decide +kernel
theorem dX8_tells_48 : decode cX8_tells 48 = .ok (.ior, 1) := by decide +kernel
theorem dX8_tells_49 : decode cX8_tells 49 = .ok (.istore_n 2, 1) := by decide +kernel
theorem dX8_tells_50 : decode cX8_tells 50 = .ok (.iinc 3 1, 3) := by decide +kernel
theorem dX8_tells_53 : decode cX8_tells 53 = .ok (.goto (-49), 3) := by decide +kernel
theorem dX8_tells_56 : decode cX8_tells 56 = .ok (.iconst 0, 1) := by decide +kernel
theorem dX8_tells_57 : decode cX8_tells 57 = .ok (.istore_n 3, 1) := by decide +kernel
theorem dX8_tells_58 : decode cX8_tells 58 = .ok (.iload_n 3, 1) := by decide +kernel
theorem dX8_tells_59 : decode cX8_tells 59 = .ok (.aload_n 0, 1) := by decide +kernel
theorem dX8_tells_60 : decode cX8_tells 60 = .ok (.getfield 7, 3) := by decide +kernel
theorem dX8_tells_63 : decode cX8_tells 63 = .ok (.iconst 2, 1) := by decide +kernel
theorem dX8_tells_64 : decode cX8_tells 64 = .ok (.iaload, 1) := by decide +kernel
theorem dX8_tells_65 : decode cX8_tells 65 = .ok (.if_icmp .ge 48, 3) := by decide +kernel
theorem dX8_tells_68 : decode cX8_tells 68 = .ok (.aload_n 0, 1) := by decide +kernel
theorem dX8_tells_69 : decode cX8_tells 69 = .ok (.dup, 1) := by decide +kernel
theorem dX8_tells_70 : decode cX8_tells 70 = .ok (.getfield 140, 3) := by decide +kernel
theorem dX8_tells_73 : decode cX8_tells 73 = .ok (.aload_n 1, 1) := by decide +kernel
theorem dX8_tells_74 : decode cX8_tells 74 = .ok (.bipush 19, 2) := by decide +kernel
theorem dX8_tells_76 : decode cX8_tells 76 = .ok (.iload_n 3, 1) := by decide +kernel
theorem dX8_tells_77 : decode cX8_tells 77 = .ok (.iadd, 1) := by decide +kernel
theorem dX8_tells_78 : decode cX8_tells 78 = .ok (.iaload, 1) := by decide +kernel
theorem dX8_tells_79 : decode cX8_tells 79 = .ok (.ifCond .lt 23, 3) := by decide +kernel
theorem dX8_tells_82 : decode cX8_tells 82 = .ok (.iload_n 2, 1) := by decide +kernel
theorem dX8_tells_83 : decode cX8_tells 83 = .ok (.aload_n 1, 1) := by decide +kernel
theorem dX8_tells_84 : decode cX8_tells 84 = .ok (.bipush 19, 2) := by decide +kernel
theorem dX8_tells_86 : decode cX8_tells 86 = .ok (.iload_n 3, 1) := by decide +kernel
theorem dX8_tells_87 : decode cX8_tells 87 = .ok (.iadd, 1) := by decide +kernel
theorem dX8_tells_88 : decode cX8_tells 88 = .ok (.iaload, 1) := by decide +kernel
theorem dX8_tells_89 : decode cX8_tells 89 = .ok (.ishr, 1) := by decide +kernel
theorem dX8_tells_90 : decode cX8_tells 90 = .ok (.iconst 1, 1) := by decide +kernel
theorem dX8_tells_91 : decode cX8_tells 91 = .ok (.iand, 1) := by decide +kernel
theorem dX8_tells_92 : decode cX8_tells 92 = .ok (.iconst 1, 1) := by decide +kernel
theorem dX8_tells_93 : decode cX8_tells 93 = .ok (.if_icmp .ne 9, 3) := by decide +kernel
theorem dX8_tells_96 : decode cX8_tells 96 = .ok (.iconst 1, 1) := by decide +kernel
theorem dX8_tells_97 : decode cX8_tells 97 = .ok (.iload_n 3, 1) := by decide +kernel
theorem dX8_tells_98 : decode cX8_tells 98 = .ok (.ishl, 1) := by decide +kernel
theorem dX8_tells_99 : decode cX8_tells 99 = .ok (.goto 4, 3) := by decide +kernel
theorem dX8_tells_102 : decode cX8_tells 102 = .ok (.iconst 0, 1) := by decide +kernel
theorem dX8_tells_103 : decode cX8_tells 103 = .ok (.ior, 1) := by decide +kernel
theorem dX8_tells_104 : decode cX8_tells 104 = .ok (.putfield 140, 3) := by decide +kernel
theorem dX8_tells_107 : decode cX8_tells 107 = .ok (.iinc 3 1, 3) := by decide +kernel
theorem dX8_tells_110 : decode cX8_tells 110 = .ok (.goto (-52), 3) := by decide +kernel
theorem dX8_tells_113 : decode cX8_tells 113 = .ok (.return_, 1) := by decide +kernel
theorem dX8_dayGoes_0 : decode cX8_dayGoes 0 = .ok (.iconst 0, 1) := by decide +kernel
theorem dX8_dayGoes_1 : decode cX8_dayGoes 1 = .ok (.istore_n 3, 1) := by decide +kernel
theorem dX8_dayGoes_2 : decode cX8_dayGoes 2 = .ok (.iload_n 3, 1) := by decide +kernel
theorem dX8_dayGoes_3 : decode cX8_dayGoes 3 = .ok (.aload_n 0, 1) := by decide +kernel
theorem dX8_dayGoes_4 : decode cX8_dayGoes 4 = .ok (.getfield 7, 3) := by decide +kernel
theorem dX8_dayGoes_7 : decode cX8_dayGoes 7 = .ok (.iconst 1, 1) := by decide +kernel
theorem dX8_dayGoes_8 : decode cX8_dayGoes 8 = .ok (.iaload, 1) := by decide +kernel
theorem dX8_dayGoes_9 : decode cX8_dayGoes 9 = .ok (.if_icmp .ge 27, 3) := by decide +kernel
theorem dX8_dayGoes_12 : decode cX8_dayGoes 12 = .ok (.aload_n 1, 1) := by decide +kernel
theorem dX8_dayGoes_13 : decode cX8_dayGoes 13 = .ok (.bipush 29, 2) := by decide +kernel
theorem dX8_dayGoes_15 : decode cX8_dayGoes 15 = .ok (.iload_n 3, 1) := by decide +kernel
theorem dX8_dayGoes_16 : decode cX8_dayGoes 16 = .ok (.aload_n 1, 1) := by decide +kernel
theorem dX8_dayGoes_17 : decode cX8_dayGoes 17 = .ok (.iconst 0, 1) := by decide +kernel
theorem dX8_dayGoes_18 : decode cX8_dayGoes 18 = .ok (.iaload, 1) := by decide +kernel
theorem dX8_dayGoes_19 : decode cX8_dayGoes 19 = .ok (.invokestatic 158, 3) := by decide +kernel
theorem dX8_dayGoes_22 : decode cX8_dayGoes 22 = .ok (.dup2, 1) := by decide +kernel
theorem dX8_dayGoes_23 : decode cX8_dayGoes 23 = .ok (.iaload, 1) := by decide +kernel
theorem dX8_dayGoes_24 : decode cX8_dayGoes 24 = .ok (.aload_n 0, 1) := by decide +kernel
theorem dX8_dayGoes_25 : decode cX8_dayGoes 25 = .ok (.getfield 131, 3) := by decide +kernel
theorem dX8_dayGoes_28 : decode cX8_dayGoes 28 = .ok (.iadd, 1) := by decide +kernel
theorem dX8_dayGoes_29 : decode cX8_dayGoes 29 = .ok (.iastore, 1) := by decide +kernel
theorem dX8_dayGoes_30 : decode cX8_dayGoes 30 = .ok (.iinc 3 1, 3) := by decide +kernel
theorem dX8_dayGoes_33 : decode cX8_dayGoes 33 = .ok (.goto (-31), 3) := by decide +kernel
theorem dX8_dayGoes_36 : decode cX8_dayGoes 36 = .ok (.aload_n 0, 1) := by decide +kernel
theorem dX8_dayGoes_37 : decode cX8_dayGoes 37 = .ok (.getfield 134, 3) := by decide +kernel
theorem dX8_dayGoes_40 : decode cX8_dayGoes 40 = .ok (.ifCond .lt 62, 3) := by decide +kernel
theorem dX8_dayGoes_43 : decode cX8_dayGoes 43 = .ok (.ldc2_w 202, 3) := by decide +kernel
theorem dX8_dayGoes_46 : decode cX8_dayGoes 46 = .ok (.aload_n 0, 1) := by decide +kernel
theorem dX8_dayGoes_47 : decode cX8_dayGoes 47 = .ok (.getfield 134, 3) := by decide +kernel
theorem dX8_dayGoes_50 : decode cX8_dayGoes 50 = .ok (.i2l, 1) := by decide +kernel
theorem dX8_dayGoes_51 : decode cX8_dayGoes 51 = .ok (.lmul, 1) := by decide +kernel
theorem dX8_dayGoes_52 : decode cX8_dayGoes 52 = .ok (.ldc2_w 204, 3) := by decide +kernel
theorem dX8_dayGoes_55 : decode cX8_dayGoes 55 = .ok (.iload_n 2, 1) := by decide +kernel
theorem dX8_dayGoes_56 : decode cX8_dayGoes 56 = .ok (.i2l, 1) := by decide +kernel
theorem dX8_dayGoes_57 : decode cX8_dayGoes 57 = .ok (.lmul, 1) := by decide +kernel
theorem dX8_dayGoes_58 : decode cX8_dayGoes 58 = .ok (.ladd, 1) := by decide +kernel
theorem dX8_dayGoes_59 : decode cX8_dayGoes 59 = .ok (.lconst 1, 1) := by decide +kernel
theorem dX8_dayGoes_60 : decode cX8_dayGoes 60 = .ok (.ladd, 1) := by decide +kernel
theorem dX8_dayGoes_61 : decode cX8_dayGoes 61 = .ok (.lstore_n 3, 1) := by decide +kernel
theorem dX8_dayGoes_62 : decode cX8_dayGoes 62 = .ok (.lload_n 3, 1) := by decide +kernel
theorem dX8_dayGoes_63 : decode cX8_dayGoes 63 = .ok (.lload_n 3, 1) := by decide +kernel
theorem dX8_dayGoes_64 : decode cX8_dayGoes 64 = .ok (.lmul, 1) := by decide +kernel
theorem dX8_dayGoes_65 : decode cX8_dayGoes 65 = .ok (.ldc2_w 206, 3) := by decide +kernel
theorem dX8_dayGoes_68 : decode cX8_dayGoes 68 = .ok (.lrem, 1) := by decide +kernel
theorem dX8_dayGoes_69 : decode cX8_dayGoes 69 = .ok (.l2i, 1) := by decide +kernel
theorem dX8_dayGoes_70 : decode cX8_dayGoes 70 = .ok (.istore 5, 2) := by decide +kernel
theorem dX8_dayGoes_72 : decode cX8_dayGoes 72 = .ok (.aload_n 1, 1) := by decide +kernel
theorem dX8_dayGoes_73 : decode cX8_dayGoes 73 = .ok (.bipush 29, 2) := by decide +kernel
theorem dX8_dayGoes_75 : decode cX8_dayGoes 75 = .ok (.iload 5, 2) := by decide +kernel
theorem dX8_dayGoes_77 : decode cX8_dayGoes 77 = .ok (.bipush 16, 2) := by decide +kernel
theorem dX8_dayGoes_79 : decode cX8_dayGoes 79 = .ok (.idiv, 1) := by decide +kernel
theorem dX8_dayGoes_80 : decode cX8_dayGoes 80 = .ok (.aload_n 0, 1) := by decide +kernel
theorem dX8_dayGoes_81 : decode cX8_dayGoes 81 = .ok (.getfield 7, 3) := by decide +kernel
theorem dX8_dayGoes_84 : decode cX8_dayGoes 84 = .ok (.iconst 1, 1) := by decide +kernel
theorem dX8_dayGoes_85 : decode cX8_dayGoes 85 = .ok (.iaload, 1) := by decide +kernel
theorem dX8_dayGoes_86 : decode cX8_dayGoes 86 = .ok (.irem, 1) := by decide +kernel
theorem dX8_dayGoes_87 : decode cX8_dayGoes 87 = .ok (.aload_n 1, 1) := by decide +kernel
theorem dX8_dayGoes_88 : decode cX8_dayGoes 88 = .ok (.iconst 0, 1) := by decide +kernel
theorem dX8_dayGoes_89 : decode cX8_dayGoes 89 = .ok (.iaload, 1) := by decide +kernel
theorem dX8_dayGoes_90 : decode cX8_dayGoes 90 = .ok (.invokestatic 158, 3) := by decide +kernel
theorem dX8_dayGoes_93 : decode cX8_dayGoes 93 = .ok (.dup2, 1) := by decide +kernel
theorem dX8_dayGoes_94 : decode cX8_dayGoes 94 = .ok (.iaload, 1) := by decide +kernel
theorem dX8_dayGoes_95 : decode cX8_dayGoes 95 = .ok (.iload 5, 2) := by decide +kernel
theorem dX8_dayGoes_97 : decode cX8_dayGoes 97 = .ok (.bipush 10, 2) := by decide +kernel
theorem dX8_dayGoes_99 : decode cX8_dayGoes 99 = .ok (.irem, 1) := by decide +kernel
theorem dX8_dayGoes_100 : decode cX8_dayGoes 100 = .ok (.iadd, 1) := by decide +kernel
theorem dX8_dayGoes_101 : decode cX8_dayGoes 101 = .ok (.iastore, 1) := by decide +kernel
theorem dX8_dayGoes_102 : decode cX8_dayGoes 102 = .ok (.iconst 0, 1) := by decide +kernel
theorem dX8_dayGoes_103 : decode cX8_dayGoes 103 = .ok (.istore_n 3, 1) := by decide +kernel
theorem dX8_dayGoes_104 : decode cX8_dayGoes 104 = .ok (.iload_n 3, 1) := by decide +kernel
theorem dX8_dayGoes_105 : decode cX8_dayGoes 105 = .ok (.aload_n 0, 1) := by decide +kernel
theorem dX8_dayGoes_106 : decode cX8_dayGoes 106 = .ok (.getfield 7, 3) := by decide +kernel
theorem dX8_dayGoes_109 : decode cX8_dayGoes 109 = .ok (.iconst 2, 1) := by decide +kernel
theorem dX8_dayGoes_110 : decode cX8_dayGoes 110 = .ok (.iaload, 1) := by decide +kernel
theorem dX8_dayGoes_111 : decode cX8_dayGoes 111 = .ok (.if_icmp .ge 24, 3) := by decide +kernel
theorem dX8_dayGoes_114 : decode cX8_dayGoes 114 = .ok (.aload_n 1, 1) := by decide +kernel
theorem dX8_dayGoes_115 : decode cX8_dayGoes 115 = .ok (.bipush 19, 2) := by decide +kernel
theorem dX8_dayGoes_117 : decode cX8_dayGoes 117 = .ok (.iload_n 3, 1) := by decide +kernel
theorem dX8_dayGoes_118 : decode cX8_dayGoes 118 = .ok (.iadd, 1) := by decide +kernel
theorem dX8_dayGoes_119 : decode cX8_dayGoes 119 = .ok (.iaload, 1) := by decide +kernel
theorem dX8_dayGoes_120 : decode cX8_dayGoes 120 = .ok (.ifCond .lt 9, 3) := by decide +kernel
theorem dX8_dayGoes_123 : decode cX8_dayGoes 123 = .ok (.aload_n 0, 1) := by decide +kernel
theorem dX8_dayGoes_124 : decode cX8_dayGoes 124 = .ok (.aload_n 1, 1) := by decide +kernel
theorem dX8_dayGoes_125 : decode cX8_dayGoes 125 = .ok (.iload_n 3, 1) := by decide +kernel
theorem dX8_dayGoes_126 : decode cX8_dayGoes 126 = .ok (.invokevirtual 208, 3) := by decide +kernel
theorem dX8_dayGoes_129 : decode cX8_dayGoes 129 = .ok (.iinc 3 1, 3) := by decide +kernel
theorem dX8_dayGoes_132 : decode cX8_dayGoes 132 = .ok (.goto (-28), 3) := by decide +kernel
theorem dX8_dayGoes_135 : decode cX8_dayGoes 135 = .ok (.aload_n 0, 1) := by decide +kernel
theorem dX8_dayGoes_136 : decode cX8_dayGoes 136 = .ok (.aload_n 1, 1) := by decide +kernel
theorem dX8_dayGoes_137 : decode cX8_dayGoes 137 = .ok (.invokevirtual 211, 3) := by decide +kernel
theorem dX8_dayGoes_140 : decode cX8_dayGoes 140 = .ok (.aload_n 0, 1) := by decide +kernel
theorem dX8_dayGoes_141 : decode cX8_dayGoes 141 = .ok (.dup, 1) := by decide +kernel
theorem dX8_dayGoes_142 : decode cX8_dayGoes 142 = .ok (.getfield 143, 3) := by decide +kernel
theorem dX8_dayGoes_145 : decode cX8_dayGoes 145 = .ok (.aload_n 0, 1) := by decide +kernel
theorem dX8_dayGoes_146 : decode cX8_dayGoes 146 = .ok (.getfield 143, 3) := by decide +kernel
theorem dX8_dayGoes_149 : decode cX8_dayGoes 149 = .ok (.ifCond .le 7, 3) := by decide +kernel
theorem dX8_dayGoes_152 : decode cX8_dayGoes 152 = .ok (.iconst 1, 1) := by decide +kernel
theorem dX8_dayGoes_153 : decode cX8_dayGoes 153 = .ok (.goto 4, 3) := by decide +kernel
theorem dX8_dayGoes_156 : decode cX8_dayGoes 156 = .ok (.iconst 0, 1) := by decide +kernel
theorem dX8_dayGoes_157 : decode cX8_dayGoes 157 = .ok (.isub, 1) := by decide +kernel
theorem dX8_dayGoes_158 : decode cX8_dayGoes 158 = .ok (.putfield 143, 3) := by decide +kernel
theorem dX8_dayGoes_161 : decode cX8_dayGoes 161 = .ok (.aload_n 1, 1) := by decide +kernel
theorem dX8_dayGoes_162 : decode cX8_dayGoes 162 = .ok (.iconst 0, 1) := by decide +kernel
theorem dX8_dayGoes_163 : decode cX8_dayGoes 163 = .ok (.dup2, 1) := by decide +kernel
theorem dX8_dayGoes_164 : decode cX8_dayGoes 164 = .ok (.iaload, 1) := by decide +kernel
theorem dX8_dayGoes_165 : decode cX8_dayGoes 165 = .ok (.iconst 1, 1) := by decide +kernel
theorem dX8_dayGoes_166 : decode cX8_dayGoes 166 = .ok (.iadd, 1) := by decide +kernel
theorem dX8_dayGoes_167 : decode cX8_dayGoes 167 = .ok (.iastore, 1) := by decide +kernel
theorem dX8_dayGoes_168 : decode cX8_dayGoes 168 = .ok (.iconst 0, 1) := by decide +kernel
theorem dX8_dayGoes_169 : decode cX8_dayGoes 169 = .ok (.istore_n 3, 1) := by decide +kernel
theorem dX8_dayGoes_170 : decode cX8_dayGoes 170 = .ok (.iload_n 3, 1) := by decide +kernel
theorem dX8_dayGoes_171 : decode cX8_dayGoes 171 = .ok (.aload_n 0, 1) := by decide +kernel
theorem dX8_dayGoes_172 : decode cX8_dayGoes 172 = .ok (.getfield 7, 3) := by decide +kernel
theorem dX8_dayGoes_175 : decode cX8_dayGoes 175 = .ok (.iconst 1, 1) := by decide +kernel
theorem dX8_dayGoes_176 : decode cX8_dayGoes 176 = .ok (.iaload, 1) := by decide +kernel
theorem dX8_dayGoes_177 : decode cX8_dayGoes 177 = .ok (.if_icmp .ge 40, 3) := by decide +kernel
theorem dX8_dayGoes_180 : decode cX8_dayGoes 180 = .ok (.aload_n 1, 1) := by decide +kernel
theorem dX8_dayGoes_181 : decode cX8_dayGoes 181 = .ok (.iconst 1, 1) := by decide +kernel
theorem dX8_dayGoes_182 : decode cX8_dayGoes 182 = .ok (.iload_n 3, 1) := by decide +kernel
theorem dX8_dayGoes_183 : decode cX8_dayGoes 183 = .ok (.iadd, 1) := by decide +kernel
theorem dX8_dayGoes_184 : decode cX8_dayGoes 184 = .ok (.iconst 0, 1) := by decide +kernel
theorem dX8_dayGoes_185 : decode cX8_dayGoes 185 = .ok (.iastore, 1) := by decide +kernel
theorem dX8_dayGoes_186 : decode cX8_dayGoes 186 = .ok (.aload_n 1, 1) := by decide +kernel
theorem dX8_dayGoes_187 : decode cX8_dayGoes 187 = .ok (.bipush 29, 2) := by decide +kernel
theorem dX8_dayGoes_189 : decode cX8_dayGoes 189 = .ok (.iload_n 3, 1) := by decide +kernel
theorem dX8_dayGoes_190 : decode cX8_dayGoes 190 = .ok (.aload_n 1, 1) := by decide +kernel
theorem dX8_dayGoes_191 : decode cX8_dayGoes 191 = .ok (.iconst 0, 1) := by decide +kernel
theorem dX8_dayGoes_192 : decode cX8_dayGoes 192 = .ok (.iaload, 1) := by decide +kernel
theorem dX8_dayGoes_193 : decode cX8_dayGoes 193 = .ok (.invokestatic 158, 3) := by decide +kernel
theorem dX8_dayGoes_196 : decode cX8_dayGoes 196 = .ok (.iconst 0, 1) := by decide +kernel
theorem dX8_dayGoes_197 : decode cX8_dayGoes 197 = .ok (.iastore, 1) := by decide +kernel
theorem dX8_dayGoes_198 : decode cX8_dayGoes 198 = .ok (.aload_n 1, 1) := by decide +kernel
theorem dX8_dayGoes_199 : decode cX8_dayGoes 199 = .ok (.sipush 173, 3) := by decide +kernel
theorem dX8_dayGoes_202 : decode cX8_dayGoes 202 = .ok (.iload_n 3, 1) := by decide +kernel
theorem dX8_dayGoes_203 : decode cX8_dayGoes 203 = .ok (.aload_n 1, 1) := by decide +kernel
theorem dX8_dayGoes_204 : decode cX8_dayGoes 204 = .ok (.iconst 0, 1) := by decide +kernel
theorem dX8_dayGoes_205 : decode cX8_dayGoes 205 = .ok (.iaload, 1) := by decide +kernel
theorem dX8_dayGoes_206 : decode cX8_dayGoes 206 = .ok (.invokestatic 158, 3) := by decide +kernel
theorem dX8_dayGoes_209 : decode cX8_dayGoes 209 = .ok (.iconst 0, 1) := by decide +kernel
theorem dX8_dayGoes_210 : decode cX8_dayGoes 210 = .ok (.iastore, 1) := by decide +kernel
theorem dX8_dayGoes_211 : decode cX8_dayGoes 211 = .ok (.iinc 3 1, 3) := by decide +kernel
theorem dX8_dayGoes_214 : decode cX8_dayGoes 214 = .ok (.goto (-44), 3) := by decide +kernel
theorem dX8_dayGoes_217 : decode cX8_dayGoes 217 = .ok (.return_, 1) := by decide +kernel
theorem dX8_copies_0 : decode cX8_copies 0 = .ok (.iconst 0, 1) := by decide +kernel
theorem dX8_copies_1 : decode cX8_copies 1 = .ok (.istore 4, 2) := by decide +kernel
theorem dX8_copies_3 : decode cX8_copies 3 = .ok (.iload 4, 2) := by decide +kernel
theorem dX8_copies_5 : decode cX8_copies 5 = .ok (.sipush 317, 3) := by decide +kernel
theorem dX8_copies_8 : decode cX8_copies 8 = .ok (.if_icmp .ge 21, 3) := by decide +kernel
theorem dX8_copies_11 : decode cX8_copies 11 = .ok (.aload_n 2, 1) := by decide +kernel
theorem dX8_copies_12 : decode cX8_copies 12 = .ok (.iload_n 3, 1) := by decide +kernel
theorem dX8_copies_13 : decode cX8_copies 13 = .ok (.iload 4, 2) := by decide +kernel
theorem dX8_copies_15 : decode cX8_copies 15 = .ok (.iadd, 1) := by decide +kernel
theorem dX8_copies_16 : decode cX8_copies 16 = .ok (.aload_n 0, 1) := by decide +kernel
theorem dX8_copies_17 : decode cX8_copies 17 = .ok (.iload_n 1, 1) := by decide +kernel
theorem dX8_copies_18 : decode cX8_copies 18 = .ok (.iload 4, 2) := by decide +kernel
theorem dX8_copies_20 : decode cX8_copies 20 = .ok (.iadd, 1) := by decide +kernel
theorem dX8_copies_21 : decode cX8_copies 21 = .ok (.iaload, 1) := by decide +kernel
theorem dX8_copies_22 : decode cX8_copies 22 = .ok (.iastore, 1) := by decide +kernel
theorem dX8_copies_23 : decode cX8_copies 23 = .ok (.iinc 4 1, 3) := by decide +kernel
theorem dX8_copies_26 : decode cX8_copies 26 = .ok (.goto (-23), 3) := by decide +kernel
theorem dX8_copies_29 : decode cX8_copies 29 = .ok (.return_, 1) := by decide +kernel
theorem dX8_tries_0 : decode cX8_tries 0 = .ok (.aload_n 0, 1) := by decide +kernel
theorem dX8_tries_1 : decode cX8_tries 1 = .ok (.getfield 19, 3) := by decide +kernel
theorem dX8_tries_4 : decode cX8_tries 4 = .ok (.iconst 0, 1) := by decide +kernel
theorem dX8_tries_5 : decode cX8_tries 5 = .ok (.aload_n 0, 1) := by decide +kernel
theorem dX8_tries_6 : decode cX8_tries 6 = .ok (.getfield 37, 3) := by decide +kernel
theorem dX8_tries_9 : decode cX8_tries 9 = .ok (.iconst 0, 1) := by decide +kernel
theorem dX8_tries_10 : decode cX8_tries 10 = .ok (.invokestatic 215, 3) := by decide +kernel
theorem dX8_tries_13 : decode cX8_tries 13 = .ok (.iconst 0, 1) := by decide +kernel
theorem dX8_tries_14 : decode cX8_tries 14 = .ok (.istore_n 2, 1) := by decide +kernel
theorem dX8_tries_15 : decode cX8_tries 15 = .ok (.iload_n 2, 1) := by decide +kernel
theorem dX8_tries_16 : decode cX8_tries 16 = .ok (.iload_n 1, 1) := by decide +kernel
theorem dX8_tries_17 : decode cX8_tries 17 = .ok (.if_icmp .ge 18, 3) := by decide +kernel
theorem dX8_tries_20 : decode cX8_tries 20 = .ok (.aload_n 0, 1) := by decide +kernel
theorem dX8_tries_21 : decode cX8_tries 21 = .ok (.aload_n 0, 1) := by decide +kernel
theorem dX8_tries_22 : decode cX8_tries 22 = .ok (.getfield 37, 3) := by decide +kernel
theorem dX8_tries_25 : decode cX8_tries 25 = .ok (.iload_n 2, 1) := by decide +kernel
theorem dX8_tries_26 : decode cX8_tries 26 = .ok (.invokevirtual 219, 3) := by decide +kernel
theorem dX8_tries_29 : decode cX8_tries 29 = .ok (.iinc 2 1, 3) := by decide +kernel
theorem dX8_tries_32 : decode cX8_tries 32 = .ok (.goto (-17), 3) := by decide +kernel
theorem dX8_tries_35 : decode cX8_tries 35 = .ok (.return_, 1) := by decide +kernel
theorem dX8_remember_0 : decode cX8_remember 0 = .ok (.aload_n 0, 1) := by decide +kernel
theorem dX8_remember_1 : decode cX8_remember 1 = .ok (.getfield 116, 3) := by decide +kernel
theorem dX8_remember_4 : decode cX8_remember 4 = .ok (.bipush 8, 2) := by decide +kernel
theorem dX8_remember_6 : decode cX8_remember 6 = .ok (.if_icmp .ne 44, 3) := by decide +kernel
theorem dX8_remember_9 : decode cX8_remember 9 = .ok (.iconst 0, 1) := by decide +kernel
theorem dX8_remember_10 : decode cX8_remember 10 = .ok (.istore_n 1, 1) := by decide +kernel
theorem dX8_remember_11 : decode cX8_remember 11 = .ok (.iload_n 1, 1) := by decide +kernel
theorem dX8_remember_12 : decode cX8_remember 12 = .ok (.sipush 2219, 3) := by decide +kernel
theorem dX8_remember_15 : decode cX8_remember 15 = .ok (.if_icmp .ge 25, 3) := by decide +kernel
theorem dX8_remember_18 : decode cX8_remember 18 = .ok (.aload_n 0, 1) := by decide +kernel
theorem dX8_remember_19 : decode cX8_remember 19 = .ok (.getfield 22, 3) := by decide +kernel
theorem dX8_remember_22 : decode cX8_remember 22 = .ok (.iload_n 1, 1) := by decide +kernel
theorem dX8_remember_23 : decode cX8_remember 23 = .ok (.aload_n 0, 1) := by decide +kernel
theorem dX8_remember_24 : decode cX8_remember 24 = .ok (.getfield 22, 3) := by decide +kernel
theorem dX8_remember_27 : decode cX8_remember 27 = .ok (.iload_n 1, 1) := by decide +kernel
theorem dX8_remember_28 : decode cX8_remember 28 = .ok (.sipush 317, 3) := by decide +kernel
theorem dX8_remember_31 : decode cX8_remember 31 = .ok (.iadd, 1) := by decide +kernel
theorem dX8_remember_32 : decode cX8_remember 32 = .ok (.iaload, 1) := by decide +kernel
theorem dX8_remember_33 : decode cX8_remember 33 = .ok (.iastore, 1) := by decide +kernel
theorem dX8_remember_34 : decode cX8_remember 34 = .ok (.iinc 1 1, 3) := by decide +kernel
theorem dX8_remember_37 : decode cX8_remember 37 = .ok (.goto (-26), 3) := by decide +kernel
theorem dX8_remember_40 : decode cX8_remember 40 = .ok (.aload_n 0, 1) := by decide +kernel
theorem dX8_remember_41 : decode cX8_remember 41 = .ok (.dup, 1) := by decide +kernel
theorem dX8_remember_42 : decode cX8_remember 42 = .ok (.getfield 116, 3) := by decide +kernel
theorem dX8_remember_45 : decode cX8_remember 45 = .ok (.iconst 1, 1) := by decide +kernel
theorem dX8_remember_46 : decode cX8_remember 46 = .ok (.isub, 1) := by decide +kernel
theorem dX8_remember_47 : decode cX8_remember 47 = .ok (.putfield 116, 3) := by decide +kernel
theorem dX8_remember_50 : decode cX8_remember 50 = .ok (.aload_n 0, 1) := by decide +kernel
theorem dX8_remember_51 : decode cX8_remember 51 = .ok (.getfield 19, 3) := by decide +kernel
theorem dX8_remember_54 : decode cX8_remember 54 = .ok (.iconst 0, 1) := by decide +kernel
theorem dX8_remember_55 : decode cX8_remember 55 = .ok (.aload_n 0, 1) := by decide +kernel
theorem dX8_remember_56 : decode cX8_remember 56 = .ok (.getfield 22, 3) := by decide +kernel
theorem dX8_remember_59 : decode cX8_remember 59 = .ok (.sipush 317, 3) := by decide +kernel
theorem dX8_remember_62 : decode cX8_remember 62 = .ok (.aload_n 0, 1) := by decide +kernel
theorem dX8_remember_63 : decode cX8_remember 63 = .ok (.getfield 116, 3) := by decide +kernel
theorem dX8_remember_66 : decode cX8_remember 66 = .ok (.imul, 1) := by decide +kernel
theorem dX8_remember_67 : decode cX8_remember 67 = .ok (.invokestatic 215, 3) := by decide +kernel
theorem dX8_remember_70 : decode cX8_remember 70 = .ok (.aload_n 0, 1) := by decide +kernel
theorem dX8_remember_71 : decode cX8_remember 71 = .ok (.dup, 1) := by decide +kernel
theorem dX8_remember_72 : decode cX8_remember 72 = .ok (.getfield 116, 3) := by decide +kernel
theorem dX8_remember_75 : decode cX8_remember 75 = .ok (.iconst 1, 1) := by decide +kernel
theorem dX8_remember_76 : decode cX8_remember 76 = .ok (.iadd, 1) := by decide +kernel
theorem dX8_remember_77 : decode cX8_remember 77 = .ok (.putfield 116, 3) := by decide +kernel
theorem dX8_remember_80 : decode cX8_remember 80 = .ok (.return_, 1) := by decide +kernel
theorem dX8_bridge_0 : decode cX8_bridge 0 = .ok (.aload_n 0, 1) := by decide +kernel
theorem dX8_bridge_1 : decode cX8_bridge 1 = .ok (.iload_n 1, 1) := by decide +kernel
theorem dX8_bridge_2 : decode cX8_bridge 2 = .ok (.invokevirtual 222, 3) := by decide +kernel
theorem dX8_bridge_5 : decode cX8_bridge 5 = .ok (.ifCond .eq 15, 3) := by decide +kernel
theorem dX8_bridge_8 : decode cX8_bridge 8 = .ok (.iload_n 2, 1) := by decide +kernel
theorem dX8_bridge_9 : decode cX8_bridge 9 = .ok (.i2l, 1) := by decide +kernel
theorem dX8_bridge_10 : decode cX8_bridge 10 = .ok (.lconst 0, 1) := by decide +kernel
theorem dX8_bridge_11 : decode cX8_bridge 11 = .ok (.ldc2_w 225, 3) := by decide +kernel
theorem dX8_bridge_14 : decode cX8_bridge 14 = .ok (.invokestatic 60, 3) := by decide +kernel
theorem dX8_bridge_17 : decode cX8_bridge 17 = .ok (.ifCond .ne 5, 3) := by decide +kernel
theorem dX8_bridge_20 : decode cX8_bridge 20 = .ok (.iconst (-1), 1) := by decide +kernel
theorem dX8_bridge_21 : decode cX8_bridge 21 = .ok (.ireturn, 1) := by decide +kernel
theorem dX8_bridge_22 : decode cX8_bridge 22 = .ok (.aload_n 0, 1) := by decide +kernel
theorem dX8_bridge_23 : decode cX8_bridge 23 = .ok (.invokevirtual 227, 3) := by decide +kernel
theorem dX8_bridge_26 : decode cX8_bridge 26 = .ok (.iload_n 2, 1) := by decide +kernel
theorem dX8_bridge_27 : decode cX8_bridge 27 = .ok (.tableswitch 110 0 6 #[41, 50, 60, 70, 80, 90, 100], 41) := by decide +kernel
theorem dX8_bridge_68 : decode cX8_bridge 68 = .ok (.aload_n 0, 1) := by decide +kernel
theorem dX8_bridge_69 : decode cX8_bridge 69 = .ok (.getfield 7, 3) := by decide +kernel
theorem dX8_bridge_72 : decode cX8_bridge 72 = .ok (.iconst 4, 1) := by decide +kernel
theorem dX8_bridge_73 : decode cX8_bridge 73 = .ok (.iload_n 1, 1) := by decide +kernel
theorem dX8_bridge_74 : decode cX8_bridge 74 = .ok (.iadd, 1) := by decide +kernel
theorem dX8_bridge_75 : decode cX8_bridge 75 = .ok (.iaload, 1) := by decide +kernel
theorem dX8_bridge_76 : decode cX8_bridge 76 = .ok (.ireturn, 1) := by decide +kernel
theorem dX8_bridge_77 : decode cX8_bridge 77 = .ok (.aload_n 0, 1) := by decide +kernel
theorem dX8_bridge_78 : decode cX8_bridge 78 = .ok (.getfield 7, 3) := by decide +kernel
theorem dX8_bridge_81 : decode cX8_bridge 81 = .ok (.bipush 13, 2) := by decide +kernel
theorem dX8_bridge_83 : decode cX8_bridge 83 = .ok (.iload_n 1, 1) := by decide +kernel
theorem dX8_bridge_84 : decode cX8_bridge 84 = .ok (.iadd, 1) := by decide +kernel
theorem dX8_bridge_85 : decode cX8_bridge 85 = .ok (.iaload, 1) := by decide +kernel
theorem dX8_bridge_86 : decode cX8_bridge 86 = .ok (.ireturn, 1) := by decide +kernel
theorem dX8_bridge_87 : decode cX8_bridge 87 = .ok (.aload_n 0, 1) := by decide +kernel
theorem dX8_bridge_88 : decode cX8_bridge 88 = .ok (.getfield 7, 3) := by decide +kernel
theorem dX8_bridge_91 : decode cX8_bridge 91 = .ok (.bipush 22, 2) := by decide +kernel
theorem dX8_bridge_93 : decode cX8_bridge 93 = .ok (.iload_n 1, 1) := by decide +kernel
theorem dX8_bridge_94 : decode cX8_bridge 94 = .ok (.iadd, 1) := by decide +kernel
theorem dX8_bridge_95 : decode cX8_bridge 95 = .ok (.iaload, 1) := by decide +kernel
theorem dX8_bridge_96 : decode cX8_bridge 96 = .ok (.ireturn, 1) := by decide +kernel
theorem dX8_bridge_97 : decode cX8_bridge 97 = .ok (.aload_n 0, 1) := by decide +kernel
theorem dX8_bridge_98 : decode cX8_bridge 98 = .ok (.getfield 7, 3) := by decide +kernel
theorem dX8_bridge_101 : decode cX8_bridge 101 = .ok (.bipush 31, 2) := by decide +kernel
theorem dX8_bridge_103 : decode cX8_bridge 103 = .ok (.iload_n 1, 1) := by decide +kernel
theorem dX8_bridge_104 : decode cX8_bridge 104 = .ok (.iadd, 1) := by decide +kernel
theorem dX8_bridge_105 : decode cX8_bridge 105 = .ok (.iaload, 1) := by decide +kernel
theorem dX8_bridge_106 : decode cX8_bridge 106 = .ok (.ireturn, 1) := by decide +kernel
theorem dX8_bridge_107 : decode cX8_bridge 107 = .ok (.aload_n 0, 1) := by decide +kernel
theorem dX8_bridge_108 : decode cX8_bridge 108 = .ok (.getfield 19, 3) := by decide +kernel
theorem dX8_bridge_111 : decode cX8_bridge 111 = .ok (.bipush 10, 2) := by decide +kernel
theorem dX8_bridge_113 : decode cX8_bridge 113 = .ok (.iload_n 1, 1) := by decide +kernel
theorem dX8_bridge_114 : decode cX8_bridge 114 = .ok (.iadd, 1) := by decide +kernel
theorem dX8_bridge_115 : decode cX8_bridge 115 = .ok (.iaload, 1) := by decide +kernel
theorem dX8_bridge_116 : decode cX8_bridge 116 = .ok (.ireturn, 1) := by decide +kernel
theorem dX8_bridge_117 : decode cX8_bridge 117 = .ok (.aload_n 0, 1) := by decide +kernel
theorem dX8_bridge_118 : decode cX8_bridge 118 = .ok (.aload_n 0, 1) := by decide +kernel
theorem dX8_bridge_119 : decode cX8_bridge 119 = .ok (.getfield 19, 3) := by decide +kernel
theorem dX8_bridge_122 : decode cX8_bridge 122 = .ok (.iload_n 1, 1) := by decide +kernel
theorem dX8_bridge_123 : decode cX8_bridge 123 = .ok (.invokevirtual 196, 3) := by decide +kernel
theorem dX8_bridge_126 : decode cX8_bridge 126 = .ok (.ireturn, 1) := by decide +kernel
theorem dX8_bridge_127 : decode cX8_bridge 127 = .ok (.aload_n 0, 1) := by decide +kernel
theorem dX8_bridge_128 : decode cX8_bridge 128 = .ok (.aload_n 0, 1) := by decide +kernel
theorem dX8_bridge_129 : decode cX8_bridge 129 = .ok (.getfield 19, 3) := by decide +kernel
theorem dX8_bridge_132 : decode cX8_bridge 132 = .ok (.iload_n 1, 1) := by decide +kernel
theorem dX8_bridge_133 : decode cX8_bridge 133 = .ok (.invokevirtual 162, 3) := by decide +kernel
theorem dX8_bridge_136 : decode cX8_bridge 136 = .ok (.ireturn, 1) := by decide +kernel
theorem dX8_bridge_137 : decode cX8_bridge 137 = .ok (.aload_n 0, 1) := by decide +kernel
theorem dX8_bridge_138 : decode cX8_bridge 138 = .ok (.getfield 19, 3) := by decide +kernel
theorem dX8_bridge_141 : decode cX8_bridge 141 = .ok (.iload_n 1, 1) := by decide +kernel
theorem dX8_bridge_142 : decode cX8_bridge 142 = .ok (.invokestatic 187, 3) := by decide +kernel
theorem dX8_bridge_145 : decode cX8_bridge 145 = .ok (.ireturn, 1) := by decide +kernel
theorem dX8_goer_0 : decode cX8_goer 0 = .ok (.aload_n 0, 1) := by decide +kernel
theorem dX8_goer_1 : decode cX8_goer 1 = .ok (.iload_n 1, 1) := by decide +kernel
theorem dX8_goer_2 : decode cX8_goer 2 = .ok (.invokevirtual 230, 3) := by decide +kernel
theorem dX8_goer_5 : decode cX8_goer 5 = .ok (.ifCond .eq 15, 3) := by decide +kernel
theorem dX8_goer_8 : decode cX8_goer 8 = .ok (.iload_n 2, 1) := by decide +kernel
theorem dX8_goer_9 : decode cX8_goer 9 = .ok (.i2l, 1) := by decide +kernel
theorem dX8_goer_10 : decode cX8_goer 10 = .ok (.lconst 0, 1) := by decide +kernel
theorem dX8_goer_11 : decode cX8_goer 11 = .ok (.ldc2_w 233, 3) := by decide +kernel
theorem dX8_goer_14 : decode cX8_goer 14 = .ok (.invokestatic 60, 3) := by decide +kernel
theorem dX8_goer_17 : decode cX8_goer 17 = .ok (.ifCond .ne 5, 3) := by decide +kernel
theorem dX8_goer_20 : decode cX8_goer 20 = .ok (.iconst (-1), 1) := by decide +kernel
theorem dX8_goer_21 : decode cX8_goer 21 = .ok (.ireturn, 1) := by decide +kernel
theorem dX8_goer_22 : decode cX8_goer 22 = .ok (.aload_n 0, 1) := by decide +kernel
theorem dX8_goer_23 : decode cX8_goer 23 = .ok (.invokevirtual 227, 3) := by decide +kernel
theorem dX8_goer_26 : decode cX8_goer 26 = .ok (.iload_n 2, 1) := by decide +kernel
theorem dX8_goer_27 : decode cX8_goer 27 = .ok (.tableswitch 94 0 6 #[41, 68, 94, 94, 94, 78, 84], 41) := by decide +kernel
theorem dX8_goer_68 : decode cX8_goer 68 = .ok (.aload_n 0, 1) := by decide +kernel
theorem dX8_goer_69 : decode cX8_goer 69 = .ok (.getfield 19, 3) := by decide +kernel
theorem dX8_goer_72 : decode cX8_goer 72 = .ok (.bipush 19, 2) := by decide +kernel
theorem dX8_goer_74 : decode cX8_goer 74 = .ok (.iload_n 1, 1) := by decide +kernel
theorem dX8_goer_75 : decode cX8_goer 75 = .ok (.iadd, 1) := by decide +kernel
theorem dX8_goer_76 : decode cX8_goer 76 = .ok (.iaload, 1) := by decide +kernel
theorem dX8_goer_77 : decode cX8_goer 77 = .ok (.ifCond .ge 8, 3) := by decide +kernel
theorem dX8_goer_80 : decode cX8_goer 80 = .ok (.bipush (-4), 2) := by decide +kernel
theorem dX8_goer_82 : decode cX8_goer 82 = .ok (.goto 12, 3) := by decide +kernel
theorem dX8_goer_85 : decode cX8_goer 85 = .ok (.aload_n 0, 1) := by decide +kernel
theorem dX8_goer_86 : decode cX8_goer 86 = .ok (.getfield 19, 3) := by decide +kernel
theorem dX8_goer_89 : decode cX8_goer 89 = .ok (.bipush 19, 2) := by decide +kernel
theorem dX8_goer_91 : decode cX8_goer 91 = .ok (.iload_n 1, 1) := by decide +kernel
theorem dX8_goer_92 : decode cX8_goer 92 = .ok (.iadd, 1) := by decide +kernel
theorem dX8_goer_93 : decode cX8_goer 93 = .ok (.iaload, 1) := by decide +kernel
theorem dX8_goer_94 : decode cX8_goer 94 = .ok (.ireturn, 1) := by decide +kernel
theorem dX8_goer_95 : decode cX8_goer 95 = .ok (.aload_n 0, 1) := by decide +kernel
theorem dX8_goer_96 : decode cX8_goer 96 = .ok (.getfield 19, 3) := by decide +kernel
theorem dX8_goer_99 : decode cX8_goer 99 = .ok (.bipush 24, 2) := by decide +kernel
theorem dX8_goer_101 : decode cX8_goer 101 = .ok (.iload_n 1, 1) := by decide +kernel
theorem dX8_goer_102 : decode cX8_goer 102 = .ok (.iadd, 1) := by decide +kernel
theorem dX8_goer_103 : decode cX8_goer 103 = .ok (.iaload, 1) := by decide +kernel
theorem dX8_goer_104 : decode cX8_goer 104 = .ok (.ireturn, 1) := by decide +kernel
theorem dX8_goer_105 : decode cX8_goer 105 = .ok (.aload_n 0, 1) := by decide +kernel
theorem dX8_goer_106 : decode cX8_goer 106 = .ok (.iload_n 1, 1) := by decide +kernel
theorem dX8_goer_107 : decode cX8_goer 107 = .ok (.invokevirtual 166, 3) := by decide +kernel
theorem dX8_goer_110 : decode cX8_goer 110 = .ok (.ireturn, 1) := by decide +kernel
theorem dX8_goer_111 : decode cX8_goer 111 = .ok (.aload_n 0, 1) := by decide +kernel
theorem dX8_goer_112 : decode cX8_goer 112 = .ok (.aload_n 0, 1) := by decide +kernel
theorem dX8_goer_113 : decode cX8_goer 113 = .ok (.getfield 19, 3) := by decide +kernel
theorem dX8_goer_116 : decode cX8_goer 116 = .ok (.iload_n 1, 1) := by decide +kernel
theorem dX8_goer_117 : decode cX8_goer 117 = .ok (.invokevirtual 190, 3) := by decide +kernel
theorem dX8_goer_120 : decode cX8_goer 120 = .ok (.ireturn, 1) := by decide +kernel
theorem dX8_goer_121 : decode cX8_goer 121 = .ok (.aload_n 0, 1) := by decide +kernel
theorem dX8_goer_122 : decode cX8_goer 122 = .ok (.getfield 7, 3) := by decide +kernel
theorem dX8_goer_125 : decode cX8_goer 125 = .ok (.bipush 50, 2) := by decide +kernel
theorem dX8_goer_127 : decode cX8_goer 127 = .ok (.iconst 5, 1) := by decide +kernel
theorem dX8_goer_128 : decode cX8_goer 128 = .ok (.iload_n 2, 1) := by decide +kernel
theorem dX8_goer_129 : decode cX8_goer 129 = .ok (.iconst 2, 1) := by decide +kernel
theorem dX8_goer_130 : decode cX8_goer 130 = .ok (.isub, 1) := by decide +kernel
theorem dX8_goer_131 : decode cX8_goer 131 = .ok (.imul, 1) := by decide +kernel
theorem dX8_goer_132 : decode cX8_goer 132 = .ok (.iadd, 1) := by decide +kernel
theorem dX8_goer_133 : decode cX8_goer 133 = .ok (.iload_n 1, 1) := by decide +kernel
theorem dX8_goer_134 : decode cX8_goer 134 = .ok (.iadd, 1) := by decide +kernel
theorem dX8_goer_135 : decode cX8_goer 135 = .ok (.iaload, 1) := by decide +kernel
theorem dX8_goer_136 : decode cX8_goer 136 = .ok (.ireturn, 1) := by decide +kernel
theorem dX8_days_0 : decode cX8_days 0 = .ok (.iload_n 1, 1) := by decide +kernel
theorem dX8_days_1 : decode cX8_days 1 = .ok (.i2l, 1) := by decide +kernel
theorem dX8_days_2 : decode cX8_days 2 = .ok (.lconst 1, 1) := by decide +kernel
theorem dX8_days_3 : decode cX8_days 3 = .ok (.ldc2_w 235, 3) := by decide +kernel
theorem dX8_days_6 : decode cX8_days 6 = .ok (.invokestatic 60, 3) := by decide +kernel
theorem dX8_days_9 : decode cX8_days 9 = .ok (.ifCond .ne 5, 3) := by decide +kernel
theorem dX8_days_12 : decode cX8_days 12 = .ok (.iconst (-1), 1) := by decide +kernel
theorem dX8_days_13 : decode cX8_days 13 = .ok (.ireturn, 1) := by decide +kernel
theorem dX8_days_14 : decode cX8_days 14 = .ok (.aload_n 0, 1) := by decide +kernel
theorem dX8_days_15 : decode cX8_days 15 = .ok (.getfield 19, 3) := by decide +kernel
theorem dX8_days_18 : decode cX8_days 18 = .ok (.iconst 0, 1) := by decide +kernel
theorem dX8_days_19 : decode cX8_days 19 = .ok (.iaload, 1) := by decide +kernel
theorem dX8_days_20 : decode cX8_days 20 = .ok (.iload_n 1, 1) := by decide +kernel
theorem dX8_days_21 : decode cX8_days 21 = .ok (.iadd, 1) := by decide +kernel
theorem dX8_days_22 : decode cX8_days 22 = .ok (.bipush 99, 2) := by decide +kernel
theorem dX8_days_24 : decode cX8_days 24 = .ok (.if_icmp .le 6, 3) := by decide +kernel
theorem dX8_days_27 : decode cX8_days 27 = .ok (.bipush (-2), 2) := by decide +kernel
theorem dX8_days_29 : decode cX8_days 29 = .ok (.ireturn, 1) := by decide +kernel
theorem dX8_days_30 : decode cX8_days 30 = .ok (.aload_n 0, 1) := by decide +kernel
theorem dX8_days_31 : decode cX8_days 31 = .ok (.invokevirtual 237, 3) := by decide +kernel
theorem dX8_days_34 : decode cX8_days 34 = .ok (.aload_n 0, 1) := by decide +kernel
theorem dX8_days_35 : decode cX8_days 35 = .ok (.invokevirtual 227, 3) := by decide +kernel
theorem dX8_days_38 : decode cX8_days 38 = .ok (.iconst 0, 1) := by decide +kernel
theorem dX8_days_39 : decode cX8_days 39 = .ok (.istore_n 2, 1) := by decide +kernel
theorem dX8_days_40 : decode cX8_days 40 = .ok (.iload_n 2, 1) := by decide +kernel
theorem dX8_days_41 : decode cX8_days 41 = .ok (.iload_n 1, 1) := by decide +kernel
theorem dX8_days_42 : decode cX8_days 42 = .ok (.if_icmp .ge 18, 3) := by decide +kernel
theorem dX8_days_45 : decode cX8_days 45 = .ok (.aload_n 0, 1) := by decide +kernel
theorem dX8_days_46 : decode cX8_days 46 = .ok (.aload_n 0, 1) := by decide +kernel
theorem dX8_days_47 : decode cX8_days 47 = .ok (.getfield 19, 3) := by decide +kernel
theorem dX8_days_50 : decode cX8_days 50 = .ok (.iload_n 2, 1) := by decide +kernel
theorem dX8_days_51 : decode cX8_days 51 = .ok (.invokevirtual 219, 3) := by decide +kernel
theorem dX8_days_54 : decode cX8_days 54 = .ok (.iinc 2 1, 3) := by decide +kernel
theorem dX8_days_57 : decode cX8_days 57 = .ok (.goto (-17), 3) := by decide +kernel
theorem dX8_days_60 : decode cX8_days 60 = .ok (.aload_n 0, 1) := by decide +kernel
theorem dX8_days_61 : decode cX8_days 61 = .ok (.getfield 19, 3) := by decide +kernel
theorem dX8_days_64 : decode cX8_days 64 = .ok (.iconst 0, 1) := by decide +kernel
theorem dX8_days_65 : decode cX8_days 65 = .ok (.iaload, 1) := by decide +kernel
theorem dX8_days_66 : decode cX8_days 66 = .ok (.ireturn, 1) := by decide +kernel
theorem dX8_put_0 : decode cX8_put 0 = .ok (.aload_n 0, 1) := by decide +kernel
theorem dX8_put_1 : decode cX8_put 1 = .ok (.iload_n 1, 1) := by decide +kernel
theorem dX8_put_2 : decode cX8_put 2 = .ok (.invokevirtual 222, 3) := by decide +kernel
theorem dX8_put_5 : decode cX8_put 5 = .ok (.ifCond .eq 15, 3) := by decide +kernel
theorem dX8_put_8 : decode cX8_put 8 = .ok (.iload_n 2, 1) := by decide +kernel
theorem dX8_put_9 : decode cX8_put 9 = .ok (.i2l, 1) := by decide +kernel
theorem dX8_put_10 : decode cX8_put 10 = .ok (.lconst 1, 1) := by decide +kernel
theorem dX8_put_11 : decode cX8_put 11 = .ok (.ldc2_w 240, 3) := by decide +kernel
theorem dX8_put_14 : decode cX8_put 14 = .ok (.invokestatic 60, 3) := by decide +kernel
theorem dX8_put_17 : decode cX8_put 17 = .ok (.ifCond .ne 5, 3) := by decide +kernel
theorem dX8_put_20 : decode cX8_put 20 = .ok (.iconst (-1), 1) := by decide +kernel
theorem dX8_put_21 : decode cX8_put 21 = .ok (.ireturn, 1) := by decide +kernel
theorem dX8_put_22 : decode cX8_put 22 = .ok (.aload_n 0, 1) := by decide +kernel
theorem dX8_put_23 : decode cX8_put 23 = .ok (.getfield 19, 3) := by decide +kernel
theorem dX8_put_26 : decode cX8_put 26 = .ok (.iconst 1, 1) := by decide +kernel
theorem dX8_put_27 : decode cX8_put 27 = .ok (.iload_n 1, 1) := by decide +kernel
theorem dX8_put_28 : decode cX8_put 28 = .ok (.iadd, 1) := by decide +kernel
theorem dX8_put_29 : decode cX8_put 29 = .ok (.iaload, 1) := by decide +kernel
theorem dX8_put_30 : decode cX8_put 30 = .ok (.iload_n 2, 1) := by decide +kernel
theorem dX8_put_31 : decode cX8_put 31 = .ok (.iadd, 1) := by decide +kernel
theorem dX8_put_32 : decode cX8_put 32 = .ok (.bipush 99, 2) := by decide +kernel
theorem dX8_put_34 : decode cX8_put 34 = .ok (.if_icmp .le 6, 3) := by decide +kernel
theorem dX8_put_37 : decode cX8_put 37 = .ok (.bipush (-2), 2) := by decide +kernel
theorem dX8_put_39 : decode cX8_put 39 = .ok (.ireturn, 1) := by decide +kernel
theorem dX8_put_40 : decode cX8_put 40 = .ok (.aload_n 0, 1) := by decide +kernel
theorem dX8_put_41 : decode cX8_put 41 = .ok (.invokevirtual 237, 3) := by decide +kernel
theorem dX8_put_44 : decode cX8_put 44 = .ok (.aload_n 0, 1) := by decide +kernel
theorem dX8_put_45 : decode cX8_put 45 = .ok (.getfield 19, 3) := by decide +kernel
theorem dX8_put_48 : decode cX8_put 48 = .ok (.iconst 1, 1) := by decide +kernel
theorem dX8_put_49 : decode cX8_put 49 = .ok (.iload_n 1, 1) := by decide +kernel
theorem dX8_put_50 : decode cX8_put 50 = .ok (.iadd, 1) := by decide +kernel
theorem dX8_put_51 : decode cX8_put 51 = .ok (.dup2, 1) := by decide +kernel
theorem dX8_put_52 : decode cX8_put 52 = .ok (.iaload, 1) := by decide +kernel
theorem dX8_put_53 : decode cX8_put 53 = .ok (.iload_n 2, 1) := by decide +kernel
theorem dX8_put_54 : decode cX8_put 54 = .ok (.iadd, 1) := by decide +kernel
theorem dX8_put_55 : decode cX8_put 55 = .ok (.iastore, 1) := by decide +kernel
theorem dX8_put_56 : decode cX8_put 56 = .ok (.aload_n 0, 1) := by decide +kernel
theorem dX8_put_57 : decode cX8_put 57 = .ok (.getfield 19, 3) := by decide +kernel
theorem dX8_put_60 : decode cX8_put 60 = .ok (.bipush 29, 2) := by decide +kernel
theorem dX8_put_62 : decode cX8_put 62 = .ok (.iload_n 1, 1) := by decide +kernel
theorem dX8_put_63 : decode cX8_put 63 = .ok (.aload_n 0, 1) := by decide +kernel
theorem dX8_put_64 : decode cX8_put 64 = .ok (.getfield 19, 3) := by decide +kernel
theorem dX8_put_67 : decode cX8_put 67 = .ok (.iconst 0, 1) := by decide +kernel
theorem dX8_put_68 : decode cX8_put 68 = .ok (.iaload, 1) := by decide +kernel
theorem dX8_put_69 : decode cX8_put 69 = .ok (.invokestatic 158, 3) := by decide +kernel
theorem dX8_put_72 : decode cX8_put 72 = .ok (.dup2, 1) := by decide +kernel
theorem dX8_put_73 : decode cX8_put 73 = .ok (.iaload, 1) := by decide +kernel
theorem dX8_put_74 : decode cX8_put 74 = .ok (.iload_n 2, 1) := by decide +kernel
theorem dX8_put_75 : decode cX8_put 75 = .ok (.iadd, 1) := by decide +kernel
theorem dX8_put_76 : decode cX8_put 76 = .ok (.iastore, 1) := by decide +kernel
theorem dX8_put_77 : decode cX8_put 77 = .ok (.aload_n 0, 1) := by decide +kernel
theorem dX8_put_78 : decode cX8_put 78 = .ok (.getfield 19, 3) := by decide +kernel
theorem dX8_put_81 : decode cX8_put 81 = .ok (.iconst 1, 1) := by decide +kernel
theorem dX8_put_82 : decode cX8_put 82 = .ok (.iload_n 1, 1) := by decide +kernel
theorem dX8_put_83 : decode cX8_put 83 = .ok (.iadd, 1) := by decide +kernel
theorem dX8_put_84 : decode cX8_put 84 = .ok (.iaload, 1) := by decide +kernel
theorem dX8_put_85 : decode cX8_put 85 = .ok (.ireturn, 1) := by decide +kernel
theorem dX8_guard_0 : decode cX8_guard 0 = .ok (.aload_n 0, 1) := by decide +kernel
theorem dX8_guard_1 : decode cX8_guard 1 = .ok (.iload_n 1, 1) := by decide +kernel
theorem dX8_guard_2 : decode cX8_guard 2 = .ok (.invokevirtual 222, 3) := by decide +kernel
theorem dX8_guard_5 : decode cX8_guard 5 = .ok (.ifCond .ne 5, 3) := by decide +kernel
theorem dX8_guard_8 : decode cX8_guard 8 = .ok (.iconst (-1), 1) := by decide +kernel
theorem dX8_guard_9 : decode cX8_guard 9 = .ok (.ireturn, 1) := by decide +kernel
theorem dX8_guard_10 : decode cX8_guard 10 = .ok (.aload_n 0, 1) := by decide +kernel
theorem dX8_guard_11 : decode cX8_guard 11 = .ok (.invokevirtual 237, 3) := by decide +kernel
theorem dX8_guard_14 : decode cX8_guard 14 = .ok (.aload_n 0, 1) := by decide +kernel
theorem dX8_guard_15 : decode cX8_guard 15 = .ok (.getfield 19, 3) := by decide +kernel
theorem dX8_guard_18 : decode cX8_guard 18 = .ok (.bipush 10, 2) := by decide +kernel
theorem dX8_guard_20 : decode cX8_guard 20 = .ok (.iload_n 1, 1) := by decide +kernel
theorem dX8_guard_21 : decode cX8_guard 21 = .ok (.iadd, 1) := by decide +kernel
theorem dX8_guard_22 : decode cX8_guard 22 = .ok (.iload_n 2, 1) := by decide +kernel
theorem dX8_guard_23 : decode cX8_guard 23 = .ok (.ifCond .eq 7, 3) := by decide +kernel
theorem dX8_guard_26 : decode cX8_guard 26 = .ok (.iconst 1, 1) := by decide +kernel
theorem dX8_guard_27 : decode cX8_guard 27 = .ok (.goto 4, 3) := by decide +kernel
theorem dX8_guard_30 : decode cX8_guard 30 = .ok (.iconst 0, 1) := by decide +kernel
theorem dX8_guard_31 : decode cX8_guard 31 = .ok (.iastore, 1) := by decide +kernel
theorem dX8_guard_32 : decode cX8_guard 32 = .ok (.iconst 0, 1) := by decide +kernel
theorem dX8_guard_33 : decode cX8_guard 33 = .ok (.istore_n 3, 1) := by decide +kernel
theorem dX8_guard_34 : decode cX8_guard 34 = .ok (.iconst 0, 1) := by decide +kernel
theorem dX8_guard_35 : decode cX8_guard 35 = .ok (.istore 4, 2) := by decide +kernel
theorem dX8_guard_37 : decode cX8_guard 37 = .ok (.iload 4, 2) := by decide +kernel
theorem dX8_guard_39 : decode cX8_guard 39 = .ok (.aload_n 0, 1) := by decide +kernel
theorem dX8_guard_40 : decode cX8_guard 40 = .ok (.getfield 7, 3) := by decide +kernel
theorem dX8_guard_43 : decode cX8_guard 43 = .ok (.iconst 1, 1) := by decide +kernel
theorem dX8_guard_44 : decode cX8_guard 44 = .ok (.iaload, 1) := by decide +kernel
theorem dX8_guard_45 : decode cX8_guard 45 = .ok (.if_icmp .ge 22, 3) := by decide +kernel
theorem dX8_guard_48 : decode cX8_guard 48 = .ok (.iload_n 3, 1) := by decide +kernel
theorem dX8_guard_49 : decode cX8_guard 49 = .ok (.aload_n 0, 1) := by decide +kernel
theorem dX8_guard_50 : decode cX8_guard 50 = .ok (.getfield 19, 3) := by decide +kernel
theorem dX8_guard_53 : decode cX8_guard 53 = .ok (.bipush 10, 2) := by decide +kernel
theorem dX8_guard_55 : decode cX8_guard 55 = .ok (.iload 4, 2) := by decide +kernel
theorem dX8_guard_57 : decode cX8_guard 57 = .ok (.iadd, 1) := by decide +kernel
theorem dX8_guard_58 : decode cX8_guard 58 = .ok (.iaload, 1) := by decide +kernel
theorem dX8_guard_59 : decode cX8_guard 59 = .ok (.iadd, 1) := by decide +kernel
theorem dX8_guard_60 : decode cX8_guard 60 = .ok (.istore_n 3, 1) := by decide +kernel
theorem dX8_guard_61 : decode cX8_guard 61 = .ok (.iinc 4 1, 3) := by decide +kernel
theorem dX8_guard_64 : decode cX8_guard 64 = .ok (.goto (-27), 3) := by decide +kernel
theorem dX8_guard_67 : decode cX8_guard 67 = .ok (.iload_n 3, 1) := by decide +kernel
theorem dX8_guard_68 : decode cX8_guard 68 = .ok (.ireturn, 1) := by decide +kernel
theorem dX8_undo_0 : decode cX8_undo 0 = .ok (.aload_n 0, 1) := by decide +kernel
theorem dX8_undo_1 : decode cX8_undo 1 = .ok (.getfield 116, 3) := by decide +kernel
theorem dX8_undo_4 : decode cX8_undo 4 = .ok (.ifCond .ne 6, 3) := by decide +kernel
theorem dX8_undo_7 : decode cX8_undo 7 = .ok (.bipush (-2), 2) := by decide +kernel
theorem dX8_undo_9 : decode cX8_undo 9 = .ok (.ireturn, 1) := by decide +kernel
theorem dX8_undo_10 : decode cX8_undo 10 = .ok (.aload_n 0, 1) := by decide +kernel
theorem dX8_undo_11 : decode cX8_undo 11 = .ok (.dup, 1) := by decide +kernel
theorem dX8_undo_12 : decode cX8_undo 12 = .ok (.getfield 116, 3) := by decide +kernel
theorem dX8_undo_15 : decode cX8_undo 15 = .ok (.iconst 1, 1) := by decide +kernel
theorem dX8_undo_16 : decode cX8_undo 16 = .ok (.isub, 1) := by decide +kernel
theorem dX8_undo_17 : decode cX8_undo 17 = .ok (.putfield 116, 3) := by decide +kernel
theorem dX8_undo_20 : decode cX8_undo 20 = .ok (.aload_n 0, 1) := by decide +kernel
theorem dX8_undo_21 : decode cX8_undo 21 = .ok (.getfield 22, 3) := by decide +kernel
theorem dX8_undo_24 : decode cX8_undo 24 = .ok (.sipush 317, 3) := by decide +kernel
theorem dX8_undo_27 : decode cX8_undo 27 = .ok (.aload_n 0, 1) := by decide +kernel
theorem dX8_undo_28 : decode cX8_undo 28 = .ok (.getfield 116, 3) := by decide +kernel
theorem dX8_undo_31 : decode cX8_undo 31 = .ok (.imul, 1) := by decide +kernel
theorem dX8_undo_32 : decode cX8_undo 32 = .ok (.aload_n 0, 1) := by decide +kernel
theorem dX8_undo_33 : decode cX8_undo 33 = .ok (.getfield 19, 3) := by decide +kernel
theorem dX8_undo_36 : decode cX8_undo 36 = .ok (.iconst 0, 1) := by decide +kernel
theorem dX8_undo_37 : decode cX8_undo 37 = .ok (.invokestatic 215, 3) := by decide +kernel
theorem dX8_undo_40 : decode cX8_undo 40 = .ok (.aload_n 0, 1) := by decide +kernel
theorem dX8_undo_41 : decode cX8_undo 41 = .ok (.getfield 116, 3) := by decide +kernel
theorem dX8_undo_44 : decode cX8_undo 44 = .ok (.ireturn, 1) := by decide +kernel
theorem dX8_isBehind_0 : decode cX8_isBehind 0 = .ok (.iload_n 0, 1) := by decide +kernel
theorem dX8_isBehind_1 : decode cX8_isBehind 1 = .ok (.i2l, 1) := by decide +kernel
theorem dX8_isBehind_2 : decode cX8_isBehind 2 = .ok (.lconst 0, 1) := by decide +kernel
theorem dX8_isBehind_3 : decode cX8_isBehind 3 = .ok (.ldc2_w 235, 3) := by decide +kernel
theorem dX8_isBehind_6 : decode cX8_isBehind 6 = .ok (.invokestatic 60, 3) := by decide +kernel
theorem dX8_isBehind_9 : decode cX8_isBehind 9 = .ok (.ireturn, 1) := by decide +kernel
theorem dX8_where_0 : decode cX8_where 0 = .ok (.iload_n 1, 1) := by decide +kernel
theorem dX8_where_1 : decode cX8_where 1 = .ok (.invokestatic 242, 3) := by decide +kernel
theorem dX8_where_4 : decode cX8_where 4 = .ok (.ifCond .eq 11, 3) := by decide +kernel
theorem dX8_where_7 : decode cX8_where 7 = .ok (.aload_n 0, 1) := by decide +kernel
theorem dX8_where_8 : decode cX8_where 8 = .ok (.iload_n 2, 1) := by decide +kernel
theorem dX8_where_9 : decode cX8_where 9 = .ok (.invokevirtual 230, 3) := by decide +kernel
theorem dX8_where_12 : decode cX8_where 12 = .ok (.ifCond .ne 5, 3) := by decide +kernel
theorem dX8_where_15 : decode cX8_where 15 = .ok (.iconst (-1), 1) := by decide +kernel
theorem dX8_where_16 : decode cX8_where 16 = .ok (.ireturn, 1) := by decide +kernel
theorem dX8_where_17 : decode cX8_where 17 = .ok (.aload_n 0, 1) := by decide +kernel
theorem dX8_where_18 : decode cX8_where 18 = .ok (.invokevirtual 227, 3) := by decide +kernel
theorem dX8_where_21 : decode cX8_where 21 = .ok (.aload_n 0, 1) := by decide +kernel
theorem dX8_where_22 : decode cX8_where 22 = .ok (.iload_n 1, 1) := by decide +kernel
theorem dX8_where_23 : decode cX8_where 23 = .ok (.invokevirtual 245, 3) := by decide +kernel
theorem dX8_where_26 : decode cX8_where 26 = .ok (.aload_n 0, 1) := by decide +kernel
theorem dX8_where_27 : decode cX8_where 27 = .ok (.getfield 37, 3) := by decide +kernel
theorem dX8_where_30 : decode cX8_where 30 = .ok (.bipush 19, 2) := by decide +kernel
theorem dX8_where_32 : decode cX8_where 32 = .ok (.iload_n 2, 1) := by decide +kernel
theorem dX8_where_33 : decode cX8_where 33 = .ok (.iadd, 1) := by decide +kernel
theorem dX8_where_34 : decode cX8_where 34 = .ok (.iaload, 1) := by decide +kernel
theorem dX8_where_35 : decode cX8_where 35 = .ok (.ifCond .ge 8, 3) := by decide +kernel
theorem dX8_where_38 : decode cX8_where 38 = .ok (.bipush (-4), 2) := by decide +kernel
theorem dX8_where_40 : decode cX8_where 40 = .ok (.goto 12, 3) := by decide +kernel
theorem dX8_where_43 : decode cX8_where 43 = .ok (.aload_n 0, 1) := by decide +kernel
theorem dX8_where_44 : decode cX8_where 44 = .ok (.getfield 37, 3) := by decide +kernel
theorem dX8_where_47 : decode cX8_where 47 = .ok (.bipush 19, 2) := by decide +kernel
theorem dX8_where_49 : decode cX8_where 49 = .ok (.iload_n 2, 1) := by decide +kernel
theorem dX8_where_50 : decode cX8_where 50 = .ok (.iadd, 1) := by decide +kernel
theorem dX8_where_51 : decode cX8_where 51 = .ok (.iaload, 1) := by decide +kernel
theorem dX8_where_52 : decode cX8_where 52 = .ok (.ireturn, 1) := by decide +kernel
theorem dX8_planks_0 : decode cX8_planks 0 = .ok (.iload_n 1, 1) := by decide +kernel
theorem dX8_planks_1 : decode cX8_planks 1 = .ok (.invokestatic 242, 3) := by decide +kernel
theorem dX8_planks_4 : decode cX8_planks 4 = .ok (.ifCond .eq 11, 3) := by decide +kernel
theorem dX8_planks_7 : decode cX8_planks 7 = .ok (.aload_n 0, 1) := by decide +kernel
theorem dX8_planks_8 : decode cX8_planks 8 = .ok (.iload_n 2, 1) := by decide +kernel
theorem dX8_planks_9 : decode cX8_planks 9 = .ok (.invokevirtual 222, 3) := by decide +kernel
theorem dX8_planks_12 : decode cX8_planks 12 = .ok (.ifCond .ne 5, 3) := by decide +kernel
theorem dX8_planks_15 : decode cX8_planks 15 = .ok (.iconst (-1), 1) := by decide +kernel
theorem dX8_planks_16 : decode cX8_planks 16 = .ok (.ireturn, 1) := by decide +kernel
theorem dX8_planks_17 : decode cX8_planks 17 = .ok (.aload_n 0, 1) := by decide +kernel
theorem dX8_planks_18 : decode cX8_planks 18 = .ok (.invokevirtual 227, 3) := by decide +kernel
theorem dX8_planks_21 : decode cX8_planks 21 = .ok (.aload_n 0, 1) := by decide +kernel
theorem dX8_planks_22 : decode cX8_planks 22 = .ok (.iload_n 1, 1) := by decide +kernel
theorem dX8_planks_23 : decode cX8_planks 23 = .ok (.invokevirtual 245, 3) := by decide +kernel
theorem dX8_planks_26 : decode cX8_planks 26 = .ok (.aload_n 0, 1) := by decide +kernel
theorem dX8_planks_27 : decode cX8_planks 27 = .ok (.aload_n 0, 1) := by decide +kernel
theorem dX8_planks_28 : decode cX8_planks 28 = .ok (.getfield 37, 3) := by decide +kernel
theorem dX8_planks_31 : decode cX8_planks 31 = .ok (.iload_n 2, 1) := by decide +kernel
theorem dX8_planks_32 : decode cX8_planks 32 = .ok (.invokevirtual 196, 3) := by decide +kernel
theorem dX8_planks_35 : decode cX8_planks 35 = .ok (.ireturn, 1) := by decide +kernel
theorem dX8_all_0 : decode cX8_all 0 = .ok (.iload_n 1, 1) := by decide +kernel
theorem dX8_all_1 : decode cX8_all 1 = .ok (.invokestatic 242, 3) := by decide +kernel
theorem dX8_all_4 : decode cX8_all 4 = .ok (.ifCond .eq 15, 3) := by decide +kernel
theorem dX8_all_7 : decode cX8_all 7 = .ok (.iload_n 2, 1) := by decide +kernel
theorem dX8_all_8 : decode cX8_all 8 = .ok (.i2l, 1) := by decide +kernel
theorem dX8_all_9 : decode cX8_all 9 = .ok (.lconst 0, 1) := by decide +kernel
theorem dX8_all_10 : decode cX8_all 10 = .ok (.ldc2_w 249, 3) := by decide +kernel
theorem dX8_all_13 : decode cX8_all 13 = .ok (.invokestatic 60, 3) := by decide +kernel
theorem dX8_all_16 : decode cX8_all 16 = .ok (.ifCond .ne 5, 3) := by decide +kernel
theorem dX8_all_19 : decode cX8_all 19 = .ok (.iconst (-1), 1) := by decide +kernel
theorem dX8_all_20 : decode cX8_all 20 = .ok (.ireturn, 1) := by decide +kernel
theorem dX8_all_21 : decode cX8_all 21 = .ok (.aload_n 0, 1) := by decide +kernel
theorem dX8_all_22 : decode cX8_all 22 = .ok (.invokevirtual 227, 3) := by decide +kernel
theorem dX8_all_25 : decode cX8_all 25 = .ok (.aload_n 0, 1) := by decide +kernel
theorem dX8_all_26 : decode cX8_all 26 = .ok (.iload_n 1, 1) := by decide +kernel
theorem dX8_all_27 : decode cX8_all 27 = .ok (.invokevirtual 245, 3) := by decide +kernel
theorem dX8_all_30 : decode cX8_all 30 = .ok (.iload_n 2, 1) := by decide +kernel
theorem dX8_all_31 : decode cX8_all 31 = .ok (.ifCond .ne 10, 3) := by decide +kernel
theorem dX8_all_34 : decode cX8_all 34 = .ok (.aload_n 0, 1) := by decide +kernel
theorem dX8_all_35 : decode cX8_all 35 = .ok (.getfield 146, 3) := by decide +kernel
theorem dX8_all_38 : decode cX8_all 38 = .ok (.goto 31, 3) := by decide +kernel
theorem dX8_all_41 : decode cX8_all 41 = .ok (.iload_n 2, 1) := by decide +kernel
theorem dX8_all_42 : decode cX8_all 42 = .ok (.iconst 1, 1) := by decide +kernel
theorem dX8_all_43 : decode cX8_all 43 = .ok (.if_icmp .ne 10, 3) := by decide +kernel
theorem dX8_all_46 : decode cX8_all 46 = .ok (.aload_n 0, 1) := by decide +kernel
theorem dX8_all_47 : decode cX8_all 47 = .ok (.getfield 149, 3) := by decide +kernel
theorem dX8_all_50 : decode cX8_all 50 = .ok (.goto 19, 3) := by decide +kernel
theorem dX8_all_53 : decode cX8_all 53 = .ok (.iload_n 2, 1) := by decide +kernel
theorem dX8_all_54 : decode cX8_all 54 = .ok (.iconst 2, 1) := by decide +kernel
theorem dX8_all_55 : decode cX8_all 55 = .ok (.if_icmp .ne 10, 3) := by decide +kernel
theorem dX8_all_58 : decode cX8_all 58 = .ok (.aload_n 0, 1) := by decide +kernel
theorem dX8_all_59 : decode cX8_all 59 = .ok (.getfield 152, 3) := by decide +kernel
theorem dX8_all_62 : decode cX8_all 62 = .ok (.goto 7, 3) := by decide +kernel
theorem dX8_all_65 : decode cX8_all 65 = .ok (.aload_n 0, 1) := by decide +kernel
theorem dX8_all_66 : decode cX8_all 66 = .ok (.getfield 155, 3) := by decide +kernel
theorem dX8_all_69 : decode cX8_all 69 = .ok (.ireturn, 1) := by decide +kernel
theorem dX8_isSpan_0 : decode cX8_isSpan 0 = .ok (.iload_n 0, 1) := by decide +kernel
theorem dX8_isSpan_1 : decode cX8_isSpan 1 = .ok (.i2l, 1) := by decide +kernel
theorem dX8_isSpan_2 : decode cX8_isSpan 2 = .ok (.lconst 1, 1) := by decide +kernel
theorem dX8_isSpan_3 : decode cX8_isSpan 3 = .ok (.ldc2_w 235, 3) := by decide +kernel
theorem dX8_isSpan_6 : decode cX8_isSpan 6 = .ok (.invokestatic 60, 3) := by decide +kernel
theorem dX8_isSpan_9 : decode cX8_isSpan 9 = .ok (.ireturn, 1) := by decide +kernel
theorem dX8_abbot_0 : decode cX8_abbot 0 = .ok (.iload_n 1, 1) := by decide +kernel
theorem dX8_abbot_1 : decode cX8_abbot 1 = .ok (.invokestatic 251, 3) := by decide +kernel
theorem dX8_abbot_4 : decode cX8_abbot 4 = .ok (.ifCond .ne 5, 3) := by decide +kernel
theorem dX8_abbot_7 : decode cX8_abbot 7 = .ok (.iconst (-1), 1) := by decide +kernel
theorem dX8_abbot_8 : decode cX8_abbot 8 = .ok (.ireturn, 1) := by decide +kernel
theorem dX8_abbot_9 : decode cX8_abbot 9 = .ok (.iconst 0, 1) := by decide +kernel
theorem dX8_abbot_10 : decode cX8_abbot 10 = .ok (.istore_n 2, 1) := by decide +kernel
theorem dX8_abbot_11 : decode cX8_abbot 11 = .ok (.iload_n 2, 1) := by decide +kernel
theorem dX8_abbot_12 : decode cX8_abbot 12 = .ok (.bipush 20, 2) := by decide +kernel
theorem dX8_abbot_14 : decode cX8_abbot 14 = .ok (.if_icmp .gt 42, 3) := by decide +kernel
theorem dX8_abbot_17 : decode cX8_abbot 17 = .ok (.aload_n 0, 1) := by decide +kernel
theorem dX8_abbot_18 : decode cX8_abbot 18 = .ok (.invokevirtual 227, 3) := by decide +kernel
theorem dX8_abbot_21 : decode cX8_abbot 21 = .ok (.aload_n 0, 1) := by decide +kernel
theorem dX8_abbot_22 : decode cX8_abbot 22 = .ok (.iload_n 2, 1) := by decide +kernel
theorem dX8_abbot_23 : decode cX8_abbot 23 = .ok (.putfield 131, 3) := by decide +kernel
theorem dX8_abbot_26 : decode cX8_abbot 26 = .ok (.aload_n 0, 1) := by decide +kernel
theorem dX8_abbot_27 : decode cX8_abbot 27 = .ok (.aload_n 0, 1) := by decide +kernel
theorem dX8_abbot_28 : decode cX8_abbot 28 = .ok (.getfield 7, 3) := by decide +kernel
theorem dX8_abbot_31 : decode cX8_abbot 31 = .ok (.iconst 3, 1) := by decide +kernel
theorem dX8_abbot_32 : decode cX8_abbot 32 = .ok (.iaload, 1) := by decide +kernel
theorem dX8_abbot_33 : decode cX8_abbot 33 = .ok (.putfield 143, 3) := by decide +kernel
theorem dX8_abbot_36 : decode cX8_abbot 36 = .ok (.aload_n 0, 1) := by decide +kernel
theorem dX8_abbot_37 : decode cX8_abbot 37 = .ok (.iload_n 1, 1) := by decide +kernel
theorem dX8_abbot_38 : decode cX8_abbot 38 = .ok (.invokevirtual 245, 3) := by decide +kernel
theorem dX8_abbot_41 : decode cX8_abbot 41 = .ok (.aload_n 0, 1) := by decide +kernel
theorem dX8_abbot_42 : decode cX8_abbot 42 = .ok (.getfield 146, 3) := by decide +kernel
theorem dX8_abbot_45 : decode cX8_abbot 45 = .ok (.ifCond .ne 5, 3) := by decide +kernel
theorem dX8_abbot_48 : decode cX8_abbot 48 = .ok (.iload_n 2, 1) := by decide +kernel
theorem dX8_abbot_49 : decode cX8_abbot 49 = .ok (.ireturn, 1) := by decide +kernel
theorem dX8_abbot_50 : decode cX8_abbot 50 = .ok (.iinc 2 1, 3) := by decide +kernel
theorem dX8_abbot_53 : decode cX8_abbot 53 = .ok (.goto (-42), 3) := by decide +kernel
theorem dX8_abbot_56 : decode cX8_abbot 56 = .ok (.bipush (-4), 2) := by decide +kernel
theorem dX8_abbot_58 : decode cX8_abbot 58 = .ok (.ireturn, 1) := by decide +kernel
theorem dX8_oak_0 : decode cX8_oak 0 = .ok (.iload_n 1, 1) := by decide +kernel
theorem dX8_oak_1 : decode cX8_oak 1 = .ok (.invokestatic 251, 3) := by decide +kernel
theorem dX8_oak_4 : decode cX8_oak 4 = .ok (.ifCond .ne 5, 3) := by decide +kernel
theorem dX8_oak_7 : decode cX8_oak 7 = .ok (.iconst (-1), 1) := by decide +kernel
theorem dX8_oak_8 : decode cX8_oak 8 = .ok (.ireturn, 1) := by decide +kernel
theorem dX8_oak_9 : decode cX8_oak 9 = .ok (.bipush (-4), 2) := by decide +kernel
theorem dX8_oak_11 : decode cX8_oak 11 = .ok (.istore_n 2, 1) := by decide +kernel
theorem dX8_oak_12 : decode cX8_oak 12 = .ok (.ldc 170, 2) := by decide +kernel
theorem dX8_oak_14 : decode cX8_oak 14 = .ok (.istore_n 3, 1) := by decide +kernel
theorem dX8_oak_15 : decode cX8_oak 15 = .ok (.iconst 0, 1) := by decide +kernel
theorem dX8_oak_16 : decode cX8_oak 16 = .ok (.istore 4, 2) := by decide +kernel
theorem dX8_oak_18 : decode cX8_oak 18 = .ok (.iload 4, 2) := by decide +kernel
theorem dX8_oak_20 : decode cX8_oak 20 = .ok (.aload_n 0, 1) := by decide +kernel
theorem dX8_oak_21 : decode cX8_oak 21 = .ok (.getfield 7, 3) := by decide +kernel
theorem dX8_oak_24 : decode cX8_oak 24 = .ok (.iconst 1, 1) := by decide +kernel
theorem dX8_oak_25 : decode cX8_oak 25 = .ok (.iaload, 1) := by decide +kernel
theorem dX8_oak_26 : decode cX8_oak 26 = .ok (.if_icmp .ge 76, 3) := by decide +kernel
theorem dX8_oak_29 : decode cX8_oak 29 = .ok (.aload_n 0, 1) := by decide +kernel
theorem dX8_oak_30 : decode cX8_oak 30 = .ok (.getfield 7, 3) := by decide +kernel
theorem dX8_oak_33 : decode cX8_oak 33 = .ok (.bipush 31, 2) := by decide +kernel
theorem dX8_oak_35 : decode cX8_oak 35 = .ok (.iload 4, 2) := by decide +kernel
theorem dX8_oak_37 : decode cX8_oak 37 = .ok (.iadd, 1) := by decide +kernel
theorem dX8_oak_38 : decode cX8_oak 38 = .ok (.iaload, 1) := by decide +kernel
theorem dX8_oak_39 : decode cX8_oak 39 = .ok (.ifCond .ne 57, 3) := by decide +kernel
theorem dX8_oak_42 : decode cX8_oak 42 = .ok (.aload_n 0, 1) := by decide +kernel
theorem dX8_oak_43 : decode cX8_oak 43 = .ok (.invokevirtual 227, 3) := by decide +kernel
theorem dX8_oak_46 : decode cX8_oak 46 = .ok (.aload_n 0, 1) := by decide +kernel
theorem dX8_oak_47 : decode cX8_oak 47 = .ok (.dup, 1) := by decide +kernel
theorem dX8_oak_48 : decode cX8_oak 48 = .ok (.getfield 128, 3) := by decide +kernel
theorem dX8_oak_51 : decode cX8_oak 51 = .ok (.iconst 1, 1) := by decide +kernel
theorem dX8_oak_52 : decode cX8_oak 52 = .ok (.iload 4, 2) := by decide +kernel
theorem dX8_oak_54 : decode cX8_oak 54 = .ok (.ishl, 1) := by decide +kernel
theorem dX8_oak_55 : decode cX8_oak 55 = .ok (.ior, 1) := by decide +kernel
theorem dX8_oak_56 : decode cX8_oak 56 = .ok (.putfield 128, 3) := by decide +kernel
theorem dX8_oak_59 : decode cX8_oak 59 = .ok (.aload_n 0, 1) := by decide +kernel
theorem dX8_oak_60 : decode cX8_oak 60 = .ok (.iload_n 1, 1) := by decide +kernel
theorem dX8_oak_61 : decode cX8_oak 61 = .ok (.invokevirtual 245, 3) := by decide +kernel
theorem dX8_oak_64 : decode cX8_oak 64 = .ok (.aload_n 0, 1) := by decide +kernel
theorem dX8_oak_65 : decode cX8_oak 65 = .ok (.getfield 146, 3) := by decide +kernel
theorem dX8_oak_68 : decode cX8_oak 68 = .ok (.iload_n 3, 1) := by decide +kernel
theorem dX8_oak_69 : decode cX8_oak 69 = .ok (.if_icmp .ge 8, 3) := by decide +kernel
theorem dX8_oak_72 : decode cX8_oak 72 = .ok (.iload 4, 2) := by decide +kernel
theorem dX8_oak_74 : decode cX8_oak 74 = .ok (.goto 4, 3) := by decide +kernel
theorem dX8_oak_77 : decode cX8_oak 77 = .ok (.iload_n 2, 1) := by decide +kernel
theorem dX8_oak_78 : decode cX8_oak 78 = .ok (.istore_n 2, 1) := by decide +kernel
theorem dX8_oak_79 : decode cX8_oak 79 = .ok (.aload_n 0, 1) := by decide +kernel
theorem dX8_oak_80 : decode cX8_oak 80 = .ok (.getfield 146, 3) := by decide +kernel
theorem dX8_oak_83 : decode cX8_oak 83 = .ok (.iload_n 3, 1) := by decide +kernel
theorem dX8_oak_84 : decode cX8_oak 84 = .ok (.if_icmp .ge 10, 3) := by decide +kernel
theorem dX8_oak_87 : decode cX8_oak 87 = .ok (.aload_n 0, 1) := by decide +kernel
theorem dX8_oak_88 : decode cX8_oak 88 = .ok (.getfield 146, 3) := by decide +kernel
theorem dX8_oak_91 : decode cX8_oak 91 = .ok (.goto 4, 3) := by decide +kernel
theorem dX8_oak_94 : decode cX8_oak 94 = .ok (.iload_n 3, 1) := by decide +kernel
theorem dX8_oak_95 : decode cX8_oak 95 = .ok (.istore_n 3, 1) := by decide +kernel
theorem dX8_oak_96 : decode cX8_oak 96 = .ok (.iinc 4 1, 3) := by decide +kernel
theorem dX8_oak_99 : decode cX8_oak 99 = .ok (.goto (-81), 3) := by decide +kernel
theorem dX8_oak_102 : decode cX8_oak 102 = .ok (.iload_n 2, 1) := by decide +kernel
theorem dX8_oak_103 : decode cX8_oak 103 = .ok (.ireturn, 1) := by decide +kernel
theorem dX8_delays_0 : decode cX8_delays 0 = .ok (.iload_n 1, 1) := by decide +kernel
theorem dX8_delays_1 : decode cX8_delays 1 = .ok (.invokestatic 251, 3) := by decide +kernel
theorem dX8_delays_4 : decode cX8_delays 4 = .ok (.ifCond .ne 5, 3) := by decide +kernel
theorem dX8_delays_7 : decode cX8_delays 7 = .ok (.iconst (-1), 1) := by decide +kernel
theorem dX8_delays_8 : decode cX8_delays 8 = .ok (.ireturn, 1) := by decide +kernel
theorem dX8_delays_9 : decode cX8_delays 9 = .ok (.iconst 0, 1) := by decide +kernel
theorem dX8_delays_10 : decode cX8_delays 10 = .ok (.istore_n 2, 1) := by decide +kernel
theorem dX8_delays_11 : decode cX8_delays 11 = .ok (.ldc 170, 2) := by decide +kernel
theorem dX8_delays_13 : decode cX8_delays 13 = .ok (.istore_n 3, 1) := by decide +kernel
theorem dX8_delays_14 : decode cX8_delays 14 = .ok (.iconst 1, 1) := by decide +kernel
theorem dX8_delays_15 : decode cX8_delays 15 = .ok (.istore 4, 2) := by decide +kernel
theorem dX8_delays_17 : decode cX8_delays 17 = .ok (.iload 4, 2) := by decide +kernel
theorem dX8_delays_19 : decode cX8_delays 19 = .ok (.bipush 10, 2) := by decide +kernel
theorem dX8_delays_21 : decode cX8_delays 21 = .ok (.if_icmp .ge 56, 3) := by decide +kernel
theorem dX8_delays_24 : decode cX8_delays 24 = .ok (.aload_n 0, 1) := by decide +kernel
theorem dX8_delays_25 : decode cX8_delays 25 = .ok (.invokevirtual 227, 3) := by decide +kernel
theorem dX8_delays_28 : decode cX8_delays 28 = .ok (.aload_n 0, 1) := by decide +kernel
theorem dX8_delays_29 : decode cX8_delays 29 = .ok (.iload 4, 2) := by decide +kernel
theorem dX8_delays_31 : decode cX8_delays 31 = .ok (.putfield 122, 3) := by decide +kernel
theorem dX8_delays_34 : decode cX8_delays 34 = .ok (.aload_n 0, 1) := by decide +kernel
theorem dX8_delays_35 : decode cX8_delays 35 = .ok (.iload_n 1, 1) := by decide +kernel
theorem dX8_delays_36 : decode cX8_delays 36 = .ok (.invokevirtual 245, 3) := by decide +kernel
theorem dX8_delays_39 : decode cX8_delays 39 = .ok (.aload_n 0, 1) := by decide +kernel
theorem dX8_delays_40 : decode cX8_delays 40 = .ok (.getfield 146, 3) := by decide +kernel
theorem dX8_delays_43 : decode cX8_delays 43 = .ok (.iload_n 3, 1) := by decide +kernel
theorem dX8_delays_44 : decode cX8_delays 44 = .ok (.if_icmp .ge 8, 3) := by decide +kernel
theorem dX8_delays_47 : decode cX8_delays 47 = .ok (.iload 4, 2) := by decide +kernel
theorem dX8_delays_49 : decode cX8_delays 49 = .ok (.goto 4, 3) := by decide +kernel
theorem dX8_delays_52 : decode cX8_delays 52 = .ok (.iload_n 2, 1) := by decide +kernel
theorem dX8_delays_53 : decode cX8_delays 53 = .ok (.istore_n 2, 1) := by decide +kernel
theorem dX8_delays_54 : decode cX8_delays 54 = .ok (.aload_n 0, 1) := by decide +kernel
theorem dX8_delays_55 : decode cX8_delays 55 = .ok (.getfield 146, 3) := by decide +kernel
theorem dX8_delays_58 : decode cX8_delays 58 = .ok (.iload_n 3, 1) := by decide +kernel
theorem dX8_delays_59 : decode cX8_delays 59 = .ok (.if_icmp .ge 10, 3) := by decide +kernel
theorem dX8_delays_62 : decode cX8_delays 62 = .ok (.aload_n 0, 1) := by decide +kernel
theorem dX8_delays_63 : decode cX8_delays 63 = .ok (.getfield 146, 3) := by decide +kernel
theorem dX8_delays_66 : decode cX8_delays 66 = .ok (.goto 4, 3) := by decide +kernel
theorem dX8_delays_69 : decode cX8_delays 69 = .ok (.iload_n 3, 1) := by decide +kernel
theorem dX8_delays_70 : decode cX8_delays 70 = .ok (.istore_n 3, 1) := by decide +kernel
theorem dX8_delays_71 : decode cX8_delays 71 = .ok (.iinc 4 1, 3) := by decide +kernel
theorem dX8_delays_74 : decode cX8_delays 74 = .ok (.goto (-57), 3) := by decide +kernel
theorem dX8_delays_77 : decode cX8_delays 77 = .ok (.iload_n 2, 1) := by decide +kernel
theorem dX8_delays_78 : decode cX8_delays 78 = .ok (.ireturn, 1) := by decide +kernel
theorem dX8_watch_0 : decode cX8_watch 0 = .ok (.iload_n 1, 1) := by decide +kernel
theorem dX8_watch_1 : decode cX8_watch 1 = .ok (.invokestatic 251, 3) := by decide +kernel
theorem dX8_watch_4 : decode cX8_watch 4 = .ok (.ifCond .ne 5, 3) := by decide +kernel
theorem dX8_watch_7 : decode cX8_watch 7 = .ok (.iconst (-1), 1) := by decide +kernel
theorem dX8_watch_8 : decode cX8_watch 8 = .ok (.ireturn, 1) := by decide +kernel
theorem dX8_watch_9 : decode cX8_watch 9 = .ok (.iconst 0, 1) := by decide +kernel
theorem dX8_watch_10 : decode cX8_watch 10 = .ok (.istore_n 2, 1) := by decide +kernel
theorem dX8_watch_11 : decode cX8_watch 11 = .ok (.ldc 170, 2) := by decide +kernel
theorem dX8_watch_13 : decode cX8_watch 13 = .ok (.istore_n 3, 1) := by decide +kernel
theorem dX8_watch_14 : decode cX8_watch 14 = .ok (.iconst 0, 1) := by decide +kernel
theorem dX8_watch_15 : decode cX8_watch 15 = .ok (.istore 4, 2) := by decide +kernel
theorem dX8_watch_17 : decode cX8_watch 17 = .ok (.iload 4, 2) := by decide +kernel
theorem dX8_watch_19 : decode cX8_watch 19 = .ok (.aload_n 0, 1) := by decide +kernel
theorem dX8_watch_20 : decode cX8_watch 20 = .ok (.getfield 7, 3) := by decide +kernel
theorem dX8_watch_23 : decode cX8_watch 23 = .ok (.iconst 1, 1) := by decide +kernel
theorem dX8_watch_24 : decode cX8_watch 24 = .ok (.iaload, 1) := by decide +kernel
theorem dX8_watch_25 : decode cX8_watch 25 = .ok (.if_icmp .ge 85, 3) := by decide +kernel
theorem dX8_watch_28 : decode cX8_watch 28 = .ok (.aload_n 0, 1) := by decide +kernel
theorem dX8_watch_29 : decode cX8_watch 29 = .ok (.getfield 19, 3) := by decide +kernel
theorem dX8_watch_32 : decode cX8_watch 32 = .ok (.bipush 10, 2) := by decide +kernel
theorem dX8_watch_34 : decode cX8_watch 34 = .ok (.iload 4, 2) := by decide +kernel
theorem dX8_watch_36 : decode cX8_watch 36 = .ok (.iadd, 1) := by decide +kernel
theorem dX8_watch_37 : decode cX8_watch 37 = .ok (.iaload, 1) := by decide +kernel
theorem dX8_watch_38 : decode cX8_watch 38 = .ok (.istore 5, 2) := by decide +kernel
theorem dX8_watch_40 : decode cX8_watch 40 = .ok (.aload_n 0, 1) := by decide +kernel
theorem dX8_watch_41 : decode cX8_watch 41 = .ok (.getfield 19, 3) := by decide +kernel
theorem dX8_watch_44 : decode cX8_watch 44 = .ok (.bipush 10, 2) := by decide +kernel
theorem dX8_watch_46 : decode cX8_watch 46 = .ok (.iload 4, 2) := by decide +kernel
theorem dX8_watch_48 : decode cX8_watch 48 = .ok (.iadd, 1) := by decide +kernel
theorem dX8_watch_49 : decode cX8_watch 49 = .ok (.iconst 1, 1) := by decide +kernel
theorem dX8_watch_50 : decode cX8_watch 50 = .ok (.iastore, 1) := by decide +kernel
theorem dX8_watch_51 : decode cX8_watch 51 = .ok (.aload_n 0, 1) := by decide +kernel
theorem dX8_watch_52 : decode cX8_watch 52 = .ok (.invokevirtual 227, 3) := by decide +kernel
theorem dX8_watch_55 : decode cX8_watch 55 = .ok (.aload_n 0, 1) := by decide +kernel
theorem dX8_watch_56 : decode cX8_watch 56 = .ok (.iload_n 1, 1) := by decide +kernel
theorem dX8_watch_57 : decode cX8_watch 57 = .ok (.invokevirtual 245, 3) := by decide +kernel
theorem dX8_watch_60 : decode cX8_watch 60 = .ok (.aload_n 0, 1) := by decide +kernel
theorem dX8_watch_61 : decode cX8_watch 61 = .ok (.getfield 19, 3) := by decide +kernel
theorem dX8_watch_64 : decode cX8_watch 64 = .ok (.bipush 10, 2) := by decide +kernel
theorem dX8_watch_66 : decode cX8_watch 66 = .ok (.iload 4, 2) := by decide +kernel
theorem dX8_watch_68 : decode cX8_watch 68 = .ok (.iadd, 1) := by decide +kernel
theorem dX8_watch_69 : decode cX8_watch 69 = .ok (.iload 5, 2) := by decide +kernel
theorem dX8_watch_71 : decode cX8_watch 71 = .ok (.iastore, 1) := by decide +kernel
theorem dX8_watch_72 : decode cX8_watch 72 = .ok (.aload_n 0, 1) := by decide +kernel
theorem dX8_watch_73 : decode cX8_watch 73 = .ok (.getfield 149, 3) := by decide +kernel
theorem dX8_watch_76 : decode cX8_watch 76 = .ok (.iload_n 3, 1) := by decide +kernel
theorem dX8_watch_77 : decode cX8_watch 77 = .ok (.if_icmp .ge 8, 3) := by decide +kernel
theorem dX8_watch_80 : decode cX8_watch 80 = .ok (.iload 4, 2) := by decide +kernel
theorem dX8_watch_82 : decode cX8_watch 82 = .ok (.goto 4, 3) := by decide +kernel
theorem dX8_watch_85 : decode cX8_watch 85 = .ok (.iload_n 2, 1) := by decide +kernel
theorem dX8_watch_86 : decode cX8_watch 86 = .ok (.istore_n 2, 1) := by decide +kernel
theorem dX8_watch_87 : decode cX8_watch 87 = .ok (.aload_n 0, 1) := by decide +kernel
theorem dX8_watch_88 : decode cX8_watch 88 = .ok (.getfield 149, 3) := by decide +kernel
theorem dX8_watch_91 : decode cX8_watch 91 = .ok (.iload_n 3, 1) := by decide +kernel
theorem dX8_watch_92 : decode cX8_watch 92 = .ok (.if_icmp .ge 10, 3) := by decide +kernel
theorem dX8_watch_95 : decode cX8_watch 95 = .ok (.aload_n 0, 1) := by decide +kernel
theorem dX8_watch_96 : decode cX8_watch 96 = .ok (.getfield 149, 3) := by decide +kernel
theorem dX8_watch_99 : decode cX8_watch 99 = .ok (.goto 4, 3) := by decide +kernel
theorem dX8_watch_102 : decode cX8_watch 102 = .ok (.iload_n 3, 1) := by decide +kernel
theorem dX8_watch_103 : decode cX8_watch 103 = .ok (.istore_n 3, 1) := by decide +kernel
theorem dX8_watch_104 : decode cX8_watch 104 = .ok (.iinc 4 1, 3) := by decide +kernel
theorem dX8_watch_107 : decode cX8_watch 107 = .ok (.goto (-90), 3) := by decide +kernel
theorem dX8_watch_110 : decode cX8_watch 110 = .ok (.iload_n 2, 1) := by decide +kernel
theorem dX8_watch_111 : decode cX8_watch 111 = .ok (.ireturn, 1) := by decide +kernel
theorem dX8_sent_0 : decode cX8_sent 0 = .ok (.aload_n 0, 1) := by decide +kernel
theorem dX8_sent_1 : decode cX8_sent 1 = .ok (.iload_n 1, 1) := by decide +kernel
theorem dX8_sent_2 : decode cX8_sent 2 = .ok (.invokevirtual 254, 3) := by decide +kernel
theorem dX8_sent_5 : decode cX8_sent 5 = .ok (.ifCond .eq 31, 3) := by decide +kernel
theorem dX8_sent_8 : decode cX8_sent 8 = .ok (.aload_n 0, 1) := by decide +kernel
theorem dX8_sent_9 : decode cX8_sent 9 = .ok (.iload_n 2, 1) := by decide +kernel
theorem dX8_sent_10 : decode cX8_sent 10 = .ok (.invokevirtual 254, 3) := by decide +kernel
theorem dX8_sent_13 : decode cX8_sent 13 = .ok (.ifCond .eq 23, 3) := by decide +kernel
theorem dX8_sent_16 : decode cX8_sent 16 = .ok (.iload_n 3, 1) := by decide +kernel
theorem dX8_sent_17 : decode cX8_sent 17 = .ok (.i2l, 1) := by decide +kernel
theorem dX8_sent_18 : decode cX8_sent 18 = .ok (.lconst 1, 1) := by decide +kernel
theorem dX8_sent_19 : decode cX8_sent 19 = .ok (.ldc2_w 257, 3) := by decide +kernel
theorem dX8_sent_22 : decode cX8_sent 22 = .ok (.invokestatic 60, 3) := by decide +kernel
theorem dX8_sent_25 : decode cX8_sent 25 = .ok (.ifCond .eq 11, 3) := by decide +kernel
theorem dX8_sent_28 : decode cX8_sent 28 = .ok (.iload 4, 2) := by decide +kernel
theorem dX8_sent_30 : decode cX8_sent 30 = .ok (.invokestatic 259, 3) := by decide +kernel
theorem dX8_sent_33 : decode cX8_sent 33 = .ok (.ifCond .ne 5, 3) := by decide +kernel
theorem dX8_sent_36 : decode cX8_sent 36 = .ok (.iconst (-1), 1) := by decide +kernel
theorem dX8_sent_37 : decode cX8_sent 37 = .ok (.ireturn, 1) := by decide +kernel
theorem dX8_sent_38 : decode cX8_sent 38 = .ok (.iload_n 1, 1) := by decide +kernel
theorem dX8_sent_39 : decode cX8_sent 39 = .ok (.iload_n 2, 1) := by decide +kernel
theorem dX8_sent_40 : decode cX8_sent 40 = .ok (.if_icmp .ne 5, 3) := by decide +kernel
theorem dX8_sent_43 : decode cX8_sent 43 = .ok (.iconst 0, 1) := by decide +kernel
theorem dX8_sent_44 : decode cX8_sent 44 = .ok (.ireturn, 1) := by decide +kernel
theorem dX8_sent_45 : decode cX8_sent 45 = .ok (.aload_n 0, 1) := by decide +kernel
theorem dX8_sent_46 : decode cX8_sent 46 = .ok (.invokevirtual 227, 3) := by decide +kernel
theorem dX8_sent_49 : decode cX8_sent 49 = .ok (.aload_n 0, 1) := by decide +kernel
theorem dX8_sent_50 : decode cX8_sent 50 = .ok (.aload_n 0, 1) := by decide +kernel
theorem dX8_sent_51 : decode cX8_sent 51 = .ok (.getfield 122, 3) := by decide +kernel
theorem dX8_sent_54 : decode cX8_sent 54 = .ok (.invokevirtual 245, 3) := by decide +kernel
theorem dX8_sent_57 : decode cX8_sent 57 = .ok (.iconst 0, 1) := by decide +kernel
theorem dX8_sent_58 : decode cX8_sent 58 = .ok (.istore 5, 2) := by decide +kernel
theorem dX8_sent_60 : decode cX8_sent 60 = .ok (.iload 5, 2) := by decide +kernel
theorem dX8_sent_62 : decode cX8_sent 62 = .ok (.bipush 8, 2) := by decide +kernel
theorem dX8_sent_64 : decode cX8_sent 64 = .ok (.if_icmp .ge 28, 3) := by decide +kernel
theorem dX8_sent_67 : decode cX8_sent 67 = .ok (.aload_n 0, 1) := by decide +kernel
theorem dX8_sent_68 : decode cX8_sent 68 = .ok (.getfield 40, 3) := by decide +kernel
theorem dX8_sent_71 : decode cX8_sent 71 = .ok (.iload 5, 2) := by decide +kernel
theorem dX8_sent_73 : decode cX8_sent 73 = .ok (.iload 5, 2) := by decide +kernel
theorem dX8_sent_75 : decode cX8_sent 75 = .ok (.iload_n 1, 1) := by decide +kernel
theorem dX8_sent_76 : decode cX8_sent 76 = .ok (.if_icmp .ne 7, 3) := by decide +kernel
theorem dX8_sent_79 : decode cX8_sent 79 = .ok (.iconst 0, 1) := by decide +kernel
theorem dX8_sent_80 : decode cX8_sent 80 = .ok (.goto 5, 3) := by decide +kernel
theorem dX8_sent_83 : decode cX8_sent 83 = .ok (.ldc 170, 2) := by decide +kernel
theorem dX8_sent_85 : decode cX8_sent 85 = .ok (.iastore, 1) := by decide +kernel
theorem dX8_sent_86 : decode cX8_sent 86 = .ok (.iinc 5 1, 3) := by decide +kernel
theorem dX8_sent_89 : decode cX8_sent 89 = .ok (.goto (-29), 3) := by decide +kernel
theorem dX8_sent_92 : decode cX8_sent 92 = .ok (.ldc 170, 2) := by decide +kernel
theorem dX8_sent_94 : decode cX8_sent 94 = .ok (.istore 5, 2) := by decide +kernel
theorem dX8_sent_96 : decode cX8_sent 96 = .ok (.iconst 0, 1) := by decide +kernel
theorem dX8_sent_97 : decode cX8_sent 97 = .ok (.istore 6, 2) := by decide +kernel
theorem dX8_sent_99 : decode cX8_sent 99 = .ok (.iconst 0, 1) := by decide +kernel
theorem dX8_sent_100 : decode cX8_sent 100 = .ok (.istore 7, 2) := by decide +kernel
theorem dX8_sent_102 : decode cX8_sent 102 = .ok (.iload 7, 2) := by decide +kernel
theorem dX8_sent_104 : decode cX8_sent 104 = .ok (.bipush 8, 2) := by decide +kernel
theorem dX8_sent_106 : decode cX8_sent 106 = .ok (.if_icmp .ge 290, 3) := by decide +kernel
theorem dX8_sent_109 : decode cX8_sent 109 = .ok (.iconst 0, 1) := by decide +kernel
theorem dX8_sent_110 : decode cX8_sent 110 = .ok (.istore 8, 2) := by decide +kernel
theorem dX8_sent_112 : decode cX8_sent 112 = .ok (.iload 8, 2) := by decide +kernel
theorem dX8_sent_114 : decode cX8_sent 114 = .ok (.bipush 8, 2) := by decide +kernel
theorem dX8_sent_116 : decode cX8_sent 116 = .ok (.if_icmp .ge 18, 3) := by decide +kernel
theorem dX8_sent_119 : decode cX8_sent 119 = .ok (.aload_n 0, 1) := by decide +kernel
theorem dX8_sent_120 : decode cX8_sent 120 = .ok (.getfield 43, 3) := by decide +kernel
theorem dX8_sent_123 : decode cX8_sent 123 = .ok (.iload 8, 2) := by decide +kernel
theorem dX8_sent_125 : decode cX8_sent 125 = .ok (.ldc 170, 2) := by decide +kernel
theorem dX8_sent_127 : decode cX8_sent 127 = .ok (.iastore, 1) := by decide +kernel
theorem dX8_sent_128 : decode cX8_sent 128 = .ok (.iinc 8 1, 3) := by decide +kernel
theorem dX8_sent_131 : decode cX8_sent 131 = .ok (.goto (-19), 3) := by decide +kernel
theorem dX8_sent_134 : decode cX8_sent 134 = .ok (.iconst 0, 1) := by decide +kernel
theorem dX8_sent_135 : decode cX8_sent 135 = .ok (.istore 8, 2) := by decide +kernel
theorem dX8_sent_137 : decode cX8_sent 137 = .ok (.iload 8, 2) := by decide +kernel
theorem dX8_sent_139 : decode cX8_sent 139 = .ok (.aload_n 0, 1) := by decide +kernel
theorem dX8_sent_140 : decode cX8_sent 140 = .ok (.getfield 7, 3) := by decide +kernel
theorem dX8_sent_143 : decode cX8_sent 143 = .ok (.iconst 1, 1) := by decide +kernel
theorem dX8_sent_144 : decode cX8_sent 144 = .ok (.iaload, 1) := by decide +kernel
theorem dX8_sent_145 : decode cX8_sent 145 = .ok (.if_icmp .ge 154, 3) := by decide +kernel
theorem dX8_sent_148 : decode cX8_sent 148 = .ok (.aload_n 0, 1) := by decide +kernel
theorem dX8_sent_149 : decode cX8_sent 149 = .ok (.aload_n 0, 1) := by decide +kernel
theorem dX8_sent_150 : decode cX8_sent 150 = .ok (.getfield 37, 3) := by decide +kernel
theorem dX8_sent_153 : decode cX8_sent 153 = .ok (.iload 8, 2) := by decide +kernel
theorem dX8_sent_155 : decode cX8_sent 155 = .ok (.invokevirtual 196, 3) := by decide +kernel
theorem dX8_sent_158 : decode cX8_sent 158 = .ok (.istore 9, 2) := by decide +kernel
theorem dX8_sent_160 : decode cX8_sent 160 = .ok (.iload 9, 2) := by decide +kernel
theorem dX8_sent_162 : decode cX8_sent 162 = .ok (.iload_n 3, 1) := by decide +kernel
theorem dX8_sent_163 : decode cX8_sent 163 = .ok (.if_icmp .ge 10, 3) := by decide +kernel
theorem dX8_sent_166 : decode cX8_sent 166 = .ok (.iload_n 3, 1) := by decide +kernel
theorem dX8_sent_167 : decode cX8_sent 167 = .ok (.iload 9, 2) := by decide +kernel
theorem dX8_sent_169 : decode cX8_sent 169 = .ok (.isub, 1) := by decide +kernel
theorem dX8_sent_170 : decode cX8_sent 170 = .ok (.goto 4, 3) := by decide +kernel
theorem dX8_sent_173 : decode cX8_sent 173 = .ok (.iconst 0, 1) := by decide +kernel
theorem dX8_sent_174 : decode cX8_sent 174 = .ok (.istore 10, 2) := by decide +kernel
theorem dX8_sent_176 : decode cX8_sent 176 = .ok (.aload_n 0, 1) := by decide +kernel
theorem dX8_sent_177 : decode cX8_sent 177 = .ok (.getfield 7, 3) := by decide +kernel
theorem dX8_sent_180 : decode cX8_sent 180 = .ok (.iconst 4, 1) := by decide +kernel
theorem dX8_sent_181 : decode cX8_sent 181 = .ok (.iload 8, 2) := by decide +kernel
theorem dX8_sent_183 : decode cX8_sent 183 = .ok (.iadd, 1) := by decide +kernel
theorem dX8_sent_184 : decode cX8_sent 184 = .ok (.iaload, 1) := by decide +kernel
theorem dX8_sent_185 : decode cX8_sent 185 = .ok (.istore 11, 2) := by decide +kernel
theorem dX8_sent_187 : decode cX8_sent 187 = .ok (.aload_n 0, 1) := by decide +kernel
theorem dX8_sent_188 : decode cX8_sent 188 = .ok (.getfield 7, 3) := by decide +kernel
theorem dX8_sent_191 : decode cX8_sent 191 = .ok (.bipush 13, 2) := by decide +kernel
theorem dX8_sent_193 : decode cX8_sent 193 = .ok (.iload 8, 2) := by decide +kernel
theorem dX8_sent_195 : decode cX8_sent 195 = .ok (.iadd, 1) := by decide +kernel
theorem dX8_sent_196 : decode cX8_sent 196 = .ok (.iaload, 1) := by decide +kernel
theorem dX8_sent_197 : decode cX8_sent 197 = .ok (.istore 12, 2) := by decide +kernel
theorem dX8_sent_199 : decode cX8_sent 199 = .ok (.aload_n 0, 1) := by decide +kernel
theorem dX8_sent_200 : decode cX8_sent 200 = .ok (.getfield 43, 3) := by decide +kernel
theorem dX8_sent_203 : decode cX8_sent 203 = .ok (.iload 12, 2) := by decide +kernel
theorem dX8_sent_205 : decode cX8_sent 205 = .ok (.aload_n 0, 1) := by decide +kernel
theorem dX8_sent_206 : decode cX8_sent 206 = .ok (.getfield 40, 3) := by decide +kernel
theorem dX8_sent_209 : decode cX8_sent 209 = .ok (.iload 11, 2) := by decide +kernel
theorem dX8_sent_211 : decode cX8_sent 211 = .ok (.iaload, 1) := by decide +kernel
theorem dX8_sent_212 : decode cX8_sent 212 = .ok (.iload 10, 2) := by decide +kernel
theorem dX8_sent_214 : decode cX8_sent 214 = .ok (.iadd, 1) := by decide +kernel
theorem dX8_sent_215 : decode cX8_sent 215 = .ok (.aload_n 0, 1) := by decide +kernel
theorem dX8_sent_216 : decode cX8_sent 216 = .ok (.getfield 43, 3) := by decide +kernel
theorem dX8_sent_219 : decode cX8_sent 219 = .ok (.iload 12, 2) := by decide +kernel
theorem dX8_sent_221 : decode cX8_sent 221 = .ok (.iaload, 1) := by decide +kernel
theorem dX8_sent_222 : decode cX8_sent 222 = .ok (.if_icmp .ge 16, 3) := by decide +kernel
theorem dX8_sent_225 : decode cX8_sent 225 = .ok (.aload_n 0, 1) := by decide +kernel
theorem dX8_sent_226 : decode cX8_sent 226 = .ok (.getfield 40, 3) := by decide +kernel
theorem dX8_sent_229 : decode cX8_sent 229 = .ok (.iload 11, 2) := by decide +kernel
theorem dX8_sent_231 : decode cX8_sent 231 = .ok (.iaload, 1) := by decide +kernel
theorem dX8_sent_232 : decode cX8_sent 232 = .ok (.iload 10, 2) := by decide +kernel
theorem dX8_sent_234 : decode cX8_sent 234 = .ok (.iadd, 1) := by decide +kernel
theorem dX8_sent_235 : decode cX8_sent 235 = .ok (.goto 10, 3) := by decide +kernel
theorem dX8_sent_238 : decode cX8_sent 238 = .ok (.aload_n 0, 1) := by decide +kernel
theorem dX8_sent_239 : decode cX8_sent 239 = .ok (.getfield 43, 3) := by decide +kernel
theorem dX8_sent_242 : decode cX8_sent 242 = .ok (.iload 12, 2) := by decide +kernel
theorem dX8_sent_244 : decode cX8_sent 244 = .ok (.iaload, 1) := by decide +kernel
theorem dX8_sent_245 : decode cX8_sent 245 = .ok (.iastore, 1) := by decide +kernel
theorem dX8_sent_246 : decode cX8_sent 246 = .ok (.aload_n 0, 1) := by decide +kernel
theorem dX8_sent_247 : decode cX8_sent 247 = .ok (.getfield 43, 3) := by decide +kernel
theorem dX8_sent_250 : decode cX8_sent 250 = .ok (.iload 11, 2) := by decide +kernel
theorem dX8_sent_252 : decode cX8_sent 252 = .ok (.aload_n 0, 1) := by decide +kernel
theorem dX8_sent_253 : decode cX8_sent 253 = .ok (.getfield 40, 3) := by decide +kernel
theorem dX8_sent_256 : decode cX8_sent 256 = .ok (.iload 12, 2) := by decide +kernel
theorem dX8_sent_258 : decode cX8_sent 258 = .ok (.iaload, 1) := by decide +kernel
theorem dX8_sent_259 : decode cX8_sent 259 = .ok (.iload 10, 2) := by decide +kernel
theorem dX8_sent_261 : decode cX8_sent 261 = .ok (.iadd, 1) := by decide +kernel
theorem dX8_sent_262 : decode cX8_sent 262 = .ok (.aload_n 0, 1) := by decide +kernel
theorem dX8_sent_263 : decode cX8_sent 263 = .ok (.getfield 43, 3) := by decide +kernel
theorem dX8_sent_266 : decode cX8_sent 266 = .ok (.iload 11, 2) := by decide +kernel
theorem dX8_sent_268 : decode cX8_sent 268 = .ok (.iaload, 1) := by decide +kernel
theorem dX8_sent_269 : decode cX8_sent 269 = .ok (.if_icmp .ge 16, 3) := by decide +kernel
theorem dX8_sent_272 : decode cX8_sent 272 = .ok (.aload_n 0, 1) := by decide +kernel
theorem dX8_sent_273 : decode cX8_sent 273 = .ok (.getfield 40, 3) := by decide +kernel
theorem dX8_sent_276 : decode cX8_sent 276 = .ok (.iload 12, 2) := by decide +kernel
theorem dX8_sent_278 : decode cX8_sent 278 = .ok (.iaload, 1) := by decide +kernel
theorem dX8_sent_279 : decode cX8_sent 279 = .ok (.iload 10, 2) := by decide +kernel
theorem dX8_sent_281 : decode cX8_sent 281 = .ok (.iadd, 1) := by decide +kernel
theorem dX8_sent_282 : decode cX8_sent 282 = .ok (.goto 10, 3) := by decide +kernel
theorem dX8_sent_285 : decode cX8_sent 285 = .ok (.aload_n 0, 1) := by decide +kernel
theorem dX8_sent_286 : decode cX8_sent 286 = .ok (.getfield 43, 3) := by decide +kernel
theorem dX8_sent_289 : decode cX8_sent 289 = .ok (.iload 11, 2) := by decide +kernel
theorem dX8_sent_291 : decode cX8_sent 291 = .ok (.iaload, 1) := by decide +kernel
theorem dX8_sent_292 : decode cX8_sent 292 = .ok (.iastore, 1) := by decide +kernel
theorem dX8_sent_293 : decode cX8_sent 293 = .ok (.iinc 8 1, 3) := by decide +kernel
theorem dX8_sent_296 : decode cX8_sent 296 = .ok (.goto (-159), 3) := by decide +kernel
theorem dX8_sent_299 : decode cX8_sent 299 = .ok (.iconst 0, 1) := by decide +kernel
theorem dX8_sent_300 : decode cX8_sent 300 = .ok (.istore 8, 2) := by decide +kernel
theorem dX8_sent_302 : decode cX8_sent 302 = .ok (.iload 8, 2) := by decide +kernel
theorem dX8_sent_304 : decode cX8_sent 304 = .ok (.bipush 8, 2) := by decide +kernel
theorem dX8_sent_306 : decode cX8_sent 306 = .ok (.if_icmp .ge 23, 3) := by decide +kernel
theorem dX8_sent_309 : decode cX8_sent 309 = .ok (.aload_n 0, 1) := by decide +kernel
theorem dX8_sent_310 : decode cX8_sent 310 = .ok (.getfield 40, 3) := by decide +kernel
theorem dX8_sent_313 : decode cX8_sent 313 = .ok (.iload 8, 2) := by decide +kernel
theorem dX8_sent_315 : decode cX8_sent 315 = .ok (.aload_n 0, 1) := by decide +kernel
theorem dX8_sent_316 : decode cX8_sent 316 = .ok (.getfield 43, 3) := by decide +kernel
theorem dX8_sent_319 : decode cX8_sent 319 = .ok (.iload 8, 2) := by decide +kernel
theorem dX8_sent_321 : decode cX8_sent 321 = .ok (.iaload, 1) := by decide +kernel
theorem dX8_sent_322 : decode cX8_sent 322 = .ok (.iastore, 1) := by decide +kernel
theorem dX8_sent_323 : decode cX8_sent 323 = .ok (.iinc 8 1, 3) := by decide +kernel
theorem dX8_sent_326 : decode cX8_sent 326 = .ok (.goto (-24), 3) := by decide +kernel
theorem dX8_sent_329 : decode cX8_sent 329 = .ok (.aload_n 0, 1) := by decide +kernel
theorem dX8_sent_330 : decode cX8_sent 330 = .ok (.getfield 40, 3) := by decide +kernel
theorem dX8_sent_333 : decode cX8_sent 333 = .ok (.iload_n 2, 1) := by decide +kernel
theorem dX8_sent_334 : decode cX8_sent 334 = .ok (.iaload, 1) := by decide +kernel
theorem dX8_sent_335 : decode cX8_sent 335 = .ok (.iload 5, 2) := by decide +kernel
theorem dX8_sent_337 : decode cX8_sent 337 = .ok (.if_icmp .ge 10, 3) := by decide +kernel
theorem dX8_sent_340 : decode cX8_sent 340 = .ok (.iload 7, 2) := by decide +kernel
theorem dX8_sent_342 : decode cX8_sent 342 = .ok (.iconst 1, 1) := by decide +kernel
theorem dX8_sent_343 : decode cX8_sent 343 = .ok (.iadd, 1) := by decide +kernel
theorem dX8_sent_344 : decode cX8_sent 344 = .ok (.goto 5, 3) := by decide +kernel
theorem dX8_sent_347 : decode cX8_sent 347 = .ok (.iload 6, 2) := by decide +kernel
theorem dX8_sent_349 : decode cX8_sent 349 = .ok (.istore 6, 2) := by decide +kernel
theorem dX8_sent_351 : decode cX8_sent 351 = .ok (.aload_n 0, 1) := by decide +kernel
theorem dX8_sent_352 : decode cX8_sent 352 = .ok (.getfield 40, 3) := by decide +kernel
theorem dX8_sent_355 : decode cX8_sent 355 = .ok (.iload_n 2, 1) := by decide +kernel
theorem dX8_sent_356 : decode cX8_sent 356 = .ok (.iaload, 1) := by decide +kernel
theorem dX8_sent_357 : decode cX8_sent 357 = .ok (.iload 5, 2) := by decide +kernel
theorem dX8_sent_359 : decode cX8_sent 359 = .ok (.if_icmp .ge 12, 3) := by decide +kernel
theorem dX8_sent_362 : decode cX8_sent 362 = .ok (.aload_n 0, 1) := by decide +kernel
theorem dX8_sent_363 : decode cX8_sent 363 = .ok (.getfield 40, 3) := by decide +kernel
theorem dX8_sent_366 : decode cX8_sent 366 = .ok (.iload_n 2, 1) := by decide +kernel
theorem dX8_sent_367 : decode cX8_sent 367 = .ok (.iaload, 1) := by decide +kernel
theorem dX8_sent_368 : decode cX8_sent 368 = .ok (.goto 5, 3) := by decide +kernel
theorem dX8_sent_371 : decode cX8_sent 371 = .ok (.iload 5, 2) := by decide +kernel
theorem dX8_sent_373 : decode cX8_sent 373 = .ok (.istore 5, 2) := by decide +kernel
theorem dX8_sent_375 : decode cX8_sent 375 = .ok (.aload_n 0, 1) := by decide +kernel
theorem dX8_sent_376 : decode cX8_sent 376 = .ok (.aload_n 0, 1) := by decide +kernel
theorem dX8_sent_377 : decode cX8_sent 377 = .ok (.getfield 37, 3) := by decide +kernel
theorem dX8_sent_380 : decode cX8_sent 380 = .ok (.aload_n 0, 1) := by decide +kernel
theorem dX8_sent_381 : decode cX8_sent 381 = .ok (.getfield 122, 3) := by decide +kernel
theorem dX8_sent_384 : decode cX8_sent 384 = .ok (.iload 7, 2) := by decide +kernel
theorem dX8_sent_386 : decode cX8_sent 386 = .ok (.iadd, 1) := by decide +kernel
theorem dX8_sent_387 : decode cX8_sent 387 = .ok (.invokevirtual 219, 3) := by decide +kernel
theorem dX8_sent_390 : decode cX8_sent 390 = .ok (.iinc 7 1, 3) := by decide +kernel
theorem dX8_sent_393 : decode cX8_sent 393 = .ok (.goto (-291), 3) := by decide +kernel
theorem dX8_sent_396 : decode cX8_sent 396 = .ok (.iload 5, 2) := by decide +kernel
theorem dX8_sent_398 : decode cX8_sent 398 = .ok (.ldc 170, 2) := by decide +kernel
theorem dX8_sent_400 : decode cX8_sent 400 = .ok (.if_icmp .ne 8, 3) := by decide +kernel
theorem dX8_sent_403 : decode cX8_sent 403 = .ok (.bipush (-4), 2) := by decide +kernel
theorem dX8_sent_405 : decode cX8_sent 405 = .ok (.goto 15, 3) := by decide +kernel
theorem dX8_sent_408 : decode cX8_sent 408 = .ok (.iload 4, 2) := by decide +kernel
theorem dX8_sent_410 : decode cX8_sent 410 = .ok (.ifCond .ne 8, 3) := by decide +kernel
theorem dX8_sent_413 : decode cX8_sent 413 = .ok (.iload 5, 2) := by decide +kernel
theorem dX8_sent_415 : decode cX8_sent 415 = .ok (.goto 5, 3) := by decide +kernel
theorem dX8_sent_418 : decode cX8_sent 418 = .ok (.iload 6, 2) := by decide +kernel
theorem dX8_sent_420 : decode cX8_sent 420 = .ok (.ireturn, 1) := by decide +kernel
theorem dX8_rumour_0 : decode cX8_rumour 0 = .ok (.aload_n 0, 1) := by decide +kernel
theorem dX8_rumour_1 : decode cX8_rumour 1 = .ok (.iload_n 1, 1) := by decide +kernel
theorem dX8_rumour_2 : decode cX8_rumour 2 = .ok (.invokevirtual 230, 3) := by decide +kernel
theorem dX8_rumour_5 : decode cX8_rumour 5 = .ok (.ifCond .eq 26, 3) := by decide +kernel
theorem dX8_rumour_8 : decode cX8_rumour 8 = .ok (.aload_n 0, 1) := by decide +kernel
theorem dX8_rumour_9 : decode cX8_rumour 9 = .ok (.iload_n 2, 1) := by decide +kernel
theorem dX8_rumour_10 : decode cX8_rumour 10 = .ok (.invokevirtual 222, 3) := by decide +kernel
theorem dX8_rumour_13 : decode cX8_rumour 13 = .ok (.ifCond .eq 18, 3) := by decide +kernel
theorem dX8_rumour_16 : decode cX8_rumour 16 = .ok (.iload_n 3, 1) := by decide +kernel
theorem dX8_rumour_17 : decode cX8_rumour 17 = .ok (.invokestatic 242, 3) := by decide +kernel
theorem dX8_rumour_20 : decode cX8_rumour 20 = .ok (.ifCond .eq 11, 3) := by decide +kernel
theorem dX8_rumour_23 : decode cX8_rumour 23 = .ok (.iload 4, 2) := by decide +kernel
theorem dX8_rumour_25 : decode cX8_rumour 25 = .ok (.invokestatic 259, 3) := by decide +kernel
theorem dX8_rumour_28 : decode cX8_rumour 28 = .ok (.ifCond .ne 5, 3) := by decide +kernel
theorem dX8_rumour_31 : decode cX8_rumour 31 = .ok (.iconst (-1), 1) := by decide +kernel
theorem dX8_rumour_32 : decode cX8_rumour 32 = .ok (.ireturn, 1) := by decide +kernel
theorem dX8_rumour_33 : decode cX8_rumour 33 = .ok (.aload_n 0, 1) := by decide +kernel
theorem dX8_rumour_34 : decode cX8_rumour 34 = .ok (.invokevirtual 227, 3) := by decide +kernel
theorem dX8_rumour_37 : decode cX8_rumour 37 = .ok (.aload_n 0, 1) := by decide +kernel
theorem dX8_rumour_38 : decode cX8_rumour 38 = .ok (.iload_n 2, 1) := by decide +kernel
theorem dX8_rumour_39 : decode cX8_rumour 39 = .ok (.putfield 137, 3) := by decide +kernel
theorem dX8_rumour_42 : decode cX8_rumour 42 = .ok (.aload_n 0, 1) := by decide +kernel
theorem dX8_rumour_43 : decode cX8_rumour 43 = .ok (.iconst 1, 1) := by decide +kernel
theorem dX8_rumour_44 : decode cX8_rumour 44 = .ok (.iload_n 1, 1) := by decide +kernel
theorem dX8_rumour_45 : decode cX8_rumour 45 = .ok (.ishl, 1) := by decide +kernel
theorem dX8_rumour_46 : decode cX8_rumour 46 = .ok (.putfield 140, 3) := by decide +kernel
theorem dX8_rumour_49 : decode cX8_rumour 49 = .ok (.aload_n 0, 1) := by decide +kernel
theorem dX8_rumour_50 : decode cX8_rumour 50 = .ok (.iload_n 3, 1) := by decide +kernel
theorem dX8_rumour_51 : decode cX8_rumour 51 = .ok (.invokevirtual 245, 3) := by decide +kernel
theorem dX8_rumour_54 : decode cX8_rumour 54 = .ok (.iload 4, 2) := by decide +kernel
theorem dX8_rumour_56 : decode cX8_rumour 56 = .ok (.ifCond .ne 10, 3) := by decide +kernel
theorem dX8_rumour_59 : decode cX8_rumour 59 = .ok (.aload_n 0, 1) := by decide +kernel
theorem dX8_rumour_60 : decode cX8_rumour 60 = .ok (.getfield 140, 3) := by decide +kernel
theorem dX8_rumour_63 : decode cX8_rumour 63 = .ok (.goto 12, 3) := by decide +kernel
theorem dX8_rumour_66 : decode cX8_rumour 66 = .ok (.aload_n 0, 1) := by decide +kernel
theorem dX8_rumour_67 : decode cX8_rumour 67 = .ok (.aload_n 0, 1) := by decide +kernel
theorem dX8_rumour_68 : decode cX8_rumour 68 = .ok (.getfield 37, 3) := by decide +kernel
theorem dX8_rumour_71 : decode cX8_rumour 71 = .ok (.iload_n 2, 1) := by decide +kernel
theorem dX8_rumour_72 : decode cX8_rumour 72 = .ok (.invokevirtual 196, 3) := by decide +kernel
theorem dX8_rumour_75 : decode cX8_rumour 75 = .ok (.ireturn, 1) := by decide +kernel
theorem dX8_enter_0 : decode cX8_enter 0 = .ok (.aload_n 0, 1) := by decide +kernel
theorem dX8_enter_1 : decode cX8_enter 1 = .ok (.iload_n 1, 1) := by decide +kernel
theorem dX8_enter_2 : decode cX8_enter 2 = .ok (.invokevirtual 222, 3) := by decide +kernel
theorem dX8_enter_5 : decode cX8_enter 5 = .ok (.ifCond .eq 27, 3) := by decide +kernel
theorem dX8_enter_8 : decode cX8_enter 8 = .ok (.iload_n 2, 1) := by decide +kernel
theorem dX8_enter_9 : decode cX8_enter 9 = .ok (.i2l, 1) := by decide +kernel
theorem dX8_enter_10 : decode cX8_enter 10 = .ok (.lconst 0, 1) := by decide +kernel
theorem dX8_enter_11 : decode cX8_enter 11 = .ok (.ldc2_w 240, 3) := by decide +kernel
theorem dX8_enter_14 : decode cX8_enter 14 = .ok (.invokestatic 60, 3) := by decide +kernel
theorem dX8_enter_17 : decode cX8_enter 17 = .ok (.ifCond .eq 15, 3) := by decide +kernel
theorem dX8_enter_20 : decode cX8_enter 20 = .ok (.iload_n 3, 1) := by decide +kernel
theorem dX8_enter_21 : decode cX8_enter 21 = .ok (.i2l, 1) := by decide +kernel
theorem dX8_enter_22 : decode cX8_enter 22 = .ok (.lconst 1, 1) := by decide +kernel
theorem dX8_enter_23 : decode cX8_enter 23 = .ok (.ldc2_w 262, 3) := by decide +kernel
theorem dX8_enter_26 : decode cX8_enter 26 = .ok (.invokestatic 60, 3) := by decide +kernel
theorem dX8_enter_29 : decode cX8_enter 29 = .ok (.ifCond .ne 5, 3) := by decide +kernel
theorem dX8_enter_32 : decode cX8_enter 32 = .ok (.iconst (-1), 1) := by decide +kernel
theorem dX8_enter_33 : decode cX8_enter 33 = .ok (.ireturn, 1) := by decide +kernel
theorem dX8_enter_34 : decode cX8_enter 34 = .ok (.aload_n 0, 1) := by decide +kernel
theorem dX8_enter_35 : decode cX8_enter 35 = .ok (.getfield 113, 3) := by decide +kernel
theorem dX8_enter_38 : decode cX8_enter 38 = .ok (.bipush 8, 2) := by decide +kernel
theorem dX8_enter_40 : decode cX8_enter 40 = .ok (.if_icmp .ne 6, 3) := by decide +kernel
theorem dX8_enter_43 : decode cX8_enter 43 = .ok (.bipush (-3), 2) := by decide +kernel
theorem dX8_enter_45 : decode cX8_enter 45 = .ok (.ireturn, 1) := by decide +kernel
theorem dX8_enter_46 : decode cX8_enter 46 = .ok (.aload_n 0, 1) := by decide +kernel
theorem dX8_enter_47 : decode cX8_enter 47 = .ok (.getfield 28, 3) := by decide +kernel
theorem dX8_enter_50 : decode cX8_enter 50 = .ok (.iconst 4, 1) := by decide +kernel
theorem dX8_enter_51 : decode cX8_enter 51 = .ok (.aload_n 0, 1) := by decide +kernel
theorem dX8_enter_52 : decode cX8_enter 52 = .ok (.getfield 113, 3) := by decide +kernel
theorem dX8_enter_55 : decode cX8_enter 55 = .ok (.imul, 1) := by decide +kernel
theorem dX8_enter_56 : decode cX8_enter 56 = .ok (.iload_n 1, 1) := by decide +kernel
theorem dX8_enter_57 : decode cX8_enter 57 = .ok (.iastore, 1) := by decide +kernel
theorem dX8_enter_58 : decode cX8_enter 58 = .ok (.aload_n 0, 1) := by decide +kernel
theorem dX8_enter_59 : decode cX8_enter 59 = .ok (.getfield 28, 3) := by decide +kernel
theorem dX8_enter_62 : decode cX8_enter 62 = .ok (.iconst 4, 1) := by decide +kernel
theorem dX8_enter_63 : decode cX8_enter 63 = .ok (.aload_n 0, 1) := by decide +kernel
theorem dX8_enter_64 : decode cX8_enter 64 = .ok (.getfield 113, 3) := by decide +kernel
theorem dX8_enter_67 : decode cX8_enter 67 = .ok (.imul, 1) := by decide +kernel
theorem dX8_enter_68 : decode cX8_enter 68 = .ok (.iconst 1, 1) := by decide +kernel
theorem dX8_enter_69 : decode cX8_enter 69 = .ok (.iadd, 1) := by decide +kernel
theorem dX8_enter_70 : decode cX8_enter 70 = .ok (.iload_n 2, 1) := by decide +kernel
theorem dX8_enter_71 : decode cX8_enter 71 = .ok (.iastore, 1) := by decide +kernel
theorem dX8_enter_72 : decode cX8_enter 72 = .ok (.aload_n 0, 1) := by decide +kernel
theorem dX8_enter_73 : decode cX8_enter 73 = .ok (.getfield 28, 3) := by decide +kernel
theorem dX8_enter_76 : decode cX8_enter 76 = .ok (.iconst 4, 1) := by decide +kernel
theorem dX8_enter_77 : decode cX8_enter 77 = .ok (.aload_n 0, 1) := by decide +kernel
theorem dX8_enter_78 : decode cX8_enter 78 = .ok (.getfield 113, 3) := by decide +kernel
theorem dX8_enter_81 : decode cX8_enter 81 = .ok (.imul, 1) := by decide +kernel
theorem dX8_enter_82 : decode cX8_enter 82 = .ok (.iconst 2, 1) := by decide +kernel
theorem dX8_enter_83 : decode cX8_enter 83 = .ok (.iadd, 1) := by decide +kernel
theorem dX8_enter_84 : decode cX8_enter 84 = .ok (.iload_n 3, 1) := by decide +kernel
theorem dX8_enter_85 : decode cX8_enter 85 = .ok (.iastore, 1) := by decide +kernel
theorem dX8_enter_86 : decode cX8_enter 86 = .ok (.aload_n 0, 1) := by decide +kernel
theorem dX8_enter_87 : decode cX8_enter 87 = .ok (.getfield 28, 3) := by decide +kernel
theorem dX8_enter_90 : decode cX8_enter 90 = .ok (.iconst 4, 1) := by decide +kernel
theorem dX8_enter_91 : decode cX8_enter 91 = .ok (.aload_n 0, 1) := by decide +kernel
theorem dX8_enter_92 : decode cX8_enter 92 = .ok (.getfield 113, 3) := by decide +kernel
theorem dX8_enter_95 : decode cX8_enter 95 = .ok (.imul, 1) := by decide +kernel
theorem dX8_enter_96 : decode cX8_enter 96 = .ok (.iconst 3, 1) := by decide +kernel
theorem dX8_enter_97 : decode cX8_enter 97 = .ok (.iadd, 1) := by decide +kernel
theorem dX8_enter_98 : decode cX8_enter 98 = .ok (.iload 4, 2) := by decide +kernel
theorem dX8_enter_100 : decode cX8_enter 100 = .ok (.ifCond .eq 7, 3) := by decide +kernel
theorem dX8_enter_103 : decode cX8_enter 103 = .ok (.iconst 1, 1) := by decide +kernel
theorem dX8_enter_104 : decode cX8_enter 104 = .ok (.goto 4, 3) := by decide +kernel
theorem dX8_enter_107 : decode cX8_enter 107 = .ok (.iconst 0, 1) := by decide +kernel
theorem dX8_enter_108 : decode cX8_enter 108 = .ok (.iastore, 1) := by decide +kernel
theorem dX8_enter_109 : decode cX8_enter 109 = .ok (.aload_n 0, 1) := by decide +kernel
theorem dX8_enter_110 : decode cX8_enter 110 = .ok (.dup, 1) := by decide +kernel
theorem dX8_enter_111 : decode cX8_enter 111 = .ok (.getfield 113, 3) := by decide +kernel
theorem dX8_enter_114 : decode cX8_enter 114 = .ok (.iconst 1, 1) := by decide +kernel
theorem dX8_enter_115 : decode cX8_enter 115 = .ok (.iadd, 1) := by decide +kernel
theorem dX8_enter_116 : decode cX8_enter 116 = .ok (.putfield 113, 3) := by decide +kernel
theorem dX8_enter_119 : decode cX8_enter 119 = .ok (.aload_n 0, 1) := by decide +kernel
theorem dX8_enter_120 : decode cX8_enter 120 = .ok (.getfield 113, 3) := by decide +kernel
theorem dX8_enter_123 : decode cX8_enter 123 = .ok (.ireturn, 1) := by decide +kernel
theorem dX8_close_0 : decode cX8_close 0 = .ok (.aload_n 0, 1) := by decide +kernel
theorem dX8_close_1 : decode cX8_close 1 = .ok (.getfield 113, 3) := by decide +kernel
theorem dX8_close_4 : decode cX8_close 4 = .ok (.istore_n 1, 1) := by decide +kernel
theorem dX8_close_5 : decode cX8_close 5 = .ok (.aload_n 0, 1) := by decide +kernel
theorem dX8_close_6 : decode cX8_close 6 = .ok (.iconst 0, 1) := by decide +kernel
theorem dX8_close_7 : decode cX8_close 7 = .ok (.putfield 113, 3) := by decide +kernel
theorem dX8_close_10 : decode cX8_close 10 = .ok (.iload_n 1, 1) := by decide +kernel
theorem dX8_close_11 : decode cX8_close 11 = .ok (.ireturn, 1) := by decide +kernel
theorem dX8_span_0 : decode cX8_span 0 = .ok (.aload_n 0, 1) := by decide +kernel
theorem dX8_span_1 : decode cX8_span 1 = .ok (.iload_n 1, 1) := by decide +kernel
theorem dX8_span_2 : decode cX8_span 2 = .ok (.invokevirtual 222, 3) := by decide +kernel
theorem dX8_span_5 : decode cX8_span 5 = .ok (.ifCond .eq 22, 3) := by decide +kernel
theorem dX8_span_8 : decode cX8_span 8 = .ok (.iload_n 2, 1) := by decide +kernel
theorem dX8_span_9 : decode cX8_span 9 = .ok (.i2l, 1) := by decide +kernel
theorem dX8_span_10 : decode cX8_span 10 = .ok (.lconst 0, 1) := by decide +kernel
theorem dX8_span_11 : decode cX8_span 11 = .ok (.ldc2_w 240, 3) := by decide +kernel
theorem dX8_span_14 : decode cX8_span 14 = .ok (.invokestatic 60, 3) := by decide +kernel
theorem dX8_span_17 : decode cX8_span 17 = .ok (.ifCond .eq 10, 3) := by decide +kernel
theorem dX8_span_20 : decode cX8_span 20 = .ok (.iload_n 3, 1) := by decide +kernel
theorem dX8_span_21 : decode cX8_span 21 = .ok (.invokestatic 259, 3) := by decide +kernel
theorem dX8_span_24 : decode cX8_span 24 = .ok (.ifCond .ne 5, 3) := by decide +kernel
theorem dX8_span_27 : decode cX8_span 27 = .ok (.iconst (-1), 1) := by decide +kernel
theorem dX8_span_28 : decode cX8_span 28 = .ok (.ireturn, 1) := by decide +kernel
theorem dX8_span_29 : decode cX8_span 29 = .ok (.iconst 0, 1) := by decide +kernel
theorem dX8_span_30 : decode cX8_span 30 = .ok (.istore 4, 2) := by decide +kernel
theorem dX8_span_32 : decode cX8_span 32 = .ok (.bipush 99, 2) := by decide +kernel
theorem dX8_span_34 : decode cX8_span 34 = .ok (.istore 5, 2) := by decide +kernel
theorem dX8_span_36 : decode cX8_span 36 = .ok (.iconst 0, 1) := by decide +kernel
theorem dX8_span_37 : decode cX8_span 37 = .ok (.istore 6, 2) := by decide +kernel
theorem dX8_span_39 : decode cX8_span 39 = .ok (.iload 6, 2) := by decide +kernel
theorem dX8_span_41 : decode cX8_span 41 = .ok (.aload_n 0, 1) := by decide +kernel
theorem dX8_span_42 : decode cX8_span 42 = .ok (.getfield 113, 3) := by decide +kernel
theorem dX8_span_45 : decode cX8_span 45 = .ok (.if_icmp .ge 104, 3) := by decide +kernel
theorem dX8_span_48 : decode cX8_span 48 = .ok (.aload_n 0, 1) := by decide +kernel
theorem dX8_span_49 : decode cX8_span 49 = .ok (.getfield 28, 3) := by decide +kernel
theorem dX8_span_52 : decode cX8_span 52 = .ok (.iconst 4, 1) := by decide +kernel
theorem dX8_span_53 : decode cX8_span 53 = .ok (.iload 6, 2) := by decide +kernel
theorem dX8_span_55 : decode cX8_span 55 = .ok (.imul, 1) := by decide +kernel
theorem dX8_span_56 : decode cX8_span 56 = .ok (.iaload, 1) := by decide +kernel
theorem dX8_span_57 : decode cX8_span 57 = .ok (.iload_n 1, 1) := by decide +kernel
theorem dX8_span_58 : decode cX8_span 58 = .ok (.if_icmp .ne 85, 3) := by decide +kernel
theorem dX8_span_61 : decode cX8_span 61 = .ok (.aload_n 0, 1) := by decide +kernel
theorem dX8_span_62 : decode cX8_span 62 = .ok (.getfield 28, 3) := by decide +kernel
theorem dX8_span_65 : decode cX8_span 65 = .ok (.iconst 4, 1) := by decide +kernel
theorem dX8_span_66 : decode cX8_span 66 = .ok (.iload 6, 2) := by decide +kernel
theorem dX8_span_68 : decode cX8_span 68 = .ok (.imul, 1) := by decide +kernel
theorem dX8_span_69 : decode cX8_span 69 = .ok (.iconst 1, 1) := by decide +kernel
theorem dX8_span_70 : decode cX8_span 70 = .ok (.iadd, 1) := by decide +kernel
theorem dX8_span_71 : decode cX8_span 71 = .ok (.iaload, 1) := by decide +kernel
theorem dX8_span_72 : decode cX8_span 72 = .ok (.iload_n 2, 1) := by decide +kernel
theorem dX8_span_73 : decode cX8_span 73 = .ok (.if_icmp .ne 70, 3) := by decide +kernel
theorem dX8_span_76 : decode cX8_span 76 = .ok (.aload_n 0, 1) := by decide +kernel
theorem dX8_span_77 : decode cX8_span 77 = .ok (.getfield 28, 3) := by decide +kernel
theorem dX8_span_80 : decode cX8_span 80 = .ok (.iconst 4, 1) := by decide +kernel
theorem dX8_span_81 : decode cX8_span 81 = .ok (.iload 6, 2) := by decide +kernel
theorem dX8_span_83 : decode cX8_span 83 = .ok (.imul, 1) := by decide +kernel
theorem dX8_span_84 : decode cX8_span 84 = .ok (.iconst 2, 1) := by decide +kernel
theorem dX8_span_85 : decode cX8_span 85 = .ok (.iadd, 1) := by decide +kernel
theorem dX8_span_86 : decode cX8_span 86 = .ok (.iaload, 1) := by decide +kernel
theorem dX8_span_87 : decode cX8_span 87 = .ok (.istore 7, 2) := by decide +kernel
theorem dX8_span_89 : decode cX8_span 89 = .ok (.aload_n 0, 1) := by decide +kernel
theorem dX8_span_90 : decode cX8_span 90 = .ok (.getfield 28, 3) := by decide +kernel
theorem dX8_span_93 : decode cX8_span 93 = .ok (.iconst 4, 1) := by decide +kernel
theorem dX8_span_94 : decode cX8_span 94 = .ok (.iload 6, 2) := by decide +kernel
theorem dX8_span_96 : decode cX8_span 96 = .ok (.imul, 1) := by decide +kernel
theorem dX8_span_97 : decode cX8_span 97 = .ok (.iconst 3, 1) := by decide +kernel
theorem dX8_span_98 : decode cX8_span 98 = .ok (.iadd, 1) := by decide +kernel
theorem dX8_span_99 : decode cX8_span 99 = .ok (.iaload, 1) := by decide +kernel
theorem dX8_span_100 : decode cX8_span 100 = .ok (.iconst 1, 1) := by decide +kernel
theorem dX8_span_101 : decode cX8_span 101 = .ok (.if_icmp .ne 22, 3) := by decide +kernel
theorem dX8_span_104 : decode cX8_span 104 = .ok (.iload 7, 2) := by decide +kernel
theorem dX8_span_106 : decode cX8_span 106 = .ok (.iload 4, 2) := by decide +kernel
theorem dX8_span_108 : decode cX8_span 108 = .ok (.if_icmp .le 8, 3) := by decide +kernel
theorem dX8_span_111 : decode cX8_span 111 = .ok (.iload 7, 2) := by decide +kernel
theorem dX8_span_113 : decode cX8_span 113 = .ok (.goto 5, 3) := by decide +kernel
theorem dX8_span_116 : decode cX8_span 116 = .ok (.iload 4, 2) := by decide +kernel
theorem dX8_span_118 : decode cX8_span 118 = .ok (.istore 4, 2) := by decide +kernel
theorem dX8_span_120 : decode cX8_span 120 = .ok (.goto 23, 3) := by decide +kernel
theorem dX8_span_123 : decode cX8_span 123 = .ok (.iload 7, 2) := by decide +kernel
theorem dX8_span_125 : decode cX8_span 125 = .ok (.iconst 1, 1) := by decide +kernel
theorem dX8_span_126 : decode cX8_span 126 = .ok (.isub, 1) := by decide +kernel
theorem dX8_span_127 : decode cX8_span 127 = .ok (.iload 5, 2) := by decide +kernel
theorem dX8_span_129 : decode cX8_span 129 = .ok (.if_icmp .ge 10, 3) := by decide +kernel
theorem dX8_span_132 : decode cX8_span 132 = .ok (.iload 7, 2) := by decide +kernel
theorem dX8_span_134 : decode cX8_span 134 = .ok (.iconst 1, 1) := by decide +kernel
theorem dX8_span_135 : decode cX8_span 135 = .ok (.isub, 1) := by decide +kernel
theorem dX8_span_136 : decode cX8_span 136 = .ok (.goto 5, 3) := by decide +kernel
theorem dX8_span_139 : decode cX8_span 139 = .ok (.iload 5, 2) := by decide +kernel
theorem dX8_span_141 : decode cX8_span 141 = .ok (.istore 5, 2) := by decide +kernel
theorem dX8_span_143 : decode cX8_span 143 = .ok (.iinc 6 1, 3) := by decide +kernel
theorem dX8_span_146 : decode cX8_span 146 = .ok (.goto (-107), 3) := by decide +kernel
theorem dX8_span_149 : decode cX8_span 149 = .ok (.iload 4, 2) := by decide +kernel
theorem dX8_span_151 : decode cX8_span 151 = .ok (.iload 5, 2) := by decide +kernel
theorem dX8_span_153 : decode cX8_span 153 = .ok (.if_icmp .le 8, 3) := by decide +kernel
theorem dX8_span_156 : decode cX8_span 156 = .ok (.bipush (-4), 2) := by decide +kernel
theorem dX8_span_158 : decode cX8_span 158 = .ok (.goto 14, 3) := by decide +kernel
theorem dX8_span_161 : decode cX8_span 161 = .ok (.iload_n 3, 1) := by decide +kernel
theorem dX8_span_162 : decode cX8_span 162 = .ok (.ifCond .ne 8, 3) := by decide +kernel
theorem dX8_span_165 : decode cX8_span 165 = .ok (.iload 4, 2) := by decide +kernel
theorem dX8_span_167 : decode cX8_span 167 = .ok (.goto 5, 3) := by decide +kernel
theorem dX8_span_170 : decode cX8_span 170 = .ok (.iload 5, 2) := by decide +kernel
theorem dX8_span_172 : decode cX8_span 172 = .ok (.ireturn, 1) := by decide +kernel
theorem dX8_cart_0 : decode cX8_cart 0 = .ok (.aload_n 0, 1) := by decide +kernel
theorem dX8_cart_1 : decode cX8_cart 1 = .ok (.iload_n 1, 1) := by decide +kernel
theorem dX8_cart_2 : decode cX8_cart 2 = .ok (.invokevirtual 222, 3) := by decide +kernel
theorem dX8_cart_5 : decode cX8_cart 5 = .ok (.ifCond .eq 23, 3) := by decide +kernel
theorem dX8_cart_8 : decode cX8_cart 8 = .ok (.aload_n 0, 1) := by decide +kernel
theorem dX8_cart_9 : decode cX8_cart 9 = .ok (.iload_n 2, 1) := by decide +kernel
theorem dX8_cart_10 : decode cX8_cart 10 = .ok (.invokevirtual 222, 3) := by decide +kernel
theorem dX8_cart_13 : decode cX8_cart 13 = .ok (.ifCond .eq 15, 3) := by decide +kernel
theorem dX8_cart_16 : decode cX8_cart 16 = .ok (.iload_n 1, 1) := by decide +kernel
theorem dX8_cart_17 : decode cX8_cart 17 = .ok (.iload_n 2, 1) := by decide +kernel
theorem dX8_cart_18 : decode cX8_cart 18 = .ok (.if_icmp .eq 10, 3) := by decide +kernel
theorem dX8_cart_21 : decode cX8_cart 21 = .ok (.iload_n 3, 1) := by decide +kernel
theorem dX8_cart_22 : decode cX8_cart 22 = .ok (.invokestatic 259, 3) := by decide +kernel
theorem dX8_cart_25 : decode cX8_cart 25 = .ok (.ifCond .ne 5, 3) := by decide +kernel
theorem dX8_cart_28 : decode cX8_cart 28 = .ok (.iconst (-1), 1) := by decide +kernel
theorem dX8_cart_29 : decode cX8_cart 29 = .ok (.ireturn, 1) := by decide +kernel
theorem dX8_cart_30 : decode cX8_cart 30 = .ok (.aload_n 0, 1) := by decide +kernel
theorem dX8_cart_31 : decode cX8_cart 31 = .ok (.invokevirtual 227, 3) := by decide +kernel
theorem dX8_cart_34 : decode cX8_cart 34 = .ok (.iconst 0, 1) := by decide +kernel
theorem dX8_cart_35 : decode cX8_cart 35 = .ok (.istore 4, 2) := by decide +kernel
theorem dX8_cart_37 : decode cX8_cart 37 = .ok (.bipush (-4), 2) := by decide +kernel
theorem dX8_cart_39 : decode cX8_cart 39 = .ok (.istore 5, 2) := by decide +kernel
theorem dX8_cart_41 : decode cX8_cart 41 = .ok (.bipush 40, 2) := by decide +kernel
theorem dX8_cart_43 : decode cX8_cart 43 = .ok (.istore 6, 2) := by decide +kernel
theorem dX8_cart_45 : decode cX8_cart 45 = .ok (.iload 6, 2) := by decide +kernel
theorem dX8_cart_47 : decode cX8_cart 47 = .ok (.ifCond .le 64, 3) := by decide +kernel
theorem dX8_cart_50 : decode cX8_cart 50 = .ok (.iconst 2, 1) := by decide +kernel
theorem dX8_cart_51 : decode cX8_cart 51 = .ok (.iload 6, 2) := by decide +kernel
theorem dX8_cart_53 : decode cX8_cart 53 = .ok (.imul, 1) := by decide +kernel
theorem dX8_cart_54 : decode cX8_cart 54 = .ok (.aload_n 0, 1) := by decide +kernel
theorem dX8_cart_55 : decode cX8_cart 55 = .ok (.aload_n 0, 1) := by decide +kernel
theorem dX8_cart_56 : decode cX8_cart 56 = .ok (.getfield 19, 3) := by decide +kernel
theorem dX8_cart_59 : decode cX8_cart 59 = .ok (.iload_n 1, 1) := by decide +kernel
theorem dX8_cart_60 : decode cX8_cart 60 = .ok (.invokevirtual 196, 3) := by decide +kernel
theorem dX8_cart_63 : decode cX8_cart 63 = .ok (.if_icmp .gt 42, 3) := by decide +kernel
theorem dX8_cart_66 : decode cX8_cart 66 = .ok (.iconst 2, 1) := by decide +kernel
theorem dX8_cart_67 : decode cX8_cart 67 = .ok (.iload 6, 2) := by decide +kernel
theorem dX8_cart_69 : decode cX8_cart 69 = .ok (.imul, 1) := by decide +kernel
theorem dX8_cart_70 : decode cX8_cart 70 = .ok (.aload_n 0, 1) := by decide +kernel
theorem dX8_cart_71 : decode cX8_cart 71 = .ok (.aload_n 0, 1) := by decide +kernel
theorem dX8_cart_72 : decode cX8_cart 72 = .ok (.getfield 19, 3) := by decide +kernel
theorem dX8_cart_75 : decode cX8_cart 75 = .ok (.iload_n 2, 1) := by decide +kernel
theorem dX8_cart_76 : decode cX8_cart 76 = .ok (.invokevirtual 196, 3) := by decide +kernel
theorem dX8_cart_79 : decode cX8_cart 79 = .ok (.if_icmp .le 26, 3) := by decide +kernel
theorem dX8_cart_82 : decode cX8_cart 82 = .ok (.iconst 2, 1) := by decide +kernel
theorem dX8_cart_83 : decode cX8_cart 83 = .ok (.iload 6, 2) := by decide +kernel
theorem dX8_cart_85 : decode cX8_cart 85 = .ok (.imul, 1) := by decide +kernel
theorem dX8_cart_86 : decode cX8_cart 86 = .ok (.aload_n 0, 1) := by decide +kernel
theorem dX8_cart_87 : decode cX8_cart 87 = .ok (.aload_n 0, 1) := by decide +kernel
theorem dX8_cart_88 : decode cX8_cart 88 = .ok (.getfield 19, 3) := by decide +kernel
theorem dX8_cart_91 : decode cX8_cart 91 = .ok (.iload_n 2, 1) := by decide +kernel
theorem dX8_cart_92 : decode cX8_cart 92 = .ok (.invokevirtual 162, 3) := by decide +kernel
theorem dX8_cart_95 : decode cX8_cart 95 = .ok (.if_icmp .gt 10, 3) := by decide +kernel
theorem dX8_cart_98 : decode cX8_cart 98 = .ok (.iinc 4 1, 3) := by decide +kernel
theorem dX8_cart_101 : decode cX8_cart 101 = .ok (.iload 6, 2) := by decide +kernel
theorem dX8_cart_103 : decode cX8_cart 103 = .ok (.istore 5, 2) := by decide +kernel
theorem dX8_cart_105 : decode cX8_cart 105 = .ok (.iinc 6 (-1), 3) := by decide +kernel
theorem dX8_cart_108 : decode cX8_cart 108 = .ok (.goto (-63), 3) := by decide +kernel
theorem dX8_cart_111 : decode cX8_cart 111 = .ok (.iload_n 3, 1) := by decide +kernel
theorem dX8_cart_112 : decode cX8_cart 112 = .ok (.ifCond .ne 8, 3) := by decide +kernel
theorem dX8_cart_115 : decode cX8_cart 115 = .ok (.iload 4, 2) := by decide +kernel
theorem dX8_cart_117 : decode cX8_cart 117 = .ok (.goto 5, 3) := by decide +kernel
theorem dX8_cart_120 : decode cX8_cart 120 = .ok (.iload 5, 2) := by decide +kernel
theorem dX8_cart_122 : decode cX8_cart 122 = .ok (.ireturn, 1) := by decide +kernel
theorem dX8_year_0 : decode cX8_year 0 = .ok (.iload_n 1, 1) := by decide +kernel
theorem dX8_year_1 : decode cX8_year 1 = .ok (.i2l, 1) := by decide +kernel
theorem dX8_year_2 : decode cX8_year 2 = .ok (.lconst 0, 1) := by decide +kernel
theorem dX8_year_3 : decode cX8_year 3 = .ok (.ldc2_w 264, 3) := by decide +kernel
theorem dX8_year_6 : decode cX8_year 6 = .ok (.invokestatic 60, 3) := by decide +kernel
theorem dX8_year_9 : decode cX8_year 9 = .ok (.ifCond .eq 17, 3) := by decide +kernel
theorem dX8_year_12 : decode cX8_year 12 = .ok (.iload_n 2, 1) := by decide +kernel
theorem dX8_year_13 : decode cX8_year 13 = .ok (.invokestatic 251, 3) := by decide +kernel
theorem dX8_year_16 : decode cX8_year 16 = .ok (.ifCond .eq 10, 3) := by decide +kernel
theorem dX8_year_19 : decode cX8_year 19 = .ok (.iload_n 3, 1) := by decide +kernel
theorem dX8_year_20 : decode cX8_year 20 = .ok (.invokestatic 259, 3) := by decide +kernel
theorem dX8_year_23 : decode cX8_year 23 = .ok (.ifCond .ne 5, 3) := by decide +kernel
theorem dX8_year_26 : decode cX8_year 26 = .ok (.iconst (-1), 1) := by decide +kernel
theorem dX8_year_27 : decode cX8_year 27 = .ok (.ireturn, 1) := by decide +kernel
theorem dX8_year_28 : decode cX8_year 28 = .ok (.aload_n 0, 1) := by decide +kernel
theorem dX8_year_29 : decode cX8_year 29 = .ok (.invokevirtual 227, 3) := by decide +kernel
theorem dX8_year_32 : decode cX8_year 32 = .ok (.aload_n 0, 1) := by decide +kernel
theorem dX8_year_33 : decode cX8_year 33 = .ok (.iload_n 1, 1) := by decide +kernel
theorem dX8_year_34 : decode cX8_year 34 = .ok (.putfield 134, 3) := by decide +kernel
theorem dX8_year_37 : decode cX8_year 37 = .ok (.aload_n 0, 1) := by decide +kernel
theorem dX8_year_38 : decode cX8_year 38 = .ok (.iload_n 2, 1) := by decide +kernel
theorem dX8_year_39 : decode cX8_year 39 = .ok (.invokevirtual 245, 3) := by decide +kernel
theorem dX8_year_42 : decode cX8_year 42 = .ok (.iload_n 3, 1) := by decide +kernel
theorem dX8_year_43 : decode cX8_year 43 = .ok (.ifCond .ne 10, 3) := by decide +kernel
theorem dX8_year_46 : decode cX8_year 46 = .ok (.aload_n 0, 1) := by decide +kernel
theorem dX8_year_47 : decode cX8_year 47 = .ok (.getfield 146, 3) := by decide +kernel
theorem dX8_year_50 : decode cX8_year 50 = .ok (.goto 7, 3) := by decide +kernel
theorem dX8_year_53 : decode cX8_year 53 = .ok (.aload_n 0, 1) := by decide +kernel
theorem dX8_year_54 : decode cX8_year 54 = .ok (.getfield 149, 3) := by decide +kernel
theorem dX8_year_57 : decode cX8_year 57 = .ok (.ireturn, 1) := by decide +kernel
theorem dX8_keep_0 : decode cX8_keep 0 = .ok (.aload_n 0, 1) := by decide +kernel
theorem dX8_keep_1 : decode cX8_keep 1 = .ok (.getfield 119, 3) := by decide +kernel
theorem dX8_keep_4 : decode cX8_keep 4 = .ok (.iconst 2, 1) := by decide +kernel
theorem dX8_keep_5 : decode cX8_keep 5 = .ok (.if_icmp .ne 6, 3) := by decide +kernel
theorem dX8_keep_8 : decode cX8_keep 8 = .ok (.bipush (-3), 2) := by decide +kernel
theorem dX8_keep_10 : decode cX8_keep 10 = .ok (.ireturn, 1) := by decide +kernel
theorem dX8_keep_11 : decode cX8_keep 11 = .ok (.aload_n 0, 1) := by decide +kernel
theorem dX8_keep_12 : decode cX8_keep 12 = .ok (.getfield 19, 3) := by decide +kernel
theorem dX8_keep_15 : decode cX8_keep 15 = .ok (.iconst 0, 1) := by decide +kernel
theorem dX8_keep_16 : decode cX8_keep 16 = .ok (.aload_n 0, 1) := by decide +kernel
theorem dX8_keep_17 : decode cX8_keep 17 = .ok (.getfield 25, 3) := by decide +kernel
theorem dX8_keep_20 : decode cX8_keep 20 = .ok (.sipush 317, 3) := by decide +kernel
theorem dX8_keep_23 : decode cX8_keep 23 = .ok (.aload_n 0, 1) := by decide +kernel
theorem dX8_keep_24 : decode cX8_keep 24 = .ok (.getfield 119, 3) := by decide +kernel
theorem dX8_keep_27 : decode cX8_keep 27 = .ok (.imul, 1) := by decide +kernel
theorem dX8_keep_28 : decode cX8_keep 28 = .ok (.invokestatic 215, 3) := by decide +kernel
theorem dX8_keep_31 : decode cX8_keep 31 = .ok (.aload_n 0, 1) := by decide +kernel
theorem dX8_keep_32 : decode cX8_keep 32 = .ok (.dup, 1) := by decide +kernel
theorem dX8_keep_33 : decode cX8_keep 33 = .ok (.getfield 119, 3) := by decide +kernel
theorem dX8_keep_36 : decode cX8_keep 36 = .ok (.iconst 1, 1) := by decide +kernel
theorem dX8_keep_37 : decode cX8_keep 37 = .ok (.iadd, 1) := by decide +kernel
theorem dX8_keep_38 : decode cX8_keep 38 = .ok (.putfield 119, 3) := by decide +kernel
theorem dX8_keep_41 : decode cX8_keep 41 = .ok (.aload_n 0, 1) := by decide +kernel
theorem dX8_keep_42 : decode cX8_keep 42 = .ok (.getfield 119, 3) := by decide +kernel
theorem dX8_keep_45 : decode cX8_keep 45 = .ok (.ireturn, 1) := by decide +kernel
theorem dX8_back_0 : decode cX8_back 0 = .ok (.aload_n 0, 1) := by decide +kernel
theorem dX8_back_1 : decode cX8_back 1 = .ok (.getfield 119, 3) := by decide +kernel
theorem dX8_back_4 : decode cX8_back 4 = .ok (.ifCond .ne 6, 3) := by decide +kernel
theorem dX8_back_7 : decode cX8_back 7 = .ok (.bipush (-2), 2) := by decide +kernel
theorem dX8_back_9 : decode cX8_back 9 = .ok (.ireturn, 1) := by decide +kernel
theorem dX8_back_10 : decode cX8_back 10 = .ok (.aload_n 0, 1) := by decide +kernel
theorem dX8_back_11 : decode cX8_back 11 = .ok (.dup, 1) := by decide +kernel
theorem dX8_back_12 : decode cX8_back 12 = .ok (.getfield 119, 3) := by decide +kernel
theorem dX8_back_15 : decode cX8_back 15 = .ok (.iconst 1, 1) := by decide +kernel
theorem dX8_back_16 : decode cX8_back 16 = .ok (.isub, 1) := by decide +kernel
theorem dX8_back_17 : decode cX8_back 17 = .ok (.putfield 119, 3) := by decide +kernel
theorem dX8_back_20 : decode cX8_back 20 = .ok (.aload_n 0, 1) := by decide +kernel
theorem dX8_back_21 : decode cX8_back 21 = .ok (.getfield 25, 3) := by decide +kernel
theorem dX8_back_24 : decode cX8_back 24 = .ok (.sipush 317, 3) := by decide +kernel
theorem dX8_back_27 : decode cX8_back 27 = .ok (.aload_n 0, 1) := by decide +kernel
theorem dX8_back_28 : decode cX8_back 28 = .ok (.getfield 119, 3) := by decide +kernel
theorem dX8_back_31 : decode cX8_back 31 = .ok (.imul, 1) := by decide +kernel
theorem dX8_back_32 : decode cX8_back 32 = .ok (.aload_n 0, 1) := by decide +kernel
theorem dX8_back_33 : decode cX8_back 33 = .ok (.getfield 19, 3) := by decide +kernel
theorem dX8_back_36 : decode cX8_back 36 = .ok (.iconst 0, 1) := by decide +kernel
theorem dX8_back_37 : decode cX8_back 37 = .ok (.invokestatic 215, 3) := by decide +kernel
theorem dX8_back_40 : decode cX8_back 40 = .ok (.aload_n 0, 1) := by decide +kernel
theorem dX8_back_41 : decode cX8_back 41 = .ok (.iconst 0, 1) := by decide +kernel
theorem dX8_back_42 : decode cX8_back 42 = .ok (.putfield 116, 3) := by decide +kernel
theorem dX8_back_45 : decode cX8_back 45 = .ok (.aload_n 0, 1) := by decide +kernel
theorem dX8_back_46 : decode cX8_back 46 = .ok (.getfield 119, 3) := by decide +kernel
theorem dX8_back_49 : decode cX8_back 49 = .ok (.ireturn, 1) := by decide +kernel
theorem dX8_count_0 : decode cX8_count 0 = .ok (.iconst 0, 1) := by decide +kernel
theorem dX8_count_1 : decode cX8_count 1 = .ok (.istore_n 2, 1) := by decide +kernel
theorem dX8_count_2 : decode cX8_count 2 = .ok (.iconst 0, 1) := by decide +kernel
theorem dX8_count_3 : decode cX8_count 3 = .ok (.istore_n 3, 1) := by decide +kernel
theorem dX8_count_4 : decode cX8_count 4 = .ok (.iload_n 3, 1) := by decide +kernel
theorem dX8_count_5 : decode cX8_count 5 = .ok (.aload_n 0, 1) := by decide +kernel
theorem dX8_count_6 : decode cX8_count 6 = .ok (.getfield 7, 3) := by decide +kernel
theorem dX8_count_9 : decode cX8_count 9 = .ok (.iconst 2, 1) := by decide +kernel
theorem dX8_count_10 : decode cX8_count 10 = .ok (.iaload, 1) := by decide +kernel
theorem dX8_count_11 : decode cX8_count 11 = .ok (.if_icmp .ge 29, 3) := by decide +kernel
theorem dX8_count_14 : decode cX8_count 14 = .ok (.iload_n 2, 1) := by decide +kernel
theorem dX8_count_15 : decode cX8_count 15 = .ok (.aload_n 0, 1) := by decide +kernel
theorem dX8_count_16 : decode cX8_count 16 = .ok (.getfield 19, 3) := by decide +kernel
theorem dX8_count_19 : decode cX8_count 19 = .ok (.bipush 19, 2) := by decide +kernel
theorem dX8_count_21 : decode cX8_count 21 = .ok (.iload_n 3, 1) := by decide +kernel
theorem dX8_count_22 : decode cX8_count 22 = .ok (.iadd, 1) := by decide +kernel
theorem dX8_count_23 : decode cX8_count 23 = .ok (.iaload, 1) := by decide +kernel
theorem dX8_count_24 : decode cX8_count 24 = .ok (.ifCond .ge 7, 3) := by decide +kernel
theorem dX8_count_27 : decode cX8_count 27 = .ok (.iconst 1, 1) := by decide +kernel
theorem dX8_count_28 : decode cX8_count 28 = .ok (.goto 4, 3) := by decide +kernel
theorem dX8_count_31 : decode cX8_count 31 = .ok (.iconst 0, 1) := by decide +kernel
theorem dX8_count_32 : decode cX8_count 32 = .ok (.iadd, 1) := by decide +kernel
theorem dX8_count_33 : decode cX8_count 33 = .ok (.istore_n 2, 1) := by decide +kernel
theorem dX8_count_34 : decode cX8_count 34 = .ok (.iinc 3 1, 3) := by decide +kernel
theorem dX8_count_37 : decode cX8_count 37 = .ok (.goto (-33), 3) := by decide +kernel
theorem dX8_count_40 : decode cX8_count 40 = .ok (.iload_n 1, 1) := by decide +kernel
theorem dX8_count_41 : decode cX8_count 41 = .ok (.tableswitch 91 0 9 #[55, 55, 55, 55, 62, 69, 71, 76, 81, 86], 55) := by decide +kernel
theorem dX8_count_96 : decode cX8_count 96 = .ok (.aload_n 0, 1) := by decide +kernel
theorem dX8_count_97 : decode cX8_count 97 = .ok (.getfield 7, 3) := by decide +kernel
theorem dX8_count_100 : decode cX8_count 100 = .ok (.iload_n 1, 1) := by decide +kernel
theorem dX8_count_101 : decode cX8_count 101 = .ok (.iaload, 1) := by decide +kernel
theorem dX8_count_102 : decode cX8_count 102 = .ok (.ireturn, 1) := by decide +kernel
theorem dX8_count_103 : decode cX8_count 103 = .ok (.aload_n 0, 1) := by decide +kernel
theorem dX8_count_104 : decode cX8_count 104 = .ok (.getfield 19, 3) := by decide +kernel
theorem dX8_count_107 : decode cX8_count 107 = .ok (.iconst 0, 1) := by decide +kernel
theorem dX8_count_108 : decode cX8_count 108 = .ok (.iaload, 1) := by decide +kernel
theorem dX8_count_109 : decode cX8_count 109 = .ok (.ireturn, 1) := by decide +kernel
theorem dX8_count_110 : decode cX8_count 110 = .ok (.iload_n 2, 1) := by decide +kernel
theorem dX8_count_111 : decode cX8_count 111 = .ok (.ireturn, 1) := by decide +kernel
theorem dX8_count_112 : decode cX8_count 112 = .ok (.aload_n 0, 1) := by decide +kernel
theorem dX8_count_113 : decode cX8_count 113 = .ok (.getfield 113, 3) := by decide +kernel
theorem dX8_count_116 : decode cX8_count 116 = .ok (.ireturn, 1) := by decide +kernel
theorem dX8_count_117 : decode cX8_count 117 = .ok (.aload_n 0, 1) := by decide +kernel
theorem dX8_count_118 : decode cX8_count 118 = .ok (.getfield 116, 3) := by decide +kernel
theorem dX8_count_121 : decode cX8_count 121 = .ok (.ireturn, 1) := by decide +kernel
theorem dX8_count_122 : decode cX8_count 122 = .ok (.aload_n 0, 1) := by decide +kernel
theorem dX8_count_123 : decode cX8_count 123 = .ok (.getfield 119, 3) := by decide +kernel
theorem dX8_count_126 : decode cX8_count 126 = .ok (.ireturn, 1) := by decide +kernel
theorem dX8_count_127 : decode cX8_count 127 = .ok (.aload_n 0, 1) := by decide +kernel
theorem dX8_count_128 : decode cX8_count 128 = .ok (.getfield 68, 3) := by decide +kernel
theorem dX8_count_131 : decode cX8_count 131 = .ok (.ireturn, 1) := by decide +kernel
theorem dX8_count_132 : decode cX8_count 132 = .ok (.iconst (-1), 1) := by decide +kernel
theorem dX8_count_133 : decode cX8_count 133 = .ok (.ireturn, 1) := by decide +kernel
