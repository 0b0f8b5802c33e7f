theorem dX8_init_0 : fet cX8_init 0 = some (.aload_n 0) := by decide +kernel
theorem dX8_init_1 : fet cX8_init 1 = some (.invokespecial 1) := by decide +kernel
theorem dX8_init_4 : fet cX8_init 4 = some (.aload_n 0) := by decide +kernel
theorem dX8_init_5 : fet cX8_init 5 = some (.bipush 65) := by decide +kernel
theorem dX8_init_7 : fet cX8_init 7 = some (.newarray .int) := by decide +kernel
theorem dX8_init_9 : fet cX8_init 9 = some (.putfield 7) := by decide +kernel
theorem dX8_init_12 : fet cX8_init 12 = some (.aload_n 0) := by decide +kernel
theorem dX8_init_13 : fet cX8_init 13 = some (.bipush 65) := by decide +kernel
theorem dX8_init_15 : fet cX8_init 15 = some (.newarray .int) := by decide +kernel
theorem dX8_init_17 : fet cX8_init 17 = some (.putfield 13) := by decide +kernel
theorem dX8_init_20 : fet cX8_init 20 = some (.aload_n 0) := by decide +kernel
theorem dX8_init_21 : fet cX8_init 21 = some (.sipush 200) := by decide +kernel
theorem dX8_init_24 : fet cX8_init 24 = some (.newarray .int) := by decide +kernel
theorem dX8_init_26 : fet cX8_init 26 = some (.putfield 16) := by decide +kernel
theorem dX8_init_29 : fet cX8_init 29 = some (.aload_n 0) := by decide +kernel
theorem dX8_init_30 : fet cX8_init 30 = some (.sipush 317) := by decide +kernel
theorem dX8_init_33 : fet cX8_init 33 = some (.newarray .int) := by decide +kernel
theorem dX8_init_35 : fet cX8_init 35 = some (.putfield 19) := by decide +kernel
theorem dX8_init_38 : fet cX8_init 38 = some (.aload_n 0) := by decide +kernel
theorem dX8_init_39 : fet cX8_init 39 = some (.sipush 2536) := by decide +kernel
theorem dX8_init_42 : fet cX8_init 42 = some (.newarray .int) := by decide +kernel
theorem dX8_init_44 : fet cX8_init 44 = some (.putfield 22) := by decide +kernel
theorem dX8_init_47 : fet cX8_init 47 = some (.aload_n 0) := by decide +kernel
theorem dX8_init_48 : fet cX8_init 48 = some (.sipush 634) := by decide +kernel
theorem dX8_init_51 : fet cX8_init 51 = some (.newarray .int) := by decide +kernel
theorem dX8_init_53 : fet cX8_init 53 = some (.putfield 25) := by decide +kernel
theorem dX8_init_56 : fet cX8_init 56 = some (.aload_n 0) := by decide +kernel
theorem dX8_init_57 : fet cX8_init 57 = some (.bipush 32) := by decide +kernel
theorem dX8_init_59 : fet cX8_init 59 = some (.newarray .int) := by decide +kernel
theorem dX8_init_61 : fet cX8_init 61 = some (.putfield 28) := by decide +kernel
theorem dX8_init_64 : fet cX8_init 64 = some (.aload_n 0) := by decide +kernel
theorem dX8_init_65 : fet cX8_init 65 = some (.iconst 5) := by decide +kernel
theorem dX8_init_66 : fet cX8_init 66 = some (.newarray .int) := by decide +kernel
theorem dX8_init_68 : fet cX8_init 68 = some (.putfield 31) := by decide +kernel
theorem dX8_init_71 : fet cX8_init 71 = some (.aload_n 0) := by decide +kernel
theorem dX8_init_72 : fet cX8_init 72 = some (.bipush 8) := by decide +kernel
theorem dX8_init_74 : fet cX8_init 74 = some (.newarray .int) := by decide +kernel
theorem dX8_init_76 : fet cX8_init 76 = some (.putfield 34) := by decide +kernel
theorem dX8_init_79 : fet cX8_init 79 = some (.aload_n 0) := by decide +kernel
theorem dX8_init_80 : fet cX8_init 80 = some (.sipush 317) := by decide +kernel
theorem dX8_init_83 : fet cX8_init 83 = some (.newarray .int) := by decide +kernel
theorem dX8_init_85 : fet cX8_init 85 = some (.putfield 37) := by decide +kernel
theorem dX8_init_88 : fet cX8_init 88 = some (.aload_n 0) := by decide +kernel
theorem dX8_init_89 : fet cX8_init 89 = some (.bipush 8) := by decide +kernel
theorem dX8_init_91 : fet cX8_init 91 = some (.newarray .int) := by decide +kernel
theorem dX8_init_93 : fet cX8_init 93 = some (.putfield 40) := by decide +kernel
theorem dX8_init_96 : fet cX8_init 96 = some (.aload_n 0) := by decide +kernel
theorem dX8_init_97 : fet cX8_init 97 = some (.bipush 8) := by decide +kernel
theorem dX8_init_99 : fet cX8_init 99 = some (.newarray .int) := by decide +kernel
theorem dX8_init_101 : fet cX8_init 101 = some (.putfield 43) := by decide +kernel
theorem dX8_init_104 : fet cX8_init 104 = some (.aload_n 0) := by decide +kernel
theorem dX8_init_105 : fet cX8_init 105 = some (.invokevirtual 46) := by decide +kernel
theorem dX8_init_108 : fet cX8_init 108 = some (.aload_n 0) := by decide +kernel
theorem dX8_init_109 : fet cX8_init 109 = some (.getfield 13) := by decide +kernel
theorem dX8_init_112 : fet cX8_init 112 = some (.iconst 0) := by decide +kernel
theorem dX8_init_113 : fet cX8_init 113 = some (.iconst 3) := by decide +kernel
theorem dX8_init_114 : fet cX8_init 114 = some (.iastore) := by decide +kernel
theorem dX8_init_115 : fet cX8_init 115 = some (.aload_n 0) := by decide +kernel
theorem dX8_init_116 : fet cX8_init 116 = some (.iconst 0) := by decide +kernel
theorem dX8_init_117 : fet cX8_init 117 = some (.iconst 1) := by decide +kernel
theorem dX8_init_118 : fet cX8_init 118 = some (.iconst 4) := by decide +kernel
theorem dX8_init_119 : fet cX8_init 119 = some (.invokevirtual 49) := by decide +kernel
theorem dX8_init_122 : fet cX8_init 122 = some (.aload_n 0) := by decide +kernel
theorem dX8_init_123 : fet cX8_init 123 = some (.iconst 1) := by decide +kernel
theorem dX8_init_124 : fet cX8_init 124 = some (.iconst 2) := by decide +kernel
theorem dX8_init_125 : fet cX8_init 125 = some (.iconst 5) := by decide +kernel
theorem dX8_init_126 : fet cX8_init 126 = some (.invokevirtual 49) := by decide +kernel
theorem dX8_init_129 : fet cX8_init 129 = some (.aload_n 0) := by decide +kernel
theorem dX8_init_130 : fet cX8_init 130 = some (.iconst 0) := by decide +kernel
theorem dX8_init_131 : fet cX8_init 131 = some (.iconst 2) := by decide +kernel
theorem dX8_init_132 : fet cX8_init 132 = some (.iconst 2) := by decide +kernel
theorem dX8_init_133 : fet cX8_init 133 = some (.invokevirtual 49) := by decide +kernel
theorem dX8_init_136 : fet cX8_init 136 = some (.aload_n 0) := by decide +kernel
theorem dX8_init_137 : fet cX8_init 137 = some (.iconst 0) := by decide +kernel
theorem dX8_init_138 : fet cX8_init 138 = some (.iconst 2) := by decide +kernel
theorem dX8_init_139 : fet cX8_init 139 = some (.iconst 3) := by decide +kernel
theorem dX8_init_140 : fet cX8_init 140 = some (.iconst 2) := by decide +kernel
theorem dX8_init_141 : fet cX8_init 141 = some (.iconst 0) := by decide +kernel
theorem dX8_init_142 : fet cX8_init 142 = some (.invokevirtual 53) := by decide +kernel
theorem dX8_init_145 : fet cX8_init 145 = some (.aload_n 0) := by decide +kernel
theorem dX8_init_146 : fet cX8_init 146 = some (.iconst 2) := by decide +kernel
theorem dX8_init_147 : fet cX8_init 147 = some (.iconst 0) := by decide +kernel
theorem dX8_init_148 : fet cX8_init 148 = some (.iconst 2) := by decide +kernel
theorem dX8_init_149 : fet cX8_init 149 = some (.iconst 1) := by decide +kernel
theorem dX8_init_150 : fet cX8_init 150 = some (.iconst 2) := by decide +kernel
theorem dX8_init_151 : fet cX8_init 151 = some (.invokevirtual 53) := by decide +kernel
theorem dX8_init_154 : fet cX8_init 154 = some (.aload_n 0) := by decide +kernel
theorem dX8_init_155 : fet cX8_init 155 = some (.invokevirtual 57) := by decide +kernel
theorem dX8_init_158 : fet cX8_init 158 = some (.return_) := by decide +kernel
theorem dX8_in_0 : fet cX8_in 0 = some (.lload_n 0) := by decide +kernel
theorem dX8_in_1 : fet cX8_in 1 = some (.lload_n 2) := by decide +kernel
theorem dX8_in_2 : fet cX8_in 2 = some (.lcmp) := by decide +kernel
theorem dX8_in_3 : fet cX8_in 3 = some (.ifCond .lt 14) := by decide +kernel
theorem dX8_in_6 : fet cX8_in 6 = some (.lload_n 0) := by decide +kernel
theorem dX8_in_7 : fet cX8_in 7 = some (.lload 4) := by decide +kernel
theorem dX8_in_9 : fet cX8_in 9 = some (.lcmp) := by decide +kernel
theorem dX8_in_10 : fet cX8_in 10 = some (.ifCond .gt 7) := by decide +kernel
theorem dX8_in_13 : fet cX8_in 13 = some (.iconst 1) := by decide +kernel
theorem dX8_in_14 : fet cX8_in 14 = some (.goto 4) := by decide +kernel
theorem dX8_in_17 : fet cX8_in 17 = some (.iconst 0) := by decide +kernel
theorem dX8_in_18 : fet cX8_in 18 = some (.ireturn) := by decide +kernel
theorem dX8_isTwo_0 : fet cX8_isTwo 0 = some (.iload_n 0) := by decide +kernel
theorem dX8_isTwo_1 : fet cX8_isTwo 1 = some (.i2l) := by decide +kernel
theorem dX8_isTwo_2 : fet cX8_isTwo 2 = some (.lconst 0) := by decide +kernel
theorem dX8_isTwo_3 : fet cX8_isTwo 3 = some (.lconst 1) := by decide +kernel
theorem dX8_isTwo_4 : fet cX8_isTwo 4 = some (.invokestatic 60) := by decide +kernel
theorem dX8_isTwo_7 : fet cX8_isTwo 7 = some (.ireturn) := by decide +kernel
theorem dX8_write_0 : fet cX8_write 0 = some (.iload_n 1) := by decide +kernel
theorem dX8_write_1 : fet cX8_write 1 = some (.i2l) := by decide +kernel
theorem dX8_write_2 : fet cX8_write 2 = some (.ldc2_w 64) := by decide +kernel
theorem dX8_write_5 : fet cX8_write 5 = some (.ldc2_w 66) := by decide +kernel
theorem dX8_write_8 : fet cX8_write 8 = some (.invokestatic 60) := by decide +kernel
theorem dX8_write_11 : fet cX8_write 11 = some (.ifCond .ne 5) := by decide +kernel
theorem dX8_write_14 : fet cX8_write 14 = some (.iconst (-1)) := by decide +kernel
theorem dX8_write_15 : fet cX8_write 15 = some (.ireturn) := by decide +kernel
theorem dX8_write_16 : fet cX8_write 16 = some (.aload_n 0) := by decide +kernel
theorem dX8_write_17 : fet cX8_write 17 = some (.getfield 68) := by decide +kernel
theorem dX8_write_20 : fet cX8_write 20 = some (.sipush 200) := by decide +kernel
theorem dX8_write_23 : fet cX8_write 23 = some (.if_icmp .ne 6) := by decide +kernel
theorem dX8_write_26 : fet cX8_write 26 = some (.bipush (-3)) := by decide +kernel
theorem dX8_write_28 : fet cX8_write 28 = some (.ireturn) := by decide +kernel
theorem dX8_write_29 : fet cX8_write 29 = some (.aload_n 0) := by decide +kernel
theorem dX8_write_30 : fet cX8_write 30 = some (.getfield 16) := by decide +kernel
theorem dX8_write_33 : fet cX8_write 33 = some (.aload_n 0) := by decide +kernel
theorem dX8_write_34 : fet cX8_write 34 = some (.getfield 68) := by decide +kernel
theorem dX8_write_37 : fet cX8_write 37 = some (.iload_n 1) := by decide +kernel
theorem dX8_write_38 : fet cX8_write 38 = some (.iastore) := by decide +kernel
theorem dX8_write_39 : fet cX8_write 39 = some (.aload_n 0) := by decide +kernel
theorem dX8_write_40 : fet cX8_write 40 = some (.dup) := by decide +kernel
theorem dX8_write_41 : fet cX8_write 41 = some (.getfield 68) := by decide +kernel
theorem dX8_write_44 : fet cX8_write 44 = some (.iconst 1) := by decide +kernel
theorem dX8_write_45 : fet cX8_write 45 = some (.iadd) := by decide +kernel
theorem dX8_write_46 : fet cX8_write 46 = some (.putfield 68) := by decide +kernel
theorem dX8_write_49 : fet cX8_write 49 = some (.aload_n 0) := by decide +kernel
theorem dX8_write_50 : fet cX8_write 50 = some (.getfield 68) := by decide +kernel
theorem dX8_write_53 : fet cX8_write 53 = some (.ireturn) := by decide +kernel
theorem dX8_wipe_0 : fet cX8_wipe 0 = some (.aload_n 0) := by decide +kernel
theorem dX8_wipe_1 : fet cX8_wipe 1 = some (.getfield 68) := by decide +kernel
theorem dX8_wipe_4 : fet cX8_wipe 4 = some (.istore_n 1) := by decide +kernel
theorem dX8_wipe_5 : fet cX8_wipe 5 = some (.aload_n 0) := by decide +kernel
theorem dX8_wipe_6 : fet cX8_wipe 6 = some (.iconst 0) := by decide +kernel
theorem dX8_wipe_7 : fet cX8_wipe 7 = some (.putfield 68) := by decide +kernel
theorem dX8_wipe_10 : fet cX8_wipe 10 = some (.iload_n 1) := by decide +kernel
theorem dX8_wipe_11 : fet cX8_wipe 11 = some (.ireturn) := by decide +kernel
theorem dX8_takes_0 : fet cX8_takes 0 = some (.iconst 0) := by decide +kernel
theorem dX8_takes_1 : fet cX8_takes 1 = some (.istore_n 2) := by decide +kernel
theorem dX8_takes_2 : fet cX8_takes 2 = some (.iload_n 2) := by decide +kernel
theorem dX8_takes_3 : fet cX8_takes 3 = some (.iload_n 1) := by decide +kernel
theorem dX8_takes_4 : fet cX8_takes 4 = some (.if_icmp .ge 172) := by decide +kernel
theorem dX8_takes_7 : fet cX8_takes 7 = some (.iconst 0) := by decide +kernel
theorem dX8_takes_8 : fet cX8_takes 8 = some (.istore_n 3) := by decide +kernel
theorem dX8_takes_9 : fet cX8_takes 9 = some (.iconst 0) := by decide +kernel
theorem dX8_takes_10 : fet cX8_takes 10 = some (.istore 4) := by decide +kernel
theorem dX8_takes_12 : fet cX8_takes 12 = some (.aload_n 0) := by decide +kernel
theorem dX8_takes_13 : fet cX8_takes 13 = some (.getfield 72) := by decide +kernel
theorem dX8_takes_16 : fet cX8_takes 16 = some (.aload_n 0) := by decide +kernel
theorem dX8_takes_17 : fet cX8_takes 17 = some (.getfield 68) := by decide +kernel
theorem dX8_takes_20 : fet cX8_takes 20 = some (.if_icmp .ge 69) := by decide +kernel
theorem dX8_takes_23 : fet cX8_takes 23 = some (.aload_n 0) := by decide +kernel
theorem dX8_takes_24 : fet cX8_takes 24 = some (.getfield 16) := by decide +kernel
theorem dX8_takes_27 : fet cX8_takes 27 = some (.aload_n 0) := by decide +kernel
theorem dX8_takes_28 : fet cX8_takes 28 = some (.getfield 72) := by decide +kernel
theorem dX8_takes_31 : fet cX8_takes 31 = some (.iaload) := by decide +kernel
theorem dX8_takes_32 : fet cX8_takes 32 = some (.i2l) := by decide +kernel
theorem dX8_takes_33 : fet cX8_takes 33 = some (.ldc2_w 75) := by decide +kernel
theorem dX8_takes_36 : fet cX8_takes 36 = some (.ldc2_w 77) := by decide +kernel
theorem dX8_takes_39 : fet cX8_takes 39 = some (.invokestatic 60) := by decide +kernel
theorem dX8_takes_42 : fet cX8_takes 42 = some (.ifCond .eq 47) := by decide +kernel
theorem dX8_takes_45 : fet cX8_takes 45 = some (.iload 4) := by decide +kernel
theorem dX8_takes_47 : fet cX8_takes 47 = some (.iconst 2) := by decide +kernel
theorem dX8_takes_48 : fet cX8_takes 48 = some (.if_icmp .ge 23) := by decide +kernel
theorem dX8_takes_51 : fet cX8_takes 51 = some (.bipush 10) := by decide +kernel
theorem dX8_takes_53 : fet cX8_takes 53 = some (.iload_n 3) := by decide +kernel
theorem dX8_takes_54 : fet cX8_takes 54 = some (.imul) := by decide +kernel
theorem dX8_takes_55 : fet cX8_takes 55 = some (.aload_n 0) := by decide +kernel
theorem dX8_takes_56 : fet cX8_takes 56 = some (.getfield 16) := by decide +kernel
theorem dX8_takes_59 : fet cX8_takes 59 = some (.aload_n 0) := by decide +kernel
theorem dX8_takes_60 : fet cX8_takes 60 = some (.getfield 72) := by decide +kernel
theorem dX8_takes_63 : fet cX8_takes 63 = some (.iaload) := by decide +kernel
theorem dX8_takes_64 : fet cX8_takes 64 = some (.iadd) := by decide +kernel
theorem dX8_takes_65 : fet cX8_takes 65 = some (.bipush 48) := by decide +kernel
theorem dX8_takes_67 : fet cX8_takes 67 = some (.isub) := by decide +kernel
theorem dX8_takes_68 : fet cX8_takes 68 = some (.goto 4) := by decide +kernel
theorem dX8_takes_71 : fet cX8_takes 71 = some (.iload_n 3) := by decide +kernel
theorem dX8_takes_72 : fet cX8_takes 72 = some (.istore_n 3) := by decide +kernel
theorem dX8_takes_73 : fet cX8_takes 73 = some (.iinc 4 1) := by decide +kernel
theorem dX8_takes_76 : fet cX8_takes 76 = some (.aload_n 0) := by decide +kernel
theorem dX8_takes_77 : fet cX8_takes 77 = some (.dup) := by decide +kernel
theorem dX8_takes_78 : fet cX8_takes 78 = some (.getfield 72) := by decide +kernel
theorem dX8_takes_81 : fet cX8_takes 81 = some (.iconst 1) := by decide +kernel
theorem dX8_takes_82 : fet cX8_takes 82 = some (.iadd) := by decide +kernel
theorem dX8_takes_83 : fet cX8_takes 83 = some (.putfield 72) := by decide +kernel
theorem dX8_takes_86 : fet cX8_takes 86 = some (.goto (-74)) := by decide +kernel
theorem dX8_takes_89 : fet cX8_takes 89 = some (.aload_n 0) := by decide +kernel
theorem dX8_takes_90 : fet cX8_takes 90 = some (.getfield 72) := by decide +kernel
theorem dX8_takes_93 : fet cX8_takes 93 = some (.aload_n 0) := by decide +kernel
theorem dX8_takes_94 : fet cX8_takes 94 = some (.getfield 68) := by decide +kernel
theorem dX8_takes_97 : fet cX8_takes 97 = some (.if_icmp .ge 33) := by decide +kernel
theorem dX8_takes_100 : fet cX8_takes 100 = some (.aload_n 0) := by decide +kernel
theorem dX8_takes_101 : fet cX8_takes 101 = some (.getfield 16) := by decide +kernel
theorem dX8_takes_104 : fet cX8_takes 104 = some (.aload_n 0) := by decide +kernel
theorem dX8_takes_105 : fet cX8_takes 105 = some (.getfield 72) := by decide +kernel
theorem dX8_takes_108 : fet cX8_takes 108 = some (.iaload) := by decide +kernel
theorem dX8_takes_109 : fet cX8_takes 109 = some (.iload_n 2) := by decide +kernel
theorem dX8_takes_110 : fet cX8_takes 110 = some (.iload_n 1) := by decide +kernel
theorem dX8_takes_111 : fet cX8_takes 111 = some (.iconst 1) := by decide +kernel
theorem dX8_takes_112 : fet cX8_takes 112 = some (.isub) := by decide +kernel
theorem dX8_takes_113 : fet cX8_takes 113 = some (.if_icmp .ge 8) := by decide +kernel
theorem dX8_takes_116 : fet cX8_takes 116 = some (.bipush 44) := by decide +kernel
theorem dX8_takes_118 : fet cX8_takes 118 = some (.goto 5) := by decide +kernel
theorem dX8_takes_121 : fet cX8_takes 121 = some (.bipush 59) := by decide +kernel
theorem dX8_takes_123 : fet cX8_takes 123 = some (.if_icmp .ne 7) := by decide +kernel
theorem dX8_takes_126 : fet cX8_takes 126 = some (.iconst 1) := by decide +kernel
theorem dX8_takes_127 : fet cX8_takes 127 = some (.goto 4) := by decide +kernel
theorem dX8_takes_130 : fet cX8_takes 130 = some (.iconst 0) := by decide +kernel
theorem dX8_takes_131 : fet cX8_takes 131 = some (.istore 5) := by decide +kernel
theorem dX8_takes_133 : fet cX8_takes 133 = some (.iload 4) := by decide +kernel
theorem dX8_takes_135 : fet cX8_takes 135 = some (.i2l) := by decide +kernel
theorem dX8_takes_136 : fet cX8_takes 136 = some (.lconst 1) := by decide +kernel
theorem dX8_takes_137 : fet cX8_takes 137 = some (.ldc2_w 79) := by decide +kernel
theorem dX8_takes_140 : fet cX8_takes 140 = some (.invokestatic 60) := by decide +kernel
theorem dX8_takes_143 : fet cX8_takes 143 = some (.ifCond .eq 8) := by decide +kernel
theorem dX8_takes_146 : fet cX8_takes 146 = some (.iload 5) := by decide +kernel
theorem dX8_takes_148 : fet cX8_takes 148 = some (.ifCond .ne 5) := by decide +kernel
theorem dX8_takes_151 : fet cX8_takes 151 = some (.iconst 0) := by decide +kernel
theorem dX8_takes_152 : fet cX8_takes 152 = some (.ireturn) := by decide +kernel
theorem dX8_takes_153 : fet cX8_takes 153 = some (.aload_n 0) := by decide +kernel
theorem dX8_takes_154 : fet cX8_takes 154 = some (.getfield 31) := by decide +kernel
theorem dX8_takes_157 : fet cX8_takes 157 = some (.iload_n 2) := by decide +kernel
theorem dX8_takes_158 : fet cX8_takes 158 = some (.iload_n 3) := by decide +kernel
theorem dX8_takes_159 : fet cX8_takes 159 = some (.iastore) := by decide +kernel
theorem dX8_takes_160 : fet cX8_takes 160 = some (.aload_n 0) := by decide +kernel
theorem dX8_takes_161 : fet cX8_takes 161 = some (.dup) := by decide +kernel
theorem dX8_takes_162 : fet cX8_takes 162 = some (.getfield 72) := by decide +kernel
theorem dX8_takes_165 : fet cX8_takes 165 = some (.iconst 1) := by decide +kernel
theorem dX8_takes_166 : fet cX8_takes 166 = some (.iadd) := by decide +kernel
theorem dX8_takes_167 : fet cX8_takes 167 = some (.putfield 72) := by decide +kernel
theorem dX8_takes_170 : fet cX8_takes 170 = some (.iinc 2 1) := by decide +kernel
theorem dX8_takes_173 : fet cX8_takes 173 = some (.goto (-171)) := by decide +kernel
theorem dX8_takes_176 : fet cX8_takes 176 = some (.iconst 1) := by decide +kernel
theorem dX8_takes_177 : fet cX8_takes 177 = some (.ireturn) := by decide +kernel
theorem dX8_is_0 : fet cX8_is 0 = some (.aload_n 0) := by decide +kernel
theorem dX8_is_1 : fet cX8_is 1 = some (.getfield 31) := by decide +kernel
theorem dX8_is_4 : fet cX8_is 4 = some (.iload_n 1) := by decide +kernel
theorem dX8_is_5 : fet cX8_is 5 = some (.iaload) := by decide +kernel
theorem dX8_is_6 : fet cX8_is 6 = some (.i2l) := by decide +kernel
theorem dX8_is_7 : fet cX8_is 7 = some (.iload_n 2) := by decide +kernel
theorem dX8_is_8 : fet cX8_is 8 = some (.i2l) := by decide +kernel
theorem dX8_is_9 : fet cX8_is 9 = some (.iload_n 3) := by decide +kernel
theorem dX8_is_10 : fet cX8_is 10 = some (.i2l) := by decide +kernel
theorem dX8_is_11 : fet cX8_is 11 = some (.invokestatic 60) := by decide +kernel
theorem dX8_is_14 : fet cX8_is 14 = some (.ireturn) := by decide +kernel
theorem dX8_clean_0 : fet cX8_clean 0 = some (.iconst 0) := by decide +kernel
theorem dX8_clean_1 : fet cX8_clean 1 = some (.istore_n 1) := by decide +kernel
theorem dX8_clean_2 : fet cX8_clean 2 = some (.iload_n 1) := by decide +kernel
theorem dX8_clean_3 : fet cX8_clean 3 = some (.bipush 65) := by decide +kernel
theorem dX8_clean_5 : fet cX8_clean 5 = some (.if_icmp .ge 16) := by decide +kernel
theorem dX8_clean_8 : fet cX8_clean 8 = some (.aload_n 0) := by decide +kernel
theorem dX8_clean_9 : fet cX8_clean 9 = some (.getfield 13) := by decide +kernel
theorem dX8_clean_12 : fet cX8_clean 12 = some (.iload_n 1) := by decide +kernel
theorem dX8_clean_13 : fet cX8_clean 13 = some (.iconst 0) := by decide +kernel
theorem dX8_clean_14 : fet cX8_clean 14 = some (.iastore) := by decide +kernel
theorem dX8_clean_15 : fet cX8_clean 15 = some (.iinc 1 1) := by decide +kernel
theorem dX8_clean_18 : fet cX8_clean 18 = some (.goto (-16)) := by decide +kernel
theorem dX8_clean_21 : fet cX8_clean 21 = some (.aload_n 0) := by decide +kernel
theorem dX8_clean_22 : fet cX8_clean 22 = some (.getfield 13) := by decide +kernel
theorem dX8_clean_25 : fet cX8_clean 25 = some (.iconst 0) := by decide +kernel
theorem dX8_clean_26 : fet cX8_clean 26 = some (.iconst 4) := by decide +kernel
theorem dX8_clean_27 : fet cX8_clean 27 = some (.iastore) := by decide +kernel
theorem dX8_clean_28 : fet cX8_clean 28 = some (.aload_n 0) := by decide +kernel
theorem dX8_clean_29 : fet cX8_clean 29 = some (.getfield 13) := by decide +kernel
theorem dX8_clean_32 : fet cX8_clean 32 = some (.iconst 3) := by decide +kernel
theorem dX8_clean_33 : fet cX8_clean 33 = some (.bipush 7) := by decide +kernel
theorem dX8_clean_35 : fet cX8_clean 35 = some (.iastore) := by decide +kernel
theorem dX8_clean_36 : fet cX8_clean 36 = some (.return_) := by decide +kernel
theorem dX8_lays_0 : fet cX8_lays 0 = some (.aload_n 0) := by decide +kernel
theorem dX8_lays_1 : fet cX8_lays 1 = some (.getfield 13) := by decide +kernel
theorem dX8_lays_4 : fet cX8_lays 4 = some (.iconst 1) := by decide +kernel
theorem dX8_lays_5 : fet cX8_lays 5 = some (.iaload) := by decide +kernel
theorem dX8_lays_6 : fet cX8_lays 6 = some (.istore 4) := by decide +kernel
theorem dX8_lays_8 : fet cX8_lays 8 = some (.aload_n 0) := by decide +kernel
theorem dX8_lays_9 : fet cX8_lays 9 = some (.getfield 13) := by decide +kernel
theorem dX8_lays_12 : fet cX8_lays 12 = some (.iconst 4) := by decide +kernel
theorem dX8_lays_13 : fet cX8_lays 13 = some (.iload 4) := by decide +kernel
theorem dX8_lays_15 : fet cX8_lays 15 = some (.iadd) := by decide +kernel
theorem dX8_lays_16 : fet cX8_lays 16 = some (.iload_n 1) := by decide +kernel
theorem dX8_lays_17 : fet cX8_lays 17 = some (.iastore) := by decide +kernel
theorem dX8_lays_18 : fet cX8_lays 18 = some (.aload_n 0) := by decide +kernel
theorem dX8_lays_19 : fet cX8_lays 19 = some (.getfield 13) := by decide +kernel
theorem dX8_lays_22 : fet cX8_lays 22 = some (.bipush 13) := by decide +kernel
theorem dX8_lays_24 : fet cX8_lays 24 = some (.iload 4) := by decide +kernel
theorem dX8_lays_26 : fet cX8_lays 26 = some (.iadd) := by decide +kernel
theorem dX8_lays_27 : fet cX8_lays 27 = some (.iload_n 2) := by decide +kernel
theorem dX8_lays_28 : fet cX8_lays 28 = some (.iastore) := by decide +kernel
theorem dX8_lays_29 : fet cX8_lays 29 = some (.aload_n 0) := by decide +kernel
theorem dX8_lays_30 : fet cX8_lays 30 = some (.getfield 13) := by decide +kernel
theorem dX8_lays_33 : fet cX8_lays 33 = some (.bipush 22) := by decide +kernel
theorem dX8_lays_35 : fet cX8_lays 35 = some (.iload 4) := by decide +kernel
theorem dX8_lays_37 : fet cX8_lays 37 = some (.iadd) := by decide +kernel
theorem dX8_lays_38 : fet cX8_lays 38 = some (.iload_n 3) := by decide +kernel
theorem dX8_lays_39 : fet cX8_lays 39 = some (.iastore) := by decide +kernel
theorem dX8_lays_40 : fet cX8_lays 40 = some (.aload_n 0) := by decide +kernel
theorem dX8_lays_41 : fet cX8_lays 41 = some (.getfield 13) := by decide +kernel
theorem dX8_lays_44 : fet cX8_lays 44 = some (.iconst 1) := by decide +kernel
theorem dX8_lays_45 : fet cX8_lays 45 = some (.dup2) := by decide +kernel
theorem dX8_lays_46 : fet cX8_lays 46 = some (.iaload) := by decide +kernel
theorem dX8_lays_47 : fet cX8_lays 47 = some (.iconst 1) := by decide +kernel
theorem dX8_lays_48 : fet cX8_lays 48 = some (.iadd) := by decide +kernel
theorem dX8_lays_49 : fet cX8_lays 49 = some (.iastore) := by decide +kernel
theorem dX8_lays_50 : fet cX8_lays 50 = some (.return_) := by decide +kernel
theorem dX8_comes_0 : fet cX8_comes 0 = some (.aload_n 0) := by decide +kernel
theorem dX8_comes_1 : fet cX8_comes 1 = some (.getfield 13) := by decide +kernel
theorem dX8_comes_4 : fet cX8_comes 4 = some (.iconst 2) := by decide +kernel
theorem dX8_comes_5 : fet cX8_comes 5 = some (.iaload) := by decide +kernel
theorem dX8_comes_6 : fet cX8_comes 6 = some (.istore 6) := by decide +kernel
theorem dX8_comes_8 : fet cX8_comes 8 = some (.aload_n 0) := by decide +kernel
theorem dX8_comes_9 : fet cX8_comes 9 = some (.getfield 13) := by decide +kernel
theorem dX8_comes_12 : fet cX8_comes 12 = some (.bipush 40) := by decide +kernel
theorem dX8_comes_14 : fet cX8_comes 14 = some (.iload 6) := by decide +kernel
theorem dX8_comes_16 : fet cX8_comes 16 = some (.iadd) := by decide +kernel
theorem dX8_comes_17 : fet cX8_comes 17 = some (.iload_n 1) := by decide +kernel
theorem dX8_comes_18 : fet cX8_comes 18 = some (.iastore) := by decide +kernel
theorem dX8_comes_19 : fet cX8_comes 19 = some (.aload_n 0) := by decide +kernel
theorem dX8_comes_20 : fet cX8_comes 20 = some (.getfield 13) := by decide +kernel
theorem dX8_comes_23 : fet cX8_comes 23 = some (.bipush 45) := by decide +kernel
theorem dX8_comes_25 : fet cX8_comes 25 = some (.iload 6) := by decide +kernel
theorem dX8_comes_27 : fet cX8_comes 27 = some (.iadd) := by decide +kernel
theorem dX8_comes_28 : fet cX8_comes 28 = some (.iload_n 2) := by decide +kernel
theorem dX8_comes_29 : fet cX8_comes 29 = some (.iastore) := by decide +kernel
theorem dX8_comes_30 : fet cX8_comes 30 = some (.aload_n 0) := by decide +kernel
theorem dX8_comes_31 : fet cX8_comes 31 = some (.getfield 13) := by decide +kernel
theorem dX8_comes_34 : fet cX8_comes 34 = some (.bipush 50) := by decide +kernel
theorem dX8_comes_36 : fet cX8_comes 36 = some (.iload 6) := by decide +kernel
theorem dX8_comes_38 : fet cX8_comes 38 = some (.iadd) := by decide +kernel
theorem dX8_comes_39 : fet cX8_comes 39 = some (.iload_n 3) := by decide +kernel
theorem dX8_comes_40 : fet cX8_comes 40 = some (.iastore) := by decide +kernel
theorem dX8_comes_41 : fet cX8_comes 41 = some (.aload_n 0) := by decide +kernel
theorem dX8_comes_42 : fet cX8_comes 42 = some (.getfield 13) := by decide +kernel
theorem dX8_comes_45 : fet cX8_comes 45 = some (.bipush 55) := by decide +kernel
theorem dX8_comes_47 : fet cX8_comes 47 = some (.iload 6) := by decide +kernel
theorem dX8_comes_49 : fet cX8_comes 49 = some (.iadd) := by decide +kernel
theorem dX8_comes_50 : fet cX8_comes 50 = some (.iload 4) := by decide +kernel
theorem dX8_comes_52 : fet cX8_comes 52 = some (.iastore) := by decide +kernel
theorem dX8_comes_53 : fet cX8_comes 53 = some (.aload_n 0) := by decide +kernel
theorem dX8_comes_54 : fet cX8_comes 54 = some (.getfield 13) := by decide +kernel
theorem dX8_comes_57 : fet cX8_comes 57 = some (.bipush 60) := by decide +kernel
theorem dX8_comes_59 : fet cX8_comes 59 = some (.iload 6) := by decide +kernel
theorem dX8_comes_61 : fet cX8_comes 61 = some (.iadd) := by decide +kernel
theorem dX8_comes_62 : fet cX8_comes 62 = some (.iload 5) := by decide +kernel
theorem dX8_comes_64 : fet cX8_comes 64 = some (.iastore) := by decide +kernel
theorem dX8_comes_65 : fet cX8_comes 65 = some (.aload_n 0) := by decide +kernel
theorem dX8_comes_66 : fet cX8_comes 66 = some (.getfield 13) := by decide +kernel
theorem dX8_comes_69 : fet cX8_comes 69 = some (.iconst 2) := by decide +kernel
theorem dX8_comes_70 : fet cX8_comes 70 = some (.dup2) := by decide +kernel
theorem dX8_comes_71 : fet cX8_comes 71 = some (.iaload) := by decide +kernel
theorem dX8_comes_72 : fet cX8_comes 72 = some (.iconst 1) := by decide +kernel
theorem dX8_comes_73 : fet cX8_comes 73 = some (.iadd) := by decide +kernel
theorem dX8_comes_74 : fet cX8_comes 74 = some (.iastore) := by decide +kernel
theorem dX8_comes_75 : fet cX8_comes 75 = some (.return_) := by decide +kernel
theorem dX8_areTwo_0 : fet cX8_areTwo 0 = some (.aload_n 0) := by decide +kernel
theorem dX8_areTwo_1 : fet cX8_areTwo 1 = some (.getfield 13) := by decide +kernel
theorem dX8_areTwo_4 : fet cX8_areTwo 4 = some (.iconst 0) := by decide +kernel
theorem dX8_areTwo_5 : fet cX8_areTwo 5 = some (.iaload) := by decide +kernel
theorem dX8_areTwo_6 : fet cX8_areTwo 6 = some (.iconst 1) := by decide +kernel
theorem dX8_areTwo_7 : fet cX8_areTwo 7 = some (.isub) := by decide +kernel
theorem dX8_areTwo_8 : fet cX8_areTwo 8 = some (.istore_n 1) := by decide +kernel
theorem dX8_areTwo_9 : fet cX8_areTwo 9 = some (.aload_n 0) := by decide +kernel
theorem dX8_areTwo_10 : fet cX8_areTwo 10 = some (.iconst 0) := by decide +kernel
theorem dX8_areTwo_11 : fet cX8_areTwo 11 = some (.iconst 0) := by decide +kernel
theorem dX8_areTwo_12 : fet cX8_areTwo 12 = some (.iload_n 1) := by decide +kernel
theorem dX8_areTwo_13 : fet cX8_areTwo 13 = some (.invokevirtual 81) := by decide +kernel
theorem dX8_areTwo_16 : fet cX8_areTwo 16 = some (.ifCond .eq 32) := by decide +kernel
theorem dX8_areTwo_19 : fet cX8_areTwo 19 = some (.aload_n 0) := by decide +kernel
theorem dX8_areTwo_20 : fet cX8_areTwo 20 = some (.iconst 1) := by decide +kernel
theorem dX8_areTwo_21 : fet cX8_areTwo 21 = some (.iconst 0) := by decide +kernel
theorem dX8_areTwo_22 : fet cX8_areTwo 22 = some (.iload_n 1) := by decide +kernel
theorem dX8_areTwo_23 : fet cX8_areTwo 23 = some (.invokevirtual 81) := by decide +kernel
theorem dX8_areTwo_26 : fet cX8_areTwo 26 = some (.ifCond .eq 22) := by decide +kernel
theorem dX8_areTwo_29 : fet cX8_areTwo 29 = some (.aload_n 0) := by decide +kernel
theorem dX8_areTwo_30 : fet cX8_areTwo 30 = some (.getfield 31) := by decide +kernel
theorem dX8_areTwo_33 : fet cX8_areTwo 33 = some (.iconst 0) := by decide +kernel
theorem dX8_areTwo_34 : fet cX8_areTwo 34 = some (.iaload) := by decide +kernel
theorem dX8_areTwo_35 : fet cX8_areTwo 35 = some (.aload_n 0) := by decide +kernel
theorem dX8_areTwo_36 : fet cX8_areTwo 36 = some (.getfield 31) := by decide +kernel
theorem dX8_areTwo_39 : fet cX8_areTwo 39 = some (.iconst 1) := by decide +kernel
theorem dX8_areTwo_40 : fet cX8_areTwo 40 = some (.iaload) := by decide +kernel
theorem dX8_areTwo_41 : fet cX8_areTwo 41 = some (.if_icmp .eq 7) := by decide +kernel
theorem dX8_areTwo_44 : fet cX8_areTwo 44 = some (.iconst 1) := by decide +kernel
theorem dX8_areTwo_45 : fet cX8_areTwo 45 = some (.goto 4) := by decide +kernel
theorem dX8_areTwo_48 : fet cX8_areTwo 48 = some (.iconst 0) := by decide +kernel
theorem dX8_areTwo_49 : fet cX8_areTwo 49 = some (.ireturn) := by decide +kernel
theorem dX8_takesBridge_0 : fet cX8_takesBridge 0 = some (.aload_n 0) := by decide +kernel
theorem dX8_takesBridge_1 : fet cX8_takesBridge 1 = some (.iconst 3) := by decide +kernel
theorem dX8_takesBridge_2 : fet cX8_takesBridge 2 = some (.invokevirtual 85) := by decide +kernel
theorem dX8_takesBridge_5 : fet cX8_takesBridge 5 = some (.ifCond .eq 21) := by decide +kernel
theorem dX8_takesBridge_8 : fet cX8_takesBridge 8 = some (.aload_n 0) := by decide +kernel
theorem dX8_takesBridge_9 : fet cX8_takesBridge 9 = some (.invokevirtual 89) := by decide +kernel
theorem dX8_takesBridge_12 : fet cX8_takesBridge 12 = some (.ifCond .eq 14) := by decide +kernel
theorem dX8_takesBridge_15 : fet cX8_takesBridge 15 = some (.aload_n 0) := by decide +kernel
theorem dX8_takesBridge_16 : fet cX8_takesBridge 16 = some (.getfield 13) := by decide +kernel
theorem dX8_takesBridge_19 : fet cX8_takesBridge 19 = some (.iconst 1) := by decide +kernel
theorem dX8_takesBridge_20 : fet cX8_takesBridge 20 = some (.iaload) := by decide +kernel
theorem dX8_takesBridge_21 : fet cX8_takesBridge 21 = some (.bipush 9) := by decide +kernel
theorem dX8_takesBridge_23 : fet cX8_takesBridge 23 = some (.if_icmp .ne 5) := by decide +kernel
theorem dX8_takesBridge_26 : fet cX8_takesBridge 26 = some (.iconst 0) := by decide +kernel
theorem dX8_takesBridge_27 : fet cX8_takesBridge 27 = some (.ireturn) := by decide +kernel
theorem dX8_takesBridge_28 : fet cX8_takesBridge 28 = some (.aload_n 0) := by decide +kernel
theorem dX8_takesBridge_29 : fet cX8_takesBridge 29 = some (.aload_n 0) := by decide +kernel
theorem dX8_takesBridge_30 : fet cX8_takesBridge 30 = some (.getfield 31) := by decide +kernel
theorem dX8_takesBridge_33 : fet cX8_takesBridge 33 = some (.iconst 0) := by decide +kernel
theorem dX8_takesBridge_34 : fet cX8_takesBridge 34 = some (.iaload) := by decide +kernel
theorem dX8_takesBridge_35 : fet cX8_takesBridge 35 = some (.aload_n 0) := by decide +kernel
theorem dX8_takesBridge_36 : fet cX8_takesBridge 36 = some (.getfield 31) := by decide +kernel
theorem dX8_takesBridge_39 : fet cX8_takesBridge 39 = some (.iconst 1) := by decide +kernel
theorem dX8_takesBridge_40 : fet cX8_takesBridge 40 = some (.iaload) := by decide +kernel
theorem dX8_takesBridge_41 : fet cX8_takesBridge 41 = some (.aload_n 0) := by decide +kernel
theorem dX8_takesBridge_42 : fet cX8_takesBridge 42 = some (.getfield 31) := by decide +kernel
theorem dX8_takesBridge_45 : fet cX8_takesBridge 45 = some (.iconst 2) := by decide +kernel
theorem dX8_takesBridge_46 : fet cX8_takesBridge 46 = some (.iaload) := by decide +kernel
theorem dX8_takesBridge_47 : fet cX8_takesBridge 47 = some (.invokevirtual 49) := by decide +kernel
theorem dX8_takesBridge_50 : fet cX8_takesBridge 50 = some (.iconst 1) := by decide +kernel
theorem dX8_takesBridge_51 : fet cX8_takesBridge 51 = some (.ireturn) := by decide +kernel
theorem dX8_takesGoer_0 : fet cX8_takesGoer 0 = some (.aload_n 0) := by decide +kernel
theorem dX8_takesGoer_1 : fet cX8_takesGoer 1 = some (.iconst 5) := by decide +kernel
theorem dX8_takesGoer_2 : fet cX8_takesGoer 2 = some (.invokevirtual 85) := by decide +kernel
theorem dX8_takesGoer_5 : fet cX8_takesGoer 5 = some (.ifCond .eq 52) := by decide +kernel
theorem dX8_takesGoer_8 : fet cX8_takesGoer 8 = some (.aload_n 0) := by decide +kernel
theorem dX8_takesGoer_9 : fet cX8_takesGoer 9 = some (.invokevirtual 89) := by decide +kernel
theorem dX8_takesGoer_12 : fet cX8_takesGoer 12 = some (.ifCond .eq 45) := by decide +kernel
theorem dX8_takesGoer_15 : fet cX8_takesGoer 15 = some (.aload_n 0) := by decide +kernel
theorem dX8_takesGoer_16 : fet cX8_takesGoer 16 = some (.iconst 2) := by decide +kernel
theorem dX8_takesGoer_17 : fet cX8_takesGoer 17 = some (.iconst 1) := by decide +kernel
theorem dX8_takesGoer_18 : fet cX8_takesGoer 18 = some (.bipush 40) := by decide +kernel
theorem dX8_takesGoer_20 : fet cX8_takesGoer 20 = some (.invokevirtual 81) := by decide +kernel
theorem dX8_takesGoer_23 : fet cX8_takesGoer 23 = some (.ifCond .eq 34) := by decide +kernel
theorem dX8_takesGoer_26 : fet cX8_takesGoer 26 = some (.aload_n 0) := by decide +kernel
theorem dX8_takesGoer_27 : fet cX8_takesGoer 27 = some (.iconst 3) := by decide +kernel
theorem dX8_takesGoer_28 : fet cX8_takesGoer 28 = some (.iconst 0) := by decide +kernel
theorem dX8_takesGoer_29 : fet cX8_takesGoer 29 = some (.bipush 20) := by decide +kernel
theorem dX8_takesGoer_31 : fet cX8_takesGoer 31 = some (.invokevirtual 81) := by decide +kernel
theorem dX8_takesGoer_34 : fet cX8_takesGoer 34 = some (.ifCond .eq 23) := by decide +kernel
theorem dX8_takesGoer_37 : fet cX8_takesGoer 37 = some (.aload_n 0) := by decide +kernel
theorem dX8_takesGoer_38 : fet cX8_takesGoer 38 = some (.iconst 4) := by decide +kernel
theorem dX8_takesGoer_39 : fet cX8_takesGoer 39 = some (.iconst 0) := by decide +kernel
theorem dX8_takesGoer_40 : fet cX8_takesGoer 40 = some (.iconst 4) := by decide +kernel
theorem dX8_takesGoer_41 : fet cX8_takesGoer 41 = some (.invokevirtual 81) := by decide +kernel
theorem dX8_takesGoer_44 : fet cX8_takesGoer 44 = some (.ifCond .eq 13) := by decide +kernel
theorem dX8_takesGoer_47 : fet cX8_takesGoer 47 = some (.aload_n 0) := by decide +kernel
theorem dX8_takesGoer_48 : fet cX8_takesGoer 48 = some (.getfield 13) := by decide +kernel
theorem dX8_takesGoer_51 : fet cX8_takesGoer 51 = some (.iconst 2) := by decide +kernel
theorem dX8_takesGoer_52 : fet cX8_takesGoer 52 = some (.iaload) := by decide +kernel
theorem dX8_takesGoer_53 : fet cX8_takesGoer 53 = some (.iconst 5) := by decide +kernel
theorem dX8_takesGoer_54 : fet cX8_takesGoer 54 = some (.if_icmp .ne 5) := by decide +kernel
theorem dX8_takesGoer_57 : fet cX8_takesGoer 57 = some (.iconst 0) := by decide +kernel
theorem dX8_takesGoer_58 : fet cX8_takesGoer 58 = some (.ireturn) := by decide +kernel
theorem dX8_takesGoer_59 : fet cX8_takesGoer 59 = some (.aload_n 0) := by decide +kernel
theorem dX8_takesGoer_60 : fet cX8_takesGoer 60 = some (.aload_n 0) := by decide +kernel
theorem dX8_takesGoer_61 : fet cX8_takesGoer 61 = some (.getfield 31) := by decide +kernel
theorem dX8_takesGoer_64 : fet cX8_takesGoer 64 = some (.iconst 0) := by decide +kernel
theorem dX8_takesGoer_65 : fet cX8_takesGoer 65 = some (.iaload) := by decide +kernel
theorem dX8_takesGoer_66 : fet cX8_takesGoer 66 = some (.aload_n 0) := by decide +kernel
theorem dX8_takesGoer_67 : fet cX8_takesGoer 67 = some (.getfield 31) := by decide +kernel
theorem dX8_takesGoer_70 : fet cX8_takesGoer 70 = some (.iconst 1) := by decide +kernel
theorem dX8_takesGoer_71 : fet cX8_takesGoer 71 = some (.iaload) := by decide +kernel
theorem dX8_takesGoer_72 : fet cX8_takesGoer 72 = some (.aload_n 0) := by decide +kernel
theorem dX8_takesGoer_73 : fet cX8_takesGoer 73 = some (.getfield 31) := by decide +kernel
theorem dX8_takesGoer_76 : fet cX8_takesGoer 76 = some (.iconst 2) := by decide +kernel
theorem dX8_takesGoer_77 : fet cX8_takesGoer 77 = some (.iaload) := by decide +kernel
theorem dX8_takesGoer_78 : fet cX8_takesGoer 78 = some (.aload_n 0) := by decide +kernel
theorem dX8_takesGoer_79 : fet cX8_takesGoer 79 = some (.getfield 31) := by decide +kernel
theorem dX8_takesGoer_82 : fet cX8_takesGoer 82 = some (.iconst 3) := by decide +kernel
theorem dX8_takesGoer_83 : fet cX8_takesGoer 83 = some (.iaload) := by decide +kernel
theorem dX8_takesGoer_84 : fet cX8_takesGoer 84 = some (.aload_n 0) := by decide +kernel
theorem dX8_takesGoer_85 : fet cX8_takesGoer 85 = some (.getfield 31) := by decide +kernel
theorem dX8_takesGoer_88 : fet cX8_takesGoer 88 = some (.iconst 4) := by decide +kernel
theorem dX8_takesGoer_89 : fet cX8_takesGoer 89 = some (.iaload) := by decide +kernel
theorem dX8_takesGoer_90 : fet cX8_takesGoer 90 = some (.invokevirtual 53) := by decide +kernel
theorem dX8_takesGoer_93 : fet cX8_takesGoer 93 = some (.iconst 1) := by decide +kernel
theorem dX8_takesGoer_94 : fet cX8_takesGoer 94 = some (.ireturn) := by decide +kernel
theorem dX8_takesOak_0 : fet cX8_takesOak 0 = some (.aload_n 0) := by decide +kernel
theorem dX8_takesOak_1 : fet cX8_takesOak 1 = some (.iconst 1) := by decide +kernel
theorem dX8_takesOak_2 : fet cX8_takesOak 2 = some (.invokevirtual 85) := by decide +kernel
theorem dX8_takesOak_5 : fet cX8_takesOak 5 = some (.ifCond .eq 20) := by decide +kernel
theorem dX8_takesOak_8 : fet cX8_takesOak 8 = some (.aload_n 0) := by decide +kernel
theorem dX8_takesOak_9 : fet cX8_takesOak 9 = some (.iconst 0) := by decide +kernel
theorem dX8_takesOak_10 : fet cX8_takesOak 10 = some (.iconst 0) := by decide +kernel
theorem dX8_takesOak_11 : fet cX8_takesOak 11 = some (.aload_n 0) := by decide +kernel
theorem dX8_takesOak_12 : fet cX8_takesOak 12 = some (.getfield 13) := by decide +kernel
theorem dX8_takesOak_15 : fet cX8_takesOak 15 = some (.iconst 1) := by decide +kernel
theorem dX8_takesOak_16 : fet cX8_takesOak 16 = some (.iaload) := by decide +kernel
theorem dX8_takesOak_17 : fet cX8_takesOak 17 = some (.iconst 1) := by decide +kernel
theorem dX8_takesOak_18 : fet cX8_takesOak 18 = some (.isub) := by decide +kernel
theorem dX8_takesOak_19 : fet cX8_takesOak 19 = some (.invokevirtual 81) := by decide +kernel
theorem dX8_takesOak_22 : fet cX8_takesOak 22 = some (.ifCond .ne 5) := by decide +kernel
theorem dX8_takesOak_25 : fet cX8_takesOak 25 = some (.iconst 0) := by decide +kernel
theorem dX8_takesOak_26 : fet cX8_takesOak 26 = some (.ireturn) := by decide +kernel
theorem dX8_takesOak_27 : fet cX8_takesOak 27 = some (.aload_n 0) := by decide +kernel
theorem dX8_takesOak_28 : fet cX8_takesOak 28 = some (.getfield 13) := by decide +kernel
theorem dX8_takesOak_31 : fet cX8_takesOak 31 = some (.bipush 31) := by decide +kernel
theorem dX8_takesOak_33 : fet cX8_takesOak 33 = some (.aload_n 0) := by decide +kernel
theorem dX8_takesOak_34 : fet cX8_takesOak 34 = some (.getfield 31) := by decide +kernel
theorem dX8_takesOak_37 : fet cX8_takesOak 37 = some (.iconst 0) := by decide +kernel
theorem dX8_takesOak_38 : fet cX8_takesOak 38 = some (.iaload) := by decide +kernel
theorem dX8_takesOak_39 : fet cX8_takesOak 39 = some (.iadd) := by decide +kernel
theorem dX8_takesOak_40 : fet cX8_takesOak 40 = some (.iconst 1) := by decide +kernel
theorem dX8_takesOak_41 : fet cX8_takesOak 41 = some (.iastore) := by decide +kernel
theorem dX8_takesOak_42 : fet cX8_takesOak 42 = some (.iconst 1) := by decide +kernel
theorem dX8_takesOak_43 : fet cX8_takesOak 43 = some (.ireturn) := by decide +kernel
theorem dX8_takesOne_0 : fet cX8_takesOne 0 = some (.aload_n 0) := by decide +kernel
theorem dX8_takesOne_1 : fet cX8_takesOne 1 = some (.iconst 1) := by decide +kernel
theorem dX8_takesOne_2 : fet cX8_takesOne 2 = some (.invokevirtual 85) := by decide +kernel
theorem dX8_takesOne_5 : fet cX8_takesOne 5 = some (.ifCond .eq 13) := by decide +kernel
theorem dX8_takesOne_8 : fet cX8_takesOne 8 = some (.aload_n 0) := by decide +kernel
theorem dX8_takesOne_9 : fet cX8_takesOne 9 = some (.iconst 0) := by decide +kernel
theorem dX8_takesOne_10 : fet cX8_takesOne 10 = some (.iload_n 2) := by decide +kernel
theorem dX8_takesOne_11 : fet cX8_takesOne 11 = some (.iload_n 3) := by decide +kernel
theorem dX8_takesOne_12 : fet cX8_takesOne 12 = some (.invokevirtual 81) := by decide +kernel
theorem dX8_takesOne_15 : fet cX8_takesOne 15 = some (.ifCond .ne 5) := by decide +kernel
theorem dX8_takesOne_18 : fet cX8_takesOne 18 = some (.iconst 0) := by decide +kernel
theorem dX8_takesOne_19 : fet cX8_takesOne 19 = some (.ireturn) := by decide +kernel
theorem dX8_takesOne_20 : fet cX8_takesOne 20 = some (.aload_n 0) := by decide +kernel
theorem dX8_takesOne_21 : fet cX8_takesOne 21 = some (.getfield 13) := by decide +kernel
theorem dX8_takesOne_24 : fet cX8_takesOne 24 = some (.iload_n 1) := by decide +kernel
theorem dX8_takesOne_25 : fet cX8_takesOne 25 = some (.aload_n 0) := by decide +kernel
theorem dX8_takesOne_26 : fet cX8_takesOne 26 = some (.getfield 31) := by decide +kernel
theorem dX8_takesOne_29 : fet cX8_takesOne 29 = some (.iconst 0) := by decide +kernel
theorem dX8_takesOne_30 : fet cX8_takesOne 30 = some (.iaload) := by decide +kernel
theorem dX8_takesOne_31 : fet cX8_takesOne 31 = some (.iastore) := by decide +kernel
theorem dX8_takesOne_32 : fet cX8_takesOne 32 = some (.iconst 1) := by decide +kernel
theorem dX8_takesOne_33 : fet cX8_takesOne 33 = some (.ireturn) := by decide +kernel
theorem dX8_takesItem_0 : fet cX8_takesItem 0 = some (.aload_n 0) := by decide +kernel
theorem dX8_takesItem_1 : fet cX8_takesItem 1 = some (.getfield 16) := by decide +kernel
theorem dX8_takesItem_4 : fet cX8_takesItem 4 = some (.aload_n 0) := by decide +kernel
theorem dX8_takesItem_5 : fet cX8_takesItem 5 = some (.getfield 72) := by decide +kernel
theorem dX8_takesItem_8 : fet cX8_takesItem 8 = some (.iaload) := by decide +kernel
theorem dX8_takesItem_9 : fet cX8_takesItem 9 = some (.istore_n 2) := by decide +kernel
theorem dX8_takesItem_10 : fet cX8_takesItem 10 = some (.aload_n 0) := by decide +kernel
theorem dX8_takesItem_11 : fet cX8_takesItem 11 = some (.dup) := by decide +kernel
theorem dX8_takesItem_12 : fet cX8_takesItem 12 = some (.getfield 72) := by decide +kernel
theorem dX8_takesItem_15 : fet cX8_takesItem 15 = some (.iconst 1) := by decide +kernel
theorem dX8_takesItem_16 : fet cX8_takesItem 16 = some (.iadd) := by decide +kernel
theorem dX8_takesItem_17 : fet cX8_takesItem 17 = some (.putfield 72) := by decide +kernel
theorem dX8_takesItem_20 : fet cX8_takesItem 20 = some (.iload_n 2) := by decide +kernel
theorem dX8_takesItem_21 : fet cX8_takesItem 21 = some (.tableswitch 116 98 111 #[101, 116, 92, 116, 116, 111, 116, 71, 116, 116, 116, 116, 116, 106]) := by decide +kernel
theorem dX8_takesItem_92 : fet cX8_takesItem 92 = some (.iload_n 1) := by decide +kernel
theorem dX8_takesItem_93 : fet cX8_takesItem 93 = some (.ifCond .eq 18) := by decide +kernel
theorem dX8_takesItem_96 : fet cX8_takesItem 96 = some (.aload_n 0) := by decide +kernel
theorem dX8_takesItem_97 : fet cX8_takesItem 97 = some (.iconst 0) := by decide +kernel
theorem dX8_takesItem_98 : fet cX8_takesItem 98 = some (.iconst 2) := by decide +kernel
theorem dX8_takesItem_99 : fet cX8_takesItem 99 = some (.bipush 8) := by decide +kernel
theorem dX8_takesItem_101 : fet cX8_takesItem 101 = some (.invokevirtual 93) := by decide +kernel
theorem dX8_takesItem_104 : fet cX8_takesItem 104 = some (.ifCond .eq 7) := by decide +kernel
theorem dX8_takesItem_107 : fet cX8_takesItem 107 = some (.iconst 1) := by decide +kernel
theorem dX8_takesItem_108 : fet cX8_takesItem 108 = some (.goto 4) := by decide +kernel
theorem dX8_takesItem_111 : fet cX8_takesItem 111 = some (.iconst 0) := by decide +kernel
theorem dX8_takesItem_112 : fet cX8_takesItem 112 = some (.ireturn) := by decide +kernel
theorem dX8_takesItem_113 : fet cX8_takesItem 113 = some (.aload_n 0) := by decide +kernel
theorem dX8_takesItem_114 : fet cX8_takesItem 114 = some (.iconst 3) := by decide +kernel
theorem dX8_takesItem_115 : fet cX8_takesItem 115 = some (.iconst 1) := by decide +kernel
theorem dX8_takesItem_116 : fet cX8_takesItem 116 = some (.bipush 9) := by decide +kernel
theorem dX8_takesItem_118 : fet cX8_takesItem 118 = some (.invokevirtual 93) := by decide +kernel
theorem dX8_takesItem_121 : fet cX8_takesItem 121 = some (.ireturn) := by decide +kernel
theorem dX8_takesItem_122 : fet cX8_takesItem 122 = some (.aload_n 0) := by decide +kernel
theorem dX8_takesItem_123 : fet cX8_takesItem 123 = some (.invokevirtual 96) := by decide +kernel
theorem dX8_takesItem_126 : fet cX8_takesItem 126 = some (.ireturn) := by decide +kernel
theorem dX8_takesItem_127 : fet cX8_takesItem 127 = some (.aload_n 0) := by decide +kernel
theorem dX8_takesItem_128 : fet cX8_takesItem 128 = some (.invokevirtual 99) := by decide +kernel
theorem dX8_takesItem_131 : fet cX8_takesItem 131 = some (.ireturn) := by decide +kernel
theorem dX8_takesItem_132 : fet cX8_takesItem 132 = some (.aload_n 0) := by decide +kernel
theorem dX8_takesItem_133 : fet cX8_takesItem 133 = some (.invokevirtual 102) := by decide +kernel
theorem dX8_takesItem_136 : fet cX8_takesItem 136 = some (.ireturn) := by decide +kernel
theorem dX8_takesItem_137 : fet cX8_takesItem 137 = some (.iconst 0) := by decide +kernel
theorem dX8_takesItem_138 : fet cX8_takesItem 138 = some (.ireturn) := by decide +kernel
theorem dX8_faultOf_0 : fet cX8_faultOf 0 = some (.aload_n 0) := by decide +kernel
theorem dX8_faultOf_1 : fet cX8_faultOf 1 = some (.invokevirtual 46) := by decide +kernel
theorem dX8_faultOf_4 : fet cX8_faultOf 4 = some (.aload_n 0) := by decide +kernel
theorem dX8_faultOf_5 : fet cX8_faultOf 5 = some (.iconst 0) := by decide +kernel
theorem dX8_faultOf_6 : fet cX8_faultOf 6 = some (.putfield 72) := by decide +kernel
theorem dX8_faultOf_9 : fet cX8_faultOf 9 = some (.iconst 1) := by decide +kernel
theorem dX8_faultOf_10 : fet cX8_faultOf 10 = some (.istore_n 1) := by decide +kernel
theorem dX8_faultOf_11 : fet cX8_faultOf 11 = some (.aload_n 0) := by decide +kernel
theorem dX8_faultOf_12 : fet cX8_faultOf 12 = some (.getfield 72) := by decide +kernel
theorem dX8_faultOf_15 : fet cX8_faultOf 15 = some (.aload_n 0) := by decide +kernel
theorem dX8_faultOf_16 : fet cX8_faultOf 16 = some (.getfield 68) := by decide +kernel
theorem dX8_faultOf_19 : fet cX8_faultOf 19 = some (.if_icmp .ge 45) := by decide +kernel
theorem dX8_faultOf_22 : fet cX8_faultOf 22 = some (.aload_n 0) := by decide +kernel
theorem dX8_faultOf_23 : fet cX8_faultOf 23 = some (.getfield 72) := by decide +kernel
theorem dX8_faultOf_26 : fet cX8_faultOf 26 = some (.istore_n 2) := by decide +kernel
theorem dX8_faultOf_27 : fet cX8_faultOf 27 = some (.iload_n 1) := by decide +kernel
theorem dX8_faultOf_28 : fet cX8_faultOf 28 = some (.ifCond .eq 21) := by decide +kernel
theorem dX8_faultOf_31 : fet cX8_faultOf 31 = some (.aload_n 0) := by decide +kernel
theorem dX8_faultOf_32 : fet cX8_faultOf 32 = some (.getfield 16) := by decide +kernel
theorem dX8_faultOf_35 : fet cX8_faultOf 35 = some (.aload_n 0) := by decide +kernel
theorem dX8_faultOf_36 : fet cX8_faultOf 36 = some (.getfield 72) := by decide +kernel
theorem dX8_faultOf_39 : fet cX8_faultOf 39 = some (.iaload) := by decide +kernel
theorem dX8_faultOf_40 : fet cX8_faultOf 40 = some (.bipush 105) := by decide +kernel
theorem dX8_faultOf_42 : fet cX8_faultOf 42 = some (.if_icmp .ne 7) := by decide +kernel
theorem dX8_faultOf_45 : fet cX8_faultOf 45 = some (.iconst 1) := by decide +kernel
theorem dX8_faultOf_46 : fet cX8_faultOf 46 = some (.goto 4) := by decide +kernel
theorem dX8_faultOf_49 : fet cX8_faultOf 49 = some (.iconst 0) := by decide +kernel
theorem dX8_faultOf_50 : fet cX8_faultOf 50 = some (.istore_n 1) := by decide +kernel
theorem dX8_faultOf_51 : fet cX8_faultOf 51 = some (.aload_n 0) := by decide +kernel
theorem dX8_faultOf_52 : fet cX8_faultOf 52 = some (.iload_n 1) := by decide +kernel
theorem dX8_faultOf_53 : fet cX8_faultOf 53 = some (.invokevirtual 105) := by decide +kernel
theorem dX8_faultOf_56 : fet cX8_faultOf 56 = some (.ifCond .ne 5) := by decide +kernel
theorem dX8_faultOf_59 : fet cX8_faultOf 59 = some (.iload_n 2) := by decide +kernel
theorem dX8_faultOf_60 : fet cX8_faultOf 60 = some (.ireturn) := by decide +kernel
theorem dX8_faultOf_61 : fet cX8_faultOf 61 = some (.goto (-50)) := by decide +kernel
theorem dX8_faultOf_64 : fet cX8_faultOf 64 = some (.bipush (-4)) := by decide +kernel
theorem dX8_faultOf_66 : fet cX8_faultOf 66 = some (.ireturn) := by decide +kernel
theorem dX8_fault_0 : fet cX8_fault 0 = some (.aload_n 0) := by decide +kernel
theorem dX8_fault_1 : fet cX8_fault 1 = some (.invokevirtual 109) := by decide +kernel
theorem dX8_fault_4 : fet cX8_fault 4 = some (.ireturn) := by decide +kernel
theorem dX8_begins_0 : fet cX8_begins 0 = some (.iconst 0) := by decide +kernel
theorem dX8_begins_1 : fet cX8_begins 1 = some (.istore_n 1) := by decide +kernel
theorem dX8_begins_2 : fet cX8_begins 2 = some (.iload_n 1) := by decide +kernel
theorem dX8_begins_3 : fet cX8_begins 3 = some (.bipush 65) := by decide +kernel
theorem dX8_begins_5 : fet cX8_begins 5 = some (.if_icmp .ge 21) := by decide +kernel
theorem dX8_begins_8 : fet cX8_begins 8 = some (.aload_n 0) := by decide +kernel
theorem dX8_begins_9 : fet cX8_begins 9 = some (.getfield 7) := by decide +kernel
theorem dX8_begins_12 : fet cX8_begins 12 = some (.iload_n 1) := by decide +kernel
theorem dX8_begins_13 : fet cX8_begins 13 = some (.aload_n 0) := by decide +kernel
theorem dX8_begins_14 : fet cX8_begins 14 = some (.getfield 13) := by decide +kernel
theorem dX8_begins_17 : fet cX8_begins 17 = some (.iload_n 1) := by decide +kernel
theorem dX8_begins_18 : fet cX8_begins 18 = some (.iaload) := by decide +kernel
theorem dX8_begins_19 : fet cX8_begins 19 = some (.iastore) := by decide +kernel
theorem dX8_begins_20 : fet cX8_begins 20 = some (.iinc 1 1) := by decide +kernel
theorem dX8_begins_23 : fet cX8_begins 23 = some (.goto (-21)) := by decide +kernel
theorem dX8_begins_26 : fet cX8_begins 26 = some (.iconst 0) := by decide +kernel
theorem dX8_begins_27 : fet cX8_begins 27 = some (.istore_n 1) := by decide +kernel
theorem dX8_begins_28 : fet cX8_begins 28 = some (.iload_n 1) := by decide +kernel
theorem dX8_begins_29 : fet cX8_begins 29 = some (.sipush 317) := by decide +kernel
theorem dX8_begins_32 : fet cX8_begins 32 = some (.if_icmp .ge 16) := by decide +kernel
theorem dX8_begins_35 : fet cX8_begins 35 = some (.aload_n 0) := by decide +kernel
theorem dX8_begins_36 : fet cX8_begins 36 = some (.getfield 19) := by decide +kernel
theorem dX8_begins_39 : fet cX8_begins 39 = some (.iload_n 1) := by decide +kernel
theorem dX8_begins_40 : fet cX8_begins 40 = some (.iconst 0) := by decide +kernel
theorem dX8_begins_41 : fet cX8_begins 41 = some (.iastore) := by decide +kernel
theorem dX8_begins_42 : fet cX8_begins 42 = some (.iinc 1 1) := by decide +kernel
theorem dX8_begins_45 : fet cX8_begins 45 = some (.goto (-17)) := by decide +kernel
theorem dX8_begins_48 : fet cX8_begins 48 = some (.iconst 0) := by decide +kernel
theorem dX8_begins_49 : fet cX8_begins 49 = some (.istore_n 1) := by decide +kernel
theorem dX8_begins_50 : fet cX8_begins 50 = some (.iload_n 1) := by decide +kernel
theorem dX8_begins_51 : fet cX8_begins 51 = some (.aload_n 0) := by decide +kernel
theorem dX8_begins_52 : fet cX8_begins 52 = some (.getfield 7) := by decide +kernel
theorem dX8_begins_55 : fet cX8_begins 55 = some (.iconst 2) := by decide +kernel
theorem dX8_begins_56 : fet cX8_begins 56 = some (.iaload) := by decide +kernel
theorem dX8_begins_57 : fet cX8_begins 57 = some (.if_icmp .ge 45) := by decide +kernel
theorem dX8_begins_60 : fet cX8_begins 60 = some (.aload_n 0) := by decide +kernel
theorem dX8_begins_61 : fet cX8_begins 61 = some (.getfield 19) := by decide +kernel
theorem dX8_begins_64 : fet cX8_begins 64 = some (.bipush 19) := by decide +kernel
theorem dX8_begins_66 : fet cX8_begins 66 = some (.iload_n 1) := by decide +kernel
theorem dX8_begins_67 : fet cX8_begins 67 = some (.iadd) := by decide +kernel
theorem dX8_begins_68 : fet cX8_begins 68 = some (.aload_n 0) := by decide +kernel
theorem dX8_begins_69 : fet cX8_begins 69 = some (.getfield 7) := by decide +kernel
theorem dX8_begins_72 : fet cX8_begins 72 = some (.bipush 40) := by decide +kernel
theorem dX8_begins_74 : fet cX8_begins 74 = some (.iload_n 1) := by decide +kernel
theorem dX8_begins_75 : fet cX8_begins 75 = some (.iadd) := by decide +kernel
theorem dX8_begins_76 : fet cX8_begins 76 = some (.iaload) := by decide +kernel
theorem dX8_begins_77 : fet cX8_begins 77 = some (.iastore) := by decide +kernel
theorem dX8_begins_78 : fet cX8_begins 78 = some (.aload_n 0) := by decide +kernel
theorem dX8_begins_79 : fet cX8_begins 79 = some (.getfield 19) := by decide +kernel
theorem dX8_begins_82 : fet cX8_begins 82 = some (.bipush 24) := by decide +kernel
theorem dX8_begins_84 : fet cX8_begins 84 = some (.iload_n 1) := by decide +kernel
theorem dX8_begins_85 : fet cX8_begins 85 = some (.iadd) := by decide +kernel
theorem dX8_begins_86 : fet cX8_begins 86 = some (.aload_n 0) := by decide +kernel
theorem dX8_begins_87 : fet cX8_begins 87 = some (.getfield 7) := by decide +kernel
theorem dX8_begins_90 : fet cX8_begins 90 = some (.bipush 45) := by decide +kernel
theorem dX8_begins_92 : fet cX8_begins 92 = some (.iload_n 1) := by decide +kernel
theorem dX8_begins_93 : fet cX8_begins 93 = some (.iadd) := by decide +kernel
theorem dX8_begins_94 : fet cX8_begins 94 = some (.iaload) := by decide +kernel
theorem dX8_begins_95 : fet cX8_begins 95 = some (.iastore) := by decide +kernel
theorem dX8_begins_96 : fet cX8_begins 96 = some (.iinc 1 1) := by decide +kernel
theorem dX8_begins_99 : fet cX8_begins 99 = some (.goto (-49)) := by decide +kernel
theorem dX8_begins_102 : fet cX8_begins 102 = some (.iconst 0) := by decide +kernel
theorem dX8_begins_103 : fet cX8_begins 103 = some (.istore_n 1) := by decide +kernel
theorem dX8_begins_104 : fet cX8_begins 104 = some (.iload_n 1) := by decide +kernel
theorem dX8_begins_105 : fet cX8_begins 105 = some (.aload_n 0) := by decide +kernel
theorem dX8_begins_106 : fet cX8_begins 106 = some (.getfield 7) := by decide +kernel
theorem dX8_begins_109 : fet cX8_begins 109 = some (.iconst 1) := by decide +kernel
theorem dX8_begins_110 : fet cX8_begins 110 = some (.iaload) := by decide +kernel
theorem dX8_begins_111 : fet cX8_begins 111 = some (.if_icmp .ge 46) := by decide +kernel
theorem dX8_begins_114 : fet cX8_begins 114 = some (.iconst 1) := by decide +kernel
theorem dX8_begins_115 : fet cX8_begins 115 = some (.istore_n 2) := by decide +kernel
theorem dX8_begins_116 : fet cX8_begins 116 = some (.iload_n 2) := by decide +kernel
theorem dX8_begins_117 : fet cX8_begins 117 = some (.bipush 16) := by decide +kernel
theorem dX8_begins_119 : fet cX8_begins 119 = some (.if_icmp .ge 32) := by decide +kernel
theorem dX8_begins_122 : fet cX8_begins 122 = some (.aload_n 0) := by decide +kernel
theorem dX8_begins_123 : fet cX8_begins 123 = some (.getfield 19) := by decide +kernel
theorem dX8_begins_126 : fet cX8_begins 126 = some (.bipush 29) := by decide +kernel
theorem dX8_begins_128 : fet cX8_begins 128 = some (.bipush 16) := by decide +kernel
theorem dX8_begins_130 : fet cX8_begins 130 = some (.iload_n 1) := by decide +kernel
theorem dX8_begins_131 : fet cX8_begins 131 = some (.imul) := by decide +kernel
theorem dX8_begins_132 : fet cX8_begins 132 = some (.iadd) := by decide +kernel
theorem dX8_begins_133 : fet cX8_begins 133 = some (.iload_n 2) := by decide +kernel
theorem dX8_begins_134 : fet cX8_begins 134 = some (.iadd) := by decide +kernel
theorem dX8_begins_135 : fet cX8_begins 135 = some (.aload_n 0) := by decide +kernel
theorem dX8_begins_136 : fet cX8_begins 136 = some (.getfield 7) := by decide +kernel
theorem dX8_begins_139 : fet cX8_begins 139 = some (.bipush 22) := by decide +kernel
theorem dX8_begins_141 : fet cX8_begins 141 = some (.iload_n 1) := by decide +kernel
theorem dX8_begins_142 : fet cX8_begins 142 = some (.iadd) := by decide +kernel
theorem dX8_begins_143 : fet cX8_begins 143 = some (.iaload) := by decide +kernel
theorem dX8_begins_144 : fet cX8_begins 144 = some (.iastore) := by decide +kernel
theorem dX8_begins_145 : fet cX8_begins 145 = some (.iinc 2 1) := by decide +kernel
theorem dX8_begins_148 : fet cX8_begins 148 = some (.goto (-32)) := by decide +kernel
theorem dX8_begins_151 : fet cX8_begins 151 = some (.iinc 1 1) := by decide +kernel
theorem dX8_begins_154 : fet cX8_begins 154 = some (.goto (-50)) := by decide +kernel
theorem dX8_begins_157 : fet cX8_begins 157 = some (.aload_n 0) := by decide +kernel
theorem dX8_begins_158 : fet cX8_begins 158 = some (.iconst 0) := by decide +kernel
theorem dX8_begins_159 : fet cX8_begins 159 = some (.putfield 113) := by decide +kernel
theorem dX8_begins_162 : fet cX8_begins 162 = some (.aload_n 0) := by decide +kernel
theorem dX8_begins_163 : fet cX8_begins 163 = some (.iconst 0) := by decide +kernel
theorem dX8_begins_164 : fet cX8_begins 164 = some (.putfield 116) := by decide +kernel
theorem dX8_begins_167 : fet cX8_begins 167 = some (.aload_n 0) := by decide +kernel
theorem dX8_begins_168 : fet cX8_begins 168 = some (.iconst 0) := by decide +kernel
theorem dX8_begins_169 : fet cX8_begins 169 = some (.putfield 119) := by decide +kernel
theorem dX8_begins_172 : fet cX8_begins 172 = some (.return_) := by decide +kernel
theorem dX8_lay_0 : fet cX8_lay 0 = some (.aload_n 0) := by decide +kernel
theorem dX8_lay_1 : fet cX8_lay 1 = some (.invokevirtual 109) := by decide +kernel
theorem dX8_lay_4 : fet cX8_lay 4 = some (.bipush (-4)) := by decide +kernel
theorem dX8_lay_6 : fet cX8_lay 6 = some (.if_icmp .ne 12) := by decide +kernel
theorem dX8_lay_9 : fet cX8_lay 9 = some (.aload_n 0) := by decide +kernel
theorem dX8_lay_10 : fet cX8_lay 10 = some (.getfield 13) := by decide +kernel
theorem dX8_lay_13 : fet cX8_lay 13 = some (.iconst 1) := by decide +kernel
theorem dX8_lay_14 : fet cX8_lay 14 = some (.iaload) := by decide +kernel
theorem dX8_lay_15 : fet cX8_lay 15 = some (.ifCond .ne 6) := by decide +kernel
theorem dX8_lay_18 : fet cX8_lay 18 = some (.bipush (-2)) := by decide +kernel
theorem dX8_lay_20 : fet cX8_lay 20 = some (.ireturn) := by decide +kernel
theorem dX8_lay_21 : fet cX8_lay 21 = some (.aload_n 0) := by decide +kernel
theorem dX8_lay_22 : fet cX8_lay 22 = some (.invokevirtual 57) := by decide +kernel
theorem dX8_lay_25 : fet cX8_lay 25 = some (.aload_n 0) := by decide +kernel
theorem dX8_lay_26 : fet cX8_lay 26 = some (.getfield 7) := by decide +kernel
theorem dX8_lay_29 : fet cX8_lay 29 = some (.iconst 0) := by decide +kernel
theorem dX8_lay_30 : fet cX8_lay 30 = some (.iaload) := by decide +kernel
theorem dX8_lay_31 : fet cX8_lay 31 = some (.ireturn) := by decide +kernel
theorem dX8_isIsland_0 : fet cX8_isIsland 0 = some (.iload_n 1) := by decide +kernel
theorem dX8_isIsland_1 : fet cX8_isIsland 1 = some (.i2l) := by decide +kernel
theorem dX8_isIsland_2 : fet cX8_isIsland 2 = some (.lconst 0) := by decide +kernel
theorem dX8_isIsland_3 : fet cX8_isIsland 3 = some (.aload_n 0) := by decide +kernel
theorem dX8_isIsland_4 : fet cX8_isIsland 4 = some (.getfield 7) := by decide +kernel
theorem dX8_isIsland_7 : fet cX8_isIsland 7 = some (.iconst 0) := by decide +kernel
theorem dX8_isIsland_8 : fet cX8_isIsland 8 = some (.iaload) := by decide +kernel
theorem dX8_isIsland_9 : fet cX8_isIsland 9 = some (.iconst 1) := by decide +kernel
theorem dX8_isIsland_10 : fet cX8_isIsland 10 = some (.isub) := by decide +kernel
theorem dX8_isIsland_11 : fet cX8_isIsland 11 = some (.i2l) := by decide +kernel
theorem dX8_isIsland_12 : fet cX8_isIsland 12 = some (.invokestatic 60) := by decide +kernel
theorem dX8_isIsland_15 : fet cX8_isIsland 15 = some (.ireturn) := by decide +kernel
theorem dX8_isBridge_0 : fet cX8_isBridge 0 = some (.iload_n 1) := by decide +kernel
theorem dX8_isBridge_1 : fet cX8_isBridge 1 = some (.i2l) := by decide +kernel
theorem dX8_isBridge_2 : fet cX8_isBridge 2 = some (.lconst 0) := by decide +kernel
theorem dX8_isBridge_3 : fet cX8_isBridge 3 = some (.aload_n 0) := by decide +kernel
theorem dX8_isBridge_4 : fet cX8_isBridge 4 = some (.getfield 7) := by decide +kernel
theorem dX8_isBridge_7 : fet cX8_isBridge 7 = some (.iconst 1) := by decide +kernel
theorem dX8_isBridge_8 : fet cX8_isBridge 8 = some (.iaload) := by decide +kernel
theorem dX8_isBridge_9 : fet cX8_isBridge 9 = some (.iconst 1) := by decide +kernel
theorem dX8_isBridge_10 : fet cX8_isBridge 10 = some (.isub) := by decide +kernel
theorem dX8_isBridge_11 : fet cX8_isBridge 11 = some (.i2l) := by decide +kernel
theorem dX8_isBridge_12 : fet cX8_isBridge 12 = some (.invokestatic 60) := by decide +kernel
theorem dX8_isBridge_15 : fet cX8_isBridge 15 = some (.ireturn) := by decide +kernel
theorem dX8_isGoer_0 : fet cX8_isGoer 0 = some (.iload_n 1) := by decide +kernel
theorem dX8_isGoer_1 : fet cX8_isGoer 1 = some (.i2l) := by decide +kernel
theorem dX8_isGoer_2 : fet cX8_isGoer 2 = some (.lconst 0) := by decide +kernel
theorem dX8_isGoer_3 : fet cX8_isGoer 3 = some (.aload_n 0) := by decide +kernel
theorem dX8_isGoer_4 : fet cX8_isGoer 4 = some (.getfield 7) := by decide +kernel
theorem dX8_isGoer_7 : fet cX8_isGoer 7 = some (.iconst 2) := by decide +kernel
theorem dX8_isGoer_8 : fet cX8_isGoer 8 = some (.iaload) := by decide +kernel
theorem dX8_isGoer_9 : fet cX8_isGoer 9 = some (.iconst 1) := by decide +kernel
theorem dX8_isGoer_10 : fet cX8_isGoer 10 = some (.isub) := by decide +kernel
theorem dX8_isGoer_11 : fet cX8_isGoer 11 = some (.i2l) := by decide +kernel
theorem dX8_isGoer_12 : fet cX8_isGoer 12 = some (.invokestatic 60) := by decide +kernel
theorem dX8_isGoer_15 : fet cX8_isGoer 15 = some (.ireturn) := by decide +kernel
theorem dX8_oakSet_0 : fet cX8_oakSet 0 = some (.iconst 0) := by decide +kernel
theorem dX8_oakSet_1 : fet cX8_oakSet 1 = some (.istore_n 1) := by decide +kernel
theorem dX8_oakSet_2 : fet cX8_oakSet 2 = some (.iconst 0) := by decide +kernel
theorem dX8_oakSet_3 : fet cX8_oakSet 3 = some (.istore_n 2) := by decide +kernel
theorem dX8_oakSet_4 : fet cX8_oakSet 4 = some (.iload_n 2) := by decide +kernel
theorem dX8_oakSet_5 : fet cX8_oakSet 5 = some (.aload_n 0) := by decide +kernel
theorem dX8_oakSet_6 : fet cX8_oakSet 6 = some (.getfield 7) := by decide +kernel
theorem dX8_oakSet_9 : fet cX8_oakSet 9 = some (.iconst 1) := by decide +kernel
theorem dX8_oakSet_10 : fet cX8_oakSet 10 = some (.iaload) := by decide +kernel
theorem dX8_oakSet_11 : fet cX8_oakSet 11 = some (.if_icmp .ge 23) := by decide +kernel
theorem dX8_oakSet_14 : fet cX8_oakSet 14 = some (.iload_n 1) := by decide +kernel
theorem dX8_oakSet_15 : fet cX8_oakSet 15 = some (.aload_n 0) := by decide +kernel
theorem dX8_oakSet_16 : fet cX8_oakSet 16 = some (.getfield 7) := by decide +kernel
theorem dX8_oakSet_19 : fet cX8_oakSet 19 = some (.bipush 31) := by decide +kernel
theorem dX8_oakSet_21 : fet cX8_oakSet 21 = some (.iload_n 2) := by decide +kernel
theorem dX8_oakSet_22 : fet cX8_oakSet 22 = some (.iadd) := by decide +kernel
theorem dX8_oakSet_23 : fet cX8_oakSet 23 = some (.iaload) := by decide +kernel
theorem dX8_oakSet_24 : fet cX8_oakSet 24 = some (.iload_n 2) := by decide +kernel
theorem dX8_oakSet_25 : fet cX8_oakSet 25 = some (.ishl) := by decide +kernel
theorem dX8_oakSet_26 : fet cX8_oakSet 26 = some (.ior) := by decide +kernel
theorem dX8_oakSet_27 : fet cX8_oakSet 27 = some (.istore_n 1) := by decide +kernel
theorem dX8_oakSet_28 : fet cX8_oakSet 28 = some (.iinc 2 1) := by decide +kernel
theorem dX8_oakSet_31 : fet cX8_oakSet 31 = some (.goto (-27)) := by decide +kernel
theorem dX8_oakSet_34 : fet cX8_oakSet 34 = some (.iload_n 1) := by decide +kernel
theorem dX8_oakSet_35 : fet cX8_oakSet 35 = some (.ireturn) := by decide +kernel
theorem dX8_plainly_0 : fet cX8_plainly 0 = some (.aload_n 0) := by decide +kernel
theorem dX8_plainly_1 : fet cX8_plainly 1 = some (.aload_n 0) := by decide +kernel
theorem dX8_plainly_2 : fet cX8_plainly 2 = some (.getfield 7) := by decide +kernel
theorem dX8_plainly_5 : fet cX8_plainly 5 = some (.iconst 3) := by decide +kernel
theorem dX8_plainly_6 : fet cX8_plainly 6 = some (.iaload) := by decide +kernel
theorem dX8_plainly_7 : fet cX8_plainly 7 = some (.putfield 122) := by decide +kernel
theorem dX8_plainly_10 : fet cX8_plainly 10 = some (.aload_n 0) := by decide +kernel
theorem dX8_plainly_11 : fet cX8_plainly 11 = some (.aload_n 0) := by decide +kernel
theorem dX8_plainly_12 : fet cX8_plainly 12 = some (.invokevirtual 125) := by decide +kernel
theorem dX8_plainly_15 : fet cX8_plainly 15 = some (.putfield 128) := by decide +kernel
theorem dX8_plainly_18 : fet cX8_plainly 18 = some (.aload_n 0) := by decide +kernel
theorem dX8_plainly_19 : fet cX8_plainly 19 = some (.iconst 0) := by decide +kernel
theorem dX8_plainly_20 : fet cX8_plainly 20 = some (.putfield 131) := by decide +kernel
theorem dX8_plainly_23 : fet cX8_plainly 23 = some (.aload_n 0) := by decide +kernel
theorem dX8_plainly_24 : fet cX8_plainly 24 = some (.iconst (-1)) := by decide +kernel
theorem dX8_plainly_25 : fet cX8_plainly 25 = some (.putfield 134) := by decide +kernel
theorem dX8_plainly_28 : fet cX8_plainly 28 = some (.aload_n 0) := by decide +kernel
theorem dX8_plainly_29 : fet cX8_plainly 29 = some (.iconst (-1)) := by decide +kernel
theorem dX8_plainly_30 : fet cX8_plainly 30 = some (.putfield 137) := by decide +kernel
theorem dX8_plainly_33 : fet cX8_plainly 33 = some (.aload_n 0) := by decide +kernel
theorem dX8_plainly_34 : fet cX8_plainly 34 = some (.iconst 0) := by decide +kernel
theorem dX8_plainly_35 : fet cX8_plainly 35 = some (.putfield 140) := by decide +kernel
theorem dX8_plainly_38 : fet cX8_plainly 38 = some (.aload_n 0) := by decide +kernel
theorem dX8_plainly_39 : fet cX8_plainly 39 = some (.iconst 0) := by decide +kernel
theorem dX8_plainly_40 : fet cX8_plainly 40 = some (.putfield 143) := by decide +kernel
theorem dX8_plainly_43 : fet cX8_plainly 43 = some (.aload_n 0) := by decide +kernel
theorem dX8_plainly_44 : fet cX8_plainly 44 = some (.iconst 0) := by decide +kernel
theorem dX8_plainly_45 : fet cX8_plainly 45 = some (.putfield 146) := by decide +kernel
theorem dX8_plainly_48 : fet cX8_plainly 48 = some (.aload_n 0) := by decide +kernel
theorem dX8_plainly_49 : fet cX8_plainly 49 = some (.iconst 0) := by decide +kernel
theorem dX8_plainly_50 : fet cX8_plainly 50 = some (.putfield 149) := by decide +kernel
theorem dX8_plainly_53 : fet cX8_plainly 53 = some (.aload_n 0) := by decide +kernel
theorem dX8_plainly_54 : fet cX8_plainly 54 = some (.iconst 0) := by decide +kernel
theorem dX8_plainly_55 : fet cX8_plainly 55 = some (.putfield 152) := by decide +kernel
theorem dX8_plainly_58 : fet cX8_plainly 58 = some (.aload_n 0) := by decide +kernel
theorem dX8_plainly_59 : fet cX8_plainly 59 = some (.iconst 0) := by decide +kernel
theorem dX8_plainly_60 : fet cX8_plainly 60 = some (.putfield 155) := by decide +kernel
theorem dX8_plainly_63 : fet cX8_plainly 63 = some (.return_) := by decide +kernel
theorem dX8_ring_0 : fet cX8_ring 0 = some (.iload_n 0) := by decide +kernel
theorem dX8_ring_1 : fet cX8_ring 1 = some (.bipush 16) := by decide +kernel
theorem dX8_ring_3 : fet cX8_ring 3 = some (.iload_n 1) := by decide +kernel
theorem dX8_ring_4 : fet cX8_ring 4 = some (.imul) := by decide +kernel
theorem dX8_ring_5 : fet cX8_ring 5 = some (.iadd) := by decide +kernel
theorem dX8_ring_6 : fet cX8_ring 6 = some (.iload_n 2) := by decide +kernel
theorem dX8_ring_7 : fet cX8_ring 7 = some (.bipush 16) := by decide +kernel
theorem dX8_ring_9 : fet cX8_ring 9 = some (.iadd) := by decide +kernel
theorem dX8_ring_10 : fet cX8_ring 10 = some (.bipush 16) := by decide +kernel
theorem dX8_ring_12 : fet cX8_ring 12 = some (.irem) := by decide +kernel
theorem dX8_ring_13 : fet cX8_ring 13 = some (.iadd) := by decide +kernel
theorem dX8_ring_14 : fet cX8_ring 14 = some (.ireturn) := by decide +kernel
theorem dX8_shows_0 : fet cX8_shows 0 = some (.aload_n 1) := by decide +kernel
theorem dX8_shows_1 : fet cX8_shows 1 = some (.bipush 29) := by decide +kernel
theorem dX8_shows_3 : fet cX8_shows 3 = some (.iload_n 2) := by decide +kernel
theorem dX8_shows_4 : fet cX8_shows 4 = some (.aload_n 1) := by decide +kernel
theorem dX8_shows_5 : fet cX8_shows 5 = some (.iconst 0) := by decide +kernel
theorem dX8_shows_6 : fet cX8_shows 6 = some (.iaload) := by decide +kernel
theorem dX8_shows_7 : fet cX8_shows 7 = some (.aload_n 0) := by decide +kernel
theorem dX8_shows_8 : fet cX8_shows 8 = some (.getfield 122) := by decide +kernel
theorem dX8_shows_11 : fet cX8_shows 11 = some (.isub) := by decide +kernel
theorem dX8_shows_12 : fet cX8_shows 12 = some (.invokestatic 158) := by decide +kernel
theorem dX8_shows_15 : fet cX8_shows 15 = some (.iaload) := by decide +kernel
theorem dX8_shows_16 : fet cX8_shows 16 = some (.iconst 5) := by decide +kernel
theorem dX8_shows_17 : fet cX8_shows 17 = some (.aload_n 0) := by decide +kernel
theorem dX8_shows_18 : fet cX8_shows 18 = some (.getfield 128) := by decide +kernel
theorem dX8_shows_21 : fet cX8_shows 21 = some (.iload_n 2) := by decide +kernel
theorem dX8_shows_22 : fet cX8_shows 22 = some (.ishr) := by decide +kernel
theorem dX8_shows_23 : fet cX8_shows 23 = some (.iconst 1) := by decide +kernel
theorem dX8_shows_24 : fet cX8_shows 24 = some (.iand) := by decide +kernel
theorem dX8_shows_25 : fet cX8_shows 25 = some (.imul) := by decide +kernel
theorem dX8_shows_26 : fet cX8_shows 26 = some (.iadd) := by decide +kernel
theorem dX8_shows_27 : fet cX8_shows 27 = some (.ireturn) := by decide +kernel
theorem dX8_planksOf_0 : fet cX8_planksOf 0 = some (.aload_n 0) := by decide +kernel
theorem dX8_planksOf_1 : fet cX8_planksOf 1 = some (.aload_n 1) := by decide +kernel
theorem dX8_planksOf_2 : fet cX8_planksOf 2 = some (.iload_n 2) := by decide +kernel
theorem dX8_planksOf_3 : fet cX8_planksOf 3 = some (.invokevirtual 162) := by decide +kernel
theorem dX8_planksOf_6 : fet cX8_planksOf 6 = some (.aload_n 1) := by decide +kernel
theorem dX8_planksOf_7 : fet cX8_planksOf 7 = some (.sipush 173) := by decide +kernel
theorem dX8_planksOf_10 : fet cX8_planksOf 10 = some (.iload_n 2) := by decide +kernel
theorem dX8_planksOf_11 : fet cX8_planksOf 11 = some (.aload_n 1) := by decide +kernel
theorem dX8_planksOf_12 : fet cX8_planksOf 12 = some (.iconst 0) := by decide +kernel
theorem dX8_planksOf_13 : fet cX8_planksOf 13 = some (.iaload) := by decide +kernel
theorem dX8_planksOf_14 : fet cX8_planksOf 14 = some (.aload_n 0) := by decide +kernel
theorem dX8_planksOf_15 : fet cX8_planksOf 15 = some (.getfield 122) := by decide +kernel
theorem dX8_planksOf_18 : fet cX8_planksOf 18 = some (.isub) := by decide +kernel
theorem dX8_planksOf_19 : fet cX8_planksOf 19 = some (.invokestatic 158) := by decide +kernel
theorem dX8_planksOf_22 : fet cX8_planksOf 22 = some (.iaload) := by decide +kernel
theorem dX8_planksOf_23 : fet cX8_planksOf 23 = some (.isub) := by decide +kernel
theorem dX8_planksOf_24 : fet cX8_planksOf 24 = some (.ireturn) := by decide +kernel
theorem dX8_needs_0 : fet cX8_needs 0 = some (.aload_n 0) := by decide +kernel
theorem dX8_needs_1 : fet cX8_needs 1 = some (.getfield 7) := by decide +kernel
theorem dX8_needs_4 : fet cX8_needs 4 = some (.bipush 60) := by decide +kernel
theorem dX8_needs_6 : fet cX8_needs 6 = some (.iload_n 1) := by decide +kernel
theorem dX8_needs_7 : fet cX8_needs 7 = some (.iadd) := by decide +kernel
theorem dX8_needs_8 : fet cX8_needs 8 = some (.iaload) := by decide +kernel
theorem dX8_needs_9 : fet cX8_needs 9 = some (.iconst 1) := by decide +kernel
theorem dX8_needs_10 : fet cX8_needs 10 = some (.if_icmp .ne 17) := by decide +kernel
theorem dX8_needs_13 : fet cX8_needs 13 = some (.iconst 2) := by decide +kernel
theorem dX8_needs_14 : fet cX8_needs 14 = some (.aload_n 0) := by decide +kernel
theorem dX8_needs_15 : fet cX8_needs 15 = some (.getfield 7) := by decide +kernel
theorem dX8_needs_18 : fet cX8_needs 18 = some (.bipush 50) := by decide +kernel
theorem dX8_needs_20 : fet cX8_needs 20 = some (.iload_n 1) := by decide +kernel
theorem dX8_needs_21 : fet cX8_needs 21 = some (.iadd) := by decide +kernel
theorem dX8_needs_22 : fet cX8_needs 22 = some (.iaload) := by decide +kernel
theorem dX8_needs_23 : fet cX8_needs 23 = some (.imul) := by decide +kernel
theorem dX8_needs_24 : fet cX8_needs 24 = some (.goto 12) := by decide +kernel
theorem dX8_needs_27 : fet cX8_needs 27 = some (.aload_n 0) := by decide +kernel
theorem dX8_needs_28 : fet cX8_needs 28 = some (.getfield 7) := by decide +kernel
theorem dX8_needs_31 : fet cX8_needs 31 = some (.bipush 50) := by decide +kernel
theorem dX8_needs_33 : fet cX8_needs 33 = some (.iload_n 1) := by decide +kernel
theorem dX8_needs_34 : fet cX8_needs 34 = some (.iadd) := by decide +kernel
theorem dX8_needs_35 : fet cX8_needs 35 = some (.iaload) := by decide +kernel
theorem dX8_needs_36 : fet cX8_needs 36 = some (.ireturn) := by decide +kernel
theorem dX8_end_0 : fet cX8_end 0 = some (.aload_n 0) := by decide +kernel
theorem dX8_end_1 : fet cX8_end 1 = some (.getfield 7) := by decide +kernel
theorem dX8_end_4 : fet cX8_end 4 = some (.iconst 4) := by decide +kernel
theorem dX8_end_5 : fet cX8_end 5 = some (.iload_n 1) := by decide +kernel
theorem dX8_end_6 : fet cX8_end 6 = some (.iadd) := by decide +kernel
theorem dX8_end_7 : fet cX8_end 7 = some (.iaload) := by decide +kernel
theorem dX8_end_8 : fet cX8_end 8 = some (.iload_n 2) := by decide +kernel
theorem dX8_end_9 : fet cX8_end 9 = some (.if_icmp .ne 15) := by decide +kernel
theorem dX8_end_12 : fet cX8_end 12 = some (.aload_n 0) := by decide +kernel
theorem dX8_end_13 : fet cX8_end 13 = some (.getfield 7) := by decide +kernel
theorem dX8_end_16 : fet cX8_end 16 = some (.bipush 13) := by decide +kernel
theorem dX8_end_18 : fet cX8_end 18 = some (.iload_n 1) := by decide +kernel
theorem dX8_end_19 : fet cX8_end 19 = some (.iadd) := by decide +kernel
theorem dX8_end_20 : fet cX8_end 20 = some (.iaload) := by decide +kernel
theorem dX8_end_21 : fet cX8_end 21 = some (.goto 28) := by decide +kernel
theorem dX8_end_24 : fet cX8_end 24 = some (.aload_n 0) := by decide +kernel
theorem dX8_end_25 : fet cX8_end 25 = some (.getfield 7) := by decide +kernel
theorem dX8_end_28 : fet cX8_end 28 = some (.bipush 13) := by decide +kernel
theorem dX8_end_30 : fet cX8_end 30 = some (.iload_n 1) := by decide +kernel
theorem dX8_end_31 : fet cX8_end 31 = some (.iadd) := by decide +kernel
theorem dX8_end_32 : fet cX8_end 32 = some (.iaload) := by decide +kernel
theorem dX8_end_33 : fet cX8_end 33 = some (.iload_n 2) := by decide +kernel
theorem dX8_end_34 : fet cX8_end 34 = some (.if_icmp .ne 14) := by decide +kernel
theorem dX8_end_37 : fet cX8_end 37 = some (.aload_n 0) := by decide +kernel
theorem dX8_end_38 : fet cX8_end 38 = some (.getfield 7) := by decide +kernel
theorem dX8_end_41 : fet cX8_end 41 = some (.iconst 4) := by decide +kernel
theorem dX8_end_42 : fet cX8_end 42 = some (.iload_n 1) := by decide +kernel
theorem dX8_end_43 : fet cX8_end 43 = some (.iadd) := by decide +kernel
theorem dX8_end_44 : fet cX8_end 44 = some (.iaload) := by decide +kernel
theorem dX8_end_45 : fet cX8_end 45 = some (.goto 4) := by decide +kernel
theorem dX8_end_48 : fet cX8_end 48 = some (.iconst (-1)) := by decide +kernel
theorem dX8_end_49 : fet cX8_end 49 = some (.ireturn) := by decide +kernel
theorem dX8_mayTake_0 : fet cX8_mayTake 0 = some (.aload_n 0) := by decide +kernel
theorem dX8_mayTake_1 : fet cX8_mayTake 1 = some (.aload_n 1) := by decide +kernel
theorem dX8_mayTake_2 : fet cX8_mayTake 2 = some (.iload_n 3) := by decide +kernel
theorem dX8_mayTake_3 : fet cX8_mayTake 3 = some (.invokevirtual 162) := by decide +kernel
theorem dX8_mayTake_6 : fet cX8_mayTake 6 = some (.aload_n 0) := by decide +kernel
theorem dX8_mayTake_7 : fet cX8_mayTake 7 = some (.iload_n 2) := by decide +kernel
theorem dX8_mayTake_8 : fet cX8_mayTake 8 = some (.invokevirtual 166) := by decide +kernel
theorem dX8_mayTake_11 : fet cX8_mayTake 11 = some (.if_icmp .lt 27) := by decide +kernel
theorem dX8_mayTake_14 : fet cX8_mayTake 14 = some (.iload_n 3) := by decide +kernel
theorem dX8_mayTake_15 : fet cX8_mayTake 15 = some (.aload_n 0) := by decide +kernel
theorem dX8_mayTake_16 : fet cX8_mayTake 16 = some (.getfield 137) := by decide +kernel
theorem dX8_mayTake_19 : fet cX8_mayTake 19 = some (.if_icmp .ne 15) := by decide +kernel
theorem dX8_mayTake_22 : fet cX8_mayTake 22 = some (.aload_n 0) := by decide +kernel
theorem dX8_mayTake_23 : fet cX8_mayTake 23 = some (.getfield 140) := by decide +kernel
theorem dX8_mayTake_26 : fet cX8_mayTake 26 = some (.iload_n 2) := by decide +kernel
theorem dX8_mayTake_27 : fet cX8_mayTake 27 = some (.ishr) := by decide +kernel
theorem dX8_mayTake_28 : fet cX8_mayTake 28 = some (.iconst 1) := by decide +kernel
theorem dX8_mayTake_29 : fet cX8_mayTake 29 = some (.iand) := by decide +kernel
theorem dX8_mayTake_30 : fet cX8_mayTake 30 = some (.iconst 1) := by decide +kernel
theorem dX8_mayTake_31 : fet cX8_mayTake 31 = some (.if_icmp .eq 7) := by decide +kernel
theorem dX8_mayTake_34 : fet cX8_mayTake 34 = some (.iconst 1) := by decide +kernel
theorem dX8_mayTake_35 : fet cX8_mayTake 35 = some (.goto 4) := by decide +kernel
theorem dX8_mayTake_38 : fet cX8_mayTake 38 = some (.iconst 0) := by decide +kernel
theorem dX8_mayTake_39 : fet cX8_mayTake 39 = some (.ireturn) := by decide +kernel
theorem dX8_layOff_0 : fet cX8_layOff 0 = some (.iconst 0) := by decide +kernel
theorem dX8_layOff_1 : fet cX8_layOff 1 = some (.istore_n 3) := by decide +kernel
theorem dX8_layOff_2 : fet cX8_layOff 2 = some (.iload_n 3) := by decide +kernel
theorem dX8_layOff_3 : fet cX8_layOff 3 = some (.bipush 8) := by decide +kernel
theorem dX8_layOff_5 : fet cX8_layOff 5 = some (.if_icmp .ge 31) := by decide +kernel
theorem dX8_layOff_8 : fet cX8_layOff 8 = some (.aload_n 0) := by decide +kernel
theorem dX8_layOff_9 : fet cX8_layOff 9 = some (.getfield 34) := by decide +kernel
theorem dX8_layOff_12 : fet cX8_layOff 12 = some (.iload_n 3) := by decide +kernel
theorem dX8_layOff_13 : fet cX8_layOff 13 = some (.iload_n 3) := by decide +kernel
theorem dX8_layOff_14 : fet cX8_layOff 14 = some (.aload_n 1) := by decide +kernel
theorem dX8_layOff_15 : fet cX8_layOff 15 = some (.bipush 24) := by decide +kernel
theorem dX8_layOff_17 : fet cX8_layOff 17 = some (.iload_n 2) := by decide +kernel
theorem dX8_layOff_18 : fet cX8_layOff 18 = some (.iadd) := by decide +kernel
theorem dX8_layOff_19 : fet cX8_layOff 19 = some (.iaload) := by decide +kernel
theorem dX8_layOff_20 : fet cX8_layOff 20 = some (.if_icmp .ne 7) := by decide +kernel
theorem dX8_layOff_23 : fet cX8_layOff 23 = some (.iconst 0) := by decide +kernel
theorem dX8_layOff_24 : fet cX8_layOff 24 = some (.goto 5) := by decide +kernel
theorem dX8_layOff_27 : fet cX8_layOff 27 = some (.ldc 170) := by decide +kernel
theorem dX8_layOff_29 : fet cX8_layOff 29 = some (.iastore) := by decide +kernel
theorem dX8_layOff_30 : fet cX8_layOff 30 = some (.iinc 3 1) := by decide +kernel
theorem dX8_layOff_33 : fet cX8_layOff 33 = some (.goto (-31)) := by decide +kernel
theorem dX8_layOff_36 : fet cX8_layOff 36 = some (.iconst 0) := by decide +kernel
theorem dX8_layOff_37 : fet cX8_layOff 37 = some (.istore_n 3) := by decide +kernel
theorem dX8_layOff_38 : fet cX8_layOff 38 = some (.iload_n 3) := by decide +kernel
theorem dX8_layOff_39 : fet cX8_layOff 39 = some (.aload_n 0) := by decide +kernel
theorem dX8_layOff_40 : fet cX8_layOff 40 = some (.getfield 7) := by decide +kernel
theorem dX8_layOff_43 : fet cX8_layOff 43 = some (.iconst 0) := by decide +kernel
theorem dX8_layOff_44 : fet cX8_layOff 44 = some (.iaload) := by decide +kernel
theorem dX8_layOff_45 : fet cX8_layOff 45 = some (.if_icmp .ge 153) := by decide +kernel
theorem dX8_layOff_48 : fet cX8_layOff 48 = some (.iconst 0) := by decide +kernel
theorem dX8_layOff_49 : fet cX8_layOff 49 = some (.istore 4) := by decide +kernel
theorem dX8_layOff_51 : fet cX8_layOff 51 = some (.iload 4) := by decide +kernel
theorem dX8_layOff_53 : fet cX8_layOff 53 = some (.aload_n 0) := by decide +kernel
theorem dX8_layOff_54 : fet cX8_layOff 54 = some (.getfield 7) := by decide +kernel
theorem dX8_layOff_57 : fet cX8_layOff 57 = some (.iconst 1) := by decide +kernel
theorem dX8_layOff_58 : fet cX8_layOff 58 = some (.iaload) := by decide +kernel
theorem dX8_layOff_59 : fet cX8_layOff 59 = some (.if_icmp .ge 133) := by decide +kernel
theorem dX8_layOff_62 : fet cX8_layOff 62 = some (.aload_n 0) := by decide +kernel
theorem dX8_layOff_63 : fet cX8_layOff 63 = some (.aload_n 1) := by decide +kernel
theorem dX8_layOff_64 : fet cX8_layOff 64 = some (.iload_n 2) := by decide +kernel
theorem dX8_layOff_65 : fet cX8_layOff 65 = some (.iload 4) := by decide +kernel
theorem dX8_layOff_67 : fet cX8_layOff 67 = some (.invokevirtual 171) := by decide +kernel
theorem dX8_layOff_70 : fet cX8_layOff 70 = some (.ifCond .eq 116) := by decide +kernel
theorem dX8_layOff_73 : fet cX8_layOff 73 = some (.aload_n 0) := by decide +kernel
theorem dX8_layOff_74 : fet cX8_layOff 74 = some (.getfield 7) := by decide +kernel
theorem dX8_layOff_77 : fet cX8_layOff 77 = some (.iconst 4) := by decide +kernel
theorem dX8_layOff_78 : fet cX8_layOff 78 = some (.iload 4) := by decide +kernel
theorem dX8_layOff_80 : fet cX8_layOff 80 = some (.iadd) := by decide +kernel
theorem dX8_layOff_81 : fet cX8_layOff 81 = some (.iaload) := by decide +kernel
theorem dX8_layOff_82 : fet cX8_layOff 82 = some (.istore 5) := by decide +kernel
theorem dX8_layOff_84 : fet cX8_layOff 84 = some (.aload_n 0) := by decide +kernel
theorem dX8_layOff_85 : fet cX8_layOff 85 = some (.getfield 7) := by decide +kernel
theorem dX8_layOff_88 : fet cX8_layOff 88 = some (.bipush 13) := by decide +kernel
theorem dX8_layOff_90 : fet cX8_layOff 90 = some (.iload 4) := by decide +kernel
theorem dX8_layOff_92 : fet cX8_layOff 92 = some (.iadd) := by decide +kernel
theorem dX8_layOff_93 : fet cX8_layOff 93 = some (.iaload) := by decide +kernel
theorem dX8_layOff_94 : fet cX8_layOff 94 = some (.istore 6) := by decide +kernel
theorem dX8_layOff_96 : fet cX8_layOff 96 = some (.aload_n 0) := by decide +kernel
theorem dX8_layOff_97 : fet cX8_layOff 97 = some (.getfield 34) := by decide +kernel
theorem dX8_layOff_100 : fet cX8_layOff 100 = some (.iload 5) := by decide +kernel
theorem dX8_layOff_102 : fet cX8_layOff 102 = some (.aload_n 0) := by decide +kernel
theorem dX8_layOff_103 : fet cX8_layOff 103 = some (.getfield 34) := by decide +kernel
theorem dX8_layOff_106 : fet cX8_layOff 106 = some (.iload 6) := by decide +kernel
theorem dX8_layOff_108 : fet cX8_layOff 108 = some (.iaload) := by decide +kernel
theorem dX8_layOff_109 : fet cX8_layOff 109 = some (.iconst 1) := by decide +kernel
theorem dX8_layOff_110 : fet cX8_layOff 110 = some (.iadd) := by decide +kernel
theorem dX8_layOff_111 : fet cX8_layOff 111 = some (.aload_n 0) := by decide +kernel
theorem dX8_layOff_112 : fet cX8_layOff 112 = some (.getfield 34) := by decide +kernel
theorem dX8_layOff_115 : fet cX8_layOff 115 = some (.iload 5) := by decide +kernel
theorem dX8_layOff_117 : fet cX8_layOff 117 = some (.iaload) := by decide +kernel
theorem dX8_layOff_118 : fet cX8_layOff 118 = some (.if_icmp .ge 15) := by decide +kernel
theorem dX8_layOff_121 : fet cX8_layOff 121 = some (.aload_n 0) := by decide +kernel
theorem dX8_layOff_122 : fet cX8_layOff 122 = some (.getfield 34) := by decide +kernel
theorem dX8_layOff_125 : fet cX8_layOff 125 = some (.iload 6) := by decide +kernel
theorem dX8_layOff_127 : fet cX8_layOff 127 = some (.iaload) := by decide +kernel
theorem dX8_layOff_128 : fet cX8_layOff 128 = some (.iconst 1) := by decide +kernel
theorem dX8_layOff_129 : fet cX8_layOff 129 = some (.iadd) := by decide +kernel
theorem dX8_layOff_130 : fet cX8_layOff 130 = some (.goto 10) := by decide +kernel
theorem dX8_layOff_133 : fet cX8_layOff 133 = some (.aload_n 0) := by decide +kernel
theorem dX8_layOff_134 : fet cX8_layOff 134 = some (.getfield 34) := by decide +kernel
theorem dX8_layOff_137 : fet cX8_layOff 137 = some (.iload 5) := by decide +kernel
theorem dX8_layOff_139 : fet cX8_layOff 139 = some (.iaload) := by decide +kernel
theorem dX8_layOff_140 : fet cX8_layOff 140 = some (.iastore) := by decide +kernel
theorem dX8_layOff_141 : fet cX8_layOff 141 = some (.aload_n 0) := by decide +kernel
theorem dX8_layOff_142 : fet cX8_layOff 142 = some (.getfield 34) := by decide +kernel
theorem dX8_layOff_145 : fet cX8_layOff 145 = some (.iload 6) := by decide +kernel
theorem dX8_layOff_147 : fet cX8_layOff 147 = some (.aload_n 0) := by decide +kernel
theorem dX8_layOff_148 : fet cX8_layOff 148 = some (.getfield 34) := by decide +kernel
theorem dX8_layOff_151 : fet cX8_layOff 151 = some (.iload 5) := by decide +kernel
theorem dX8_layOff_153 : fet cX8_layOff 153 = some (.iaload) := by decide +kernel
theorem dX8_layOff_154 : fet cX8_layOff 154 = some (.iconst 1) := by decide +kernel
theorem dX8_layOff_155 : fet cX8_layOff 155 = some (.iadd) := by decide +kernel
theorem dX8_layOff_156 : fet cX8_layOff 156 = some (.aload_n 0) := by decide +kernel
theorem dX8_layOff_157 : fet cX8_layOff 157 = some (.getfield 34) := by decide +kernel
theorem dX8_layOff_160 : fet cX8_layOff 160 = some (.iload 6) := by decide +kernel
theorem dX8_layOff_162 : fet cX8_layOff 162 = some (.iaload) := by decide +kernel
theorem dX8_layOff_163 : fet cX8_layOff 163 = some (.if_icmp .ge 15) := by decide +kernel
theorem dX8_layOff_166 : fet cX8_layOff 166 = some (.aload_n 0) := by decide +kernel
theorem dX8_layOff_167 : fet cX8_layOff 167 = some (.getfield 34) := by decide +kernel
theorem dX8_layOff_170 : fet cX8_layOff 170 = some (.iload 5) := by decide +kernel
theorem dX8_layOff_172 : fet cX8_layOff 172 = some (.iaload) := by decide +kernel
theorem dX8_layOff_173 : fet cX8_layOff 173 = some (.iconst 1) := by decide +kernel
theorem dX8_layOff_174 : fet cX8_layOff 174 = some (.iadd) := by decide +kernel
theorem dX8_layOff_175 : fet cX8_layOff 175 = some (.goto 10) := by decide +kernel
theorem dX8_layOff_178 : fet cX8_layOff 178 = some (.aload_n 0) := by decide +kernel
theorem dX8_layOff_179 : fet cX8_layOff 179 = some (.getfield 34) := by decide +kernel
theorem dX8_layOff_182 : fet cX8_layOff 182 = some (.iload 6) := by decide +kernel
theorem dX8_layOff_184 : fet cX8_layOff 184 = some (.iaload) := by decide +kernel
theorem dX8_layOff_185 : fet cX8_layOff 185 = some (.iastore) := by decide +kernel
theorem dX8_layOff_186 : fet cX8_layOff 186 = some (.iinc 4 1) := by decide +kernel
theorem dX8_layOff_189 : fet cX8_layOff 189 = some (.goto (-138)) := by decide +kernel
theorem dX8_layOff_192 : fet cX8_layOff 192 = some (.iinc 3 1) := by decide +kernel
theorem dX8_layOff_195 : fet cX8_layOff 195 = some (.goto (-157)) := by decide +kernel
theorem dX8_layOff_198 : fet cX8_layOff 198 = some (.return_) := by decide +kernel
theorem dX8_takenBy_0 : fet cX8_takenBy 0 = some (.aload_n 1) := by decide +kernel
theorem dX8_takenBy_1 : fet cX8_takenBy 1 = some (.bipush 19) := by decide +kernel
theorem dX8_takenBy_3 : fet cX8_takenBy 3 = some (.iload_n 2) := by decide +kernel
theorem dX8_takenBy_4 : fet cX8_takenBy 4 = some (.iadd) := by decide +kernel
theorem dX8_takenBy_5 : fet cX8_takenBy 5 = some (.iaload) := by decide +kernel
theorem dX8_takenBy_6 : fet cX8_takenBy 6 = some (.ifCond .ge 6) := by decide +kernel
theorem dX8_takenBy_9 : fet cX8_takenBy 9 = some (.bipush (-4)) := by decide +kernel
theorem dX8_takenBy_11 : fet cX8_takenBy 11 = some (.ireturn) := by decide +kernel
theorem dX8_takenBy_12 : fet cX8_takenBy 12 = some (.aload_n 0) := by decide +kernel
theorem dX8_takenBy_13 : fet cX8_takenBy 13 = some (.aload_n 1) := by decide +kernel
theorem dX8_takenBy_14 : fet cX8_takenBy 14 = some (.iload_n 2) := by decide +kernel
theorem dX8_takenBy_15 : fet cX8_takenBy 15 = some (.invokevirtual 175) := by decide +kernel
theorem dX8_takenBy_18 : fet cX8_takenBy 18 = some (.aload_n 0) := by decide +kernel
theorem dX8_takenBy_19 : fet cX8_takenBy 19 = some (.getfield 34) := by decide +kernel
theorem dX8_takenBy_22 : fet cX8_takenBy 22 = some (.aload_n 1) := by decide +kernel
theorem dX8_takenBy_23 : fet cX8_takenBy 23 = some (.bipush 19) := by decide +kernel
theorem dX8_takenBy_25 : fet cX8_takenBy 25 = some (.iload_n 2) := by decide +kernel
theorem dX8_takenBy_26 : fet cX8_takenBy 26 = some (.iadd) := by decide +kernel
theorem dX8_takenBy_27 : fet cX8_takenBy 27 = some (.iaload) := by decide +kernel
theorem dX8_takenBy_28 : fet cX8_takenBy 28 = some (.iaload) := by decide +kernel
theorem dX8_takenBy_29 : fet cX8_takenBy 29 = some (.istore_n 3) := by decide +kernel
theorem dX8_takenBy_30 : fet cX8_takenBy 30 = some (.iconst 0) := by decide +kernel
theorem dX8_takenBy_31 : fet cX8_takenBy 31 = some (.istore 4) := by decide +kernel
theorem dX8_takenBy_33 : fet cX8_takenBy 33 = some (.iload 4) := by decide +kernel
theorem dX8_takenBy_35 : fet cX8_takenBy 35 = some (.aload_n 0) := by decide +kernel
theorem dX8_takenBy_36 : fet cX8_takenBy 36 = some (.getfield 7) := by decide +kernel
theorem dX8_takenBy_39 : fet cX8_takenBy 39 = some (.iconst 1) := by decide +kernel
theorem dX8_takenBy_40 : fet cX8_takenBy 40 = some (.iaload) := by decide +kernel
theorem dX8_takenBy_41 : fet cX8_takenBy 41 = some (.if_icmp .ge 61) := by decide +kernel
theorem dX8_takenBy_44 : fet cX8_takenBy 44 = some (.iload_n 3) := by decide +kernel
theorem dX8_takenBy_45 : fet cX8_takenBy 45 = some (.ldc 170) := by decide +kernel
theorem dX8_takenBy_47 : fet cX8_takenBy 47 = some (.if_icmp .ge 55) := by decide +kernel
theorem dX8_takenBy_50 : fet cX8_takenBy 50 = some (.aload_n 0) := by decide +kernel
theorem dX8_takenBy_51 : fet cX8_takenBy 51 = some (.iload 4) := by decide +kernel
theorem dX8_takenBy_53 : fet cX8_takenBy 53 = some (.aload_n 1) := by decide +kernel
theorem dX8_takenBy_54 : fet cX8_takenBy 54 = some (.bipush 19) := by decide +kernel
theorem dX8_takenBy_56 : fet cX8_takenBy 56 = some (.iload_n 2) := by decide +kernel
theorem dX8_takenBy_57 : fet cX8_takenBy 57 = some (.iadd) := by decide +kernel
theorem dX8_takenBy_58 : fet cX8_takenBy 58 = some (.iaload) := by decide +kernel
theorem dX8_takenBy_59 : fet cX8_takenBy 59 = some (.invokevirtual 179) := by decide +kernel
theorem dX8_takenBy_62 : fet cX8_takenBy 62 = some (.istore 5) := by decide +kernel
theorem dX8_takenBy_64 : fet cX8_takenBy 64 = some (.iload 5) := by decide +kernel
theorem dX8_takenBy_66 : fet cX8_takenBy 66 = some (.ifCond .lt 30) := by decide +kernel
theorem dX8_takenBy_69 : fet cX8_takenBy 69 = some (.aload_n 0) := by decide +kernel
theorem dX8_takenBy_70 : fet cX8_takenBy 70 = some (.aload_n 1) := by decide +kernel
theorem dX8_takenBy_71 : fet cX8_takenBy 71 = some (.iload_n 2) := by decide +kernel
theorem dX8_takenBy_72 : fet cX8_takenBy 72 = some (.iload 4) := by decide +kernel
theorem dX8_takenBy_74 : fet cX8_takenBy 74 = some (.invokevirtual 171) := by decide +kernel
theorem dX8_takenBy_77 : fet cX8_takenBy 77 = some (.ifCond .eq 19) := by decide +kernel
theorem dX8_takenBy_80 : fet cX8_takenBy 80 = some (.aload_n 0) := by decide +kernel
theorem dX8_takenBy_81 : fet cX8_takenBy 81 = some (.getfield 34) := by decide +kernel
theorem dX8_takenBy_84 : fet cX8_takenBy 84 = some (.iload 5) := by decide +kernel
theorem dX8_takenBy_86 : fet cX8_takenBy 86 = some (.iaload) := by decide +kernel
theorem dX8_takenBy_87 : fet cX8_takenBy 87 = some (.iload_n 3) := by decide +kernel
theorem dX8_takenBy_88 : fet cX8_takenBy 88 = some (.iconst 1) := by decide +kernel
theorem dX8_takenBy_89 : fet cX8_takenBy 89 = some (.isub) := by decide +kernel
theorem dX8_takenBy_90 : fet cX8_takenBy 90 = some (.if_icmp .ne 6) := by decide +kernel
theorem dX8_takenBy_93 : fet cX8_takenBy 93 = some (.iload 4) := by decide +kernel
theorem dX8_takenBy_95 : fet cX8_takenBy 95 = some (.ireturn) := by decide +kernel
theorem dX8_takenBy_96 : fet cX8_takenBy 96 = some (.iinc 4 1) := by decide +kernel
theorem dX8_takenBy_99 : fet cX8_takenBy 99 = some (.goto (-66)) := by decide +kernel
theorem dX8_takenBy_102 : fet cX8_takenBy 102 = some (.bipush (-4)) := by decide +kernel
theorem dX8_takenBy_104 : fet cX8_takenBy 104 = some (.ireturn) := by decide +kernel
theorem dX8_gives_0 : fet cX8_gives 0 = some (.aload_n 1) := by decide +kernel
theorem dX8_gives_1 : fet cX8_gives 1 = some (.bipush 29) := by decide +kernel
theorem dX8_gives_3 : fet cX8_gives 3 = some (.iload_n 2) := by decide +kernel
theorem dX8_gives_4 : fet cX8_gives 4 = some (.aload_n 1) := by decide +kernel
theorem dX8_gives_5 : fet cX8_gives 5 = some (.iconst 0) := by decide +kernel
theorem dX8_gives_6 : fet cX8_gives 6 = some (.iaload) := by decide +kernel
theorem dX8_gives_7 : fet cX8_gives 7 = some (.invokestatic 158) := by decide +kernel
theorem dX8_gives_10 : fet cX8_gives 10 = some (.dup2) := by decide +kernel
theorem dX8_gives_11 : fet cX8_gives 11 = some (.iaload) := by decide +kernel
theorem dX8_gives_12 : fet cX8_gives 12 = some (.iload_n 3) := by decide +kernel
theorem dX8_gives_13 : fet cX8_gives 13 = some (.iadd) := by decide +kernel
theorem dX8_gives_14 : fet cX8_gives 14 = some (.iastore) := by decide +kernel
theorem dX8_gives_15 : fet cX8_gives 15 = some (.aload_n 0) := by decide +kernel
theorem dX8_gives_16 : fet cX8_gives 16 = some (.dup) := by decide +kernel
theorem dX8_gives_17 : fet cX8_gives 17 = some (.getfield 152) := by decide +kernel
theorem dX8_gives_20 : fet cX8_gives 20 = some (.iload_n 3) := by decide +kernel
theorem dX8_gives_21 : fet cX8_gives 21 = some (.iadd) := by decide +kernel
theorem dX8_gives_22 : fet cX8_gives 22 = some (.putfield 152) := by decide +kernel
theorem dX8_gives_25 : fet cX8_gives 25 = some (.return_) := by decide +kernel
theorem dX8_todays_0 : fet cX8_todays 0 = some (.aload_n 0) := by decide +kernel
theorem dX8_todays_1 : fet cX8_todays 1 = some (.bipush 29) := by decide +kernel
theorem dX8_todays_3 : fet cX8_todays 3 = some (.iload_n 1) := by decide +kernel
theorem dX8_todays_4 : fet cX8_todays 4 = some (.aload_n 0) := by decide +kernel
theorem dX8_todays_5 : fet cX8_todays 5 = some (.iconst 0) := by decide +kernel
theorem dX8_todays_6 : fet cX8_todays 6 = some (.iaload) := by decide +kernel
theorem dX8_todays_7 : fet cX8_todays 7 = some (.invokestatic 158) := by decide +kernel
theorem dX8_todays_10 : fet cX8_todays 10 = some (.iaload) := by decide +kernel
theorem dX8_todays_11 : fet cX8_todays 11 = some (.aload_n 0) := by decide +kernel
theorem dX8_todays_12 : fet cX8_todays 12 = some (.sipush 173) := by decide +kernel
theorem dX8_todays_15 : fet cX8_todays 15 = some (.iload_n 1) := by decide +kernel
theorem dX8_todays_16 : fet cX8_todays 16 = some (.aload_n 0) := by decide +kernel
theorem dX8_todays_17 : fet cX8_todays 17 = some (.iconst 0) := by decide +kernel
theorem dX8_todays_18 : fet cX8_todays 18 = some (.iaload) := by decide +kernel
theorem dX8_todays_19 : fet cX8_todays 19 = some (.invokestatic 158) := by decide +kernel
theorem dX8_todays_22 : fet cX8_todays 22 = some (.iaload) := by decide +kernel
theorem dX8_todays_23 : fet cX8_todays 23 = some (.isub) := by decide +kernel
theorem dX8_todays_24 : fet cX8_todays 24 = some (.ireturn) := by decide +kernel
theorem dX8_waits_0 : fet cX8_waits 0 = some (.aload_n 0) := by decide +kernel
theorem dX8_waits_1 : fet cX8_waits 1 = some (.dup) := by decide +kernel
theorem dX8_waits_2 : fet cX8_waits 2 = some (.getfield 146) := by decide +kernel
theorem dX8_waits_5 : fet cX8_waits 5 = some (.aload_n 0) := by decide +kernel
theorem dX8_waits_6 : fet cX8_waits 6 = some (.getfield 143) := by decide +kernel
theorem dX8_waits_9 : fet cX8_waits 9 = some (.ifCond .le 7) := by decide +kernel
theorem dX8_waits_12 : fet cX8_waits 12 = some (.iconst 0) := by decide +kernel
theorem dX8_waits_13 : fet cX8_waits 13 = some (.goto 4) := by decide +kernel
theorem dX8_waits_16 : fet cX8_waits 16 = some (.iconst 1) := by decide +kernel
theorem dX8_waits_17 : fet cX8_waits 17 = some (.iadd) := by decide +kernel
theorem dX8_waits_18 : fet cX8_waits 18 = some (.putfield 146) := by decide +kernel
theorem dX8_waits_21 : fet cX8_waits 21 = some (.iconst 0) := by decide +kernel
theorem dX8_waits_22 : fet cX8_waits 22 = some (.istore_n 3) := by decide +kernel
theorem dX8_waits_23 : fet cX8_waits 23 = some (.iload_n 3) := by decide +kernel
theorem dX8_waits_24 : fet cX8_waits 24 = some (.aload_n 0) := by decide +kernel
theorem dX8_waits_25 : fet cX8_waits 25 = some (.getfield 7) := by decide +kernel
theorem dX8_waits_28 : fet cX8_waits 28 = some (.iconst 1) := by decide +kernel
theorem dX8_waits_29 : fet cX8_waits 29 = some (.iaload) := by decide +kernel
theorem dX8_waits_30 : fet cX8_waits 30 = some (.if_icmp .ge 52) := by decide +kernel
theorem dX8_waits_33 : fet cX8_waits 33 = some (.aload_n 0) := by decide +kernel
theorem dX8_waits_34 : fet cX8_waits 34 = some (.getfield 7) := by decide +kernel
theorem dX8_waits_37 : fet cX8_waits 37 = some (.bipush 60) := by decide +kernel
theorem dX8_waits_39 : fet cX8_waits 39 = some (.iload_n 2) := by decide +kernel
theorem dX8_waits_40 : fet cX8_waits 40 = some (.iadd) := by decide +kernel
theorem dX8_waits_41 : fet cX8_waits 41 = some (.iaload) := by decide +kernel
theorem dX8_waits_42 : fet cX8_waits 42 = some (.iconst 4) := by decide +kernel
theorem dX8_waits_43 : fet cX8_waits 43 = some (.if_icmp .ne 39) := by decide +kernel
theorem dX8_waits_46 : fet cX8_waits 46 = some (.aload_n 0) := by decide +kernel
theorem dX8_waits_47 : fet cX8_waits 47 = some (.iload_n 3) := by decide +kernel
theorem dX8_waits_48 : fet cX8_waits 48 = some (.aload_n 1) := by decide +kernel
theorem dX8_waits_49 : fet cX8_waits 49 = some (.bipush 19) := by decide +kernel
theorem dX8_waits_51 : fet cX8_waits 51 = some (.iload_n 2) := by decide +kernel
theorem dX8_waits_52 : fet cX8_waits 52 = some (.iadd) := by decide +kernel
theorem dX8_waits_53 : fet cX8_waits 53 = some (.iaload) := by decide +kernel
theorem dX8_waits_54 : fet cX8_waits 54 = some (.invokevirtual 179) := by decide +kernel
theorem dX8_waits_57 : fet cX8_waits 57 = some (.ifCond .lt 19) := by decide +kernel
theorem dX8_waits_60 : fet cX8_waits 60 = some (.aload_n 0) := by decide +kernel
theorem dX8_waits_61 : fet cX8_waits 61 = some (.aload_n 1) := by decide +kernel
theorem dX8_waits_62 : fet cX8_waits 62 = some (.iload_n 3) := by decide +kernel
theorem dX8_waits_63 : fet cX8_waits 63 = some (.aload_n 0) := by decide +kernel
theorem dX8_waits_64 : fet cX8_waits 64 = some (.getfield 7) := by decide +kernel
theorem dX8_waits_67 : fet cX8_waits 67 = some (.bipush 55) := by decide +kernel
theorem dX8_waits_69 : fet cX8_waits 69 = some (.iload_n 2) := by decide +kernel
theorem dX8_waits_70 : fet cX8_waits 70 = some (.iadd) := by decide +kernel
theorem dX8_waits_71 : fet cX8_waits 71 = some (.iaload) := by decide +kernel
theorem dX8_waits_72 : fet cX8_waits 72 = some (.invokevirtual 183) := by decide +kernel
theorem dX8_waits_75 : fet cX8_waits 75 = some (.return_) := by decide +kernel
theorem dX8_waits_76 : fet cX8_waits 76 = some (.iinc 3 1) := by decide +kernel
theorem dX8_waits_79 : fet cX8_waits 79 = some (.goto (-56)) := by decide +kernel
theorem dX8_waits_82 : fet cX8_waits 82 = some (.return_) := by decide +kernel
theorem dX8_steals_0 : fet cX8_steals 0 = some (.aload_n 1) := by decide +kernel
theorem dX8_steals_1 : fet cX8_steals 1 = some (.bipush 10) := by decide +kernel
theorem dX8_steals_3 : fet cX8_steals 3 = some (.iload_n 2) := by decide +kernel
theorem dX8_steals_4 : fet cX8_steals 4 = some (.iadd) := by decide +kernel
theorem dX8_steals_5 : fet cX8_steals 5 = some (.iaload) := by decide +kernel
theorem dX8_steals_6 : fet cX8_steals 6 = some (.ifCond .ne 52) := by decide +kernel
theorem dX8_steals_9 : fet cX8_steals 9 = some (.aload_n 1) := by decide +kernel
theorem dX8_steals_10 : fet cX8_steals 10 = some (.iload_n 2) := by decide +kernel
theorem dX8_steals_11 : fet cX8_steals 11 = some (.invokestatic 187) := by decide +kernel
theorem dX8_steals_14 : fet cX8_steals 14 = some (.istore 4) := by decide +kernel
theorem dX8_steals_16 : fet cX8_steals 16 = some (.iload_n 3) := by decide +kernel
theorem dX8_steals_17 : fet cX8_steals 17 = some (.iload 4) := by decide +kernel
theorem dX8_steals_19 : fet cX8_steals 19 = some (.if_icmp .ge 7) := by decide +kernel
theorem dX8_steals_22 : fet cX8_steals 22 = some (.iload_n 3) := by decide +kernel
theorem dX8_steals_23 : fet cX8_steals 23 = some (.goto 5) := by decide +kernel
theorem dX8_steals_26 : fet cX8_steals 26 = some (.iload 4) := by decide +kernel
theorem dX8_steals_28 : fet cX8_steals 28 = some (.istore 5) := by decide +kernel
theorem dX8_steals_30 : fet cX8_steals 30 = some (.aload_n 1) := by decide +kernel
theorem dX8_steals_31 : fet cX8_steals 31 = some (.sipush 173) := by decide +kernel
theorem dX8_steals_34 : fet cX8_steals 34 = some (.iload_n 2) := by decide +kernel
theorem dX8_steals_35 : fet cX8_steals 35 = some (.aload_n 1) := by decide +kernel
theorem dX8_steals_36 : fet cX8_steals 36 = some (.iconst 0) := by decide +kernel
theorem dX8_steals_37 : fet cX8_steals 37 = some (.iaload) := by decide +kernel
theorem dX8_steals_38 : fet cX8_steals 38 = some (.invokestatic 158) := by decide +kernel
theorem dX8_steals_41 : fet cX8_steals 41 = some (.dup2) := by decide +kernel
theorem dX8_steals_42 : fet cX8_steals 42 = some (.iaload) := by decide +kernel
theorem dX8_steals_43 : fet cX8_steals 43 = some (.iload 5) := by decide +kernel
theorem dX8_steals_45 : fet cX8_steals 45 = some (.iadd) := by decide +kernel
theorem dX8_steals_46 : fet cX8_steals 46 = some (.iastore) := by decide +kernel
theorem dX8_steals_47 : fet cX8_steals 47 = some (.aload_n 0) := by decide +kernel
theorem dX8_steals_48 : fet cX8_steals 48 = some (.dup) := by decide +kernel
theorem dX8_steals_49 : fet cX8_steals 49 = some (.getfield 155) := by decide +kernel
theorem dX8_steals_52 : fet cX8_steals 52 = some (.iload 5) := by decide +kernel
theorem dX8_steals_54 : fet cX8_steals 54 = some (.iadd) := by decide +kernel
theorem dX8_steals_55 : fet cX8_steals 55 = some (.putfield 155) := by decide +kernel
theorem dX8_steals_58 : fet cX8_steals 58 = some (.return_) := by decide +kernel
theorem dX8_goes_0 : fet cX8_goes 0 = some (.aload_n 0) := by decide +kernel
theorem dX8_goes_1 : fet cX8_goes 1 = some (.aload_n 1) := by decide +kernel
theorem dX8_goes_2 : fet cX8_goes 2 = some (.iload_n 2) := by decide +kernel
theorem dX8_goes_3 : fet cX8_goes 3 = some (.invokevirtual 190) := by decide +kernel
theorem dX8_goes_6 : fet cX8_goes 6 = some (.istore_n 3) := by decide +kernel
theorem dX8_goes_7 : fet cX8_goes 7 = some (.iload_n 3) := by decide +kernel
theorem dX8_goes_8 : fet cX8_goes 8 = some (.bipush (-4)) := by decide +kernel
theorem dX8_goes_10 : fet cX8_goes 10 = some (.if_icmp .ne 10) := by decide +kernel
theorem dX8_goes_13 : fet cX8_goes 13 = some (.aload_n 0) := by decide +kernel
theorem dX8_goes_14 : fet cX8_goes 14 = some (.aload_n 1) := by decide +kernel
theorem dX8_goes_15 : fet cX8_goes 15 = some (.iload_n 2) := by decide +kernel
theorem dX8_goes_16 : fet cX8_goes 16 = some (.invokevirtual 193) := by decide +kernel
theorem dX8_goes_19 : fet cX8_goes 19 = some (.return_) := by decide +kernel
theorem dX8_goes_20 : fet cX8_goes 20 = some (.aload_n 0) := by decide +kernel
theorem dX8_goes_21 : fet cX8_goes 21 = some (.aload_n 1) := by decide +kernel
theorem dX8_goes_22 : fet cX8_goes 22 = some (.iload_n 3) := by decide +kernel
theorem dX8_goes_23 : fet cX8_goes 23 = some (.invokevirtual 196) := by decide +kernel
theorem dX8_goes_26 : fet cX8_goes 26 = some (.aload_n 0) := by decide +kernel
theorem dX8_goes_27 : fet cX8_goes 27 = some (.iload_n 2) := by decide +kernel
theorem dX8_goes_28 : fet cX8_goes 28 = some (.invokevirtual 166) := by decide +kernel
theorem dX8_goes_31 : fet cX8_goes 31 = some (.if_icmp .ge 21) := by decide +kernel
theorem dX8_goes_34 : fet cX8_goes 34 = some (.aload_n 1) := by decide +kernel
theorem dX8_goes_35 : fet cX8_goes 35 = some (.bipush 19) := by decide +kernel
theorem dX8_goes_37 : fet cX8_goes 37 = some (.iload_n 2) := by decide +kernel
theorem dX8_goes_38 : fet cX8_goes 38 = some (.iadd) := by decide +kernel
theorem dX8_goes_39 : fet cX8_goes 39 = some (.iconst (-1)) := by decide +kernel
theorem dX8_goes_40 : fet cX8_goes 40 = some (.iastore) := by decide +kernel
theorem dX8_goes_41 : fet cX8_goes 41 = some (.aload_n 0) := by decide +kernel
theorem dX8_goes_42 : fet cX8_goes 42 = some (.dup) := by decide +kernel
theorem dX8_goes_43 : fet cX8_goes 43 = some (.getfield 149) := by decide +kernel
theorem dX8_goes_46 : fet cX8_goes 46 = some (.iconst 1) := by decide +kernel
theorem dX8_goes_47 : fet cX8_goes 47 = some (.iadd) := by decide +kernel
theorem dX8_goes_48 : fet cX8_goes 48 = some (.putfield 149) := by decide +kernel
theorem dX8_goes_51 : fet cX8_goes 51 = some (.return_) := by decide +kernel
theorem dX8_goes_52 : fet cX8_goes 52 = some (.aload_n 1) := by decide +kernel
theorem dX8_goes_53 : fet cX8_goes 53 = some (.bipush 19) := by decide +kernel
theorem dX8_goes_55 : fet cX8_goes 55 = some (.iload_n 2) := by decide +kernel
theorem dX8_goes_56 : fet cX8_goes 56 = some (.iadd) := by decide +kernel
theorem dX8_goes_57 : fet cX8_goes 57 = some (.aload_n 0) := by decide +kernel
theorem dX8_goes_58 : fet cX8_goes 58 = some (.iload_n 3) := by decide +kernel
theorem dX8_goes_59 : fet cX8_goes 59 = some (.aload_n 1) := by decide +kernel
theorem dX8_goes_60 : fet cX8_goes 60 = some (.bipush 19) := by decide +kernel
theorem dX8_goes_62 : fet cX8_goes 62 = some (.iload_n 2) := by decide +kernel
theorem dX8_goes_63 : fet cX8_goes 63 = some (.iadd) := by decide +kernel
theorem dX8_goes_64 : fet cX8_goes 64 = some (.iaload) := by decide +kernel
theorem dX8_goes_65 : fet cX8_goes 65 = some (.invokevirtual 179) := by decide +kernel
theorem dX8_goes_68 : fet cX8_goes 68 = some (.iastore) := by decide +kernel
theorem dX8_goes_69 : fet cX8_goes 69 = some (.aload_n 0) := by decide +kernel
theorem dX8_goes_70 : fet cX8_goes 70 = some (.getfield 7) := by decide +kernel
theorem dX8_goes_73 : fet cX8_goes 73 = some (.bipush 60) := by decide +kernel
theorem dX8_goes_75 : fet cX8_goes 75 = some (.iload_n 2) := by decide +kernel
theorem dX8_goes_76 : fet cX8_goes 76 = some (.iadd) := by decide +kernel
theorem dX8_goes_77 : fet cX8_goes 77 = some (.iaload) := by decide +kernel
theorem dX8_goes_78 : fet cX8_goes 78 = some (.iconst 3) := by decide +kernel
theorem dX8_goes_79 : fet cX8_goes 79 = some (.if_icmp .ne 21) := by decide +kernel
theorem dX8_goes_82 : fet cX8_goes 82 = some (.aload_n 0) := by decide +kernel
theorem dX8_goes_83 : fet cX8_goes 83 = some (.aload_n 1) := by decide +kernel
theorem dX8_goes_84 : fet cX8_goes 84 = some (.iload_n 3) := by decide +kernel
theorem dX8_goes_85 : fet cX8_goes 85 = some (.aload_n 0) := by decide +kernel
theorem dX8_goes_86 : fet cX8_goes 86 = some (.getfield 7) := by decide +kernel
theorem dX8_goes_89 : fet cX8_goes 89 = some (.bipush 55) := by decide +kernel
theorem dX8_goes_91 : fet cX8_goes 91 = some (.iload_n 2) := by decide +kernel
theorem dX8_goes_92 : fet cX8_goes 92 = some (.iadd) := by decide +kernel
theorem dX8_goes_93 : fet cX8_goes 93 = some (.iaload) := by decide +kernel
theorem dX8_goes_94 : fet cX8_goes 94 = some (.invokevirtual 199) := by decide +kernel
theorem dX8_goes_97 : fet cX8_goes 97 = some (.goto 39) := by decide +kernel
theorem dX8_goes_100 : fet cX8_goes 100 = some (.aload_n 0) := by decide +kernel
theorem dX8_goes_101 : fet cX8_goes 101 = some (.getfield 7) := by decide +kernel
theorem dX8_goes_104 : fet cX8_goes 104 = some (.bipush 60) := by decide +kernel
theorem dX8_goes_106 : fet cX8_goes 106 = some (.iload_n 2) := by decide +kernel
theorem dX8_goes_107 : fet cX8_goes 107 = some (.iadd) := by decide +kernel
theorem dX8_goes_108 : fet cX8_goes 108 = some (.iaload) := by decide +kernel
theorem dX8_goes_109 : fet cX8_goes 109 = some (.iconst 2) := by decide +kernel
theorem dX8_goes_110 : fet cX8_goes 110 = some (.if_icmp .ne 11) := by decide +kernel
theorem dX8_goes_113 : fet cX8_goes 113 = some (.aload_n 1) := by decide +kernel
theorem dX8_goes_114 : fet cX8_goes 114 = some (.iconst 0) := by decide +kernel
theorem dX8_goes_115 : fet cX8_goes 115 = some (.iaload) := by decide +kernel
theorem dX8_goes_116 : fet cX8_goes 116 = some (.iconst 2) := by decide +kernel
theorem dX8_goes_117 : fet cX8_goes 117 = some (.irem) := by decide +kernel
theorem dX8_goes_118 : fet cX8_goes 118 = some (.ifCond .ne 18) := by decide +kernel
theorem dX8_goes_121 : fet cX8_goes 121 = some (.aload_n 0) := by decide +kernel
theorem dX8_goes_122 : fet cX8_goes 122 = some (.aload_n 1) := by decide +kernel
theorem dX8_goes_123 : fet cX8_goes 123 = some (.iload_n 3) := by decide +kernel
theorem dX8_goes_124 : fet cX8_goes 124 = some (.aload_n 0) := by decide +kernel
theorem dX8_goes_125 : fet cX8_goes 125 = some (.getfield 7) := by decide +kernel
theorem dX8_goes_128 : fet cX8_goes 128 = some (.bipush 55) := by decide +kernel
theorem dX8_goes_130 : fet cX8_goes 130 = some (.iload_n 2) := by decide +kernel
theorem dX8_goes_131 : fet cX8_goes 131 = some (.iadd) := by decide +kernel
theorem dX8_goes_132 : fet cX8_goes 132 = some (.iaload) := by decide +kernel
theorem dX8_goes_133 : fet cX8_goes 133 = some (.invokevirtual 183) := by decide +kernel
theorem dX8_goes_136 : fet cX8_goes 136 = some (.aload_n 1) := by decide +kernel
theorem dX8_goes_137 : fet cX8_goes 137 = some (.bipush 19) := by decide +kernel
theorem dX8_goes_139 : fet cX8_goes 139 = some (.iload_n 2) := by decide +kernel
theorem dX8_goes_140 : fet cX8_goes 140 = some (.iadd) := by decide +kernel
theorem dX8_goes_141 : fet cX8_goes 141 = some (.iaload) := by decide +kernel
theorem dX8_goes_142 : fet cX8_goes 142 = some (.aload_n 1) := by decide +kernel
theorem dX8_goes_143 : fet cX8_goes 143 = some (.bipush 24) := by decide +kernel
theorem dX8_goes_145 : fet cX8_goes 145 = some (.iload_n 2) := by decide +kernel
theorem dX8_goes_146 : fet cX8_goes 146 = some (.iadd) := by decide +kernel
theorem dX8_goes_147 : fet cX8_goes 147 = some (.iaload) := by decide +kernel
theorem dX8_goes_148 : fet cX8_goes 148 = some (.if_icmp .ne 48) := by decide +kernel
theorem dX8_goes_151 : fet cX8_goes 151 = some (.aload_n 1) := by decide +kernel
theorem dX8_goes_152 : fet cX8_goes 152 = some (.bipush 24) := by decide +kernel
theorem dX8_goes_154 : fet cX8_goes 154 = some (.iload_n 2) := by decide +kernel
theorem dX8_goes_155 : fet cX8_goes 155 = some (.iadd) := by decide +kernel
theorem dX8_goes_156 : fet cX8_goes 156 = some (.aload_n 1) := by decide +kernel
theorem dX8_goes_157 : fet cX8_goes 157 = some (.bipush 24) := by decide +kernel
theorem dX8_goes_159 : fet cX8_goes 159 = some (.iload_n 2) := by decide +kernel
theorem dX8_goes_160 : fet cX8_goes 160 = some (.iadd) := by decide +kernel
theorem dX8_goes_161 : fet cX8_goes 161 = some (.iaload) := by decide +kernel
theorem dX8_goes_162 : fet cX8_goes 162 = some (.aload_n 0) := by decide +kernel
theorem dX8_goes_163 : fet cX8_goes 163 = some (.getfield 7) := by decide +kernel
theorem dX8_goes_166 : fet cX8_goes 166 = some (.bipush 40) := by decide +kernel
theorem dX8_goes_168 : fet cX8_goes 168 = some (.iload_n 2) := by decide +kernel
theorem dX8_goes_169 : fet cX8_goes 169 = some (.iadd) := by decide +kernel
theorem dX8_goes_170 : fet cX8_goes 170 = some (.iaload) := by decide +kernel
theorem dX8_goes_171 : fet cX8_goes 171 = some (.if_icmp .ne 15) := by decide +kernel
theorem dX8_goes_174 : fet cX8_goes 174 = some (.aload_n 0) := by decide +kernel
theorem dX8_goes_175 : fet cX8_goes 175 = some (.getfield 7) := by decide +kernel
theorem dX8_goes_178 : fet cX8_goes 178 = some (.bipush 45) := by decide +kernel
theorem dX8_goes_180 : fet cX8_goes 180 = some (.iload_n 2) := by decide +kernel
theorem dX8_goes_181 : fet cX8_goes 181 = some (.iadd) := by decide +kernel
theorem dX8_goes_182 : fet cX8_goes 182 = some (.iaload) := by decide +kernel
theorem dX8_goes_183 : fet cX8_goes 183 = some (.goto 12) := by decide +kernel
theorem dX8_goes_186 : fet cX8_goes 186 = some (.aload_n 0) := by decide +kernel
theorem dX8_goes_187 : fet cX8_goes 187 = some (.getfield 7) := by decide +kernel
theorem dX8_goes_190 : fet cX8_goes 190 = some (.bipush 40) := by decide +kernel
theorem dX8_goes_192 : fet cX8_goes 192 = some (.iload_n 2) := by decide +kernel
theorem dX8_goes_193 : fet cX8_goes 193 = some (.iadd) := by decide +kernel
theorem dX8_goes_194 : fet cX8_goes 194 = some (.iaload) := by decide +kernel
theorem dX8_goes_195 : fet cX8_goes 195 = some (.iastore) := by decide +kernel
theorem dX8_goes_196 : fet cX8_goes 196 = some (.return_) := by decide +kernel
theorem dX8_tells_0 : fet cX8_tells 0 = some (.iconst 0) := by decide +kernel
theorem dX8_tells_1 : fet cX8_tells 1 = some (.istore_n 2) := by decide +kernel
theorem dX8_tells_2 : fet cX8_tells 2 = some (.iconst 0) := by decide +kernel
theorem dX8_tells_3 : fet cX8_tells 3 = some (.istore_n 3) := by decide +kernel
theorem dX8_tells_4 : fet cX8_tells 4 = some (.iload_n 3) := by decide +kernel
theorem dX8_tells_5 : fet cX8_tells 5 = some (.aload_n 0) := by decide +kernel
theorem dX8_tells_6 : fet cX8_tells 6 = some (.getfield 7) := by decide +kernel
theorem dX8_tells_9 : fet cX8_tells 9 = some (.iconst 2) := by decide +kernel
theorem dX8_tells_10 : fet cX8_tells 10 = some (.iaload) := by decide +kernel
theorem dX8_tells_11 : fet cX8_tells 11 = some (.if_icmp .ge 45) := by decide +kernel
theorem dX8_tells_14 : fet cX8_tells 14 = some (.iload_n 2) := by decide +kernel
theorem dX8_tells_15 : fet cX8_tells 15 = some (.aload_n 0) := by decide +kernel
theorem dX8_tells_16 : fet cX8_tells 16 = some (.getfield 140) := by decide +kernel
theorem dX8_tells_19 : fet cX8_tells 19 = some (.iload_n 3) := by decide +kernel
theorem dX8_tells_20 : fet cX8_tells 20 = some (.ishr) := by decide +kernel
theorem dX8_tells_21 : fet cX8_tells 21 = some (.iconst 1) := by decide +kernel
theorem dX8_tells_22 : fet cX8_tells 22 = some (.iand) := by decide +kernel
theorem dX8_tells_23 : fet cX8_tells 23 = some (.iconst 1) := by decide +kernel
theorem dX8_tells_24 : fet cX8_tells 24 = some (.if_icmp .ne 23) := by decide +kernel
theorem dX8_tells_27 : fet cX8_tells 27 = some (.aload_n 1) := by decide +kernel
theorem dX8_tells_28 : fet cX8_tells 28 = some (.bipush 19) := by decide +kernel
theorem dX8_tells_30 : fet cX8_tells 30 = some (.iload_n 3) := by decide +kernel
theorem dX8_tells_31 : fet cX8_tells 31 = some (.iadd) := by decide +kernel
theorem dX8_tells_32 : fet cX8_tells 32 = some (.iaload) := by decide +kernel
theorem dX8_tells_33 : fet cX8_tells 33 = some (.ifCond .lt 14) := by decide +kernel
theorem dX8_tells_36 : fet cX8_tells 36 = some (.iconst 1) := by decide +kernel
theorem dX8_tells_37 : fet cX8_tells 37 = some (.aload_n 1) := by decide +kernel
theorem dX8_tells_38 : fet cX8_tells 38 = some (.bipush 19) := by decide +kernel
theorem dX8_tells_40 : fet cX8_tells 40 = some (.iload_n 3) := by decide +kernel
theorem dX8_tells_41 : fet cX8_tells 41 = some (.iadd) := by decide +kernel
theorem dX8_tells_42 : fet cX8_tells 42 = some (.iaload) := by decide +kernel
theorem dX8_tells_43 : fet cX8_tells 43 = some (.ishl) := by decide +kernel
theorem dX8_tells_44 : fet cX8_tells 44 = some (.goto 4) := by decide +kernel
theorem dX8_tells_47 : fet cX8_tells 47 = some (.iconst 0) := by decide +kernel
theorem dX8_tells_48 : fet cX8_tells 48 = some (.ior) := by decide +kernel
theorem dX8_tells_49 : fet cX8_tells 49 = some (.istore_n 2) := by decide +kernel
theorem dX8_tells_50 : fet cX8_tells 50 = some (.iinc 3 1) := by decide +kernel
theorem dX8_tells_53 : fet cX8_tells 53 = some (.goto (-49)) := by decide +kernel
theorem dX8_tells_56 : fet cX8_tells 56 = some (.iconst 0) := by decide +kernel
theorem dX8_tells_57 : fet cX8_tells 57 = some (.istore_n 3) := by decide +kernel
theorem dX8_tells_58 : fet cX8_tells 58 = some (.iload_n 3) := by decide +kernel
theorem dX8_tells_59 : fet cX8_tells 59 = some (.aload_n 0) := by decide +kernel
theorem dX8_tells_60 : fet cX8_tells 60 = some (.getfield 7) := by decide +kernel
theorem dX8_tells_63 : fet cX8_tells 63 = some (.iconst 2) := by decide +kernel
theorem dX8_tells_64 : fet cX8_tells 64 = some (.iaload) := by decide +kernel
theorem dX8_tells_65 : fet cX8_tells 65 = some (.if_icmp .ge 48) := by decide +kernel
theorem dX8_tells_68 : fet cX8_tells 68 = some (.aload_n 0) := by decide +kernel
theorem dX8_tells_69 : fet cX8_tells 69 = some (.dup) := by decide +kernel
theorem dX8_tells_70 : fet cX8_tells 70 = some (.getfield 140) := by decide +kernel
theorem dX8_tells_73 : fet cX8_tells 73 = some (.aload_n 1) := by decide +kernel
theorem dX8_tells_74 : fet cX8_tells 74 = some (.bipush 19) := by decide +kernel
theorem dX8_tells_76 : fet cX8_tells 76 = some (.iload_n 3) := by decide +kernel
theorem dX8_tells_77 : fet cX8_tells 77 = some (.iadd) := by decide +kernel
theorem dX8_tells_78 : fet cX8_tells 78 = some (.iaload) := by decide +kernel
theorem dX8_tells_79 : fet cX8_tells 79 = some (.ifCond .lt 23) := by decide +kernel
theorem dX8_tells_82 : fet cX8_tells 82 = some (.iload_n 2) := by decide +kernel
theorem dX8_tells_83 : fet cX8_tells 83 = some (.aload_n 1) := by decide +kernel
theorem dX8_tells_84 : fet cX8_tells 84 = some (.bipush 19) := by decide +kernel
theorem dX8_tells_86 : fet cX8_tells 86 = some (.iload_n 3) := by decide +kernel
theorem dX8_tells_87 : fet cX8_tells 87 = some (.iadd) := by decide +kernel
theorem dX8_tells_88 : fet cX8_tells 88 = some (.iaload) := by decide +kernel
theorem dX8_tells_89 : fet cX8_tells 89 = some (.ishr) := by decide +kernel
theorem dX8_tells_90 : fet cX8_tells 90 = some (.iconst 1) := by decide +kernel
theorem dX8_tells_91 : fet cX8_tells 91 = some (.iand) := by decide +kernel
theorem dX8_tells_92 : fet cX8_tells 92 = some (.iconst 1) := by decide +kernel
theorem dX8_tells_93 : fet cX8_tells 93 = some (.if_icmp .ne 9) := by decide +kernel
theorem dX8_tells_96 : fet cX8_tells 96 = some (.iconst 1) := by decide +kernel
theorem dX8_tells_97 : fet cX8_tells 97 = some (.iload_n 3) := by decide +kernel
theorem dX8_tells_98 : fet cX8_tells 98 = some (.ishl) := by decide +kernel
theorem dX8_tells_99 : fet cX8_tells 99 = some (.goto 4) := by decide +kernel
theorem dX8_tells_102 : fet cX8_tells 102 = some (.iconst 0) := by decide +kernel
theorem dX8_tells_103 : fet cX8_tells 103 = some (.ior) := by decide +kernel
theorem dX8_tells_104 : fet cX8_tells 104 = some (.putfield 140) := by decide +kernel
theorem dX8_tells_107 : fet cX8_tells 107 = some (.iinc 3 1) := by decide +kernel
theorem dX8_tells_110 : fet cX8_tells 110 = some (.goto (-52)) := by decide +kernel
theorem dX8_tells_113 : fet cX8_tells 113 = some (.return_) := by decide +kernel
theorem dX8_dayGoes_0 : fet cX8_dayGoes 0 = some (.iconst 0) := by decide +kernel
theorem dX8_dayGoes_1 : fet cX8_dayGoes 1 = some (.istore_n 3) := by decide +kernel
theorem dX8_dayGoes_2 : fet cX8_dayGoes 2 = some (.iload_n 3) := by decide +kernel
theorem dX8_dayGoes_3 : fet cX8_dayGoes 3 = some (.aload_n 0) := by decide +kernel
theorem dX8_dayGoes_4 : fet cX8_dayGoes 4 = some (.getfield 7) := by decide +kernel
theorem dX8_dayGoes_7 : fet cX8_dayGoes 7 = some (.iconst 1) := by decide +kernel
theorem dX8_dayGoes_8 : fet cX8_dayGoes 8 = some (.iaload) := by decide +kernel
theorem dX8_dayGoes_9 : fet cX8_dayGoes 9 = some (.if_icmp .ge 27) := by decide +kernel
theorem dX8_dayGoes_12 : fet cX8_dayGoes 12 = some (.aload_n 1) := by decide +kernel
theorem dX8_dayGoes_13 : fet cX8_dayGoes 13 = some (.bipush 29) := by decide +kernel
theorem dX8_dayGoes_15 : fet cX8_dayGoes 15 = some (.iload_n 3) := by decide +kernel
theorem dX8_dayGoes_16 : fet cX8_dayGoes 16 = some (.aload_n 1) := by decide +kernel
theorem dX8_dayGoes_17 : fet cX8_dayGoes 17 = some (.iconst 0) := by decide +kernel
theorem dX8_dayGoes_18 : fet cX8_dayGoes 18 = some (.iaload) := by decide +kernel
theorem dX8_dayGoes_19 : fet cX8_dayGoes 19 = some (.invokestatic 158) := by decide +kernel
theorem dX8_dayGoes_22 : fet cX8_dayGoes 22 = some (.dup2) := by decide +kernel
theorem dX8_dayGoes_23 : fet cX8_dayGoes 23 = some (.iaload) := by decide +kernel
theorem dX8_dayGoes_24 : fet cX8_dayGoes 24 = some (.aload_n 0) := by decide +kernel
theorem dX8_dayGoes_25 : fet cX8_dayGoes 25 = some (.getfield 131) := by decide +kernel
theorem dX8_dayGoes_28 : fet cX8_dayGoes 28 = some (.iadd) := by decide +kernel
theorem dX8_dayGoes_29 : fet cX8_dayGoes 29 = some (.iastore) := by decide +kernel
theorem dX8_dayGoes_30 : fet cX8_dayGoes 30 = some (.iinc 3 1) := by decide +kernel
theorem dX8_dayGoes_33 : fet cX8_dayGoes 33 = some (.goto (-31)) := by decide +kernel
theorem dX8_dayGoes_36 : fet cX8_dayGoes 36 = some (.aload_n 0) := by decide +kernel
theorem dX8_dayGoes_37 : fet cX8_dayGoes 37 = some (.getfield 134) := by decide +kernel
theorem dX8_dayGoes_40 : fet cX8_dayGoes 40 = some (.ifCond .lt 62) := by decide +kernel
theorem dX8_dayGoes_43 : fet cX8_dayGoes 43 = some (.ldc2_w 202) := by decide +kernel
theorem dX8_dayGoes_46 : fet cX8_dayGoes 46 = some (.aload_n 0) := by decide +kernel
theorem dX8_dayGoes_47 : fet cX8_dayGoes 47 = some (.getfield 134) := by decide +kernel
theorem dX8_dayGoes_50 : fet cX8_dayGoes 50 = some (.i2l) := by decide +kernel
theorem dX8_dayGoes_51 : fet cX8_dayGoes 51 = some (.lmul) := by decide +kernel
theorem dX8_dayGoes_52 : fet cX8_dayGoes 52 = some (.ldc2_w 204) := by decide +kernel
theorem dX8_dayGoes_55 : fet cX8_dayGoes 55 = some (.iload_n 2) := by decide +kernel
theorem dX8_dayGoes_56 : fet cX8_dayGoes 56 = some (.i2l) := by decide +kernel
theorem dX8_dayGoes_57 : fet cX8_dayGoes 57 = some (.lmul) := by decide +kernel
theorem dX8_dayGoes_58 : fet cX8_dayGoes 58 = some (.ladd) := by decide +kernel
theorem dX8_dayGoes_59 : fet cX8_dayGoes 59 = some (.lconst 1) := by decide +kernel
theorem dX8_dayGoes_60 : fet cX8_dayGoes 60 = some (.ladd) := by decide +kernel
theorem dX8_dayGoes_61 : fet cX8_dayGoes 61 = some (.lstore_n 3) := by decide +kernel
theorem dX8_dayGoes_62 : fet cX8_dayGoes 62 = some (.lload_n 3) := by decide +kernel
theorem dX8_dayGoes_63 : fet cX8_dayGoes 63 = some (.lload_n 3) := by decide +kernel
theorem dX8_dayGoes_64 : fet cX8_dayGoes 64 = some (.lmul) := by decide +kernel
theorem dX8_dayGoes_65 : fet cX8_dayGoes 65 = some (.ldc2_w 206) := by decide +kernel
theorem dX8_dayGoes_68 : fet cX8_dayGoes 68 = some (.lrem) := by decide +kernel
theorem dX8_dayGoes_69 : fet cX8_dayGoes 69 = some (.l2i) := by decide +kernel
theorem dX8_dayGoes_70 : fet cX8_dayGoes 70 = some (.istore 5) := by decide +kernel
theorem dX8_dayGoes_72 : fet cX8_dayGoes 72 = some (.aload_n 1) := by decide +kernel
theorem dX8_dayGoes_73 : fet cX8_dayGoes 73 = some (.bipush 29) := by decide +kernel
theorem dX8_dayGoes_75 : fet cX8_dayGoes 75 = some (.iload 5) := by decide +kernel
theorem dX8_dayGoes_77 : fet cX8_dayGoes 77 = some (.bipush 16) := by decide +kernel
theorem dX8_dayGoes_79 : fet cX8_dayGoes 79 = some (.idiv) := by decide +kernel
theorem dX8_dayGoes_80 : fet cX8_dayGoes 80 = some (.aload_n 0) := by decide +kernel
theorem dX8_dayGoes_81 : fet cX8_dayGoes 81 = some (.getfield 7) := by decide +kernel
theorem dX8_dayGoes_84 : fet cX8_dayGoes 84 = some (.iconst 1) := by decide +kernel
theorem dX8_dayGoes_85 : fet cX8_dayGoes 85 = some (.iaload) := by decide +kernel
theorem dX8_dayGoes_86 : fet cX8_dayGoes 86 = some (.irem) := by decide +kernel
theorem dX8_dayGoes_87 : fet cX8_dayGoes 87 = some (.aload_n 1) := by decide +kernel
theorem dX8_dayGoes_88 : fet cX8_dayGoes 88 = some (.iconst 0) := by decide +kernel
theorem dX8_dayGoes_89 : fet cX8_dayGoes 89 = some (.iaload) := by decide +kernel
theorem dX8_dayGoes_90 : fet cX8_dayGoes 90 = some (.invokestatic 158) := by decide +kernel
theorem dX8_dayGoes_93 : fet cX8_dayGoes 93 = some (.dup2) := by decide +kernel
theorem dX8_dayGoes_94 : fet cX8_dayGoes 94 = some (.iaload) := by decide +kernel
theorem dX8_dayGoes_95 : fet cX8_dayGoes 95 = some (.iload 5) := by decide +kernel
theorem dX8_dayGoes_97 : fet cX8_dayGoes 97 = some (.bipush 10) := by decide +kernel
theorem dX8_dayGoes_99 : fet cX8_dayGoes 99 = some (.irem) := by decide +kernel
theorem dX8_dayGoes_100 : fet cX8_dayGoes 100 = some (.iadd) := by decide +kernel
theorem dX8_dayGoes_101 : fet cX8_dayGoes 101 = some (.iastore) := by decide +kernel
theorem dX8_dayGoes_102 : fet cX8_dayGoes 102 = some (.iconst 0) := by decide +kernel
theorem dX8_dayGoes_103 : fet cX8_dayGoes 103 = some (.istore_n 3) := by decide +kernel
theorem dX8_dayGoes_104 : fet cX8_dayGoes 104 = some (.iload_n 3) := by decide +kernel
theorem dX8_dayGoes_105 : fet cX8_dayGoes 105 = some (.aload_n 0) := by decide +kernel
theorem dX8_dayGoes_106 : fet cX8_dayGoes 106 = some (.getfield 7) := by decide +kernel
theorem dX8_dayGoes_109 : fet cX8_dayGoes 109 = some (.iconst 2) := by decide +kernel
theorem dX8_dayGoes_110 : fet cX8_dayGoes 110 = some (.iaload) := by decide +kernel
theorem dX8_dayGoes_111 : fet cX8_dayGoes 111 = some (.if_icmp .ge 24) := by decide +kernel
theorem dX8_dayGoes_114 : fet cX8_dayGoes 114 = some (.aload_n 1) := by decide +kernel
theorem dX8_dayGoes_115 : fet cX8_dayGoes 115 = some (.bipush 19) := by decide +kernel
theorem dX8_dayGoes_117 : fet cX8_dayGoes 117 = some (.iload_n 3) := by decide +kernel
theorem dX8_dayGoes_118 : fet cX8_dayGoes 118 = some (.iadd) := by decide +kernel
theorem dX8_dayGoes_119 : fet cX8_dayGoes 119 = some (.iaload) := by decide +kernel
theorem dX8_dayGoes_120 : fet cX8_dayGoes 120 = some (.ifCond .lt 9) := by decide +kernel
theorem dX8_dayGoes_123 : fet cX8_dayGoes 123 = some (.aload_n 0) := by decide +kernel
theorem dX8_dayGoes_124 : fet cX8_dayGoes 124 = some (.aload_n 1) := by decide +kernel
theorem dX8_dayGoes_125 : fet cX8_dayGoes 125 = some (.iload_n 3) := by decide +kernel
theorem dX8_dayGoes_126 : fet cX8_dayGoes 126 = some (.invokevirtual 208) := by decide +kernel
theorem dX8_dayGoes_129 : fet cX8_dayGoes 129 = some (.iinc 3 1) := by decide +kernel
theorem dX8_dayGoes_132 : fet cX8_dayGoes 132 = some (.goto (-28)) := by decide +kernel
theorem dX8_dayGoes_135 : fet cX8_dayGoes 135 = some (.aload_n 0) := by decide +kernel
theorem dX8_dayGoes_136 : fet cX8_dayGoes 136 = some (.aload_n 1) := by decide +kernel
theorem dX8_dayGoes_137 : fet cX8_dayGoes 137 = some (.invokevirtual 211) := by decide +kernel
theorem dX8_dayGoes_140 : fet cX8_dayGoes 140 = some (.aload_n 0) := by decide +kernel
theorem dX8_dayGoes_141 : fet cX8_dayGoes 141 = some (.dup) := by decide +kernel
theorem dX8_dayGoes_142 : fet cX8_dayGoes 142 = some (.getfield 143) := by decide +kernel
theorem dX8_dayGoes_145 : fet cX8_dayGoes 145 = some (.aload_n 0) := by decide +kernel
theorem dX8_dayGoes_146 : fet cX8_dayGoes 146 = some (.getfield 143) := by decide +kernel
theorem dX8_dayGoes_149 : fet cX8_dayGoes 149 = some (.ifCond .le 7) := by decide +kernel
theorem dX8_dayGoes_152 : fet cX8_dayGoes 152 = some (.iconst 1) := by decide +kernel
theorem dX8_dayGoes_153 : fet cX8_dayGoes 153 = some (.goto 4) := by decide +kernel
theorem dX8_dayGoes_156 : fet cX8_dayGoes 156 = some (.iconst 0) := by decide +kernel
theorem dX8_dayGoes_157 : fet cX8_dayGoes 157 = some (.isub) := by decide +kernel
theorem dX8_dayGoes_158 : fet cX8_dayGoes 158 = some (.putfield 143) := by decide +kernel
theorem dX8_dayGoes_161 : fet cX8_dayGoes 161 = some (.aload_n 1) := by decide +kernel
theorem dX8_dayGoes_162 : fet cX8_dayGoes 162 = some (.iconst 0) := by decide +kernel
theorem dX8_dayGoes_163 : fet cX8_dayGoes 163 = some (.dup2) := by decide +kernel
theorem dX8_dayGoes_164 : fet cX8_dayGoes 164 = some (.iaload) := by decide +kernel
theorem dX8_dayGoes_165 : fet cX8_dayGoes 165 = some (.iconst 1) := by decide +kernel
theorem dX8_dayGoes_166 : fet cX8_dayGoes 166 = some (.iadd) := by decide +kernel
theorem dX8_dayGoes_167 : fet cX8_dayGoes 167 = some (.iastore) := by decide +kernel
theorem dX8_dayGoes_168 : fet cX8_dayGoes 168 = some (.iconst 0) := by decide +kernel
theorem dX8_dayGoes_169 : fet cX8_dayGoes 169 = some (.istore_n 3) := by decide +kernel
theorem dX8_dayGoes_170 : fet cX8_dayGoes 170 = some (.iload_n 3) := by decide +kernel
theorem dX8_dayGoes_171 : fet cX8_dayGoes 171 = some (.aload_n 0) := by decide +kernel
theorem dX8_dayGoes_172 : fet cX8_dayGoes 172 = some (.getfield 7) := by decide +kernel
theorem dX8_dayGoes_175 : fet cX8_dayGoes 175 = some (.iconst 1) := by decide +kernel
theorem dX8_dayGoes_176 : fet cX8_dayGoes 176 = some (.iaload) := by decide +kernel
theorem dX8_dayGoes_177 : fet cX8_dayGoes 177 = some (.if_icmp .ge 40) := by decide +kernel
theorem dX8_dayGoes_180 : fet cX8_dayGoes 180 = some (.aload_n 1) := by decide +kernel
theorem dX8_dayGoes_181 : fet cX8_dayGoes 181 = some (.iconst 1) := by decide +kernel
theorem dX8_dayGoes_182 : fet cX8_dayGoes 182 = some (.iload_n 3) := by decide +kernel
theorem dX8_dayGoes_183 : fet cX8_dayGoes 183 = some (.iadd) := by decide +kernel
theorem dX8_dayGoes_184 : fet cX8_dayGoes 184 = some (.iconst 0) := by decide +kernel
theorem dX8_dayGoes_185 : fet cX8_dayGoes 185 = some (.iastore) := by decide +kernel
theorem dX8_dayGoes_186 : fet cX8_dayGoes 186 = some (.aload_n 1) := by decide +kernel
theorem dX8_dayGoes_187 : fet cX8_dayGoes 187 = some (.bipush 29) := by decide +kernel
theorem dX8_dayGoes_189 : fet cX8_dayGoes 189 = some (.iload_n 3) := by decide +kernel
theorem dX8_dayGoes_190 : fet cX8_dayGoes 190 = some (.aload_n 1) := by decide +kernel
theorem dX8_dayGoes_191 : fet cX8_dayGoes 191 = some (.iconst 0) := by decide +kernel
theorem dX8_dayGoes_192 : fet cX8_dayGoes 192 = some (.iaload) := by decide +kernel
theorem dX8_dayGoes_193 : fet cX8_dayGoes 193 = some (.invokestatic 158) := by decide +kernel
theorem dX8_dayGoes_196 : fet cX8_dayGoes 196 = some (.iconst 0) := by decide +kernel
theorem dX8_dayGoes_197 : fet cX8_dayGoes 197 = some (.iastore) := by decide +kernel
theorem dX8_dayGoes_198 : fet cX8_dayGoes 198 = some (.aload_n 1) := by decide +kernel
theorem dX8_dayGoes_199 : fet cX8_dayGoes 199 = some (.sipush 173) := by decide +kernel
theorem dX8_dayGoes_202 : fet cX8_dayGoes 202 = some (.iload_n 3) := by decide +kernel
theorem dX8_dayGoes_203 : fet cX8_dayGoes 203 = some (.aload_n 1) := by decide +kernel
theorem dX8_dayGoes_204 : fet cX8_dayGoes 204 = some (.iconst 0) := by decide +kernel
theorem dX8_dayGoes_205 : fet cX8_dayGoes 205 = some (.iaload) := by decide +kernel
theorem dX8_dayGoes_206 : fet cX8_dayGoes 206 = some (.invokestatic 158) := by decide +kernel
theorem dX8_dayGoes_209 : fet cX8_dayGoes 209 = some (.iconst 0) := by decide +kernel
theorem dX8_dayGoes_210 : fet cX8_dayGoes 210 = some (.iastore) := by decide +kernel
theorem dX8_dayGoes_211 : fet cX8_dayGoes 211 = some (.iinc 3 1) := by decide +kernel
theorem dX8_dayGoes_214 : fet cX8_dayGoes 214 = some (.goto (-44)) := by decide +kernel
theorem dX8_dayGoes_217 : fet cX8_dayGoes 217 = some (.return_) := by decide +kernel
theorem dX8_copies_0 : fet cX8_copies 0 = some (.iconst 0) := by decide +kernel
theorem dX8_copies_1 : fet cX8_copies 1 = some (.istore 4) := by decide +kernel
theorem dX8_copies_3 : fet cX8_copies 3 = some (.iload 4) := by decide +kernel
theorem dX8_copies_5 : fet cX8_copies 5 = some (.sipush 317) := by decide +kernel
theorem dX8_copies_8 : fet cX8_copies 8 = some (.if_icmp .ge 21) := by decide +kernel
theorem dX8_copies_11 : fet cX8_copies 11 = some (.aload_n 2) := by decide +kernel
theorem dX8_copies_12 : fet cX8_copies 12 = some (.iload_n 3) := by decide +kernel
theorem dX8_copies_13 : fet cX8_copies 13 = some (.iload 4) := by decide +kernel
theorem dX8_copies_15 : fet cX8_copies 15 = some (.iadd) := by decide +kernel
theorem dX8_copies_16 : fet cX8_copies 16 = some (.aload_n 0) := by decide +kernel
theorem dX8_copies_17 : fet cX8_copies 17 = some (.iload_n 1) := by decide +kernel
theorem dX8_copies_18 : fet cX8_copies 18 = some (.iload 4) := by decide +kernel
theorem dX8_copies_20 : fet cX8_copies 20 = some (.iadd) := by decide +kernel
theorem dX8_copies_21 : fet cX8_copies 21 = some (.iaload) := by decide +kernel
theorem dX8_copies_22 : fet cX8_copies 22 = some (.iastore) := by decide +kernel
theorem dX8_copies_23 : fet cX8_copies 23 = some (.iinc 4 1) := by decide +kernel
theorem dX8_copies_26 : fet cX8_copies 26 = some (.goto (-23)) := by decide +kernel
theorem dX8_copies_29 : fet cX8_copies 29 = some (.return_) := by decide +kernel
theorem dX8_tries_0 : fet cX8_tries 0 = some (.aload_n 0) := by decide +kernel
theorem dX8_tries_1 : fet cX8_tries 1 = some (.getfield 19) := by decide +kernel
theorem dX8_tries_4 : fet cX8_tries 4 = some (.iconst 0) := by decide +kernel
theorem dX8_tries_5 : fet cX8_tries 5 = some (.aload_n 0) := by decide +kernel
theorem dX8_tries_6 : fet cX8_tries 6 = some (.getfield 37) := by decide +kernel
theorem dX8_tries_9 : fet cX8_tries 9 = some (.iconst 0) := by decide +kernel
theorem dX8_tries_10 : fet cX8_tries 10 = some (.invokestatic 215) := by decide +kernel
theorem dX8_tries_13 : fet cX8_tries 13 = some (.iconst 0) := by decide +kernel
theorem dX8_tries_14 : fet cX8_tries 14 = some (.istore_n 2) := by decide +kernel
theorem dX8_tries_15 : fet cX8_tries 15 = some (.iload_n 2) := by decide +kernel
theorem dX8_tries_16 : fet cX8_tries 16 = some (.iload_n 1) := by decide +kernel
theorem dX8_tries_17 : fet cX8_tries 17 = some (.if_icmp .ge 18) := by decide +kernel
theorem dX8_tries_20 : fet cX8_tries 20 = some (.aload_n 0) := by decide +kernel
theorem dX8_tries_21 : fet cX8_tries 21 = some (.aload_n 0) := by decide +kernel
theorem dX8_tries_22 : fet cX8_tries 22 = some (.getfield 37) := by decide +kernel
theorem dX8_tries_25 : fet cX8_tries 25 = some (.iload_n 2) := by decide +kernel
theorem dX8_tries_26 : fet cX8_tries 26 = some (.invokevirtual 219) := by decide +kernel
theorem dX8_tries_29 : fet cX8_tries 29 = some (.iinc 2 1) := by decide +kernel
theorem dX8_tries_32 : fet cX8_tries 32 = some (.goto (-17)) := by decide +kernel
theorem dX8_tries_35 : fet cX8_tries 35 = some (.return_) := by decide +kernel
theorem dX8_remember_0 : fet cX8_remember 0 = some (.aload_n 0) := by decide +kernel
theorem dX8_remember_1 : fet cX8_remember 1 = some (.getfield 116) := by decide +kernel
theorem dX8_remember_4 : fet cX8_remember 4 = some (.bipush 8) := by decide +kernel
theorem dX8_remember_6 : fet cX8_remember 6 = some (.if_icmp .ne 44) := by decide +kernel
theorem dX8_remember_9 : fet cX8_remember 9 = some (.iconst 0) := by decide +kernel
theorem dX8_remember_10 : fet cX8_remember 10 = some (.istore_n 1) := by decide +kernel
theorem dX8_remember_11 : fet cX8_remember 11 = some (.iload_n 1) := by decide +kernel
theorem dX8_remember_12 : fet cX8_remember 12 = some (.sipush 2219) := by decide +kernel
theorem dX8_remember_15 : fet cX8_remember 15 = some (.if_icmp .ge 25) := by decide +kernel
theorem dX8_remember_18 : fet cX8_remember 18 = some (.aload_n 0) := by decide +kernel
theorem dX8_remember_19 : fet cX8_remember 19 = some (.getfield 22) := by decide +kernel
theorem dX8_remember_22 : fet cX8_remember 22 = some (.iload_n 1) := by decide +kernel
theorem dX8_remember_23 : fet cX8_remember 23 = some (.aload_n 0) := by decide +kernel
theorem dX8_remember_24 : fet cX8_remember 24 = some (.getfield 22) := by decide +kernel
theorem dX8_remember_27 : fet cX8_remember 27 = some (.iload_n 1) := by decide +kernel
theorem dX8_remember_28 : fet cX8_remember 28 = some (.sipush 317) := by decide +kernel
theorem dX8_remember_31 : fet cX8_remember 31 = some (.iadd) := by decide +kernel
theorem dX8_remember_32 : fet cX8_remember 32 = some (.iaload) := by decide +kernel
theorem dX8_remember_33 : fet cX8_remember 33 = some (.iastore) := by decide +kernel
theorem dX8_remember_34 : fet cX8_remember 34 = some (.iinc 1 1) := by decide +kernel
theorem dX8_remember_37 : fet cX8_remember 37 = some (.goto (-26)) := by decide +kernel
theorem dX8_remember_40 : fet cX8_remember 40 = some (.aload_n 0) := by decide +kernel
theorem dX8_remember_41 : fet cX8_remember 41 = some (.dup) := by decide +kernel
theorem dX8_remember_42 : fet cX8_remember 42 = some (.getfield 116) := by decide +kernel
theorem dX8_remember_45 : fet cX8_remember 45 = some (.iconst 1) := by decide +kernel
theorem dX8_remember_46 : fet cX8_remember 46 = some (.isub) := by decide +kernel
theorem dX8_remember_47 : fet cX8_remember 47 = some (.putfield 116) := by decide +kernel
theorem dX8_remember_50 : fet cX8_remember 50 = some (.aload_n 0) := by decide +kernel
theorem dX8_remember_51 : fet cX8_remember 51 = some (.getfield 19) := by decide +kernel
theorem dX8_remember_54 : fet cX8_remember 54 = some (.iconst 0) := by decide +kernel
theorem dX8_remember_55 : fet cX8_remember 55 = some (.aload_n 0) := by decide +kernel
theorem dX8_remember_56 : fet cX8_remember 56 = some (.getfield 22) := by decide +kernel
theorem dX8_remember_59 : fet cX8_remember 59 = some (.sipush 317) := by decide +kernel
theorem dX8_remember_62 : fet cX8_remember 62 = some (.aload_n 0) := by decide +kernel
theorem dX8_remember_63 : fet cX8_remember 63 = some (.getfield 116) := by decide +kernel
theorem dX8_remember_66 : fet cX8_remember 66 = some (.imul) := by decide +kernel
theorem dX8_remember_67 : fet cX8_remember 67 = some (.invokestatic 215) := by decide +kernel
theorem dX8_remember_70 : fet cX8_remember 70 = some (.aload_n 0) := by decide +kernel
theorem dX8_remember_71 : fet cX8_remember 71 = some (.dup) := by decide +kernel
theorem dX8_remember_72 : fet cX8_remember 72 = some (.getfield 116) := by decide +kernel
theorem dX8_remember_75 : fet cX8_remember 75 = some (.iconst 1) := by decide +kernel
theorem dX8_remember_76 : fet cX8_remember 76 = some (.iadd) := by decide +kernel
theorem dX8_remember_77 : fet cX8_remember 77 = some (.putfield 116) := by decide +kernel
theorem dX8_remember_80 : fet cX8_remember 80 = some (.return_) := by decide +kernel
theorem dX8_bridge_0 : fet cX8_bridge 0 = some (.aload_n 0) := by decide +kernel
theorem dX8_bridge_1 : fet cX8_bridge 1 = some (.iload_n 1) := by decide +kernel
theorem dX8_bridge_2 : fet cX8_bridge 2 = some (.invokevirtual 222) := by decide +kernel
theorem dX8_bridge_5 : fet cX8_bridge 5 = some (.ifCond .eq 15) := by decide +kernel
theorem dX8_bridge_8 : fet cX8_bridge 8 = some (.iload_n 2) := by decide +kernel
theorem dX8_bridge_9 : fet cX8_bridge 9 = some (.i2l) := by decide +kernel
theorem dX8_bridge_10 : fet cX8_bridge 10 = some (.lconst 0) := by decide +kernel
theorem dX8_bridge_11 : fet cX8_bridge 11 = some (.ldc2_w 225) := by decide +kernel
theorem dX8_bridge_14 : fet cX8_bridge 14 = some (.invokestatic 60) := by decide +kernel
theorem dX8_bridge_17 : fet cX8_bridge 17 = some (.ifCond .ne 5) := by decide +kernel
theorem dX8_bridge_20 : fet cX8_bridge 20 = some (.iconst (-1)) := by decide +kernel
theorem dX8_bridge_21 : fet cX8_bridge 21 = some (.ireturn) := by decide +kernel
theorem dX8_bridge_22 : fet cX8_bridge 22 = some (.aload_n 0) := by decide +kernel
theorem dX8_bridge_23 : fet cX8_bridge 23 = some (.invokevirtual 227) := by decide +kernel
theorem dX8_bridge_26 : fet cX8_bridge 26 = some (.iload_n 2) := by decide +kernel
theorem dX8_bridge_27 : fet cX8_bridge 27 = some (.tableswitch 110 0 6 #[41, 50, 60, 70, 80, 90, 100]) := by decide +kernel
theorem dX8_bridge_68 : fet cX8_bridge 68 = some (.aload_n 0) := by decide +kernel
theorem dX8_bridge_69 : fet cX8_bridge 69 = some (.getfield 7) := by decide +kernel
theorem dX8_bridge_72 : fet cX8_bridge 72 = some (.iconst 4) := by decide +kernel
theorem dX8_bridge_73 : fet cX8_bridge 73 = some (.iload_n 1) := by decide +kernel
theorem dX8_bridge_74 : fet cX8_bridge 74 = some (.iadd) := by decide +kernel
theorem dX8_bridge_75 : fet cX8_bridge 75 = some (.iaload) := by decide +kernel
theorem dX8_bridge_76 : fet cX8_bridge 76 = some (.ireturn) := by decide +kernel
theorem dX8_bridge_77 : fet cX8_bridge 77 = some (.aload_n 0) := by decide +kernel
theorem dX8_bridge_78 : fet cX8_bridge 78 = some (.getfield 7) := by decide +kernel
theorem dX8_bridge_81 : fet cX8_bridge 81 = some (.bipush 13) := by decide +kernel
theorem dX8_bridge_83 : fet cX8_bridge 83 = some (.iload_n 1) := by decide +kernel
theorem dX8_bridge_84 : fet cX8_bridge 84 = some (.iadd) := by decide +kernel
theorem dX8_bridge_85 : fet cX8_bridge 85 = some (.iaload) := by decide +kernel
theorem dX8_bridge_86 : fet cX8_bridge 86 = some (.ireturn) := by decide +kernel
theorem dX8_bridge_87 : fet cX8_bridge 87 = some (.aload_n 0) := by decide +kernel
theorem dX8_bridge_88 : fet cX8_bridge 88 = some (.getfield 7) := by decide +kernel
theorem dX8_bridge_91 : fet cX8_bridge 91 = some (.bipush 22) := by decide +kernel
theorem dX8_bridge_93 : fet cX8_bridge 93 = some (.iload_n 1) := by decide +kernel
theorem dX8_bridge_94 : fet cX8_bridge 94 = some (.iadd) := by decide +kernel
theorem dX8_bridge_95 : fet cX8_bridge 95 = some (.iaload) := by decide +kernel
theorem dX8_bridge_96 : fet cX8_bridge 96 = some (.ireturn) := by decide +kernel
theorem dX8_bridge_97 : fet cX8_bridge 97 = some (.aload_n 0) := by decide +kernel
theorem dX8_bridge_98 : fet cX8_bridge 98 = some (.getfield 7) := by decide +kernel
theorem dX8_bridge_101 : fet cX8_bridge 101 = some (.bipush 31) := by decide +kernel
theorem dX8_bridge_103 : fet cX8_bridge 103 = some (.iload_n 1) := by decide +kernel
theorem dX8_bridge_104 : fet cX8_bridge 104 = some (.iadd) := by decide +kernel
theorem dX8_bridge_105 : fet cX8_bridge 105 = some (.iaload) := by decide +kernel
theorem dX8_bridge_106 : fet cX8_bridge 106 = some (.ireturn) := by decide +kernel
theorem dX8_bridge_107 : fet cX8_bridge 107 = some (.aload_n 0) := by decide +kernel
theorem dX8_bridge_108 : fet cX8_bridge 108 = some (.getfield 19) := by decide +kernel
theorem dX8_bridge_111 : fet cX8_bridge 111 = some (.bipush 10) := by decide +kernel
theorem dX8_bridge_113 : fet cX8_bridge 113 = some (.iload_n 1) := by decide +kernel
theorem dX8_bridge_114 : fet cX8_bridge 114 = some (.iadd) := by decide +kernel
theorem dX8_bridge_115 : fet cX8_bridge 115 = some (.iaload) := by decide +kernel
theorem dX8_bridge_116 : fet cX8_bridge 116 = some (.ireturn) := by decide +kernel
theorem dX8_bridge_117 : fet cX8_bridge 117 = some (.aload_n 0) := by decide +kernel
theorem dX8_bridge_118 : fet cX8_bridge 118 = some (.aload_n 0) := by decide +kernel
theorem dX8_bridge_119 : fet cX8_bridge 119 = some (.getfield 19) := by decide +kernel
theorem dX8_bridge_122 : fet cX8_bridge 122 = some (.iload_n 1) := by decide +kernel
theorem dX8_bridge_123 : fet cX8_bridge 123 = some (.invokevirtual 196) := by decide +kernel
theorem dX8_bridge_126 : fet cX8_bridge 126 = some (.ireturn) := by decide +kernel
theorem dX8_bridge_127 : fet cX8_bridge 127 = some (.aload_n 0) := by decide +kernel
theorem dX8_bridge_128 : fet cX8_bridge 128 = some (.aload_n 0) := by decide +kernel
theorem dX8_bridge_129 : fet cX8_bridge 129 = some (.getfield 19) := by decide +kernel
theorem dX8_bridge_132 : fet cX8_bridge 132 = some (.iload_n 1) := by decide +kernel
theorem dX8_bridge_133 : fet cX8_bridge 133 = some (.invokevirtual 162) := by decide +kernel
theorem dX8_bridge_136 : fet cX8_bridge 136 = some (.ireturn) := by decide +kernel
theorem dX8_bridge_137 : fet cX8_bridge 137 = some (.aload_n 0) := by decide +kernel
theorem dX8_bridge_138 : fet cX8_bridge 138 = some (.getfield 19) := by decide +kernel
theorem dX8_bridge_141 : fet cX8_bridge 141 = some (.iload_n 1) := by decide +kernel
theorem dX8_bridge_142 : fet cX8_bridge 142 = some (.invokestatic 187) := by decide +kernel
theorem dX8_bridge_145 : fet cX8_bridge 145 = some (.ireturn) := by decide +kernel
theorem dX8_goer_0 : fet cX8_goer 0 = some (.aload_n 0) := by decide +kernel
theorem dX8_goer_1 : fet cX8_goer 1 = some (.iload_n 1) := by decide +kernel
theorem dX8_goer_2 : fet cX8_goer 2 = some (.invokevirtual 230) := by decide +kernel
theorem dX8_goer_5 : fet cX8_goer 5 = some (.ifCond .eq 15) := by decide +kernel
theorem dX8_goer_8 : fet cX8_goer 8 = some (.iload_n 2) := by decide +kernel
theorem dX8_goer_9 : fet cX8_goer 9 = some (.i2l) := by decide +kernel
theorem dX8_goer_10 : fet cX8_goer 10 = some (.lconst 0) := by decide +kernel
theorem dX8_goer_11 : fet cX8_goer 11 = some (.ldc2_w 233) := by decide +kernel
theorem dX8_goer_14 : fet cX8_goer 14 = some (.invokestatic 60) := by decide +kernel
theorem dX8_goer_17 : fet cX8_goer 17 = some (.ifCond .ne 5) := by decide +kernel
theorem dX8_goer_20 : fet cX8_goer 20 = some (.iconst (-1)) := by decide +kernel
theorem dX8_goer_21 : fet cX8_goer 21 = some (.ireturn) := by decide +kernel
theorem dX8_goer_22 : fet cX8_goer 22 = some (.aload_n 0) := by decide +kernel
theorem dX8_goer_23 : fet cX8_goer 23 = some (.invokevirtual 227) := by decide +kernel
theorem dX8_goer_26 : fet cX8_goer 26 = some (.iload_n 2) := by decide +kernel
theorem dX8_goer_27 : fet cX8_goer 27 = some (.tableswitch 94 0 6 #[41, 68, 94, 94, 94, 78, 84]) := by decide +kernel
theorem dX8_goer_68 : fet cX8_goer 68 = some (.aload_n 0) := by decide +kernel
theorem dX8_goer_69 : fet cX8_goer 69 = some (.getfield 19) := by decide +kernel
theorem dX8_goer_72 : fet cX8_goer 72 = some (.bipush 19) := by decide +kernel
theorem dX8_goer_74 : fet cX8_goer 74 = some (.iload_n 1) := by decide +kernel
theorem dX8_goer_75 : fet cX8_goer 75 = some (.iadd) := by decide +kernel
theorem dX8_goer_76 : fet cX8_goer 76 = some (.iaload) := by decide +kernel
theorem dX8_goer_77 : fet cX8_goer 77 = some (.ifCond .ge 8) := by decide +kernel
theorem dX8_goer_80 : fet cX8_goer 80 = some (.bipush (-4)) := by decide +kernel
theorem dX8_goer_82 : fet cX8_goer 82 = some (.goto 12) := by decide +kernel
theorem dX8_goer_85 : fet cX8_goer 85 = some (.aload_n 0) := by decide +kernel
theorem dX8_goer_86 : fet cX8_goer 86 = some (.getfield 19) := by decide +kernel
theorem dX8_goer_89 : fet cX8_goer 89 = some (.bipush 19) := by decide +kernel
theorem dX8_goer_91 : fet cX8_goer 91 = some (.iload_n 1) := by decide +kernel
theorem dX8_goer_92 : fet cX8_goer 92 = some (.iadd) := by decide +kernel
theorem dX8_goer_93 : fet cX8_goer 93 = some (.iaload) := by decide +kernel
theorem dX8_goer_94 : fet cX8_goer 94 = some (.ireturn) := by decide +kernel
theorem dX8_goer_95 : fet cX8_goer 95 = some (.aload_n 0) := by decide +kernel
theorem dX8_goer_96 : fet cX8_goer 96 = some (.getfield 19) := by decide +kernel
theorem dX8_goer_99 : fet cX8_goer 99 = some (.bipush 24) := by decide +kernel
theorem dX8_goer_101 : fet cX8_goer 101 = some (.iload_n 1) := by decide +kernel
theorem dX8_goer_102 : fet cX8_goer 102 = some (.iadd) := by decide +kernel
theorem dX8_goer_103 : fet cX8_goer 103 = some (.iaload) := by decide +kernel
theorem dX8_goer_104 : fet cX8_goer 104 = some (.ireturn) := by decide +kernel
theorem dX8_goer_105 : fet cX8_goer 105 = some (.aload_n 0) := by decide +kernel
theorem dX8_goer_106 : fet cX8_goer 106 = some (.iload_n 1) := by decide +kernel
theorem dX8_goer_107 : fet cX8_goer 107 = some (.invokevirtual 166) := by decide +kernel
theorem dX8_goer_110 : fet cX8_goer 110 = some (.ireturn) := by decide +kernel
theorem dX8_goer_111 : fet cX8_goer 111 = some (.aload_n 0) := by decide +kernel
theorem dX8_goer_112 : fet cX8_goer 112 = some (.aload_n 0) := by decide +kernel
theorem dX8_goer_113 : fet cX8_goer 113 = some (.getfield 19) := by decide +kernel
theorem dX8_goer_116 : fet cX8_goer 116 = some (.iload_n 1) := by decide +kernel
theorem dX8_goer_117 : fet cX8_goer 117 = some (.invokevirtual 190) := by decide +kernel
theorem dX8_goer_120 : fet cX8_goer 120 = some (.ireturn) := by decide +kernel
theorem dX8_goer_121 : fet cX8_goer 121 = some (.aload_n 0) := by decide +kernel
theorem dX8_goer_122 : fet cX8_goer 122 = some (.getfield 7) := by decide +kernel
theorem dX8_goer_125 : fet cX8_goer 125 = some (.bipush 50) := by decide +kernel
theorem dX8_goer_127 : fet cX8_goer 127 = some (.iconst 5) := by decide +kernel
theorem dX8_goer_128 : fet cX8_goer 128 = some (.iload_n 2) := by decide +kernel
theorem dX8_goer_129 : fet cX8_goer 129 = some (.iconst 2) := by decide +kernel
theorem dX8_goer_130 : fet cX8_goer 130 = some (.isub) := by decide +kernel
theorem dX8_goer_131 : fet cX8_goer 131 = some (.imul) := by decide +kernel
theorem dX8_goer_132 : fet cX8_goer 132 = some (.iadd) := by decide +kernel
theorem dX8_goer_133 : fet cX8_goer 133 = some (.iload_n 1) := by decide +kernel
theorem dX8_goer_134 : fet cX8_goer 134 = some (.iadd) := by decide +kernel
theorem dX8_goer_135 : fet cX8_goer 135 = some (.iaload) := by decide +kernel
theorem dX8_goer_136 : fet cX8_goer 136 = some (.ireturn) := by decide +kernel
theorem dX8_days_0 : fet cX8_days 0 = some (.iload_n 1) := by decide +kernel
theorem dX8_days_1 : fet cX8_days 1 = some (.i2l) := by decide +kernel
theorem dX8_days_2 : fet cX8_days 2 = some (.lconst 1) := by decide +kernel
theorem dX8_days_3 : fet cX8_days 3 = some (.ldc2_w 235) := by decide +kernel
theorem dX8_days_6 : fet cX8_days 6 = some (.invokestatic 60) := by decide +kernel
theorem dX8_days_9 : fet cX8_days 9 = some (.ifCond .ne 5) := by decide +kernel
theorem dX8_days_12 : fet cX8_days 12 = some (.iconst (-1)) := by decide +kernel
theorem dX8_days_13 : fet cX8_days 13 = some (.ireturn) := by decide +kernel
theorem dX8_days_14 : fet cX8_days 14 = some (.aload_n 0) := by decide +kernel
theorem dX8_days_15 : fet cX8_days 15 = some (.getfield 19) := by decide +kernel
theorem dX8_days_18 : fet cX8_days 18 = some (.iconst 0) := by decide +kernel
theorem dX8_days_19 : fet cX8_days 19 = some (.iaload) := by decide +kernel
theorem dX8_days_20 : fet cX8_days 20 = some (.iload_n 1) := by decide +kernel
theorem dX8_days_21 : fet cX8_days 21 = some (.iadd) := by decide +kernel
theorem dX8_days_22 : fet cX8_days 22 = some (.bipush 99) := by decide +kernel
theorem dX8_days_24 : fet cX8_days 24 = some (.if_icmp .le 6) := by decide +kernel
theorem dX8_days_27 : fet cX8_days 27 = some (.bipush (-2)) := by decide +kernel
theorem dX8_days_29 : fet cX8_days 29 = some (.ireturn) := by decide +kernel
theorem dX8_days_30 : fet cX8_days 30 = some (.aload_n 0) := by decide +kernel
theorem dX8_days_31 : fet cX8_days 31 = some (.invokevirtual 237) := by decide +kernel
theorem dX8_days_34 : fet cX8_days 34 = some (.aload_n 0) := by decide +kernel
theorem dX8_days_35 : fet cX8_days 35 = some (.invokevirtual 227) := by decide +kernel
theorem dX8_days_38 : fet cX8_days 38 = some (.iconst 0) := by decide +kernel
theorem dX8_days_39 : fet cX8_days 39 = some (.istore_n 2) := by decide +kernel
theorem dX8_days_40 : fet cX8_days 40 = some (.iload_n 2) := by decide +kernel
theorem dX8_days_41 : fet cX8_days 41 = some (.iload_n 1) := by decide +kernel
theorem dX8_days_42 : fet cX8_days 42 = some (.if_icmp .ge 18) := by decide +kernel
theorem dX8_days_45 : fet cX8_days 45 = some (.aload_n 0) := by decide +kernel
theorem dX8_days_46 : fet cX8_days 46 = some (.aload_n 0) := by decide +kernel
theorem dX8_days_47 : fet cX8_days 47 = some (.getfield 19) := by decide +kernel
theorem dX8_days_50 : fet cX8_days 50 = some (.iload_n 2) := by decide +kernel
theorem dX8_days_51 : fet cX8_days 51 = some (.invokevirtual 219) := by decide +kernel
theorem dX8_days_54 : fet cX8_days 54 = some (.iinc 2 1) := by decide +kernel
theorem dX8_days_57 : fet cX8_days 57 = some (.goto (-17)) := by decide +kernel
theorem dX8_days_60 : fet cX8_days 60 = some (.aload_n 0) := by decide +kernel
theorem dX8_days_61 : fet cX8_days 61 = some (.getfield 19) := by decide +kernel
theorem dX8_days_64 : fet cX8_days 64 = some (.iconst 0) := by decide +kernel
theorem dX8_days_65 : fet cX8_days 65 = some (.iaload) := by decide +kernel
theorem dX8_days_66 : fet cX8_days 66 = some (.ireturn) := by decide +kernel
theorem dX8_put_0 : fet cX8_put 0 = some (.aload_n 0) := by decide +kernel
theorem dX8_put_1 : fet cX8_put 1 = some (.iload_n 1) := by decide +kernel
theorem dX8_put_2 : fet cX8_put 2 = some (.invokevirtual 222) := by decide +kernel
theorem dX8_put_5 : fet cX8_put 5 = some (.ifCond .eq 15) := by decide +kernel
theorem dX8_put_8 : fet cX8_put 8 = some (.iload_n 2) := by decide +kernel
theorem dX8_put_9 : fet cX8_put 9 = some (.i2l) := by decide +kernel
theorem dX8_put_10 : fet cX8_put 10 = some (.lconst 1) := by decide +kernel
theorem dX8_put_11 : fet cX8_put 11 = some (.ldc2_w 240) := by decide +kernel
theorem dX8_put_14 : fet cX8_put 14 = some (.invokestatic 60) := by decide +kernel
theorem dX8_put_17 : fet cX8_put 17 = some (.ifCond .ne 5) := by decide +kernel
theorem dX8_put_20 : fet cX8_put 20 = some (.iconst (-1)) := by decide +kernel
theorem dX8_put_21 : fet cX8_put 21 = some (.ireturn) := by decide +kernel
theorem dX8_put_22 : fet cX8_put 22 = some (.aload_n 0) := by decide +kernel
theorem dX8_put_23 : fet cX8_put 23 = some (.getfield 19) := by decide +kernel
theorem dX8_put_26 : fet cX8_put 26 = some (.iconst 1) := by decide +kernel
theorem dX8_put_27 : fet cX8_put 27 = some (.iload_n 1) := by decide +kernel
theorem dX8_put_28 : fet cX8_put 28 = some (.iadd) := by decide +kernel
theorem dX8_put_29 : fet cX8_put 29 = some (.iaload) := by decide +kernel
theorem dX8_put_30 : fet cX8_put 30 = some (.iload_n 2) := by decide +kernel
theorem dX8_put_31 : fet cX8_put 31 = some (.iadd) := by decide +kernel
theorem dX8_put_32 : fet cX8_put 32 = some (.bipush 99) := by decide +kernel
theorem dX8_put_34 : fet cX8_put 34 = some (.if_icmp .le 6) := by decide +kernel
theorem dX8_put_37 : fet cX8_put 37 = some (.bipush (-2)) := by decide +kernel
theorem dX8_put_39 : fet cX8_put 39 = some (.ireturn) := by decide +kernel
theorem dX8_put_40 : fet cX8_put 40 = some (.aload_n 0) := by decide +kernel
theorem dX8_put_41 : fet cX8_put 41 = some (.invokevirtual 237) := by decide +kernel
theorem dX8_put_44 : fet cX8_put 44 = some (.aload_n 0) := by decide +kernel
theorem dX8_put_45 : fet cX8_put 45 = some (.getfield 19) := by decide +kernel
theorem dX8_put_48 : fet cX8_put 48 = some (.iconst 1) := by decide +kernel
theorem dX8_put_49 : fet cX8_put 49 = some (.iload_n 1) := by decide +kernel
theorem dX8_put_50 : fet cX8_put 50 = some (.iadd) := by decide +kernel
theorem dX8_put_51 : fet cX8_put 51 = some (.dup2) := by decide +kernel
theorem dX8_put_52 : fet cX8_put 52 = some (.iaload) := by decide +kernel
theorem dX8_put_53 : fet cX8_put 53 = some (.iload_n 2) := by decide +kernel
theorem dX8_put_54 : fet cX8_put 54 = some (.iadd) := by decide +kernel
theorem dX8_put_55 : fet cX8_put 55 = some (.iastore) := by decide +kernel
theorem dX8_put_56 : fet cX8_put 56 = some (.aload_n 0) := by decide +kernel
theorem dX8_put_57 : fet cX8_put 57 = some (.getfield 19) := by decide +kernel
theorem dX8_put_60 : fet cX8_put 60 = some (.bipush 29) := by decide +kernel
theorem dX8_put_62 : fet cX8_put 62 = some (.iload_n 1) := by decide +kernel
theorem dX8_put_63 : fet cX8_put 63 = some (.aload_n 0) := by decide +kernel
theorem dX8_put_64 : fet cX8_put 64 = some (.getfield 19) := by decide +kernel
theorem dX8_put_67 : fet cX8_put 67 = some (.iconst 0) := by decide +kernel
theorem dX8_put_68 : fet cX8_put 68 = some (.iaload) := by decide +kernel
theorem dX8_put_69 : fet cX8_put 69 = some (.invokestatic 158) := by decide +kernel
theorem dX8_put_72 : fet cX8_put 72 = some (.dup2) := by decide +kernel
theorem dX8_put_73 : fet cX8_put 73 = some (.iaload) := by decide +kernel
theorem dX8_put_74 : fet cX8_put 74 = some (.iload_n 2) := by decide +kernel
theorem dX8_put_75 : fet cX8_put 75 = some (.iadd) := by decide +kernel
theorem dX8_put_76 : fet cX8_put 76 = some (.iastore) := by decide +kernel
theorem dX8_put_77 : fet cX8_put 77 = some (.aload_n 0) := by decide +kernel
theorem dX8_put_78 : fet cX8_put 78 = some (.getfield 19) := by decide +kernel
theorem dX8_put_81 : fet cX8_put 81 = some (.iconst 1) := by decide +kernel
theorem dX8_put_82 : fet cX8_put 82 = some (.iload_n 1) := by decide +kernel
theorem dX8_put_83 : fet cX8_put 83 = some (.iadd) := by decide +kernel
theorem dX8_put_84 : fet cX8_put 84 = some (.iaload) := by decide +kernel
theorem dX8_put_85 : fet cX8_put 85 = some (.ireturn) := by decide +kernel
theorem dX8_guard_0 : fet cX8_guard 0 = some (.aload_n 0) := by decide +kernel
theorem dX8_guard_1 : fet cX8_guard 1 = some (.iload_n 1) := by decide +kernel
theorem dX8_guard_2 : fet cX8_guard 2 = some (.invokevirtual 222) := by decide +kernel
theorem dX8_guard_5 : fet cX8_guard 5 = some (.ifCond .ne 5) := by decide +kernel
theorem dX8_guard_8 : fet cX8_guard 8 = some (.iconst (-1)) := by decide +kernel
theorem dX8_guard_9 : fet cX8_guard 9 = some (.ireturn) := by decide +kernel
theorem dX8_guard_10 : fet cX8_guard 10 = some (.aload_n 0) := by decide +kernel
theorem dX8_guard_11 : fet cX8_guard 11 = some (.invokevirtual 237) := by decide +kernel
theorem dX8_guard_14 : fet cX8_guard 14 = some (.aload_n 0) := by decide +kernel
theorem dX8_guard_15 : fet cX8_guard 15 = some (.getfield 19) := by decide +kernel
theorem dX8_guard_18 : fet cX8_guard 18 = some (.bipush 10) := by decide +kernel
theorem dX8_guard_20 : fet cX8_guard 20 = some (.iload_n 1) := by decide +kernel
theorem dX8_guard_21 : fet cX8_guard 21 = some (.iadd) := by decide +kernel
theorem dX8_guard_22 : fet cX8_guard 22 = some (.iload_n 2) := by decide +kernel
theorem dX8_guard_23 : fet cX8_guard 23 = some (.ifCond .eq 7) := by decide +kernel
theorem dX8_guard_26 : fet cX8_guard 26 = some (.iconst 1) := by decide +kernel
theorem dX8_guard_27 : fet cX8_guard 27 = some (.goto 4) := by decide +kernel
theorem dX8_guard_30 : fet cX8_guard 30 = some (.iconst 0) := by decide +kernel
theorem dX8_guard_31 : fet cX8_guard 31 = some (.iastore) := by decide +kernel
theorem dX8_guard_32 : fet cX8_guard 32 = some (.iconst 0) := by decide +kernel
theorem dX8_guard_33 : fet cX8_guard 33 = some (.istore_n 3) := by decide +kernel
theorem dX8_guard_34 : fet cX8_guard 34 = some (.iconst 0) := by decide +kernel
theorem dX8_guard_35 : fet cX8_guard 35 = some (.istore 4) := by decide +kernel
theorem dX8_guard_37 : fet cX8_guard 37 = some (.iload 4) := by decide +kernel
theorem dX8_guard_39 : fet cX8_guard 39 = some (.aload_n 0) := by decide +kernel
theorem dX8_guard_40 : fet cX8_guard 40 = some (.getfield 7) := by decide +kernel
theorem dX8_guard_43 : fet cX8_guard 43 = some (.iconst 1) := by decide +kernel
theorem dX8_guard_44 : fet cX8_guard 44 = some (.iaload) := by decide +kernel
theorem dX8_guard_45 : fet cX8_guard 45 = some (.if_icmp .ge 22) := by decide +kernel
theorem dX8_guard_48 : fet cX8_guard 48 = some (.iload_n 3) := by decide +kernel
theorem dX8_guard_49 : fet cX8_guard 49 = some (.aload_n 0) := by decide +kernel
theorem dX8_guard_50 : fet cX8_guard 50 = some (.getfield 19) := by decide +kernel
theorem dX8_guard_53 : fet cX8_guard 53 = some (.bipush 10) := by decide +kernel
theorem dX8_guard_55 : fet cX8_guard 55 = some (.iload 4) := by decide +kernel
theorem dX8_guard_57 : fet cX8_guard 57 = some (.iadd) := by decide +kernel
theorem dX8_guard_58 : fet cX8_guard 58 = some (.iaload) := by decide +kernel
theorem dX8_guard_59 : fet cX8_guard 59 = some (.iadd) := by decide +kernel
theorem dX8_guard_60 : fet cX8_guard 60 = some (.istore_n 3) := by decide +kernel
theorem dX8_guard_61 : fet cX8_guard 61 = some (.iinc 4 1) := by decide +kernel
theorem dX8_guard_64 : fet cX8_guard 64 = some (.goto (-27)) := by decide +kernel
theorem dX8_guard_67 : fet cX8_guard 67 = some (.iload_n 3) := by decide +kernel
theorem dX8_guard_68 : fet cX8_guard 68 = some (.ireturn) := by decide +kernel
theorem dX8_undo_0 : fet cX8_undo 0 = some (.aload_n 0) := by decide +kernel
theorem dX8_undo_1 : fet cX8_undo 1 = some (.getfield 116) := by decide +kernel
theorem dX8_undo_4 : fet cX8_undo 4 = some (.ifCond .ne 6) := by decide +kernel
theorem dX8_undo_7 : fet cX8_undo 7 = some (.bipush (-2)) := by decide +kernel
theorem dX8_undo_9 : fet cX8_undo 9 = some (.ireturn) := by decide +kernel
theorem dX8_undo_10 : fet cX8_undo 10 = some (.aload_n 0) := by decide +kernel
theorem dX8_undo_11 : fet cX8_undo 11 = some (.dup) := by decide +kernel
theorem dX8_undo_12 : fet cX8_undo 12 = some (.getfield 116) := by decide +kernel
theorem dX8_undo_15 : fet cX8_undo 15 = some (.iconst 1) := by decide +kernel
theorem dX8_undo_16 : fet cX8_undo 16 = some (.isub) := by decide +kernel
theorem dX8_undo_17 : fet cX8_undo 17 = some (.putfield 116) := by decide +kernel
theorem dX8_undo_20 : fet cX8_undo 20 = some (.aload_n 0) := by decide +kernel
theorem dX8_undo_21 : fet cX8_undo 21 = some (.getfield 22) := by decide +kernel
theorem dX8_undo_24 : fet cX8_undo 24 = some (.sipush 317) := by decide +kernel
theorem dX8_undo_27 : fet cX8_undo 27 = some (.aload_n 0) := by decide +kernel
theorem dX8_undo_28 : fet cX8_undo 28 = some (.getfield 116) := by decide +kernel
theorem dX8_undo_31 : fet cX8_undo 31 = some (.imul) := by decide +kernel
theorem dX8_undo_32 : fet cX8_undo 32 = some (.aload_n 0) := by decide +kernel
theorem dX8_undo_33 : fet cX8_undo 33 = some (.getfield 19) := by decide +kernel
theorem dX8_undo_36 : fet cX8_undo 36 = some (.iconst 0) := by decide +kernel
theorem dX8_undo_37 : fet cX8_undo 37 = some (.invokestatic 215) := by decide +kernel
theorem dX8_undo_40 : fet cX8_undo 40 = some (.aload_n 0) := by decide +kernel
theorem dX8_undo_41 : fet cX8_undo 41 = some (.getfield 116) := by decide +kernel
theorem dX8_undo_44 : fet cX8_undo 44 = some (.ireturn) := by decide +kernel
theorem dX8_isBehind_0 : fet cX8_isBehind 0 = some (.iload_n 0) := by decide +kernel
theorem dX8_isBehind_1 : fet cX8_isBehind 1 = some (.i2l) := by decide +kernel
theorem dX8_isBehind_2 : fet cX8_isBehind 2 = some (.lconst 0) := by decide +kernel
theorem dX8_isBehind_3 : fet cX8_isBehind 3 = some (.ldc2_w 235) := by decide +kernel
theorem dX8_isBehind_6 : fet cX8_isBehind 6 = some (.invokestatic 60) := by decide +kernel
theorem dX8_isBehind_9 : fet cX8_isBehind 9 = some (.ireturn) := by decide +kernel
theorem dX8_where_0 : fet cX8_where 0 = some (.iload_n 1) := by decide +kernel
theorem dX8_where_1 : fet cX8_where 1 = some (.invokestatic 242) := by decide +kernel
theorem dX8_where_4 : fet cX8_where 4 = some (.ifCond .eq 11) := by decide +kernel
theorem dX8_where_7 : fet cX8_where 7 = some (.aload_n 0) := by decide +kernel
theorem dX8_where_8 : fet cX8_where 8 = some (.iload_n 2) := by decide +kernel
theorem dX8_where_9 : fet cX8_where 9 = some (.invokevirtual 230) := by decide +kernel
theorem dX8_where_12 : fet cX8_where 12 = some (.ifCond .ne 5) := by decide +kernel
theorem dX8_where_15 : fet cX8_where 15 = some (.iconst (-1)) := by decide +kernel
theorem dX8_where_16 : fet cX8_where 16 = some (.ireturn) := by decide +kernel
theorem dX8_where_17 : fet cX8_where 17 = some (.aload_n 0) := by decide +kernel
theorem dX8_where_18 : fet cX8_where 18 = some (.invokevirtual 227) := by decide +kernel
theorem dX8_where_21 : fet cX8_where 21 = some (.aload_n 0) := by decide +kernel
theorem dX8_where_22 : fet cX8_where 22 = some (.iload_n 1) := by decide +kernel
theorem dX8_where_23 : fet cX8_where 23 = some (.invokevirtual 245) := by decide +kernel
theorem dX8_where_26 : fet cX8_where 26 = some (.aload_n 0) := by decide +kernel
theorem dX8_where_27 : fet cX8_where 27 = some (.getfield 37) := by decide +kernel
theorem dX8_where_30 : fet cX8_where 30 = some (.bipush 19) := by decide +kernel
theorem dX8_where_32 : fet cX8_where 32 = some (.iload_n 2) := by decide +kernel
theorem dX8_where_33 : fet cX8_where 33 = some (.iadd) := by decide +kernel
theorem dX8_where_34 : fet cX8_where 34 = some (.iaload) := by decide +kernel
theorem dX8_where_35 : fet cX8_where 35 = some (.ifCond .ge 8) := by decide +kernel
theorem dX8_where_38 : fet cX8_where 38 = some (.bipush (-4)) := by decide +kernel
theorem dX8_where_40 : fet cX8_where 40 = some (.goto 12) := by decide +kernel
theorem dX8_where_43 : fet cX8_where 43 = some (.aload_n 0) := by decide +kernel
theorem dX8_where_44 : fet cX8_where 44 = some (.getfield 37) := by decide +kernel
theorem dX8_where_47 : fet cX8_where 47 = some (.bipush 19) := by decide +kernel
theorem dX8_where_49 : fet cX8_where 49 = some (.iload_n 2) := by decide +kernel
theorem dX8_where_50 : fet cX8_where 50 = some (.iadd) := by decide +kernel
theorem dX8_where_51 : fet cX8_where 51 = some (.iaload) := by decide +kernel
theorem dX8_where_52 : fet cX8_where 52 = some (.ireturn) := by decide +kernel
theorem dX8_planks_0 : fet cX8_planks 0 = some (.iload_n 1) := by decide +kernel
theorem dX8_planks_1 : fet cX8_planks 1 = some (.invokestatic 242) := by decide +kernel
theorem dX8_planks_4 : fet cX8_planks 4 = some (.ifCond .eq 11) := by decide +kernel
theorem dX8_planks_7 : fet cX8_planks 7 = some (.aload_n 0) := by decide +kernel
theorem dX8_planks_8 : fet cX8_planks 8 = some (.iload_n 2) := by decide +kernel
theorem dX8_planks_9 : fet cX8_planks 9 = some (.invokevirtual 222) := by decide +kernel
theorem dX8_planks_12 : fet cX8_planks 12 = some (.ifCond .ne 5) := by decide +kernel
theorem dX8_planks_15 : fet cX8_planks 15 = some (.iconst (-1)) := by decide +kernel
theorem dX8_planks_16 : fet cX8_planks 16 = some (.ireturn) := by decide +kernel
theorem dX8_planks_17 : fet cX8_planks 17 = some (.aload_n 0) := by decide +kernel
theorem dX8_planks_18 : fet cX8_planks 18 = some (.invokevirtual 227) := by decide +kernel
theorem dX8_planks_21 : fet cX8_planks 21 = some (.aload_n 0) := by decide +kernel
theorem dX8_planks_22 : fet cX8_planks 22 = some (.iload_n 1) := by decide +kernel
theorem dX8_planks_23 : fet cX8_planks 23 = some (.invokevirtual 245) := by decide +kernel
theorem dX8_planks_26 : fet cX8_planks 26 = some (.aload_n 0) := by decide +kernel
theorem dX8_planks_27 : fet cX8_planks 27 = some (.aload_n 0) := by decide +kernel
theorem dX8_planks_28 : fet cX8_planks 28 = some (.getfield 37) := by decide +kernel
theorem dX8_planks_31 : fet cX8_planks 31 = some (.iload_n 2) := by decide +kernel
theorem dX8_planks_32 : fet cX8_planks 32 = some (.invokevirtual 196) := by decide +kernel
theorem dX8_planks_35 : fet cX8_planks 35 = some (.ireturn) := by decide +kernel
theorem dX8_all_0 : fet cX8_all 0 = some (.iload_n 1) := by decide +kernel
theorem dX8_all_1 : fet cX8_all 1 = some (.invokestatic 242) := by decide +kernel
theorem dX8_all_4 : fet cX8_all 4 = some (.ifCond .eq 15) := by decide +kernel
theorem dX8_all_7 : fet cX8_all 7 = some (.iload_n 2) := by decide +kernel
theorem dX8_all_8 : fet cX8_all 8 = some (.i2l) := by decide +kernel
theorem dX8_all_9 : fet cX8_all 9 = some (.lconst 0) := by decide +kernel
theorem dX8_all_10 : fet cX8_all 10 = some (.ldc2_w 249) := by decide +kernel
theorem dX8_all_13 : fet cX8_all 13 = some (.invokestatic 60) := by decide +kernel
theorem dX8_all_16 : fet cX8_all 16 = some (.ifCond .ne 5) := by decide +kernel
theorem dX8_all_19 : fet cX8_all 19 = some (.iconst (-1)) := by decide +kernel
theorem dX8_all_20 : fet cX8_all 20 = some (.ireturn) := by decide +kernel
theorem dX8_all_21 : fet cX8_all 21 = some (.aload_n 0) := by decide +kernel
theorem dX8_all_22 : fet cX8_all 22 = some (.invokevirtual 227) := by decide +kernel
theorem dX8_all_25 : fet cX8_all 25 = some (.aload_n 0) := by decide +kernel
theorem dX8_all_26 : fet cX8_all 26 = some (.iload_n 1) := by decide +kernel
theorem dX8_all_27 : fet cX8_all 27 = some (.invokevirtual 245) := by decide +kernel
theorem dX8_all_30 : fet cX8_all 30 = some (.iload_n 2) := by decide +kernel
theorem dX8_all_31 : fet cX8_all 31 = some (.ifCond .ne 10) := by decide +kernel
theorem dX8_all_34 : fet cX8_all 34 = some (.aload_n 0) := by decide +kernel
theorem dX8_all_35 : fet cX8_all 35 = some (.getfield 146) := by decide +kernel
theorem dX8_all_38 : fet cX8_all 38 = some (.goto 31) := by decide +kernel
theorem dX8_all_41 : fet cX8_all 41 = some (.iload_n 2) := by decide +kernel
theorem dX8_all_42 : fet cX8_all 42 = some (.iconst 1) := by decide +kernel
theorem dX8_all_43 : fet cX8_all 43 = some (.if_icmp .ne 10) := by decide +kernel
theorem dX8_all_46 : fet cX8_all 46 = some (.aload_n 0) := by decide +kernel
theorem dX8_all_47 : fet cX8_all 47 = some (.getfield 149) := by decide +kernel
theorem dX8_all_50 : fet cX8_all 50 = some (.goto 19) := by decide +kernel
theorem dX8_all_53 : fet cX8_all 53 = some (.iload_n 2) := by decide +kernel
theorem dX8_all_54 : fet cX8_all 54 = some (.iconst 2) := by decide +kernel
theorem dX8_all_55 : fet cX8_all 55 = some (.if_icmp .ne 10) := by decide +kernel
theorem dX8_all_58 : fet cX8_all 58 = some (.aload_n 0) := by decide +kernel
theorem dX8_all_59 : fet cX8_all 59 = some (.getfield 152) := by decide +kernel
theorem dX8_all_62 : fet cX8_all 62 = some (.goto 7) := by decide +kernel
theorem dX8_all_65 : fet cX8_all 65 = some (.aload_n 0) := by decide +kernel
theorem dX8_all_66 : fet cX8_all 66 = some (.getfield 155) := by decide +kernel
theorem dX8_all_69 : fet cX8_all 69 = some (.ireturn) := by decide +kernel
theorem dX8_isSpan_0 : fet cX8_isSpan 0 = some (.iload_n 0) := by decide +kernel
theorem dX8_isSpan_1 : fet cX8_isSpan 1 = some (.i2l) := by decide +kernel
theorem dX8_isSpan_2 : fet cX8_isSpan 2 = some (.lconst 1) := by decide +kernel
theorem dX8_isSpan_3 : fet cX8_isSpan 3 = some (.ldc2_w 235) := by decide +kernel
theorem dX8_isSpan_6 : fet cX8_isSpan 6 = some (.invokestatic 60) := by decide +kernel
theorem dX8_isSpan_9 : fet cX8_isSpan 9 = some (.ireturn) := by decide +kernel
theorem dX8_abbot_0 : fet cX8_abbot 0 = some (.iload_n 1) := by decide +kernel
theorem dX8_abbot_1 : fet cX8_abbot 1 = some (.invokestatic 251) := by decide +kernel
theorem dX8_abbot_4 : fet cX8_abbot 4 = some (.ifCond .ne 5) := by decide +kernel
theorem dX8_abbot_7 : fet cX8_abbot 7 = some (.iconst (-1)) := by decide +kernel
theorem dX8_abbot_8 : fet cX8_abbot 8 = some (.ireturn) := by decide +kernel
theorem dX8_abbot_9 : fet cX8_abbot 9 = some (.iconst 0) := by decide +kernel
theorem dX8_abbot_10 : fet cX8_abbot 10 = some (.istore_n 2) := by decide +kernel
theorem dX8_abbot_11 : fet cX8_abbot 11 = some (.iload_n 2) := by decide +kernel
theorem dX8_abbot_12 : fet cX8_abbot 12 = some (.bipush 20) := by decide +kernel
theorem dX8_abbot_14 : fet cX8_abbot 14 = some (.if_icmp .gt 42) := by decide +kernel
theorem dX8_abbot_17 : fet cX8_abbot 17 = some (.aload_n 0) := by decide +kernel
theorem dX8_abbot_18 : fet cX8_abbot 18 = some (.invokevirtual 227) := by decide +kernel
theorem dX8_abbot_21 : fet cX8_abbot 21 = some (.aload_n 0) := by decide +kernel
theorem dX8_abbot_22 : fet cX8_abbot 22 = some (.iload_n 2) := by decide +kernel
theorem dX8_abbot_23 : fet cX8_abbot 23 = some (.putfield 131) := by decide +kernel
theorem dX8_abbot_26 : fet cX8_abbot 26 = some (.aload_n 0) := by decide +kernel
theorem dX8_abbot_27 : fet cX8_abbot 27 = some (.aload_n 0) := by decide +kernel
theorem dX8_abbot_28 : fet cX8_abbot 28 = some (.getfield 7) := by decide +kernel
theorem dX8_abbot_31 : fet cX8_abbot 31 = some (.iconst 3) := by decide +kernel
theorem dX8_abbot_32 : fet cX8_abbot 32 = some (.iaload) := by decide +kernel
theorem dX8_abbot_33 : fet cX8_abbot 33 = some (.putfield 143) := by decide +kernel
theorem dX8_abbot_36 : fet cX8_abbot 36 = some (.aload_n 0) := by decide +kernel
theorem dX8_abbot_37 : fet cX8_abbot 37 = some (.iload_n 1) := by decide +kernel
theorem dX8_abbot_38 : fet cX8_abbot 38 = some (.invokevirtual 245) := by decide +kernel
theorem dX8_abbot_41 : fet cX8_abbot 41 = some (.aload_n 0) := by decide +kernel
theorem dX8_abbot_42 : fet cX8_abbot 42 = some (.getfield 146) := by decide +kernel
theorem dX8_abbot_45 : fet cX8_abbot 45 = some (.ifCond .ne 5) := by decide +kernel
theorem dX8_abbot_48 : fet cX8_abbot 48 = some (.iload_n 2) := by decide +kernel
theorem dX8_abbot_49 : fet cX8_abbot 49 = some (.ireturn) := by decide +kernel
theorem dX8_abbot_50 : fet cX8_abbot 50 = some (.iinc 2 1) := by decide +kernel
theorem dX8_abbot_53 : fet cX8_abbot 53 = some (.goto (-42)) := by decide +kernel
theorem dX8_abbot_56 : fet cX8_abbot 56 = some (.bipush (-4)) := by decide +kernel
theorem dX8_abbot_58 : fet cX8_abbot 58 = some (.ireturn) := by decide +kernel
theorem dX8_oak_0 : fet cX8_oak 0 = some (.iload_n 1) := by decide +kernel
theorem dX8_oak_1 : fet cX8_oak 1 = some (.invokestatic 251) := by decide +kernel
theorem dX8_oak_4 : fet cX8_oak 4 = some (.ifCond .ne 5) := by decide +kernel
theorem dX8_oak_7 : fet cX8_oak 7 = some (.iconst (-1)) := by decide +kernel
theorem dX8_oak_8 : fet cX8_oak 8 = some (.ireturn) := by decide +kernel
theorem dX8_oak_9 : fet cX8_oak 9 = some (.bipush (-4)) := by decide +kernel
theorem dX8_oak_11 : fet cX8_oak 11 = some (.istore_n 2) := by decide +kernel
theorem dX8_oak_12 : fet cX8_oak 12 = some (.ldc 170) := by decide +kernel
theorem dX8_oak_14 : fet cX8_oak 14 = some (.istore_n 3) := by decide +kernel
theorem dX8_oak_15 : fet cX8_oak 15 = some (.iconst 0) := by decide +kernel
theorem dX8_oak_16 : fet cX8_oak 16 = some (.istore 4) := by decide +kernel
theorem dX8_oak_18 : fet cX8_oak 18 = some (.iload 4) := by decide +kernel
theorem dX8_oak_20 : fet cX8_oak 20 = some (.aload_n 0) := by decide +kernel
theorem dX8_oak_21 : fet cX8_oak 21 = some (.getfield 7) := by decide +kernel
theorem dX8_oak_24 : fet cX8_oak 24 = some (.iconst 1) := by decide +kernel
theorem dX8_oak_25 : fet cX8_oak 25 = some (.iaload) := by decide +kernel
theorem dX8_oak_26 : fet cX8_oak 26 = some (.if_icmp .ge 76) := by decide +kernel
theorem dX8_oak_29 : fet cX8_oak 29 = some (.aload_n 0) := by decide +kernel
theorem dX8_oak_30 : fet cX8_oak 30 = some (.getfield 7) := by decide +kernel
theorem dX8_oak_33 : fet cX8_oak 33 = some (.bipush 31) := by decide +kernel
theorem dX8_oak_35 : fet cX8_oak 35 = some (.iload 4) := by decide +kernel
theorem dX8_oak_37 : fet cX8_oak 37 = some (.iadd) := by decide +kernel
theorem dX8_oak_38 : fet cX8_oak 38 = some (.iaload) := by decide +kernel
theorem dX8_oak_39 : fet cX8_oak 39 = some (.ifCond .ne 57) := by decide +kernel
theorem dX8_oak_42 : fet cX8_oak 42 = some (.aload_n 0) := by decide +kernel
theorem dX8_oak_43 : fet cX8_oak 43 = some (.invokevirtual 227) := by decide +kernel
theorem dX8_oak_46 : fet cX8_oak 46 = some (.aload_n 0) := by decide +kernel
theorem dX8_oak_47 : fet cX8_oak 47 = some (.dup) := by decide +kernel
theorem dX8_oak_48 : fet cX8_oak 48 = some (.getfield 128) := by decide +kernel
theorem dX8_oak_51 : fet cX8_oak 51 = some (.iconst 1) := by decide +kernel
theorem dX8_oak_52 : fet cX8_oak 52 = some (.iload 4) := by decide +kernel
theorem dX8_oak_54 : fet cX8_oak 54 = some (.ishl) := by decide +kernel
theorem dX8_oak_55 : fet cX8_oak 55 = some (.ior) := by decide +kernel
theorem dX8_oak_56 : fet cX8_oak 56 = some (.putfield 128) := by decide +kernel
theorem dX8_oak_59 : fet cX8_oak 59 = some (.aload_n 0) := by decide +kernel
theorem dX8_oak_60 : fet cX8_oak 60 = some (.iload_n 1) := by decide +kernel
theorem dX8_oak_61 : fet cX8_oak 61 = some (.invokevirtual 245) := by decide +kernel
theorem dX8_oak_64 : fet cX8_oak 64 = some (.aload_n 0) := by decide +kernel
theorem dX8_oak_65 : fet cX8_oak 65 = some (.getfield 146) := by decide +kernel
theorem dX8_oak_68 : fet cX8_oak 68 = some (.iload_n 3) := by decide +kernel
theorem dX8_oak_69 : fet cX8_oak 69 = some (.if_icmp .ge 8) := by decide +kernel
theorem dX8_oak_72 : fet cX8_oak 72 = some (.iload 4) := by decide +kernel
theorem dX8_oak_74 : fet cX8_oak 74 = some (.goto 4) := by decide +kernel
theorem dX8_oak_77 : fet cX8_oak 77 = some (.iload_n 2) := by decide +kernel
theorem dX8_oak_78 : fet cX8_oak 78 = some (.istore_n 2) := by decide +kernel
theorem dX8_oak_79 : fet cX8_oak 79 = some (.aload_n 0) := by decide +kernel
theorem dX8_oak_80 : fet cX8_oak 80 = some (.getfield 146) := by decide +kernel
theorem dX8_oak_83 : fet cX8_oak 83 = some (.iload_n 3) := by decide +kernel
theorem dX8_oak_84 : fet cX8_oak 84 = some (.if_icmp .ge 10) := by decide +kernel
theorem dX8_oak_87 : fet cX8_oak 87 = some (.aload_n 0) := by decide +kernel
theorem dX8_oak_88 : fet cX8_oak 88 = some (.getfield 146) := by decide +kernel
theorem dX8_oak_91 : fet cX8_oak 91 = some (.goto 4) := by decide +kernel
theorem dX8_oak_94 : fet cX8_oak 94 = some (.iload_n 3) := by decide +kernel
theorem dX8_oak_95 : fet cX8_oak 95 = some (.istore_n 3) := by decide +kernel
theorem dX8_oak_96 : fet cX8_oak 96 = some (.iinc 4 1) := by decide +kernel
theorem dX8_oak_99 : fet cX8_oak 99 = some (.goto (-81)) := by decide +kernel
theorem dX8_oak_102 : fet cX8_oak 102 = some (.iload_n 2) := by decide +kernel
theorem dX8_oak_103 : fet cX8_oak 103 = some (.ireturn) := by decide +kernel
theorem dX8_delays_0 : fet cX8_delays 0 = some (.iload_n 1) := by decide +kernel
theorem dX8_delays_1 : fet cX8_delays 1 = some (.invokestatic 251) := by decide +kernel
theorem dX8_delays_4 : fet cX8_delays 4 = some (.ifCond .ne 5) := by decide +kernel
theorem dX8_delays_7 : fet cX8_delays 7 = some (.iconst (-1)) := by decide +kernel
theorem dX8_delays_8 : fet cX8_delays 8 = some (.ireturn) := by decide +kernel
theorem dX8_delays_9 : fet cX8_delays 9 = some (.iconst 0) := by decide +kernel
theorem dX8_delays_10 : fet cX8_delays 10 = some (.istore_n 2) := by decide +kernel
theorem dX8_delays_11 : fet cX8_delays 11 = some (.ldc 170) := by decide +kernel
theorem dX8_delays_13 : fet cX8_delays 13 = some (.istore_n 3) := by decide +kernel
theorem dX8_delays_14 : fet cX8_delays 14 = some (.iconst 1) := by decide +kernel
theorem dX8_delays_15 : fet cX8_delays 15 = some (.istore 4) := by decide +kernel
theorem dX8_delays_17 : fet cX8_delays 17 = some (.iload 4) := by decide +kernel
theorem dX8_delays_19 : fet cX8_delays 19 = some (.bipush 10) := by decide +kernel
theorem dX8_delays_21 : fet cX8_delays 21 = some (.if_icmp .ge 56) := by decide +kernel
theorem dX8_delays_24 : fet cX8_delays 24 = some (.aload_n 0) := by decide +kernel
theorem dX8_delays_25 : fet cX8_delays 25 = some (.invokevirtual 227) := by decide +kernel
theorem dX8_delays_28 : fet cX8_delays 28 = some (.aload_n 0) := by decide +kernel
theorem dX8_delays_29 : fet cX8_delays 29 = some (.iload 4) := by decide +kernel
theorem dX8_delays_31 : fet cX8_delays 31 = some (.putfield 122) := by decide +kernel
theorem dX8_delays_34 : fet cX8_delays 34 = some (.aload_n 0) := by decide +kernel
theorem dX8_delays_35 : fet cX8_delays 35 = some (.iload_n 1) := by decide +kernel
theorem dX8_delays_36 : fet cX8_delays 36 = some (.invokevirtual 245) := by decide +kernel
theorem dX8_delays_39 : fet cX8_delays 39 = some (.aload_n 0) := by decide +kernel
theorem dX8_delays_40 : fet cX8_delays 40 = some (.getfield 146) := by decide +kernel
theorem dX8_delays_43 : fet cX8_delays 43 = some (.iload_n 3) := by decide +kernel
theorem dX8_delays_44 : fet cX8_delays 44 = some (.if_icmp .ge 8) := by decide +kernel
theorem dX8_delays_47 : fet cX8_delays 47 = some (.iload 4) := by decide +kernel
theorem dX8_delays_49 : fet cX8_delays 49 = some (.goto 4) := by decide +kernel
theorem dX8_delays_52 : fet cX8_delays 52 = some (.iload_n 2) := by decide +kernel
theorem dX8_delays_53 : fet cX8_delays 53 = some (.istore_n 2) := by decide +kernel
theorem dX8_delays_54 : fet cX8_delays 54 = some (.aload_n 0) := by decide +kernel
theorem dX8_delays_55 : fet cX8_delays 55 = some (.getfield 146) := by decide +kernel
theorem dX8_delays_58 : fet cX8_delays 58 = some (.iload_n 3) := by decide +kernel
theorem dX8_delays_59 : fet cX8_delays 59 = some (.if_icmp .ge 10) := by decide +kernel
theorem dX8_delays_62 : fet cX8_delays 62 = some (.aload_n 0) := by decide +kernel
theorem dX8_delays_63 : fet cX8_delays 63 = some (.getfield 146) := by decide +kernel
theorem dX8_delays_66 : fet cX8_delays 66 = some (.goto 4) := by decide +kernel
theorem dX8_delays_69 : fet cX8_delays 69 = some (.iload_n 3) := by decide +kernel
theorem dX8_delays_70 : fet cX8_delays 70 = some (.istore_n 3) := by decide +kernel
theorem dX8_delays_71 : fet cX8_delays 71 = some (.iinc 4 1) := by decide +kernel
theorem dX8_delays_74 : fet cX8_delays 74 = some (.goto (-57)) := by decide +kernel
theorem dX8_delays_77 : fet cX8_delays 77 = some (.iload_n 2) := by decide +kernel
theorem dX8_delays_78 : fet cX8_delays 78 = some (.ireturn) := by decide +kernel
theorem dX8_watch_0 : fet cX8_watch 0 = some (.iload_n 1) := by decide +kernel
theorem dX8_watch_1 : fet cX8_watch 1 = some (.invokestatic 251) := by decide +kernel
theorem dX8_watch_4 : fet cX8_watch 4 = some (.ifCond .ne 5) := by decide +kernel
theorem dX8_watch_7 : fet cX8_watch 7 = some (.iconst (-1)) := by decide +kernel
theorem dX8_watch_8 : fet cX8_watch 8 = some (.ireturn) := by decide +kernel
theorem dX8_watch_9 : fet cX8_watch 9 = some (.iconst 0) := by decide +kernel
theorem dX8_watch_10 : fet cX8_watch 10 = some (.istore_n 2) := by decide +kernel
theorem dX8_watch_11 : fet cX8_watch 11 = some (.ldc 170) := by decide +kernel
theorem dX8_watch_13 : fet cX8_watch 13 = some (.istore_n 3) := by decide +kernel
theorem dX8_watch_14 : fet cX8_watch 14 = some (.iconst 0) := by decide +kernel
theorem dX8_watch_15 : fet cX8_watch 15 = some (.istore 4) := by decide +kernel
theorem dX8_watch_17 : fet cX8_watch 17 = some (.iload 4) := by decide +kernel
theorem dX8_watch_19 : fet cX8_watch 19 = some (.aload_n 0) := by decide +kernel
theorem dX8_watch_20 : fet cX8_watch 20 = some (.getfield 7) := by decide +kernel
theorem dX8_watch_23 : fet cX8_watch 23 = some (.iconst 1) := by decide +kernel
theorem dX8_watch_24 : fet cX8_watch 24 = some (.iaload) := by decide +kernel
theorem dX8_watch_25 : fet cX8_watch 25 = some (.if_icmp .ge 85) := by decide +kernel
theorem dX8_watch_28 : fet cX8_watch 28 = some (.aload_n 0) := by decide +kernel
theorem dX8_watch_29 : fet cX8_watch 29 = some (.getfield 19) := by decide +kernel
theorem dX8_watch_32 : fet cX8_watch 32 = some (.bipush 10) := by decide +kernel
theorem dX8_watch_34 : fet cX8_watch 34 = some (.iload 4) := by decide +kernel
theorem dX8_watch_36 : fet cX8_watch 36 = some (.iadd) := by decide +kernel
theorem dX8_watch_37 : fet cX8_watch 37 = some (.iaload) := by decide +kernel
theorem dX8_watch_38 : fet cX8_watch 38 = some (.istore 5) := by decide +kernel
theorem dX8_watch_40 : fet cX8_watch 40 = some (.aload_n 0) := by decide +kernel
theorem dX8_watch_41 : fet cX8_watch 41 = some (.getfield 19) := by decide +kernel
theorem dX8_watch_44 : fet cX8_watch 44 = some (.bipush 10) := by decide +kernel
theorem dX8_watch_46 : fet cX8_watch 46 = some (.iload 4) := by decide +kernel
theorem dX8_watch_48 : fet cX8_watch 48 = some (.iadd) := by decide +kernel
theorem dX8_watch_49 : fet cX8_watch 49 = some (.iconst 1) := by decide +kernel
theorem dX8_watch_50 : fet cX8_watch 50 = some (.iastore) := by decide +kernel
theorem dX8_watch_51 : fet cX8_watch 51 = some (.aload_n 0) := by decide +kernel
theorem dX8_watch_52 : fet cX8_watch 52 = some (.invokevirtual 227) := by decide +kernel
theorem dX8_watch_55 : fet cX8_watch 55 = some (.aload_n 0) := by decide +kernel
theorem dX8_watch_56 : fet cX8_watch 56 = some (.iload_n 1) := by decide +kernel
theorem dX8_watch_57 : fet cX8_watch 57 = some (.invokevirtual 245) := by decide +kernel
theorem dX8_watch_60 : fet cX8_watch 60 = some (.aload_n 0) := by decide +kernel
theorem dX8_watch_61 : fet cX8_watch 61 = some (.getfield 19) := by decide +kernel
theorem dX8_watch_64 : fet cX8_watch 64 = some (.bipush 10) := by decide +kernel
theorem dX8_watch_66 : fet cX8_watch 66 = some (.iload 4) := by decide +kernel
theorem dX8_watch_68 : fet cX8_watch 68 = some (.iadd) := by decide +kernel
theorem dX8_watch_69 : fet cX8_watch 69 = some (.iload 5) := by decide +kernel
theorem dX8_watch_71 : fet cX8_watch 71 = some (.iastore) := by decide +kernel
theorem dX8_watch_72 : fet cX8_watch 72 = some (.aload_n 0) := by decide +kernel
theorem dX8_watch_73 : fet cX8_watch 73 = some (.getfield 149) := by decide +kernel
theorem dX8_watch_76 : fet cX8_watch 76 = some (.iload_n 3) := by decide +kernel
theorem dX8_watch_77 : fet cX8_watch 77 = some (.if_icmp .ge 8) := by decide +kernel
theorem dX8_watch_80 : fet cX8_watch 80 = some (.iload 4) := by decide +kernel
theorem dX8_watch_82 : fet cX8_watch 82 = some (.goto 4) := by decide +kernel
theorem dX8_watch_85 : fet cX8_watch 85 = some (.iload_n 2) := by decide +kernel
theorem dX8_watch_86 : fet cX8_watch 86 = some (.istore_n 2) := by decide +kernel
theorem dX8_watch_87 : fet cX8_watch 87 = some (.aload_n 0) := by decide +kernel
theorem dX8_watch_88 : fet cX8_watch 88 = some (.getfield 149) := by decide +kernel
theorem dX8_watch_91 : fet cX8_watch 91 = some (.iload_n 3) := by decide +kernel
theorem dX8_watch_92 : fet cX8_watch 92 = some (.if_icmp .ge 10) := by decide +kernel
theorem dX8_watch_95 : fet cX8_watch 95 = some (.aload_n 0) := by decide +kernel
theorem dX8_watch_96 : fet cX8_watch 96 = some (.getfield 149) := by decide +kernel
theorem dX8_watch_99 : fet cX8_watch 99 = some (.goto 4) := by decide +kernel
theorem dX8_watch_102 : fet cX8_watch 102 = some (.iload_n 3) := by decide +kernel
theorem dX8_watch_103 : fet cX8_watch 103 = some (.istore_n 3) := by decide +kernel
theorem dX8_watch_104 : fet cX8_watch 104 = some (.iinc 4 1) := by decide +kernel
theorem dX8_watch_107 : fet cX8_watch 107 = some (.goto (-90)) := by decide +kernel
theorem dX8_watch_110 : fet cX8_watch 110 = some (.iload_n 2) := by decide +kernel
theorem dX8_watch_111 : fet cX8_watch 111 = some (.ireturn) := by decide +kernel
theorem dX8_sent_0 : fet cX8_sent 0 = some (.aload_n 0) := by decide +kernel
theorem dX8_sent_1 : fet cX8_sent 1 = some (.iload_n 1) := by decide +kernel
theorem dX8_sent_2 : fet cX8_sent 2 = some (.invokevirtual 254) := by decide +kernel
theorem dX8_sent_5 : fet cX8_sent 5 = some (.ifCond .eq 31) := by decide +kernel
theorem dX8_sent_8 : fet cX8_sent 8 = some (.aload_n 0) := by decide +kernel
theorem dX8_sent_9 : fet cX8_sent 9 = some (.iload_n 2) := by decide +kernel
theorem dX8_sent_10 : fet cX8_sent 10 = some (.invokevirtual 254) := by decide +kernel
theorem dX8_sent_13 : fet cX8_sent 13 = some (.ifCond .eq 23) := by decide +kernel
theorem dX8_sent_16 : fet cX8_sent 16 = some (.iload_n 3) := by decide +kernel
theorem dX8_sent_17 : fet cX8_sent 17 = some (.i2l) := by decide +kernel
theorem dX8_sent_18 : fet cX8_sent 18 = some (.lconst 1) := by decide +kernel
theorem dX8_sent_19 : fet cX8_sent 19 = some (.ldc2_w 257) := by decide +kernel
theorem dX8_sent_22 : fet cX8_sent 22 = some (.invokestatic 60) := by decide +kernel
theorem dX8_sent_25 : fet cX8_sent 25 = some (.ifCond .eq 11) := by decide +kernel
theorem dX8_sent_28 : fet cX8_sent 28 = some (.iload 4) := by decide +kernel
theorem dX8_sent_30 : fet cX8_sent 30 = some (.invokestatic 259) := by decide +kernel
theorem dX8_sent_33 : fet cX8_sent 33 = some (.ifCond .ne 5) := by decide +kernel
theorem dX8_sent_36 : fet cX8_sent 36 = some (.iconst (-1)) := by decide +kernel
theorem dX8_sent_37 : fet cX8_sent 37 = some (.ireturn) := by decide +kernel
theorem dX8_sent_38 : fet cX8_sent 38 = some (.iload_n 1) := by decide +kernel
theorem dX8_sent_39 : fet cX8_sent 39 = some (.iload_n 2) := by decide +kernel
theorem dX8_sent_40 : fet cX8_sent 40 = some (.if_icmp .ne 5) := by decide +kernel
theorem dX8_sent_43 : fet cX8_sent 43 = some (.iconst 0) := by decide +kernel
theorem dX8_sent_44 : fet cX8_sent 44 = some (.ireturn) := by decide +kernel
theorem dX8_sent_45 : fet cX8_sent 45 = some (.aload_n 0) := by decide +kernel
theorem dX8_sent_46 : fet cX8_sent 46 = some (.invokevirtual 227) := by decide +kernel
theorem dX8_sent_49 : fet cX8_sent 49 = some (.aload_n 0) := by decide +kernel
theorem dX8_sent_50 : fet cX8_sent 50 = some (.aload_n 0) := by decide +kernel
theorem dX8_sent_51 : fet cX8_sent 51 = some (.getfield 122) := by decide +kernel
theorem dX8_sent_54 : fet cX8_sent 54 = some (.invokevirtual 245) := by decide +kernel
theorem dX8_sent_57 : fet cX8_sent 57 = some (.iconst 0) := by decide +kernel
theorem dX8_sent_58 : fet cX8_sent 58 = some (.istore 5) := by decide +kernel
theorem dX8_sent_60 : fet cX8_sent 60 = some (.iload 5) := by decide +kernel
theorem dX8_sent_62 : fet cX8_sent 62 = some (.bipush 8) := by decide +kernel
theorem dX8_sent_64 : fet cX8_sent 64 = some (.if_icmp .ge 28) := by decide +kernel
theorem dX8_sent_67 : fet cX8_sent 67 = some (.aload_n 0) := by decide +kernel
theorem dX8_sent_68 : fet cX8_sent 68 = some (.getfield 40) := by decide +kernel
theorem dX8_sent_71 : fet cX8_sent 71 = some (.iload 5) := by decide +kernel
theorem dX8_sent_73 : fet cX8_sent 73 = some (.iload 5) := by decide +kernel
theorem dX8_sent_75 : fet cX8_sent 75 = some (.iload_n 1) := by decide +kernel
theorem dX8_sent_76 : fet cX8_sent 76 = some (.if_icmp .ne 7) := by decide +kernel
theorem dX8_sent_79 : fet cX8_sent 79 = some (.iconst 0) := by decide +kernel
theorem dX8_sent_80 : fet cX8_sent 80 = some (.goto 5) := by decide +kernel
theorem dX8_sent_83 : fet cX8_sent 83 = some (.ldc 170) := by decide +kernel
theorem dX8_sent_85 : fet cX8_sent 85 = some (.iastore) := by decide +kernel
theorem dX8_sent_86 : fet cX8_sent 86 = some (.iinc 5 1) := by decide +kernel
theorem dX8_sent_89 : fet cX8_sent 89 = some (.goto (-29)) := by decide +kernel
theorem dX8_sent_92 : fet cX8_sent 92 = some (.ldc 170) := by decide +kernel
theorem dX8_sent_94 : fet cX8_sent 94 = some (.istore 5) := by decide +kernel
theorem dX8_sent_96 : fet cX8_sent 96 = some (.iconst 0) := by decide +kernel
theorem dX8_sent_97 : fet cX8_sent 97 = some (.istore 6) := by decide +kernel
theorem dX8_sent_99 : fet cX8_sent 99 = some (.iconst 0) := by decide +kernel
theorem dX8_sent_100 : fet cX8_sent 100 = some (.istore 7) := by decide +kernel
theorem dX8_sent_102 : fet cX8_sent 102 = some (.iload 7) := by decide +kernel
theorem dX8_sent_104 : fet cX8_sent 104 = some (.bipush 8) := by decide +kernel
theorem dX8_sent_106 : fet cX8_sent 106 = some (.if_icmp .ge 290) := by decide +kernel
theorem dX8_sent_109 : fet cX8_sent 109 = some (.iconst 0) := by decide +kernel
theorem dX8_sent_110 : fet cX8_sent 110 = some (.istore 8) := by decide +kernel
theorem dX8_sent_112 : fet cX8_sent 112 = some (.iload 8) := by decide +kernel
theorem dX8_sent_114 : fet cX8_sent 114 = some (.bipush 8) := by decide +kernel
theorem dX8_sent_116 : fet cX8_sent 116 = some (.if_icmp .ge 18) := by decide +kernel
theorem dX8_sent_119 : fet cX8_sent 119 = some (.aload_n 0) := by decide +kernel
theorem dX8_sent_120 : fet cX8_sent 120 = some (.getfield 43) := by decide +kernel
theorem dX8_sent_123 : fet cX8_sent 123 = some (.iload 8) := by decide +kernel
theorem dX8_sent_125 : fet cX8_sent 125 = some (.ldc 170) := by decide +kernel
theorem dX8_sent_127 : fet cX8_sent 127 = some (.iastore) := by decide +kernel
theorem dX8_sent_128 : fet cX8_sent 128 = some (.iinc 8 1) := by decide +kernel
theorem dX8_sent_131 : fet cX8_sent 131 = some (.goto (-19)) := by decide +kernel
theorem dX8_sent_134 : fet cX8_sent 134 = some (.iconst 0) := by decide +kernel
theorem dX8_sent_135 : fet cX8_sent 135 = some (.istore 8) := by decide +kernel
theorem dX8_sent_137 : fet cX8_sent 137 = some (.iload 8) := by decide +kernel
theorem dX8_sent_139 : fet cX8_sent 139 = some (.aload_n 0) := by decide +kernel
theorem dX8_sent_140 : fet cX8_sent 140 = some (.getfield 7) := by decide +kernel
theorem dX8_sent_143 : fet cX8_sent 143 = some (.iconst 1) := by decide +kernel
theorem dX8_sent_144 : fet cX8_sent 144 = some (.iaload) := by decide +kernel
theorem dX8_sent_145 : fet cX8_sent 145 = some (.if_icmp .ge 154) := by decide +kernel
theorem dX8_sent_148 : fet cX8_sent 148 = some (.aload_n 0) := by decide +kernel
theorem dX8_sent_149 : fet cX8_sent 149 = some (.aload_n 0) := by decide +kernel
theorem dX8_sent_150 : fet cX8_sent 150 = some (.getfield 37) := by decide +kernel
theorem dX8_sent_153 : fet cX8_sent 153 = some (.iload 8) := by decide +kernel
theorem dX8_sent_155 : fet cX8_sent 155 = some (.invokevirtual 196) := by decide +kernel
theorem dX8_sent_158 : fet cX8_sent 158 = some (.istore 9) := by decide +kernel
theorem dX8_sent_160 : fet cX8_sent 160 = some (.iload 9) := by decide +kernel
theorem dX8_sent_162 : fet cX8_sent 162 = some (.iload_n 3) := by decide +kernel
theorem dX8_sent_163 : fet cX8_sent 163 = some (.if_icmp .ge 10) := by decide +kernel
theorem dX8_sent_166 : fet cX8_sent 166 = some (.iload_n 3) := by decide +kernel
theorem dX8_sent_167 : fet cX8_sent 167 = some (.iload 9) := by decide +kernel
theorem dX8_sent_169 : fet cX8_sent 169 = some (.isub) := by decide +kernel
theorem dX8_sent_170 : fet cX8_sent 170 = some (.goto 4) := by decide +kernel
theorem dX8_sent_173 : fet cX8_sent 173 = some (.iconst 0) := by decide +kernel
theorem dX8_sent_174 : fet cX8_sent 174 = some (.istore 10) := by decide +kernel
theorem dX8_sent_176 : fet cX8_sent 176 = some (.aload_n 0) := by decide +kernel
theorem dX8_sent_177 : fet cX8_sent 177 = some (.getfield 7) := by decide +kernel
theorem dX8_sent_180 : fet cX8_sent 180 = some (.iconst 4) := by decide +kernel
theorem dX8_sent_181 : fet cX8_sent 181 = some (.iload 8) := by decide +kernel
theorem dX8_sent_183 : fet cX8_sent 183 = some (.iadd) := by decide +kernel
theorem dX8_sent_184 : fet cX8_sent 184 = some (.iaload) := by decide +kernel
theorem dX8_sent_185 : fet cX8_sent 185 = some (.istore 11) := by decide +kernel
theorem dX8_sent_187 : fet cX8_sent 187 = some (.aload_n 0) := by decide +kernel
theorem dX8_sent_188 : fet cX8_sent 188 = some (.getfield 7) := by decide +kernel
theorem dX8_sent_191 : fet cX8_sent 191 = some (.bipush 13) := by decide +kernel
theorem dX8_sent_193 : fet cX8_sent 193 = some (.iload 8) := by decide +kernel
theorem dX8_sent_195 : fet cX8_sent 195 = some (.iadd) := by decide +kernel
theorem dX8_sent_196 : fet cX8_sent 196 = some (.iaload) := by decide +kernel
theorem dX8_sent_197 : fet cX8_sent 197 = some (.istore 12) := by decide +kernel
theorem dX8_sent_199 : fet cX8_sent 199 = some (.aload_n 0) := by decide +kernel
theorem dX8_sent_200 : fet cX8_sent 200 = some (.getfield 43) := by decide +kernel
theorem dX8_sent_203 : fet cX8_sent 203 = some (.iload 12) := by decide +kernel
theorem dX8_sent_205 : fet cX8_sent 205 = some (.aload_n 0) := by decide +kernel
theorem dX8_sent_206 : fet cX8_sent 206 = some (.getfield 40) := by decide +kernel
theorem dX8_sent_209 : fet cX8_sent 209 = some (.iload 11) := by decide +kernel
theorem dX8_sent_211 : fet cX8_sent 211 = some (.iaload) := by decide +kernel
theorem dX8_sent_212 : fet cX8_sent 212 = some (.iload 10) := by decide +kernel
theorem dX8_sent_214 : fet cX8_sent 214 = some (.iadd) := by decide +kernel
theorem dX8_sent_215 : fet cX8_sent 215 = some (.aload_n 0) := by decide +kernel
theorem dX8_sent_216 : fet cX8_sent 216 = some (.getfield 43) := by decide +kernel
theorem dX8_sent_219 : fet cX8_sent 219 = some (.iload 12) := by decide +kernel
theorem dX8_sent_221 : fet cX8_sent 221 = some (.iaload) := by decide +kernel
theorem dX8_sent_222 : fet cX8_sent 222 = some (.if_icmp .ge 16) := by decide +kernel
theorem dX8_sent_225 : fet cX8_sent 225 = some (.aload_n 0) := by decide +kernel
theorem dX8_sent_226 : fet cX8_sent 226 = some (.getfield 40) := by decide +kernel
theorem dX8_sent_229 : fet cX8_sent 229 = some (.iload 11) := by decide +kernel
theorem dX8_sent_231 : fet cX8_sent 231 = some (.iaload) := by decide +kernel
theorem dX8_sent_232 : fet cX8_sent 232 = some (.iload 10) := by decide +kernel
theorem dX8_sent_234 : fet cX8_sent 234 = some (.iadd) := by decide +kernel
theorem dX8_sent_235 : fet cX8_sent 235 = some (.goto 10) := by decide +kernel
theorem dX8_sent_238 : fet cX8_sent 238 = some (.aload_n 0) := by decide +kernel
theorem dX8_sent_239 : fet cX8_sent 239 = some (.getfield 43) := by decide +kernel
theorem dX8_sent_242 : fet cX8_sent 242 = some (.iload 12) := by decide +kernel
theorem dX8_sent_244 : fet cX8_sent 244 = some (.iaload) := by decide +kernel
theorem dX8_sent_245 : fet cX8_sent 245 = some (.iastore) := by decide +kernel
theorem dX8_sent_246 : fet cX8_sent 246 = some (.aload_n 0) := by decide +kernel
theorem dX8_sent_247 : fet cX8_sent 247 = some (.getfield 43) := by decide +kernel
theorem dX8_sent_250 : fet cX8_sent 250 = some (.iload 11) := by decide +kernel
theorem dX8_sent_252 : fet cX8_sent 252 = some (.aload_n 0) := by decide +kernel
theorem dX8_sent_253 : fet cX8_sent 253 = some (.getfield 40) := by decide +kernel
theorem dX8_sent_256 : fet cX8_sent 256 = some (.iload 12) := by decide +kernel
theorem dX8_sent_258 : fet cX8_sent 258 = some (.iaload) := by decide +kernel
theorem dX8_sent_259 : fet cX8_sent 259 = some (.iload 10) := by decide +kernel
theorem dX8_sent_261 : fet cX8_sent 261 = some (.iadd) := by decide +kernel
theorem dX8_sent_262 : fet cX8_sent 262 = some (.aload_n 0) := by decide +kernel
theorem dX8_sent_263 : fet cX8_sent 263 = some (.getfield 43) := by decide +kernel
theorem dX8_sent_266 : fet cX8_sent 266 = some (.iload 11) := by decide +kernel
theorem dX8_sent_268 : fet cX8_sent 268 = some (.iaload) := by decide +kernel
theorem dX8_sent_269 : fet cX8_sent 269 = some (.if_icmp .ge 16) := by decide +kernel
theorem dX8_sent_272 : fet cX8_sent 272 = some (.aload_n 0) := by decide +kernel
theorem dX8_sent_273 : fet cX8_sent 273 = some (.getfield 40) := by decide +kernel
theorem dX8_sent_276 : fet cX8_sent 276 = some (.iload 12) := by decide +kernel
theorem dX8_sent_278 : fet cX8_sent 278 = some (.iaload) := by decide +kernel
theorem dX8_sent_279 : fet cX8_sent 279 = some (.iload 10) := by decide +kernel
theorem dX8_sent_281 : fet cX8_sent 281 = some (.iadd) := by decide +kernel
theorem dX8_sent_282 : fet cX8_sent 282 = some (.goto 10) := by decide +kernel
theorem dX8_sent_285 : fet cX8_sent 285 = some (.aload_n 0) := by decide +kernel
theorem dX8_sent_286 : fet cX8_sent 286 = some (.getfield 43) := by decide +kernel
theorem dX8_sent_289 : fet cX8_sent 289 = some (.iload 11) := by decide +kernel
theorem dX8_sent_291 : fet cX8_sent 291 = some (.iaload) := by decide +kernel
theorem dX8_sent_292 : fet cX8_sent 292 = some (.iastore) := by decide +kernel
theorem dX8_sent_293 : fet cX8_sent 293 = some (.iinc 8 1) := by decide +kernel
theorem dX8_sent_296 : fet cX8_sent 296 = some (.goto (-159)) := by decide +kernel
theorem dX8_sent_299 : fet cX8_sent 299 = some (.iconst 0) := by decide +kernel
theorem dX8_sent_300 : fet cX8_sent 300 = some (.istore 8) := by decide +kernel
theorem dX8_sent_302 : fet cX8_sent 302 = some (.iload 8) := by decide +kernel
theorem dX8_sent_304 : fet cX8_sent 304 = some (.bipush 8) := by decide +kernel
theorem dX8_sent_306 : fet cX8_sent 306 = some (.if_icmp .ge 23) := by decide +kernel
theorem dX8_sent_309 : fet cX8_sent 309 = some (.aload_n 0) := by decide +kernel
theorem dX8_sent_310 : fet cX8_sent 310 = some (.getfield 40) := by decide +kernel
theorem dX8_sent_313 : fet cX8_sent 313 = some (.iload 8) := by decide +kernel
theorem dX8_sent_315 : fet cX8_sent 315 = some (.aload_n 0) := by decide +kernel
theorem dX8_sent_316 : fet cX8_sent 316 = some (.getfield 43) := by decide +kernel
theorem dX8_sent_319 : fet cX8_sent 319 = some (.iload 8) := by decide +kernel
theorem dX8_sent_321 : fet cX8_sent 321 = some (.iaload) := by decide +kernel
theorem dX8_sent_322 : fet cX8_sent 322 = some (.iastore) := by decide +kernel
theorem dX8_sent_323 : fet cX8_sent 323 = some (.iinc 8 1) := by decide +kernel
theorem dX8_sent_326 : fet cX8_sent 326 = some (.goto (-24)) := by decide +kernel
theorem dX8_sent_329 : fet cX8_sent 329 = some (.aload_n 0) := by decide +kernel
theorem dX8_sent_330 : fet cX8_sent 330 = some (.getfield 40) := by decide +kernel
theorem dX8_sent_333 : fet cX8_sent 333 = some (.iload_n 2) := by decide +kernel
theorem dX8_sent_334 : fet cX8_sent 334 = some (.iaload) := by decide +kernel
theorem dX8_sent_335 : fet cX8_sent 335 = some (.iload 5) := by decide +kernel
theorem dX8_sent_337 : fet cX8_sent 337 = some (.if_icmp .ge 10) := by decide +kernel
theorem dX8_sent_340 : fet cX8_sent 340 = some (.iload 7) := by decide +kernel
theorem dX8_sent_342 : fet cX8_sent 342 = some (.iconst 1) := by decide +kernel
theorem dX8_sent_343 : fet cX8_sent 343 = some (.iadd) := by decide +kernel
theorem dX8_sent_344 : fet cX8_sent 344 = some (.goto 5) := by decide +kernel
theorem dX8_sent_347 : fet cX8_sent 347 = some (.iload 6) := by decide +kernel
theorem dX8_sent_349 : fet cX8_sent 349 = some (.istore 6) := by decide +kernel
theorem dX8_sent_351 : fet cX8_sent 351 = some (.aload_n 0) := by decide +kernel
theorem dX8_sent_352 : fet cX8_sent 352 = some (.getfield 40) := by decide +kernel
theorem dX8_sent_355 : fet cX8_sent 355 = some (.iload_n 2) := by decide +kernel
theorem dX8_sent_356 : fet cX8_sent 356 = some (.iaload) := by decide +kernel
theorem dX8_sent_357 : fet cX8_sent 357 = some (.iload 5) := by decide +kernel
theorem dX8_sent_359 : fet cX8_sent 359 = some (.if_icmp .ge 12) := by decide +kernel
theorem dX8_sent_362 : fet cX8_sent 362 = some (.aload_n 0) := by decide +kernel
theorem dX8_sent_363 : fet cX8_sent 363 = some (.getfield 40) := by decide +kernel
theorem dX8_sent_366 : fet cX8_sent 366 = some (.iload_n 2) := by decide +kernel
theorem dX8_sent_367 : fet cX8_sent 367 = some (.iaload) := by decide +kernel
theorem dX8_sent_368 : fet cX8_sent 368 = some (.goto 5) := by decide +kernel
theorem dX8_sent_371 : fet cX8_sent 371 = some (.iload 5) := by decide +kernel
theorem dX8_sent_373 : fet cX8_sent 373 = some (.istore 5) := by decide +kernel
theorem dX8_sent_375 : fet cX8_sent 375 = some (.aload_n 0) := by decide +kernel
theorem dX8_sent_376 : fet cX8_sent 376 = some (.aload_n 0) := by decide +kernel
theorem dX8_sent_377 : fet cX8_sent 377 = some (.getfield 37) := by decide +kernel
theorem dX8_sent_380 : fet cX8_sent 380 = some (.aload_n 0) := by decide +kernel
theorem dX8_sent_381 : fet cX8_sent 381 = some (.getfield 122) := by decide +kernel
theorem dX8_sent_384 : fet cX8_sent 384 = some (.iload 7) := by decide +kernel
theorem dX8_sent_386 : fet cX8_sent 386 = some (.iadd) := by decide +kernel
theorem dX8_sent_387 : fet cX8_sent 387 = some (.invokevirtual 219) := by decide +kernel
theorem dX8_sent_390 : fet cX8_sent 390 = some (.iinc 7 1) := by decide +kernel
theorem dX8_sent_393 : fet cX8_sent 393 = some (.goto (-291)) := by decide +kernel
theorem dX8_sent_396 : fet cX8_sent 396 = some (.iload 5) := by decide +kernel
theorem dX8_sent_398 : fet cX8_sent 398 = some (.ldc 170) := by decide +kernel
theorem dX8_sent_400 : fet cX8_sent 400 = some (.if_icmp .ne 8) := by decide +kernel
theorem dX8_sent_403 : fet cX8_sent 403 = some (.bipush (-4)) := by decide +kernel
theorem dX8_sent_405 : fet cX8_sent 405 = some (.goto 15) := by decide +kernel
theorem dX8_sent_408 : fet cX8_sent 408 = some (.iload 4) := by decide +kernel
theorem dX8_sent_410 : fet cX8_sent 410 = some (.ifCond .ne 8) := by decide +kernel
theorem dX8_sent_413 : fet cX8_sent 413 = some (.iload 5) := by decide +kernel
theorem dX8_sent_415 : fet cX8_sent 415 = some (.goto 5) := by decide +kernel
theorem dX8_sent_418 : fet cX8_sent 418 = some (.iload 6) := by decide +kernel
theorem dX8_sent_420 : fet cX8_sent 420 = some (.ireturn) := by decide +kernel
theorem dX8_rumour_0 : fet cX8_rumour 0 = some (.aload_n 0) := by decide +kernel
theorem dX8_rumour_1 : fet cX8_rumour 1 = some (.iload_n 1) := by decide +kernel
theorem dX8_rumour_2 : fet cX8_rumour 2 = some (.invokevirtual 230) := by decide +kernel
theorem dX8_rumour_5 : fet cX8_rumour 5 = some (.ifCond .eq 26) := by decide +kernel
theorem dX8_rumour_8 : fet cX8_rumour 8 = some (.aload_n 0) := by decide +kernel
theorem dX8_rumour_9 : fet cX8_rumour 9 = some (.iload_n 2) := by decide +kernel
theorem dX8_rumour_10 : fet cX8_rumour 10 = some (.invokevirtual 222) := by decide +kernel
theorem dX8_rumour_13 : fet cX8_rumour 13 = some (.ifCond .eq 18) := by decide +kernel
theorem dX8_rumour_16 : fet cX8_rumour 16 = some (.iload_n 3) := by decide +kernel
theorem dX8_rumour_17 : fet cX8_rumour 17 = some (.invokestatic 242) := by decide +kernel
theorem dX8_rumour_20 : fet cX8_rumour 20 = some (.ifCond .eq 11) := by decide +kernel
theorem dX8_rumour_23 : fet cX8_rumour 23 = some (.iload 4) := by decide +kernel
theorem dX8_rumour_25 : fet cX8_rumour 25 = some (.invokestatic 259) := by decide +kernel
theorem dX8_rumour_28 : fet cX8_rumour 28 = some (.ifCond .ne 5) := by decide +kernel
theorem dX8_rumour_31 : fet cX8_rumour 31 = some (.iconst (-1)) := by decide +kernel
theorem dX8_rumour_32 : fet cX8_rumour 32 = some (.ireturn) := by decide +kernel
theorem dX8_rumour_33 : fet cX8_rumour 33 = some (.aload_n 0) := by decide +kernel
theorem dX8_rumour_34 : fet cX8_rumour 34 = some (.invokevirtual 227) := by decide +kernel
theorem dX8_rumour_37 : fet cX8_rumour 37 = some (.aload_n 0) := by decide +kernel
theorem dX8_rumour_38 : fet cX8_rumour 38 = some (.iload_n 2) := by decide +kernel
theorem dX8_rumour_39 : fet cX8_rumour 39 = some (.putfield 137) := by decide +kernel
theorem dX8_rumour_42 : fet cX8_rumour 42 = some (.aload_n 0) := by decide +kernel
theorem dX8_rumour_43 : fet cX8_rumour 43 = some (.iconst 1) := by decide +kernel
theorem dX8_rumour_44 : fet cX8_rumour 44 = some (.iload_n 1) := by decide +kernel
theorem dX8_rumour_45 : fet cX8_rumour 45 = some (.ishl) := by decide +kernel
theorem dX8_rumour_46 : fet cX8_rumour 46 = some (.putfield 140) := by decide +kernel
theorem dX8_rumour_49 : fet cX8_rumour 49 = some (.aload_n 0) := by decide +kernel
theorem dX8_rumour_50 : fet cX8_rumour 50 = some (.iload_n 3) := by decide +kernel
theorem dX8_rumour_51 : fet cX8_rumour 51 = some (.invokevirtual 245) := by decide +kernel
theorem dX8_rumour_54 : fet cX8_rumour 54 = some (.iload 4) := by decide +kernel
theorem dX8_rumour_56 : fet cX8_rumour 56 = some (.ifCond .ne 10) := by decide +kernel
theorem dX8_rumour_59 : fet cX8_rumour 59 = some (.aload_n 0) := by decide +kernel
theorem dX8_rumour_60 : fet cX8_rumour 60 = some (.getfield 140) := by decide +kernel
theorem dX8_rumour_63 : fet cX8_rumour 63 = some (.goto 12) := by decide +kernel
theorem dX8_rumour_66 : fet cX8_rumour 66 = some (.aload_n 0) := by decide +kernel
theorem dX8_rumour_67 : fet cX8_rumour 67 = some (.aload_n 0) := by decide +kernel
theorem dX8_rumour_68 : fet cX8_rumour 68 = some (.getfield 37) := by decide +kernel
theorem dX8_rumour_71 : fet cX8_rumour 71 = some (.iload_n 2) := by decide +kernel
theorem dX8_rumour_72 : fet cX8_rumour 72 = some (.invokevirtual 196) := by decide +kernel
theorem dX8_rumour_75 : fet cX8_rumour 75 = some (.ireturn) := by decide +kernel
theorem dX8_enter_0 : fet cX8_enter 0 = some (.aload_n 0) := by decide +kernel
theorem dX8_enter_1 : fet cX8_enter 1 = some (.iload_n 1) := by decide +kernel
theorem dX8_enter_2 : fet cX8_enter 2 = some (.invokevirtual 222) := by decide +kernel
theorem dX8_enter_5 : fet cX8_enter 5 = some (.ifCond .eq 27) := by decide +kernel
theorem dX8_enter_8 : fet cX8_enter 8 = some (.iload_n 2) := by decide +kernel
theorem dX8_enter_9 : fet cX8_enter 9 = some (.i2l) := by decide +kernel
theorem dX8_enter_10 : fet cX8_enter 10 = some (.lconst 0) := by decide +kernel
theorem dX8_enter_11 : fet cX8_enter 11 = some (.ldc2_w 240) := by decide +kernel
theorem dX8_enter_14 : fet cX8_enter 14 = some (.invokestatic 60) := by decide +kernel
theorem dX8_enter_17 : fet cX8_enter 17 = some (.ifCond .eq 15) := by decide +kernel
theorem dX8_enter_20 : fet cX8_enter 20 = some (.iload_n 3) := by decide +kernel
theorem dX8_enter_21 : fet cX8_enter 21 = some (.i2l) := by decide +kernel
theorem dX8_enter_22 : fet cX8_enter 22 = some (.lconst 1) := by decide +kernel
theorem dX8_enter_23 : fet cX8_enter 23 = some (.ldc2_w 262) := by decide +kernel
theorem dX8_enter_26 : fet cX8_enter 26 = some (.invokestatic 60) := by decide +kernel
theorem dX8_enter_29 : fet cX8_enter 29 = some (.ifCond .ne 5) := by decide +kernel
theorem dX8_enter_32 : fet cX8_enter 32 = some (.iconst (-1)) := by decide +kernel
theorem dX8_enter_33 : fet cX8_enter 33 = some (.ireturn) := by decide +kernel
theorem dX8_enter_34 : fet cX8_enter 34 = some (.aload_n 0) := by decide +kernel
theorem dX8_enter_35 : fet cX8_enter 35 = some (.getfield 113) := by decide +kernel
theorem dX8_enter_38 : fet cX8_enter 38 = some (.bipush 8) := by decide +kernel
theorem dX8_enter_40 : fet cX8_enter 40 = some (.if_icmp .ne 6) := by decide +kernel
theorem dX8_enter_43 : fet cX8_enter 43 = some (.bipush (-3)) := by decide +kernel
theorem dX8_enter_45 : fet cX8_enter 45 = some (.ireturn) := by decide +kernel
theorem dX8_enter_46 : fet cX8_enter 46 = some (.aload_n 0) := by decide +kernel
theorem dX8_enter_47 : fet cX8_enter 47 = some (.getfield 28) := by decide +kernel
theorem dX8_enter_50 : fet cX8_enter 50 = some (.iconst 4) := by decide +kernel
theorem dX8_enter_51 : fet cX8_enter 51 = some (.aload_n 0) := by decide +kernel
theorem dX8_enter_52 : fet cX8_enter 52 = some (.getfield 113) := by decide +kernel
theorem dX8_enter_55 : fet cX8_enter 55 = some (.imul) := by decide +kernel
theorem dX8_enter_56 : fet cX8_enter 56 = some (.iload_n 1) := by decide +kernel
theorem dX8_enter_57 : fet cX8_enter 57 = some (.iastore) := by decide +kernel
theorem dX8_enter_58 : fet cX8_enter 58 = some (.aload_n 0) := by decide +kernel
theorem dX8_enter_59 : fet cX8_enter 59 = some (.getfield 28) := by decide +kernel
theorem dX8_enter_62 : fet cX8_enter 62 = some (.iconst 4) := by decide +kernel
theorem dX8_enter_63 : fet cX8_enter 63 = some (.aload_n 0) := by decide +kernel
theorem dX8_enter_64 : fet cX8_enter 64 = some (.getfield 113) := by decide +kernel
theorem dX8_enter_67 : fet cX8_enter 67 = some (.imul) := by decide +kernel
theorem dX8_enter_68 : fet cX8_enter 68 = some (.iconst 1) := by decide +kernel
theorem dX8_enter_69 : fet cX8_enter 69 = some (.iadd) := by decide +kernel
theorem dX8_enter_70 : fet cX8_enter 70 = some (.iload_n 2) := by decide +kernel
theorem dX8_enter_71 : fet cX8_enter 71 = some (.iastore) := by decide +kernel
theorem dX8_enter_72 : fet cX8_enter 72 = some (.aload_n 0) := by decide +kernel
theorem dX8_enter_73 : fet cX8_enter 73 = some (.getfield 28) := by decide +kernel
theorem dX8_enter_76 : fet cX8_enter 76 = some (.iconst 4) := by decide +kernel
theorem dX8_enter_77 : fet cX8_enter 77 = some (.aload_n 0) := by decide +kernel
theorem dX8_enter_78 : fet cX8_enter 78 = some (.getfield 113) := by decide +kernel
theorem dX8_enter_81 : fet cX8_enter 81 = some (.imul) := by decide +kernel
theorem dX8_enter_82 : fet cX8_enter 82 = some (.iconst 2) := by decide +kernel
theorem dX8_enter_83 : fet cX8_enter 83 = some (.iadd) := by decide +kernel
theorem dX8_enter_84 : fet cX8_enter 84 = some (.iload_n 3) := by decide +kernel
theorem dX8_enter_85 : fet cX8_enter 85 = some (.iastore) := by decide +kernel
theorem dX8_enter_86 : fet cX8_enter 86 = some (.aload_n 0) := by decide +kernel
theorem dX8_enter_87 : fet cX8_enter 87 = some (.getfield 28) := by decide +kernel
theorem dX8_enter_90 : fet cX8_enter 90 = some (.iconst 4) := by decide +kernel
theorem dX8_enter_91 : fet cX8_enter 91 = some (.aload_n 0) := by decide +kernel
theorem dX8_enter_92 : fet cX8_enter 92 = some (.getfield 113) := by decide +kernel
theorem dX8_enter_95 : fet cX8_enter 95 = some (.imul) := by decide +kernel
theorem dX8_enter_96 : fet cX8_enter 96 = some (.iconst 3) := by decide +kernel
theorem dX8_enter_97 : fet cX8_enter 97 = some (.iadd) := by decide +kernel
theorem dX8_enter_98 : fet cX8_enter 98 = some (.iload 4) := by decide +kernel
theorem dX8_enter_100 : fet cX8_enter 100 = some (.ifCond .eq 7) := by decide +kernel
theorem dX8_enter_103 : fet cX8_enter 103 = some (.iconst 1) := by decide +kernel
theorem dX8_enter_104 : fet cX8_enter 104 = some (.goto 4) := by decide +kernel
theorem dX8_enter_107 : fet cX8_enter 107 = some (.iconst 0) := by decide +kernel
theorem dX8_enter_108 : fet cX8_enter 108 = some (.iastore) := by decide +kernel
theorem dX8_enter_109 : fet cX8_enter 109 = some (.aload_n 0) := by decide +kernel
theorem dX8_enter_110 : fet cX8_enter 110 = some (.dup) := by decide +kernel
theorem dX8_enter_111 : fet cX8_enter 111 = some (.getfield 113) := by decide +kernel
theorem dX8_enter_114 : fet cX8_enter 114 = some (.iconst 1) := by decide +kernel
theorem dX8_enter_115 : fet cX8_enter 115 = some (.iadd) := by decide +kernel
theorem dX8_enter_116 : fet cX8_enter 116 = some (.putfield 113) := by decide +kernel
theorem dX8_enter_119 : fet cX8_enter 119 = some (.aload_n 0) := by decide +kernel
theorem dX8_enter_120 : fet cX8_enter 120 = some (.getfield 113) := by decide +kernel
theorem dX8_enter_123 : fet cX8_enter 123 = some (.ireturn) := by decide +kernel
theorem dX8_close_0 : fet cX8_close 0 = some (.aload_n 0) := by decide +kernel
theorem dX8_close_1 : fet cX8_close 1 = some (.getfield 113) := by decide +kernel
theorem dX8_close_4 : fet cX8_close 4 = some (.istore_n 1) := by decide +kernel
theorem dX8_close_5 : fet cX8_close 5 = some (.aload_n 0) := by decide +kernel
theorem dX8_close_6 : fet cX8_close 6 = some (.iconst 0) := by decide +kernel
theorem dX8_close_7 : fet cX8_close 7 = some (.putfield 113) := by decide +kernel
theorem dX8_close_10 : fet cX8_close 10 = some (.iload_n 1) := by decide +kernel
theorem dX8_close_11 : fet cX8_close 11 = some (.ireturn) := by decide +kernel
theorem dX8_span_0 : fet cX8_span 0 = some (.aload_n 0) := by decide +kernel
theorem dX8_span_1 : fet cX8_span 1 = some (.iload_n 1) := by decide +kernel
theorem dX8_span_2 : fet cX8_span 2 = some (.invokevirtual 222) := by decide +kernel
theorem dX8_span_5 : fet cX8_span 5 = some (.ifCond .eq 22) := by decide +kernel
theorem dX8_span_8 : fet cX8_span 8 = some (.iload_n 2) := by decide +kernel
theorem dX8_span_9 : fet cX8_span 9 = some (.i2l) := by decide +kernel
theorem dX8_span_10 : fet cX8_span 10 = some (.lconst 0) := by decide +kernel
theorem dX8_span_11 : fet cX8_span 11 = some (.ldc2_w 240) := by decide +kernel
theorem dX8_span_14 : fet cX8_span 14 = some (.invokestatic 60) := by decide +kernel
theorem dX8_span_17 : fet cX8_span 17 = some (.ifCond .eq 10) := by decide +kernel
theorem dX8_span_20 : fet cX8_span 20 = some (.iload_n 3) := by decide +kernel
theorem dX8_span_21 : fet cX8_span 21 = some (.invokestatic 259) := by decide +kernel
theorem dX8_span_24 : fet cX8_span 24 = some (.ifCond .ne 5) := by decide +kernel
theorem dX8_span_27 : fet cX8_span 27 = some (.iconst (-1)) := by decide +kernel
theorem dX8_span_28 : fet cX8_span 28 = some (.ireturn) := by decide +kernel
theorem dX8_span_29 : fet cX8_span 29 = some (.iconst 0) := by decide +kernel
theorem dX8_span_30 : fet cX8_span 30 = some (.istore 4) := by decide +kernel
theorem dX8_span_32 : fet cX8_span 32 = some (.bipush 99) := by decide +kernel
theorem dX8_span_34 : fet cX8_span 34 = some (.istore 5) := by decide +kernel
theorem dX8_span_36 : fet cX8_span 36 = some (.iconst 0) := by decide +kernel
theorem dX8_span_37 : fet cX8_span 37 = some (.istore 6) := by decide +kernel
theorem dX8_span_39 : fet cX8_span 39 = some (.iload 6) := by decide +kernel
theorem dX8_span_41 : fet cX8_span 41 = some (.aload_n 0) := by decide +kernel
theorem dX8_span_42 : fet cX8_span 42 = some (.getfield 113) := by decide +kernel
theorem dX8_span_45 : fet cX8_span 45 = some (.if_icmp .ge 104) := by decide +kernel
theorem dX8_span_48 : fet cX8_span 48 = some (.aload_n 0) := by decide +kernel
theorem dX8_span_49 : fet cX8_span 49 = some (.getfield 28) := by decide +kernel
theorem dX8_span_52 : fet cX8_span 52 = some (.iconst 4) := by decide +kernel
theorem dX8_span_53 : fet cX8_span 53 = some (.iload 6) := by decide +kernel
theorem dX8_span_55 : fet cX8_span 55 = some (.imul) := by decide +kernel
theorem dX8_span_56 : fet cX8_span 56 = some (.iaload) := by decide +kernel
theorem dX8_span_57 : fet cX8_span 57 = some (.iload_n 1) := by decide +kernel
theorem dX8_span_58 : fet cX8_span 58 = some (.if_icmp .ne 85) := by decide +kernel
theorem dX8_span_61 : fet cX8_span 61 = some (.aload_n 0) := by decide +kernel
theorem dX8_span_62 : fet cX8_span 62 = some (.getfield 28) := by decide +kernel
theorem dX8_span_65 : fet cX8_span 65 = some (.iconst 4) := by decide +kernel
theorem dX8_span_66 : fet cX8_span 66 = some (.iload 6) := by decide +kernel
theorem dX8_span_68 : fet cX8_span 68 = some (.imul) := by decide +kernel
theorem dX8_span_69 : fet cX8_span 69 = some (.iconst 1) := by decide +kernel
theorem dX8_span_70 : fet cX8_span 70 = some (.iadd) := by decide +kernel
theorem dX8_span_71 : fet cX8_span 71 = some (.iaload) := by decide +kernel
theorem dX8_span_72 : fet cX8_span 72 = some (.iload_n 2) := by decide +kernel
theorem dX8_span_73 : fet cX8_span 73 = some (.if_icmp .ne 70) := by decide +kernel
theorem dX8_span_76 : fet cX8_span 76 = some (.aload_n 0) := by decide +kernel
theorem dX8_span_77 : fet cX8_span 77 = some (.getfield 28) := by decide +kernel
theorem dX8_span_80 : fet cX8_span 80 = some (.iconst 4) := by decide +kernel
theorem dX8_span_81 : fet cX8_span 81 = some (.iload 6) := by decide +kernel
theorem dX8_span_83 : fet cX8_span 83 = some (.imul) := by decide +kernel
theorem dX8_span_84 : fet cX8_span 84 = some (.iconst 2) := by decide +kernel
theorem dX8_span_85 : fet cX8_span 85 = some (.iadd) := by decide +kernel
theorem dX8_span_86 : fet cX8_span 86 = some (.iaload) := by decide +kernel
theorem dX8_span_87 : fet cX8_span 87 = some (.istore 7) := by decide +kernel
theorem dX8_span_89 : fet cX8_span 89 = some (.aload_n 0) := by decide +kernel
theorem dX8_span_90 : fet cX8_span 90 = some (.getfield 28) := by decide +kernel
theorem dX8_span_93 : fet cX8_span 93 = some (.iconst 4) := by decide +kernel
theorem dX8_span_94 : fet cX8_span 94 = some (.iload 6) := by decide +kernel
theorem dX8_span_96 : fet cX8_span 96 = some (.imul) := by decide +kernel
theorem dX8_span_97 : fet cX8_span 97 = some (.iconst 3) := by decide +kernel
theorem dX8_span_98 : fet cX8_span 98 = some (.iadd) := by decide +kernel
theorem dX8_span_99 : fet cX8_span 99 = some (.iaload) := by decide +kernel
theorem dX8_span_100 : fet cX8_span 100 = some (.iconst 1) := by decide +kernel
theorem dX8_span_101 : fet cX8_span 101 = some (.if_icmp .ne 22) := by decide +kernel
theorem dX8_span_104 : fet cX8_span 104 = some (.iload 7) := by decide +kernel
theorem dX8_span_106 : fet cX8_span 106 = some (.iload 4) := by decide +kernel
theorem dX8_span_108 : fet cX8_span 108 = some (.if_icmp .le 8) := by decide +kernel
theorem dX8_span_111 : fet cX8_span 111 = some (.iload 7) := by decide +kernel
theorem dX8_span_113 : fet cX8_span 113 = some (.goto 5) := by decide +kernel
theorem dX8_span_116 : fet cX8_span 116 = some (.iload 4) := by decide +kernel
theorem dX8_span_118 : fet cX8_span 118 = some (.istore 4) := by decide +kernel
theorem dX8_span_120 : fet cX8_span 120 = some (.goto 23) := by decide +kernel
theorem dX8_span_123 : fet cX8_span 123 = some (.iload 7) := by decide +kernel
theorem dX8_span_125 : fet cX8_span 125 = some (.iconst 1) := by decide +kernel
theorem dX8_span_126 : fet cX8_span 126 = some (.isub) := by decide +kernel
theorem dX8_span_127 : fet cX8_span 127 = some (.iload 5) := by decide +kernel
theorem dX8_span_129 : fet cX8_span 129 = some (.if_icmp .ge 10) := by decide +kernel
theorem dX8_span_132 : fet cX8_span 132 = some (.iload 7) := by decide +kernel
theorem dX8_span_134 : fet cX8_span 134 = some (.iconst 1) := by decide +kernel
theorem dX8_span_135 : fet cX8_span 135 = some (.isub) := by decide +kernel
theorem dX8_span_136 : fet cX8_span 136 = some (.goto 5) := by decide +kernel
theorem dX8_span_139 : fet cX8_span 139 = some (.iload 5) := by decide +kernel
theorem dX8_span_141 : fet cX8_span 141 = some (.istore 5) := by decide +kernel
theorem dX8_span_143 : fet cX8_span 143 = some (.iinc 6 1) := by decide +kernel
theorem dX8_span_146 : fet cX8_span 146 = some (.goto (-107)) := by decide +kernel
theorem dX8_span_149 : fet cX8_span 149 = some (.iload 4) := by decide +kernel
theorem dX8_span_151 : fet cX8_span 151 = some (.iload 5) := by decide +kernel
theorem dX8_span_153 : fet cX8_span 153 = some (.if_icmp .le 8) := by decide +kernel
theorem dX8_span_156 : fet cX8_span 156 = some (.bipush (-4)) := by decide +kernel
theorem dX8_span_158 : fet cX8_span 158 = some (.goto 14) := by decide +kernel
theorem dX8_span_161 : fet cX8_span 161 = some (.iload_n 3) := by decide +kernel
theorem dX8_span_162 : fet cX8_span 162 = some (.ifCond .ne 8) := by decide +kernel
theorem dX8_span_165 : fet cX8_span 165 = some (.iload 4) := by decide +kernel
theorem dX8_span_167 : fet cX8_span 167 = some (.goto 5) := by decide +kernel
theorem dX8_span_170 : fet cX8_span 170 = some (.iload 5) := by decide +kernel
theorem dX8_span_172 : fet cX8_span 172 = some (.ireturn) := by decide +kernel
theorem dX8_cart_0 : fet cX8_cart 0 = some (.aload_n 0) := by decide +kernel
theorem dX8_cart_1 : fet cX8_cart 1 = some (.iload_n 1) := by decide +kernel
theorem dX8_cart_2 : fet cX8_cart 2 = some (.invokevirtual 222) := by decide +kernel
theorem dX8_cart_5 : fet cX8_cart 5 = some (.ifCond .eq 23) := by decide +kernel
theorem dX8_cart_8 : fet cX8_cart 8 = some (.aload_n 0) := by decide +kernel
theorem dX8_cart_9 : fet cX8_cart 9 = some (.iload_n 2) := by decide +kernel
theorem dX8_cart_10 : fet cX8_cart 10 = some (.invokevirtual 222) := by decide +kernel
theorem dX8_cart_13 : fet cX8_cart 13 = some (.ifCond .eq 15) := by decide +kernel
theorem dX8_cart_16 : fet cX8_cart 16 = some (.iload_n 1) := by decide +kernel
theorem dX8_cart_17 : fet cX8_cart 17 = some (.iload_n 2) := by decide +kernel
theorem dX8_cart_18 : fet cX8_cart 18 = some (.if_icmp .eq 10) := by decide +kernel
theorem dX8_cart_21 : fet cX8_cart 21 = some (.iload_n 3) := by decide +kernel
theorem dX8_cart_22 : fet cX8_cart 22 = some (.invokestatic 259) := by decide +kernel
theorem dX8_cart_25 : fet cX8_cart 25 = some (.ifCond .ne 5) := by decide +kernel
theorem dX8_cart_28 : fet cX8_cart 28 = some (.iconst (-1)) := by decide +kernel
theorem dX8_cart_29 : fet cX8_cart 29 = some (.ireturn) := by decide +kernel
theorem dX8_cart_30 : fet cX8_cart 30 = some (.aload_n 0) := by decide +kernel
theorem dX8_cart_31 : fet cX8_cart 31 = some (.invokevirtual 227) := by decide +kernel
theorem dX8_cart_34 : fet cX8_cart 34 = some (.iconst 0) := by decide +kernel
theorem dX8_cart_35 : fet cX8_cart 35 = some (.istore 4) := by decide +kernel
theorem dX8_cart_37 : fet cX8_cart 37 = some (.bipush (-4)) := by decide +kernel
theorem dX8_cart_39 : fet cX8_cart 39 = some (.istore 5) := by decide +kernel
theorem dX8_cart_41 : fet cX8_cart 41 = some (.bipush 40) := by decide +kernel
theorem dX8_cart_43 : fet cX8_cart 43 = some (.istore 6) := by decide +kernel
theorem dX8_cart_45 : fet cX8_cart 45 = some (.iload 6) := by decide +kernel
theorem dX8_cart_47 : fet cX8_cart 47 = some (.ifCond .le 64) := by decide +kernel
theorem dX8_cart_50 : fet cX8_cart 50 = some (.iconst 2) := by decide +kernel
theorem dX8_cart_51 : fet cX8_cart 51 = some (.iload 6) := by decide +kernel
theorem dX8_cart_53 : fet cX8_cart 53 = some (.imul) := by decide +kernel
theorem dX8_cart_54 : fet cX8_cart 54 = some (.aload_n 0) := by decide +kernel
theorem dX8_cart_55 : fet cX8_cart 55 = some (.aload_n 0) := by decide +kernel
theorem dX8_cart_56 : fet cX8_cart 56 = some (.getfield 19) := by decide +kernel
theorem dX8_cart_59 : fet cX8_cart 59 = some (.iload_n 1) := by decide +kernel
theorem dX8_cart_60 : fet cX8_cart 60 = some (.invokevirtual 196) := by decide +kernel
theorem dX8_cart_63 : fet cX8_cart 63 = some (.if_icmp .gt 42) := by decide +kernel
theorem dX8_cart_66 : fet cX8_cart 66 = some (.iconst 2) := by decide +kernel
theorem dX8_cart_67 : fet cX8_cart 67 = some (.iload 6) := by decide +kernel
theorem dX8_cart_69 : fet cX8_cart 69 = some (.imul) := by decide +kernel
theorem dX8_cart_70 : fet cX8_cart 70 = some (.aload_n 0) := by decide +kernel
theorem dX8_cart_71 : fet cX8_cart 71 = some (.aload_n 0) := by decide +kernel
theorem dX8_cart_72 : fet cX8_cart 72 = some (.getfield 19) := by decide +kernel
theorem dX8_cart_75 : fet cX8_cart 75 = some (.iload_n 2) := by decide +kernel
theorem dX8_cart_76 : fet cX8_cart 76 = some (.invokevirtual 196) := by decide +kernel
theorem dX8_cart_79 : fet cX8_cart 79 = some (.if_icmp .le 26) := by decide +kernel
theorem dX8_cart_82 : fet cX8_cart 82 = some (.iconst 2) := by decide +kernel
theorem dX8_cart_83 : fet cX8_cart 83 = some (.iload 6) := by decide +kernel
theorem dX8_cart_85 : fet cX8_cart 85 = some (.imul) := by decide +kernel
theorem dX8_cart_86 : fet cX8_cart 86 = some (.aload_n 0) := by decide +kernel
theorem dX8_cart_87 : fet cX8_cart 87 = some (.aload_n 0) := by decide +kernel
theorem dX8_cart_88 : fet cX8_cart 88 = some (.getfield 19) := by decide +kernel
theorem dX8_cart_91 : fet cX8_cart 91 = some (.iload_n 2) := by decide +kernel
theorem dX8_cart_92 : fet cX8_cart 92 = some (.invokevirtual 162) := by decide +kernel
theorem dX8_cart_95 : fet cX8_cart 95 = some (.if_icmp .gt 10) := by decide +kernel
theorem dX8_cart_98 : fet cX8_cart 98 = some (.iinc 4 1) := by decide +kernel
theorem dX8_cart_101 : fet cX8_cart 101 = some (.iload 6) := by decide +kernel
theorem dX8_cart_103 : fet cX8_cart 103 = some (.istore 5) := by decide +kernel
theorem dX8_cart_105 : fet cX8_cart 105 = some (.iinc 6 (-1)) := by decide +kernel
theorem dX8_cart_108 : fet cX8_cart 108 = some (.goto (-63)) := by decide +kernel
theorem dX8_cart_111 : fet cX8_cart 111 = some (.iload_n 3) := by decide +kernel
theorem dX8_cart_112 : fet cX8_cart 112 = some (.ifCond .ne 8) := by decide +kernel
theorem dX8_cart_115 : fet cX8_cart 115 = some (.iload 4) := by decide +kernel
theorem dX8_cart_117 : fet cX8_cart 117 = some (.goto 5) := by decide +kernel
theorem dX8_cart_120 : fet cX8_cart 120 = some (.iload 5) := by decide +kernel
theorem dX8_cart_122 : fet cX8_cart 122 = some (.ireturn) := by decide +kernel
theorem dX8_year_0 : fet cX8_year 0 = some (.iload_n 1) := by decide +kernel
theorem dX8_year_1 : fet cX8_year 1 = some (.i2l) := by decide +kernel
theorem dX8_year_2 : fet cX8_year 2 = some (.lconst 0) := by decide +kernel
theorem dX8_year_3 : fet cX8_year 3 = some (.ldc2_w 264) := by decide +kernel
theorem dX8_year_6 : fet cX8_year 6 = some (.invokestatic 60) := by decide +kernel
theorem dX8_year_9 : fet cX8_year 9 = some (.ifCond .eq 17) := by decide +kernel
theorem dX8_year_12 : fet cX8_year 12 = some (.iload_n 2) := by decide +kernel
theorem dX8_year_13 : fet cX8_year 13 = some (.invokestatic 251) := by decide +kernel
theorem dX8_year_16 : fet cX8_year 16 = some (.ifCond .eq 10) := by decide +kernel
theorem dX8_year_19 : fet cX8_year 19 = some (.iload_n 3) := by decide +kernel
theorem dX8_year_20 : fet cX8_year 20 = some (.invokestatic 259) := by decide +kernel
theorem dX8_year_23 : fet cX8_year 23 = some (.ifCond .ne 5) := by decide +kernel
theorem dX8_year_26 : fet cX8_year 26 = some (.iconst (-1)) := by decide +kernel
theorem dX8_year_27 : fet cX8_year 27 = some (.ireturn) := by decide +kernel
theorem dX8_year_28 : fet cX8_year 28 = some (.aload_n 0) := by decide +kernel
theorem dX8_year_29 : fet cX8_year 29 = some (.invokevirtual 227) := by decide +kernel
theorem dX8_year_32 : fet cX8_year 32 = some (.aload_n 0) := by decide +kernel
theorem dX8_year_33 : fet cX8_year 33 = some (.iload_n 1) := by decide +kernel
theorem dX8_year_34 : fet cX8_year 34 = some (.putfield 134) := by decide +kernel
theorem dX8_year_37 : fet cX8_year 37 = some (.aload_n 0) := by decide +kernel
theorem dX8_year_38 : fet cX8_year 38 = some (.iload_n 2) := by decide +kernel
theorem dX8_year_39 : fet cX8_year 39 = some (.invokevirtual 245) := by decide +kernel
theorem dX8_year_42 : fet cX8_year 42 = some (.iload_n 3) := by decide +kernel
theorem dX8_year_43 : fet cX8_year 43 = some (.ifCond .ne 10) := by decide +kernel
theorem dX8_year_46 : fet cX8_year 46 = some (.aload_n 0) := by decide +kernel
theorem dX8_year_47 : fet cX8_year 47 = some (.getfield 146) := by decide +kernel
theorem dX8_year_50 : fet cX8_year 50 = some (.goto 7) := by decide +kernel
theorem dX8_year_53 : fet cX8_year 53 = some (.aload_n 0) := by decide +kernel
theorem dX8_year_54 : fet cX8_year 54 = some (.getfield 149) := by decide +kernel
theorem dX8_year_57 : fet cX8_year 57 = some (.ireturn) := by decide +kernel
theorem dX8_keep_0 : fet cX8_keep 0 = some (.aload_n 0) := by decide +kernel
theorem dX8_keep_1 : fet cX8_keep 1 = some (.getfield 119) := by decide +kernel
theorem dX8_keep_4 : fet cX8_keep 4 = some (.iconst 2) := by decide +kernel
theorem dX8_keep_5 : fet cX8_keep 5 = some (.if_icmp .ne 6) := by decide +kernel
theorem dX8_keep_8 : fet cX8_keep 8 = some (.bipush (-3)) := by decide +kernel
theorem dX8_keep_10 : fet cX8_keep 10 = some (.ireturn) := by decide +kernel
theorem dX8_keep_11 : fet cX8_keep 11 = some (.aload_n 0) := by decide +kernel
theorem dX8_keep_12 : fet cX8_keep 12 = some (.getfield 19) := by decide +kernel
theorem dX8_keep_15 : fet cX8_keep 15 = some (.iconst 0) := by decide +kernel
theorem dX8_keep_16 : fet cX8_keep 16 = some (.aload_n 0) := by decide +kernel
theorem dX8_keep_17 : fet cX8_keep 17 = some (.getfield 25) := by decide +kernel
theorem dX8_keep_20 : fet cX8_keep 20 = some (.sipush 317) := by decide +kernel
theorem dX8_keep_23 : fet cX8_keep 23 = some (.aload_n 0) := by decide +kernel
theorem dX8_keep_24 : fet cX8_keep 24 = some (.getfield 119) := by decide +kernel
theorem dX8_keep_27 : fet cX8_keep 27 = some (.imul) := by decide +kernel
theorem dX8_keep_28 : fet cX8_keep 28 = some (.invokestatic 215) := by decide +kernel
theorem dX8_keep_31 : fet cX8_keep 31 = some (.aload_n 0) := by decide +kernel
theorem dX8_keep_32 : fet cX8_keep 32 = some (.dup) := by decide +kernel
theorem dX8_keep_33 : fet cX8_keep 33 = some (.getfield 119) := by decide +kernel
theorem dX8_keep_36 : fet cX8_keep 36 = some (.iconst 1) := by decide +kernel
theorem dX8_keep_37 : fet cX8_keep 37 = some (.iadd) := by decide +kernel
theorem dX8_keep_38 : fet cX8_keep 38 = some (.putfield 119) := by decide +kernel
theorem dX8_keep_41 : fet cX8_keep 41 = some (.aload_n 0) := by decide +kernel
theorem dX8_keep_42 : fet cX8_keep 42 = some (.getfield 119) := by decide +kernel
theorem dX8_keep_45 : fet cX8_keep 45 = some (.ireturn) := by decide +kernel
theorem dX8_back_0 : fet cX8_back 0 = some (.aload_n 0) := by decide +kernel
theorem dX8_back_1 : fet cX8_back 1 = some (.getfield 119) := by decide +kernel
theorem dX8_back_4 : fet cX8_back 4 = some (.ifCond .ne 6) := by decide +kernel
theorem dX8_back_7 : fet cX8_back 7 = some (.bipush (-2)) := by decide +kernel
theorem dX8_back_9 : fet cX8_back 9 = some (.ireturn) := by decide +kernel
theorem dX8_back_10 : fet cX8_back 10 = some (.aload_n 0) := by decide +kernel
theorem dX8_back_11 : fet cX8_back 11 = some (.dup) := by decide +kernel
theorem dX8_back_12 : fet cX8_back 12 = some (.getfield 119) := by decide +kernel
theorem dX8_back_15 : fet cX8_back 15 = some (.iconst 1) := by decide +kernel
theorem dX8_back_16 : fet cX8_back 16 = some (.isub) := by decide +kernel
theorem dX8_back_17 : fet cX8_back 17 = some (.putfield 119) := by decide +kernel
theorem dX8_back_20 : fet cX8_back 20 = some (.aload_n 0) := by decide +kernel
theorem dX8_back_21 : fet cX8_back 21 = some (.getfield 25) := by decide +kernel
theorem dX8_back_24 : fet cX8_back 24 = some (.sipush 317) := by decide +kernel
theorem dX8_back_27 : fet cX8_back 27 = some (.aload_n 0) := by decide +kernel
theorem dX8_back_28 : fet cX8_back 28 = some (.getfield 119) := by decide +kernel
theorem dX8_back_31 : fet cX8_back 31 = some (.imul) := by decide +kernel
theorem dX8_back_32 : fet cX8_back 32 = some (.aload_n 0) := by decide +kernel
theorem dX8_back_33 : fet cX8_back 33 = some (.getfield 19) := by decide +kernel
theorem dX8_back_36 : fet cX8_back 36 = some (.iconst 0) := by decide +kernel
theorem dX8_back_37 : fet cX8_back 37 = some (.invokestatic 215) := by decide +kernel
theorem dX8_back_40 : fet cX8_back 40 = some (.aload_n 0) := by decide +kernel
theorem dX8_back_41 : fet cX8_back 41 = some (.iconst 0) := by decide +kernel
theorem dX8_back_42 : fet cX8_back 42 = some (.putfield 116) := by decide +kernel
theorem dX8_back_45 : fet cX8_back 45 = some (.aload_n 0) := by decide +kernel
theorem dX8_back_46 : fet cX8_back 46 = some (.getfield 119) := by decide +kernel
theorem dX8_back_49 : fet cX8_back 49 = some (.ireturn) := by decide +kernel
theorem dX8_count_0 : fet cX8_count 0 = some (.iconst 0) := by decide +kernel
theorem dX8_count_1 : fet cX8_count 1 = some (.istore_n 2) := by decide +kernel
theorem dX8_count_2 : fet cX8_count 2 = some (.iconst 0) := by decide +kernel
theorem dX8_count_3 : fet cX8_count 3 = some (.istore_n 3) := by decide +kernel
theorem dX8_count_4 : fet cX8_count 4 = some (.iload_n 3) := by decide +kernel
theorem dX8_count_5 : fet cX8_count 5 = some (.aload_n 0) := by decide +kernel
theorem dX8_count_6 : fet cX8_count 6 = some (.getfield 7) := by decide +kernel
theorem dX8_count_9 : fet cX8_count 9 = some (.iconst 2) := by decide +kernel
theorem dX8_count_10 : fet cX8_count 10 = some (.iaload) := by decide +kernel
theorem dX8_count_11 : fet cX8_count 11 = some (.if_icmp .ge 29) := by decide +kernel
theorem dX8_count_14 : fet cX8_count 14 = some (.iload_n 2) := by decide +kernel
theorem dX8_count_15 : fet cX8_count 15 = some (.aload_n 0) := by decide +kernel
theorem dX8_count_16 : fet cX8_count 16 = some (.getfield 19) := by decide +kernel
theorem dX8_count_19 : fet cX8_count 19 = some (.bipush 19) := by decide +kernel
theorem dX8_count_21 : fet cX8_count 21 = some (.iload_n 3) := by decide +kernel
theorem dX8_count_22 : fet cX8_count 22 = some (.iadd) := by decide +kernel
theorem dX8_count_23 : fet cX8_count 23 = some (.iaload) := by decide +kernel
theorem dX8_count_24 : fet cX8_count 24 = some (.ifCond .ge 7) := by decide +kernel
theorem dX8_count_27 : fet cX8_count 27 = some (.iconst 1) := by decide +kernel
theorem dX8_count_28 : fet cX8_count 28 = some (.goto 4) := by decide +kernel
theorem dX8_count_31 : fet cX8_count 31 = some (.iconst 0) := by decide +kernel
theorem dX8_count_32 : fet cX8_count 32 = some (.iadd) := by decide +kernel
theorem dX8_count_33 : fet cX8_count 33 = some (.istore_n 2) := by decide +kernel
theorem dX8_count_34 : fet cX8_count 34 = some (.iinc 3 1) := by decide +kernel
theorem dX8_count_37 : fet cX8_count 37 = some (.goto (-33)) := by decide +kernel
theorem dX8_count_40 : fet cX8_count 40 = some (.iload_n 1) := by decide +kernel
theorem dX8_count_41 : fet cX8_count 41 = some (.tableswitch 91 0 9 #[55, 55, 55, 55, 62, 69, 71, 76, 81, 86]) := by decide +kernel
theorem dX8_count_96 : fet cX8_count 96 = some (.aload_n 0) := by decide +kernel
theorem dX8_count_97 : fet cX8_count 97 = some (.getfield 7) := by decide +kernel
theorem dX8_count_100 : fet cX8_count 100 = some (.iload_n 1) := by decide +kernel
theorem dX8_count_101 : fet cX8_count 101 = some (.iaload) := by decide +kernel
theorem dX8_count_102 : fet cX8_count 102 = some (.ireturn) := by decide +kernel
theorem dX8_count_103 : fet cX8_count 103 = some (.aload_n 0) := by decide +kernel
theorem dX8_count_104 : fet cX8_count 104 = some (.getfield 19) := by decide +kernel
theorem dX8_count_107 : fet cX8_count 107 = some (.iconst 0) := by decide +kernel
theorem dX8_count_108 : fet cX8_count 108 = some (.iaload) := by decide +kernel
theorem dX8_count_109 : fet cX8_count 109 = some (.ireturn) := by decide +kernel
theorem dX8_count_110 : fet cX8_count 110 = some (.iload_n 2) := by decide +kernel
theorem dX8_count_111 : fet cX8_count 111 = some (.ireturn) := by decide +kernel
theorem dX8_count_112 : fet cX8_count 112 = some (.aload_n 0) := by decide +kernel
theorem dX8_count_113 : fet cX8_count 113 = some (.getfield 113) := by decide +kernel
theorem dX8_count_116 : fet cX8_count 116 = some (.ireturn) := by decide +kernel
theorem dX8_count_117 : fet cX8_count 117 = some (.aload_n 0) := by decide +kernel
theorem dX8_count_118 : fet cX8_count 118 = some (.getfield 116) := by decide +kernel
theorem dX8_count_121 : fet cX8_count 121 = some (.ireturn) := by decide +kernel
theorem dX8_count_122 : fet cX8_count 122 = some (.aload_n 0) := by decide +kernel
theorem dX8_count_123 : fet cX8_count 123 = some (.getfield 119) := by decide +kernel
theorem dX8_count_126 : fet cX8_count 126 = some (.ireturn) := by decide +kernel
theorem dX8_count_127 : fet cX8_count 127 = some (.aload_n 0) := by decide +kernel
theorem dX8_count_128 : fet cX8_count 128 = some (.getfield 68) := by decide +kernel
theorem dX8_count_131 : fet cX8_count 131 = some (.ireturn) := by decide +kernel
theorem dX8_count_132 : fet cX8_count 132 = some (.iconst (-1)) := by decide +kernel
theorem dX8_count_133 : fet cX8_count 133 = some (.ireturn) := by decide +kernel
