theorem dX7_init_0 : fet cX7_init 0 = some (.aload_n 0) := by decide +kernel
theorem dX7_init_1 : fet cX7_init 1 = some (.invokespecial 1) := by decide +kernel
theorem dX7_init_4 : fet cX7_init 4 = some (.aload_n 0) := by decide +kernel
theorem dX7_init_5 : fet cX7_init 5 = some (.sipush 200) := by decide +kernel
theorem dX7_init_8 : fet cX7_init 8 = some (.newarray .int) := by decide +kernel
theorem dX7_init_10 : fet cX7_init 10 = some (.putfield 9) := by decide +kernel
theorem dX7_init_13 : fet cX7_init 13 = some (.aload_n 0) := by decide +kernel
theorem dX7_init_14 : fet cX7_init 14 = some (.new 13) := by decide +kernel
theorem dX7_init_17 : fet cX7_init 17 = some (.dup) := by decide +kernel
theorem dX7_init_18 : fet cX7_init 18 = some (.invokespecial 15) := by decide +kernel
theorem dX7_init_21 : fet cX7_init 21 = some (.putfield 16) := by decide +kernel
theorem dX7_init_24 : fet cX7_init 24 = some (.aload_n 0) := by decide +kernel
theorem dX7_init_25 : fet cX7_init 25 = some (.new 20) := by decide +kernel
theorem dX7_init_28 : fet cX7_init 28 = some (.dup) := by decide +kernel
theorem dX7_init_29 : fet cX7_init 29 = some (.invokespecial 22) := by decide +kernel
theorem dX7_init_32 : fet cX7_init 32 = some (.putfield 23) := by decide +kernel
theorem dX7_init_35 : fet cX7_init 35 = some (.aload_n 0) := by decide +kernel
theorem dX7_init_36 : fet cX7_init 36 = some (.new 20) := by decide +kernel
theorem dX7_init_39 : fet cX7_init 39 = some (.dup) := by decide +kernel
theorem dX7_init_40 : fet cX7_init 40 = some (.invokespecial 22) := by decide +kernel
theorem dX7_init_43 : fet cX7_init 43 = some (.putfield 27) := by decide +kernel
theorem dX7_init_46 : fet cX7_init 46 = some (.aload_n 0) := by decide +kernel
theorem dX7_init_47 : fet cX7_init 47 = some (.new 30) := by decide +kernel
theorem dX7_init_50 : fet cX7_init 50 = some (.dup) := by decide +kernel
theorem dX7_init_51 : fet cX7_init 51 = some (.invokespecial 32) := by decide +kernel
theorem dX7_init_54 : fet cX7_init 54 = some (.putfield 33) := by decide +kernel
theorem dX7_init_57 : fet cX7_init 57 = some (.aload_n 0) := by decide +kernel
theorem dX7_init_58 : fet cX7_init 58 = some (.new 37) := by decide +kernel
theorem dX7_init_61 : fet cX7_init 61 = some (.dup) := by decide +kernel
theorem dX7_init_62 : fet cX7_init 62 = some (.invokespecial 39) := by decide +kernel
theorem dX7_init_65 : fet cX7_init 65 = some (.putfield 40) := by decide +kernel
theorem dX7_init_68 : fet cX7_init 68 = some (.aload_n 0) := by decide +kernel
theorem dX7_init_69 : fet cX7_init 69 = some (.new 44) := by decide +kernel
theorem dX7_init_72 : fet cX7_init 72 = some (.dup) := by decide +kernel
theorem dX7_init_73 : fet cX7_init 73 = some (.invokespecial 46) := by decide +kernel
theorem dX7_init_76 : fet cX7_init 76 = some (.putfield 47) := by decide +kernel
theorem dX7_init_79 : fet cX7_init 79 = some (.aload_n 0) := by decide +kernel
theorem dX7_init_80 : fet cX7_init 80 = some (.new 51) := by decide +kernel
theorem dX7_init_83 : fet cX7_init 83 = some (.dup) := by decide +kernel
theorem dX7_init_84 : fet cX7_init 84 = some (.invokespecial 53) := by decide +kernel
theorem dX7_init_87 : fet cX7_init 87 = some (.putfield 54) := by decide +kernel
theorem dX7_init_90 : fet cX7_init 90 = some (.aload_n 0) := by decide +kernel
theorem dX7_init_91 : fet cX7_init 91 = some (.new 58) := by decide +kernel
theorem dX7_init_94 : fet cX7_init 94 = some (.dup) := by decide +kernel
theorem dX7_init_95 : fet cX7_init 95 = some (.bipush 8) := by decide +kernel
theorem dX7_init_97 : fet cX7_init 97 = some (.invokespecial 60) := by decide +kernel
theorem dX7_init_100 : fet cX7_init 100 = some (.putfield 63) := by decide +kernel
theorem dX7_init_103 : fet cX7_init 103 = some (.aload_n 0) := by decide +kernel
theorem dX7_init_104 : fet cX7_init 104 = some (.new 58) := by decide +kernel
theorem dX7_init_107 : fet cX7_init 107 = some (.dup) := by decide +kernel
theorem dX7_init_108 : fet cX7_init 108 = some (.iconst 2) := by decide +kernel
theorem dX7_init_109 : fet cX7_init 109 = some (.invokespecial 60) := by decide +kernel
theorem dX7_init_112 : fet cX7_init 112 = some (.putfield 67) := by decide +kernel
theorem dX7_init_115 : fet cX7_init 115 = some (.iconst 0) := by decide +kernel
theorem dX7_init_116 : fet cX7_init 116 = some (.istore_n 1) := by decide +kernel
theorem dX7_init_117 : fet cX7_init 117 = some (.iload_n 1) := by decide +kernel
theorem dX7_init_118 : fet cX7_init 118 = some (.ldc 70) := by decide +kernel
theorem dX7_init_120 : fet cX7_init 120 = some (.invokevirtual 72) := by decide +kernel
theorem dX7_init_123 : fet cX7_init 123 = some (.if_icmp .ge 28) := by decide +kernel
theorem dX7_init_126 : fet cX7_init 126 = some (.iload_n 1) := by decide +kernel
theorem dX7_init_127 : fet cX7_init 127 = some (.sipush 200) := by decide +kernel
theorem dX7_init_130 : fet cX7_init 130 = some (.if_icmp .ge 21) := by decide +kernel
theorem dX7_init_133 : fet cX7_init 133 = some (.aload_n 0) := by decide +kernel
theorem dX7_init_134 : fet cX7_init 134 = some (.getfield 9) := by decide +kernel
theorem dX7_init_137 : fet cX7_init 137 = some (.iload_n 1) := by decide +kernel
theorem dX7_init_138 : fet cX7_init 138 = some (.ldc 70) := by decide +kernel
theorem dX7_init_140 : fet cX7_init 140 = some (.iload_n 1) := by decide +kernel
theorem dX7_init_141 : fet cX7_init 141 = some (.invokevirtual 78) := by decide +kernel
theorem dX7_init_144 : fet cX7_init 144 = some (.iastore) := by decide +kernel
theorem dX7_init_145 : fet cX7_init 145 = some (.iinc 1 1) := by decide +kernel
theorem dX7_init_148 : fet cX7_init 148 = some (.goto (-31)) := by decide +kernel
theorem dX7_init_151 : fet cX7_init 151 = some (.aload_n 0) := by decide +kernel
theorem dX7_init_152 : fet cX7_init 152 = some (.getfield 16) := by decide +kernel
theorem dX7_init_155 : fet cX7_init 155 = some (.aload_n 0) := by decide +kernel
theorem dX7_init_156 : fet cX7_init 156 = some (.getfield 9) := by decide +kernel
theorem dX7_init_159 : fet cX7_init 159 = some (.ldc 70) := by decide +kernel
theorem dX7_init_161 : fet cX7_init 161 = some (.invokevirtual 72) := by decide +kernel
theorem dX7_init_164 : fet cX7_init 164 = some (.aload_n 0) := by decide +kernel
theorem dX7_init_165 : fet cX7_init 165 = some (.getfield 23) := by decide +kernel
theorem dX7_init_168 : fet cX7_init 168 = some (.invokevirtual 82) := by decide +kernel
theorem dX7_init_171 : fet cX7_init 171 = some (.pop) := by decide +kernel
theorem dX7_init_172 : fet cX7_init 172 = some (.aload_n 0) := by decide +kernel
theorem dX7_init_173 : fet cX7_init 173 = some (.getfield 33) := by decide +kernel
theorem dX7_init_176 : fet cX7_init 176 = some (.aload_n 0) := by decide +kernel
theorem dX7_init_177 : fet cX7_init 177 = some (.getfield 23) := by decide +kernel
theorem dX7_init_180 : fet cX7_init 180 = some (.invokevirtual 86) := by decide +kernel
theorem dX7_init_183 : fet cX7_init 183 = some (.return_) := by decide +kernel
theorem dX7_write_0 : fet cX7_write 0 = some (.iload_n 1) := by decide +kernel
theorem dX7_write_1 : fet cX7_write 1 = some (.bipush 32) := by decide +kernel
theorem dX7_write_3 : fet cX7_write 3 = some (.bipush 126) := by decide +kernel
theorem dX7_write_5 : fet cX7_write 5 = some (.invokestatic 90) := by decide +kernel
theorem dX7_write_8 : fet cX7_write 8 = some (.ifCond .ne 5) := by decide +kernel
theorem dX7_write_11 : fet cX7_write 11 = some (.iconst (-1)) := by decide +kernel
theorem dX7_write_12 : fet cX7_write 12 = some (.ireturn) := by decide +kernel
theorem dX7_write_13 : fet cX7_write 13 = some (.aload_n 0) := by decide +kernel
theorem dX7_write_14 : fet cX7_write 14 = some (.getfield 94) := by decide +kernel
theorem dX7_write_17 : fet cX7_write 17 = some (.ifCond .lt 15) := by decide +kernel
theorem dX7_write_20 : fet cX7_write 20 = some (.aload_n 0) := by decide +kernel
theorem dX7_write_21 : fet cX7_write 21 = some (.getfield 94) := by decide +kernel
theorem dX7_write_24 : fet cX7_write 24 = some (.aload_n 0) := by decide +kernel
theorem dX7_write_25 : fet cX7_write 25 = some (.getfield 9) := by decide +kernel
theorem dX7_write_28 : fet cX7_write 28 = some (.arraylength) := by decide +kernel
theorem dX7_write_29 : fet cX7_write 29 = some (.if_icmp .lt 6) := by decide +kernel
theorem dX7_write_32 : fet cX7_write 32 = some (.bipush (-3)) := by decide +kernel
theorem dX7_write_34 : fet cX7_write 34 = some (.ireturn) := by decide +kernel
theorem dX7_write_35 : fet cX7_write 35 = some (.aload_n 0) := by decide +kernel
theorem dX7_write_36 : fet cX7_write 36 = some (.getfield 9) := by decide +kernel
theorem dX7_write_39 : fet cX7_write 39 = some (.aload_n 0) := by decide +kernel
theorem dX7_write_40 : fet cX7_write 40 = some (.getfield 94) := by decide +kernel
theorem dX7_write_43 : fet cX7_write 43 = some (.iload_n 1) := by decide +kernel
theorem dX7_write_44 : fet cX7_write 44 = some (.iastore) := by decide +kernel
theorem dX7_write_45 : fet cX7_write 45 = some (.aload_n 0) := by decide +kernel
theorem dX7_write_46 : fet cX7_write 46 = some (.dup) := by decide +kernel
theorem dX7_write_47 : fet cX7_write 47 = some (.getfield 94) := by decide +kernel
theorem dX7_write_50 : fet cX7_write 50 = some (.iconst 1) := by decide +kernel
theorem dX7_write_51 : fet cX7_write 51 = some (.iadd) := by decide +kernel
theorem dX7_write_52 : fet cX7_write 52 = some (.putfield 94) := by decide +kernel
theorem dX7_write_55 : fet cX7_write 55 = some (.aload_n 0) := by decide +kernel
theorem dX7_write_56 : fet cX7_write 56 = some (.getfield 94) := by decide +kernel
theorem dX7_write_59 : fet cX7_write 59 = some (.ireturn) := by decide +kernel
theorem dX7_wipe_0 : fet cX7_wipe 0 = some (.aload_n 0) := by decide +kernel
theorem dX7_wipe_1 : fet cX7_wipe 1 = some (.getfield 94) := by decide +kernel
theorem dX7_wipe_4 : fet cX7_wipe 4 = some (.istore_n 1) := by decide +kernel
theorem dX7_wipe_5 : fet cX7_wipe 5 = some (.aload_n 0) := by decide +kernel
theorem dX7_wipe_6 : fet cX7_wipe 6 = some (.iconst 0) := by decide +kernel
theorem dX7_wipe_7 : fet cX7_wipe 7 = some (.putfield 94) := by decide +kernel
theorem dX7_wipe_10 : fet cX7_wipe 10 = some (.iload_n 1) := by decide +kernel
theorem dX7_wipe_11 : fet cX7_wipe 11 = some (.ireturn) := by decide +kernel
theorem dX7_fault_0 : fet cX7_fault 0 = some (.aload_n 0) := by decide +kernel
theorem dX7_fault_1 : fet cX7_fault 1 = some (.getfield 16) := by decide +kernel
theorem dX7_fault_4 : fet cX7_fault 4 = some (.aload_n 0) := by decide +kernel
theorem dX7_fault_5 : fet cX7_fault 5 = some (.getfield 9) := by decide +kernel
theorem dX7_fault_8 : fet cX7_fault 8 = some (.aload_n 0) := by decide +kernel
theorem dX7_fault_9 : fet cX7_fault 9 = some (.getfield 94) := by decide +kernel
theorem dX7_fault_12 : fet cX7_fault 12 = some (.aload_n 0) := by decide +kernel
theorem dX7_fault_13 : fet cX7_fault 13 = some (.getfield 27) := by decide +kernel
theorem dX7_fault_16 : fet cX7_fault 16 = some (.invokevirtual 82) := by decide +kernel
theorem dX7_fault_19 : fet cX7_fault 19 = some (.ireturn) := by decide +kernel
theorem dX7_lay_0 : fet cX7_lay 0 = some (.aload_n 0) := by decide +kernel
theorem dX7_lay_1 : fet cX7_lay 1 = some (.getfield 16) := by decide +kernel
theorem dX7_lay_4 : fet cX7_lay 4 = some (.aload_n 0) := by decide +kernel
theorem dX7_lay_5 : fet cX7_lay 5 = some (.getfield 9) := by decide +kernel
theorem dX7_lay_8 : fet cX7_lay 8 = some (.aload_n 0) := by decide +kernel
theorem dX7_lay_9 : fet cX7_lay 9 = some (.getfield 94) := by decide +kernel
theorem dX7_lay_12 : fet cX7_lay 12 = some (.aload_n 0) := by decide +kernel
theorem dX7_lay_13 : fet cX7_lay 13 = some (.getfield 27) := by decide +kernel
theorem dX7_lay_16 : fet cX7_lay 16 = some (.invokevirtual 82) := by decide +kernel
theorem dX7_lay_19 : fet cX7_lay 19 = some (.bipush (-4)) := by decide +kernel
theorem dX7_lay_21 : fet cX7_lay 21 = some (.if_icmp .ne 13) := by decide +kernel
theorem dX7_lay_24 : fet cX7_lay 24 = some (.aload_n 0) := by decide +kernel
theorem dX7_lay_25 : fet cX7_lay 25 = some (.getfield 27) := by decide +kernel
theorem dX7_lay_28 : fet cX7_lay 28 = some (.getfield 97) := by decide +kernel
theorem dX7_lay_31 : fet cX7_lay 31 = some (.ifCond .ne 6) := by decide +kernel
theorem dX7_lay_34 : fet cX7_lay 34 = some (.bipush (-2)) := by decide +kernel
theorem dX7_lay_36 : fet cX7_lay 36 = some (.ireturn) := by decide +kernel
theorem dX7_lay_37 : fet cX7_lay 37 = some (.aload_n 0) := by decide +kernel
theorem dX7_lay_38 : fet cX7_lay 38 = some (.getfield 23) := by decide +kernel
theorem dX7_lay_41 : fet cX7_lay 41 = some (.astore_n 1) := by decide +kernel
theorem dX7_lay_42 : fet cX7_lay 42 = some (.aload_n 0) := by decide +kernel
theorem dX7_lay_43 : fet cX7_lay 43 = some (.aload_n 0) := by decide +kernel
theorem dX7_lay_44 : fet cX7_lay 44 = some (.getfield 27) := by decide +kernel
theorem dX7_lay_47 : fet cX7_lay 47 = some (.putfield 23) := by decide +kernel
theorem dX7_lay_50 : fet cX7_lay 50 = some (.aload_n 0) := by decide +kernel
theorem dX7_lay_51 : fet cX7_lay 51 = some (.aload_n 1) := by decide +kernel
theorem dX7_lay_52 : fet cX7_lay 52 = some (.putfield 27) := by decide +kernel
theorem dX7_lay_55 : fet cX7_lay 55 = some (.aload_n 0) := by decide +kernel
theorem dX7_lay_56 : fet cX7_lay 56 = some (.getfield 33) := by decide +kernel
theorem dX7_lay_59 : fet cX7_lay 59 = some (.aload_n 0) := by decide +kernel
theorem dX7_lay_60 : fet cX7_lay 60 = some (.getfield 23) := by decide +kernel
theorem dX7_lay_63 : fet cX7_lay 63 = some (.invokevirtual 86) := by decide +kernel
theorem dX7_lay_66 : fet cX7_lay 66 = some (.aload_n 0) := by decide +kernel
theorem dX7_lay_67 : fet cX7_lay 67 = some (.getfield 54) := by decide +kernel
theorem dX7_lay_70 : fet cX7_lay 70 = some (.iconst 0) := by decide +kernel
theorem dX7_lay_71 : fet cX7_lay 71 = some (.putfield 100) := by decide +kernel
theorem dX7_lay_74 : fet cX7_lay 74 = some (.aload_n 0) := by decide +kernel
theorem dX7_lay_75 : fet cX7_lay 75 = some (.getfield 63) := by decide +kernel
theorem dX7_lay_78 : fet cX7_lay 78 = some (.iconst 0) := by decide +kernel
theorem dX7_lay_79 : fet cX7_lay 79 = some (.putfield 103) := by decide +kernel
theorem dX7_lay_82 : fet cX7_lay 82 = some (.aload_n 0) := by decide +kernel
theorem dX7_lay_83 : fet cX7_lay 83 = some (.getfield 67) := by decide +kernel
theorem dX7_lay_86 : fet cX7_lay 86 = some (.iconst 0) := by decide +kernel
theorem dX7_lay_87 : fet cX7_lay 87 = some (.putfield 103) := by decide +kernel
theorem dX7_lay_90 : fet cX7_lay 90 = some (.aload_n 0) := by decide +kernel
theorem dX7_lay_91 : fet cX7_lay 91 = some (.getfield 23) := by decide +kernel
theorem dX7_lay_94 : fet cX7_lay 94 = some (.getfield 106) := by decide +kernel
theorem dX7_lay_97 : fet cX7_lay 97 = some (.ireturn) := by decide +kernel
theorem dX7_bridge_0 : fet cX7_bridge 0 = some (.aload_n 0) := by decide +kernel
theorem dX7_bridge_1 : fet cX7_bridge 1 = some (.iload_n 1) := by decide +kernel
theorem dX7_bridge_2 : fet cX7_bridge 2 = some (.invokevirtual 109) := by decide +kernel
theorem dX7_bridge_5 : fet cX7_bridge 5 = some (.ifCond .ne 5) := by decide +kernel
theorem dX7_bridge_8 : fet cX7_bridge 8 = some (.iconst (-1)) := by decide +kernel
theorem dX7_bridge_9 : fet cX7_bridge 9 = some (.ireturn) := by decide +kernel
theorem dX7_bridge_10 : fet cX7_bridge 10 = some (.aload_n 0) := by decide +kernel
theorem dX7_bridge_11 : fet cX7_bridge 11 = some (.invokevirtual 113) := by decide +kernel
theorem dX7_bridge_14 : fet cX7_bridge 14 = some (.iload_n 2) := by decide +kernel
theorem dX7_bridge_15 : fet cX7_bridge 15 = some (.tableswitch 129 0 7 #[45, 55, 65, 75, 87, 99, 109, 119]) := by decide +kernel
theorem dX7_bridge_60 : fet cX7_bridge 60 = some (.aload_n 0) := by decide +kernel
theorem dX7_bridge_61 : fet cX7_bridge 61 = some (.getfield 23) := by decide +kernel
theorem dX7_bridge_64 : fet cX7_bridge 64 = some (.getfield 116) := by decide +kernel
theorem dX7_bridge_67 : fet cX7_bridge 67 = some (.iload_n 1) := by decide +kernel
theorem dX7_bridge_68 : fet cX7_bridge 68 = some (.iaload) := by decide +kernel
theorem dX7_bridge_69 : fet cX7_bridge 69 = some (.ireturn) := by decide +kernel
theorem dX7_bridge_70 : fet cX7_bridge 70 = some (.aload_n 0) := by decide +kernel
theorem dX7_bridge_71 : fet cX7_bridge 71 = some (.getfield 23) := by decide +kernel
theorem dX7_bridge_74 : fet cX7_bridge 74 = some (.getfield 119) := by decide +kernel
theorem dX7_bridge_77 : fet cX7_bridge 77 = some (.iload_n 1) := by decide +kernel
theorem dX7_bridge_78 : fet cX7_bridge 78 = some (.iaload) := by decide +kernel
theorem dX7_bridge_79 : fet cX7_bridge 79 = some (.ireturn) := by decide +kernel
theorem dX7_bridge_80 : fet cX7_bridge 80 = some (.aload_n 0) := by decide +kernel
theorem dX7_bridge_81 : fet cX7_bridge 81 = some (.getfield 23) := by decide +kernel
theorem dX7_bridge_84 : fet cX7_bridge 84 = some (.getfield 122) := by decide +kernel
theorem dX7_bridge_87 : fet cX7_bridge 87 = some (.iload_n 1) := by decide +kernel
theorem dX7_bridge_88 : fet cX7_bridge 88 = some (.iaload) := by decide +kernel
theorem dX7_bridge_89 : fet cX7_bridge 89 = some (.ireturn) := by decide +kernel
theorem dX7_bridge_90 : fet cX7_bridge 90 = some (.aload_n 0) := by decide +kernel
theorem dX7_bridge_91 : fet cX7_bridge 91 = some (.getfield 23) := by decide +kernel
theorem dX7_bridge_94 : fet cX7_bridge 94 = some (.getfield 125) := by decide +kernel
theorem dX7_bridge_97 : fet cX7_bridge 97 = some (.iload_n 1) := by decide +kernel
theorem dX7_bridge_98 : fet cX7_bridge 98 = some (.ishr) := by decide +kernel
theorem dX7_bridge_99 : fet cX7_bridge 99 = some (.iconst 1) := by decide +kernel
theorem dX7_bridge_100 : fet cX7_bridge 100 = some (.iand) := by decide +kernel
theorem dX7_bridge_101 : fet cX7_bridge 101 = some (.ireturn) := by decide +kernel
theorem dX7_bridge_102 : fet cX7_bridge 102 = some (.aload_n 0) := by decide +kernel
theorem dX7_bridge_103 : fet cX7_bridge 103 = some (.getfield 33) := by decide +kernel
theorem dX7_bridge_106 : fet cX7_bridge 106 = some (.getfield 128) := by decide +kernel
theorem dX7_bridge_109 : fet cX7_bridge 109 = some (.iload_n 1) := by decide +kernel
theorem dX7_bridge_110 : fet cX7_bridge 110 = some (.ishr) := by decide +kernel
theorem dX7_bridge_111 : fet cX7_bridge 111 = some (.iconst 1) := by decide +kernel
theorem dX7_bridge_112 : fet cX7_bridge 112 = some (.iand) := by decide +kernel
theorem dX7_bridge_113 : fet cX7_bridge 113 = some (.ireturn) := by decide +kernel
theorem dX7_bridge_114 : fet cX7_bridge 114 = some (.aload_n 0) := by decide +kernel
theorem dX7_bridge_115 : fet cX7_bridge 115 = some (.getfield 40) := by decide +kernel
theorem dX7_bridge_118 : fet cX7_bridge 118 = some (.getfield 131) := by decide +kernel
theorem dX7_bridge_121 : fet cX7_bridge 121 = some (.iload_n 1) := by decide +kernel
theorem dX7_bridge_122 : fet cX7_bridge 122 = some (.iaload) := by decide +kernel
theorem dX7_bridge_123 : fet cX7_bridge 123 = some (.ireturn) := by decide +kernel
theorem dX7_bridge_124 : fet cX7_bridge 124 = some (.aload_n 0) := by decide +kernel
theorem dX7_bridge_125 : fet cX7_bridge 125 = some (.getfield 40) := by decide +kernel
theorem dX7_bridge_128 : fet cX7_bridge 128 = some (.getfield 134) := by decide +kernel
theorem dX7_bridge_131 : fet cX7_bridge 131 = some (.iload_n 1) := by decide +kernel
theorem dX7_bridge_132 : fet cX7_bridge 132 = some (.iaload) := by decide +kernel
theorem dX7_bridge_133 : fet cX7_bridge 133 = some (.ireturn) := by decide +kernel
theorem dX7_bridge_134 : fet cX7_bridge 134 = some (.aload_n 0) := by decide +kernel
theorem dX7_bridge_135 : fet cX7_bridge 135 = some (.getfield 33) := by decide +kernel
theorem dX7_bridge_138 : fet cX7_bridge 138 = some (.getfield 137) := by decide +kernel
theorem dX7_bridge_141 : fet cX7_bridge 141 = some (.iload_n 1) := by decide +kernel
theorem dX7_bridge_142 : fet cX7_bridge 142 = some (.iaload) := by decide +kernel
theorem dX7_bridge_143 : fet cX7_bridge 143 = some (.ireturn) := by decide +kernel
theorem dX7_bridge_144 : fet cX7_bridge 144 = some (.iconst (-1)) := by decide +kernel
theorem dX7_bridge_145 : fet cX7_bridge 145 = some (.ireturn) := by decide +kernel
theorem dX7_goer_0 : fet cX7_goer 0 = some (.aload_n 0) := by decide +kernel
theorem dX7_goer_1 : fet cX7_goer 1 = some (.iload_n 1) := by decide +kernel
theorem dX7_goer_2 : fet cX7_goer 2 = some (.invokevirtual 140) := by decide +kernel
theorem dX7_goer_5 : fet cX7_goer 5 = some (.ifCond .ne 5) := by decide +kernel
theorem dX7_goer_8 : fet cX7_goer 8 = some (.iconst (-1)) := by decide +kernel
theorem dX7_goer_9 : fet cX7_goer 9 = some (.ireturn) := by decide +kernel
theorem dX7_goer_10 : fet cX7_goer 10 = some (.aload_n 0) := by decide +kernel
theorem dX7_goer_11 : fet cX7_goer 11 = some (.invokevirtual 113) := by decide +kernel
theorem dX7_goer_14 : fet cX7_goer 14 = some (.iload_n 2) := by decide +kernel
theorem dX7_goer_15 : fet cX7_goer 15 = some (.tableswitch 110 0 6 #[41, 51, 61, 71, 81, 91, 101]) := by decide +kernel
theorem dX7_goer_56 : fet cX7_goer 56 = some (.aload_n 0) := by decide +kernel
theorem dX7_goer_57 : fet cX7_goer 57 = some (.getfield 33) := by decide +kernel
theorem dX7_goer_60 : fet cX7_goer 60 = some (.getfield 143) := by decide +kernel
theorem dX7_goer_63 : fet cX7_goer 63 = some (.iload_n 1) := by decide +kernel
theorem dX7_goer_64 : fet cX7_goer 64 = some (.iaload) := by decide +kernel
theorem dX7_goer_65 : fet cX7_goer 65 = some (.ireturn) := by decide +kernel
theorem dX7_goer_66 : fet cX7_goer 66 = some (.aload_n 0) := by decide +kernel
theorem dX7_goer_67 : fet cX7_goer 67 = some (.getfield 33) := by decide +kernel
theorem dX7_goer_70 : fet cX7_goer 70 = some (.getfield 146) := by decide +kernel
theorem dX7_goer_73 : fet cX7_goer 73 = some (.iload_n 1) := by decide +kernel
theorem dX7_goer_74 : fet cX7_goer 74 = some (.iaload) := by decide +kernel
theorem dX7_goer_75 : fet cX7_goer 75 = some (.ireturn) := by decide +kernel
theorem dX7_goer_76 : fet cX7_goer 76 = some (.aload_n 0) := by decide +kernel
theorem dX7_goer_77 : fet cX7_goer 77 = some (.getfield 23) := by decide +kernel
theorem dX7_goer_80 : fet cX7_goer 80 = some (.getfield 149) := by decide +kernel
theorem dX7_goer_83 : fet cX7_goer 83 = some (.iload_n 1) := by decide +kernel
theorem dX7_goer_84 : fet cX7_goer 84 = some (.iaload) := by decide +kernel
theorem dX7_goer_85 : fet cX7_goer 85 = some (.ireturn) := by decide +kernel
theorem dX7_goer_86 : fet cX7_goer 86 = some (.aload_n 0) := by decide +kernel
theorem dX7_goer_87 : fet cX7_goer 87 = some (.getfield 23) := by decide +kernel
theorem dX7_goer_90 : fet cX7_goer 90 = some (.getfield 152) := by decide +kernel
theorem dX7_goer_93 : fet cX7_goer 93 = some (.iload_n 1) := by decide +kernel
theorem dX7_goer_94 : fet cX7_goer 94 = some (.iaload) := by decide +kernel
theorem dX7_goer_95 : fet cX7_goer 95 = some (.ireturn) := by decide +kernel
theorem dX7_goer_96 : fet cX7_goer 96 = some (.aload_n 0) := by decide +kernel
theorem dX7_goer_97 : fet cX7_goer 97 = some (.getfield 23) := by decide +kernel
theorem dX7_goer_100 : fet cX7_goer 100 = some (.getfield 155) := by decide +kernel
theorem dX7_goer_103 : fet cX7_goer 103 = some (.iload_n 1) := by decide +kernel
theorem dX7_goer_104 : fet cX7_goer 104 = some (.iaload) := by decide +kernel
theorem dX7_goer_105 : fet cX7_goer 105 = some (.ireturn) := by decide +kernel
theorem dX7_goer_106 : fet cX7_goer 106 = some (.aload_n 0) := by decide +kernel
theorem dX7_goer_107 : fet cX7_goer 107 = some (.getfield 23) := by decide +kernel
theorem dX7_goer_110 : fet cX7_goer 110 = some (.getfield 158) := by decide +kernel
theorem dX7_goer_113 : fet cX7_goer 113 = some (.iload_n 1) := by decide +kernel
theorem dX7_goer_114 : fet cX7_goer 114 = some (.iaload) := by decide +kernel
theorem dX7_goer_115 : fet cX7_goer 115 = some (.ireturn) := by decide +kernel
theorem dX7_goer_116 : fet cX7_goer 116 = some (.aload_n 0) := by decide +kernel
theorem dX7_goer_117 : fet cX7_goer 117 = some (.getfield 40) := by decide +kernel
theorem dX7_goer_120 : fet cX7_goer 120 = some (.iload_n 1) := by decide +kernel
theorem dX7_goer_121 : fet cX7_goer 121 = some (.invokevirtual 161) := by decide +kernel
theorem dX7_goer_124 : fet cX7_goer 124 = some (.ireturn) := by decide +kernel
theorem dX7_goer_125 : fet cX7_goer 125 = some (.iconst (-1)) := by decide +kernel
theorem dX7_goer_126 : fet cX7_goer 126 = some (.ireturn) := by decide +kernel
theorem dX7_lookAtToday_0 : fet cX7_lookAtToday 0 = some (.aload_n 0) := by decide +kernel
theorem dX7_lookAtToday_1 : fet cX7_lookAtToday 1 = some (.getfield 40) := by decide +kernel
theorem dX7_lookAtToday_4 : fet cX7_lookAtToday 4 = some (.aload_n 0) := by decide +kernel
theorem dX7_lookAtToday_5 : fet cX7_lookAtToday 5 = some (.getfield 23) := by decide +kernel
theorem dX7_lookAtToday_8 : fet cX7_lookAtToday 8 = some (.aload_n 0) := by decide +kernel
theorem dX7_lookAtToday_9 : fet cX7_lookAtToday 9 = some (.getfield 33) := by decide +kernel
theorem dX7_lookAtToday_12 : fet cX7_lookAtToday 12 = some (.invokevirtual 165) := by decide +kernel
theorem dX7_lookAtToday_15 : fet cX7_lookAtToday 15 = some (.aload_n 0) := by decide +kernel
theorem dX7_lookAtToday_16 : fet cX7_lookAtToday 16 = some (.getfield 40) := by decide +kernel
theorem dX7_lookAtToday_19 : fet cX7_lookAtToday 19 = some (.aload_n 0) := by decide +kernel
theorem dX7_lookAtToday_20 : fet cX7_lookAtToday 20 = some (.getfield 33) := by decide +kernel
theorem dX7_lookAtToday_23 : fet cX7_lookAtToday 23 = some (.getfield 169) := by decide +kernel
theorem dX7_lookAtToday_26 : fet cX7_lookAtToday 26 = some (.invokevirtual 172) := by decide +kernel
theorem dX7_lookAtToday_29 : fet cX7_lookAtToday 29 = some (.return_) := by decide +kernel
theorem dX7_days_0 : fet cX7_days 0 = some (.iload_n 1) := by decide +kernel
theorem dX7_days_1 : fet cX7_days 1 = some (.iconst 1) := by decide +kernel
theorem dX7_days_2 : fet cX7_days 2 = some (.bipush 60) := by decide +kernel
theorem dX7_days_4 : fet cX7_days 4 = some (.invokestatic 90) := by decide +kernel
theorem dX7_days_7 : fet cX7_days 7 = some (.ifCond .ne 5) := by decide +kernel
theorem dX7_days_10 : fet cX7_days 10 = some (.iconst (-1)) := by decide +kernel
theorem dX7_days_11 : fet cX7_days 11 = some (.ireturn) := by decide +kernel
theorem dX7_days_12 : fet cX7_days 12 = some (.aload_n 0) := by decide +kernel
theorem dX7_days_13 : fet cX7_days 13 = some (.getfield 33) := by decide +kernel
theorem dX7_days_16 : fet cX7_days 16 = some (.getfield 169) := by decide +kernel
theorem dX7_days_19 : fet cX7_days 19 = some (.iload_n 1) := by decide +kernel
theorem dX7_days_20 : fet cX7_days 20 = some (.iadd) := by decide +kernel
theorem dX7_days_21 : fet cX7_days 21 = some (.bipush 99) := by decide +kernel
theorem dX7_days_23 : fet cX7_days 23 = some (.if_icmp .le 6) := by decide +kernel
theorem dX7_days_26 : fet cX7_days 26 = some (.bipush (-2)) := by decide +kernel
theorem dX7_days_28 : fet cX7_days 28 = some (.ireturn) := by decide +kernel
theorem dX7_days_29 : fet cX7_days 29 = some (.aload_n 0) := by decide +kernel
theorem dX7_days_30 : fet cX7_days 30 = some (.getfield 63) := by decide +kernel
theorem dX7_days_33 : fet cX7_days 33 = some (.aload_n 0) := by decide +kernel
theorem dX7_days_34 : fet cX7_days 34 = some (.getfield 33) := by decide +kernel
theorem dX7_days_37 : fet cX7_days 37 = some (.invokevirtual 175) := by decide +kernel
theorem dX7_days_40 : fet cX7_days 40 = some (.aload_n 0) := by decide +kernel
theorem dX7_days_41 : fet cX7_days 41 = some (.iload_n 1) := by decide +kernel
theorem dX7_days_42 : fet cX7_days 42 = some (.invokevirtual 179) := by decide +kernel
theorem dX7_days_45 : fet cX7_days 45 = some (.aload_n 0) := by decide +kernel
theorem dX7_days_46 : fet cX7_days 46 = some (.getfield 33) := by decide +kernel
theorem dX7_days_49 : fet cX7_days 49 = some (.aload_n 0) := by decide +kernel
theorem dX7_days_50 : fet cX7_days 50 = some (.getfield 40) := by decide +kernel
theorem dX7_days_53 : fet cX7_days 53 = some (.getfield 182) := by decide +kernel
theorem dX7_days_56 : fet cX7_days 56 = some (.invokevirtual 185) := by decide +kernel
theorem dX7_days_59 : fet cX7_days 59 = some (.aload_n 0) := by decide +kernel
theorem dX7_days_60 : fet cX7_days 60 = some (.getfield 33) := by decide +kernel
theorem dX7_days_63 : fet cX7_days 63 = some (.getfield 169) := by decide +kernel
theorem dX7_days_66 : fet cX7_days 66 = some (.ireturn) := by decide +kernel
theorem dX7_put_0 : fet cX7_put 0 = some (.aload_n 0) := by decide +kernel
theorem dX7_put_1 : fet cX7_put 1 = some (.iload_n 1) := by decide +kernel
theorem dX7_put_2 : fet cX7_put 2 = some (.invokevirtual 109) := by decide +kernel
theorem dX7_put_5 : fet cX7_put 5 = some (.ifCond .eq 13) := by decide +kernel
theorem dX7_put_8 : fet cX7_put 8 = some (.iload_n 2) := by decide +kernel
theorem dX7_put_9 : fet cX7_put 9 = some (.iconst 1) := by decide +kernel
theorem dX7_put_10 : fet cX7_put 10 = some (.bipush 99) := by decide +kernel
theorem dX7_put_12 : fet cX7_put 12 = some (.invokestatic 90) := by decide +kernel
theorem dX7_put_15 : fet cX7_put 15 = some (.ifCond .ne 5) := by decide +kernel
theorem dX7_put_18 : fet cX7_put 18 = some (.iconst (-1)) := by decide +kernel
theorem dX7_put_19 : fet cX7_put 19 = some (.ireturn) := by decide +kernel
theorem dX7_put_20 : fet cX7_put 20 = some (.aload_n 0) := by decide +kernel
theorem dX7_put_21 : fet cX7_put 21 = some (.getfield 33) := by decide +kernel
theorem dX7_put_24 : fet cX7_put 24 = some (.getfield 137) := by decide +kernel
theorem dX7_put_27 : fet cX7_put 27 = some (.iload_n 1) := by decide +kernel
theorem dX7_put_28 : fet cX7_put 28 = some (.iaload) := by decide +kernel
theorem dX7_put_29 : fet cX7_put 29 = some (.iload_n 2) := by decide +kernel
theorem dX7_put_30 : fet cX7_put 30 = some (.iadd) := by decide +kernel
theorem dX7_put_31 : fet cX7_put 31 = some (.bipush 99) := by decide +kernel
theorem dX7_put_33 : fet cX7_put 33 = some (.if_icmp .le 6) := by decide +kernel
theorem dX7_put_36 : fet cX7_put 36 = some (.bipush (-2)) := by decide +kernel
theorem dX7_put_38 : fet cX7_put 38 = some (.ireturn) := by decide +kernel
theorem dX7_put_39 : fet cX7_put 39 = some (.aload_n 0) := by decide +kernel
theorem dX7_put_40 : fet cX7_put 40 = some (.getfield 63) := by decide +kernel
theorem dX7_put_43 : fet cX7_put 43 = some (.aload_n 0) := by decide +kernel
theorem dX7_put_44 : fet cX7_put 44 = some (.getfield 33) := by decide +kernel
theorem dX7_put_47 : fet cX7_put 47 = some (.invokevirtual 175) := by decide +kernel
theorem dX7_put_50 : fet cX7_put 50 = some (.aload_n 0) := by decide +kernel
theorem dX7_put_51 : fet cX7_put 51 = some (.getfield 33) := by decide +kernel
theorem dX7_put_54 : fet cX7_put 54 = some (.getfield 137) := by decide +kernel
theorem dX7_put_57 : fet cX7_put 57 = some (.iload_n 1) := by decide +kernel
theorem dX7_put_58 : fet cX7_put 58 = some (.dup2) := by decide +kernel
theorem dX7_put_59 : fet cX7_put 59 = some (.iaload) := by decide +kernel
theorem dX7_put_60 : fet cX7_put 60 = some (.iload_n 2) := by decide +kernel
theorem dX7_put_61 : fet cX7_put 61 = some (.iadd) := by decide +kernel
theorem dX7_put_62 : fet cX7_put 62 = some (.iastore) := by decide +kernel
theorem dX7_put_63 : fet cX7_put 63 = some (.aload_n 0) := by decide +kernel
theorem dX7_put_64 : fet cX7_put 64 = some (.getfield 33) := by decide +kernel
theorem dX7_put_67 : fet cX7_put 67 = some (.getfield 137) := by decide +kernel
theorem dX7_put_70 : fet cX7_put 70 = some (.iload_n 1) := by decide +kernel
theorem dX7_put_71 : fet cX7_put 71 = some (.iaload) := by decide +kernel
theorem dX7_put_72 : fet cX7_put 72 = some (.ireturn) := by decide +kernel
theorem dX7_guard_0 : fet cX7_guard 0 = some (.aload_n 0) := by decide +kernel
theorem dX7_guard_1 : fet cX7_guard 1 = some (.iload_n 1) := by decide +kernel
theorem dX7_guard_2 : fet cX7_guard 2 = some (.invokevirtual 109) := by decide +kernel
theorem dX7_guard_5 : fet cX7_guard 5 = some (.ifCond .ne 5) := by decide +kernel
theorem dX7_guard_8 : fet cX7_guard 8 = some (.iconst (-1)) := by decide +kernel
theorem dX7_guard_9 : fet cX7_guard 9 = some (.ireturn) := by decide +kernel
theorem dX7_guard_10 : fet cX7_guard 10 = some (.aload_n 0) := by decide +kernel
theorem dX7_guard_11 : fet cX7_guard 11 = some (.getfield 63) := by decide +kernel
theorem dX7_guard_14 : fet cX7_guard 14 = some (.aload_n 0) := by decide +kernel
theorem dX7_guard_15 : fet cX7_guard 15 = some (.getfield 33) := by decide +kernel
theorem dX7_guard_18 : fet cX7_guard 18 = some (.invokevirtual 175) := by decide +kernel
theorem dX7_guard_21 : fet cX7_guard 21 = some (.iload_n 2) := by decide +kernel
theorem dX7_guard_22 : fet cX7_guard 22 = some (.ifCond .eq 21) := by decide +kernel
theorem dX7_guard_25 : fet cX7_guard 25 = some (.aload_n 0) := by decide +kernel
theorem dX7_guard_26 : fet cX7_guard 26 = some (.getfield 33) := by decide +kernel
theorem dX7_guard_29 : fet cX7_guard 29 = some (.dup) := by decide +kernel
theorem dX7_guard_30 : fet cX7_guard 30 = some (.getfield 128) := by decide +kernel
theorem dX7_guard_33 : fet cX7_guard 33 = some (.iconst 1) := by decide +kernel
theorem dX7_guard_34 : fet cX7_guard 34 = some (.iload_n 1) := by decide +kernel
theorem dX7_guard_35 : fet cX7_guard 35 = some (.ishl) := by decide +kernel
theorem dX7_guard_36 : fet cX7_guard 36 = some (.ior) := by decide +kernel
theorem dX7_guard_37 : fet cX7_guard 37 = some (.putfield 128) := by decide +kernel
theorem dX7_guard_40 : fet cX7_guard 40 = some (.goto 20) := by decide +kernel
theorem dX7_guard_43 : fet cX7_guard 43 = some (.aload_n 0) := by decide +kernel
theorem dX7_guard_44 : fet cX7_guard 44 = some (.getfield 33) := by decide +kernel
theorem dX7_guard_47 : fet cX7_guard 47 = some (.dup) := by decide +kernel
theorem dX7_guard_48 : fet cX7_guard 48 = some (.getfield 128) := by decide +kernel
theorem dX7_guard_51 : fet cX7_guard 51 = some (.iconst 1) := by decide +kernel
theorem dX7_guard_52 : fet cX7_guard 52 = some (.iload_n 1) := by decide +kernel
theorem dX7_guard_53 : fet cX7_guard 53 = some (.ishl) := by decide +kernel
theorem dX7_guard_54 : fet cX7_guard 54 = some (.iconst (-1)) := by decide +kernel
theorem dX7_guard_55 : fet cX7_guard 55 = some (.ixor) := by decide +kernel
theorem dX7_guard_56 : fet cX7_guard 56 = some (.iand) := by decide +kernel
theorem dX7_guard_57 : fet cX7_guard 57 = some (.putfield 128) := by decide +kernel
theorem dX7_guard_60 : fet cX7_guard 60 = some (.aload_n 0) := by decide +kernel
theorem dX7_guard_61 : fet cX7_guard 61 = some (.getfield 33) := by decide +kernel
theorem dX7_guard_64 : fet cX7_guard 64 = some (.getfield 128) := by decide +kernel
theorem dX7_guard_67 : fet cX7_guard 67 = some (.invokestatic 188) := by decide +kernel
theorem dX7_guard_70 : fet cX7_guard 70 = some (.ireturn) := by decide +kernel
theorem dX7_undo_0 : fet cX7_undo 0 = some (.aload_n 0) := by decide +kernel
theorem dX7_undo_1 : fet cX7_undo 1 = some (.getfield 63) := by decide +kernel
theorem dX7_undo_4 : fet cX7_undo 4 = some (.aload_n 0) := by decide +kernel
theorem dX7_undo_5 : fet cX7_undo 5 = some (.getfield 33) := by decide +kernel
theorem dX7_undo_8 : fet cX7_undo 8 = some (.invokevirtual 193) := by decide +kernel
theorem dX7_undo_11 : fet cX7_undo 11 = some (.ifCond .ne 6) := by decide +kernel
theorem dX7_undo_14 : fet cX7_undo 14 = some (.bipush (-2)) := by decide +kernel
theorem dX7_undo_16 : fet cX7_undo 16 = some (.ireturn) := by decide +kernel
theorem dX7_undo_17 : fet cX7_undo 17 = some (.aload_n 0) := by decide +kernel
theorem dX7_undo_18 : fet cX7_undo 18 = some (.getfield 63) := by decide +kernel
theorem dX7_undo_21 : fet cX7_undo 21 = some (.getfield 103) := by decide +kernel
theorem dX7_undo_24 : fet cX7_undo 24 = some (.ireturn) := by decide +kernel
theorem dX7_where_0 : fet cX7_where 0 = some (.iload_n 1) := by decide +kernel
theorem dX7_where_1 : fet cX7_where 1 = some (.iconst 0) := by decide +kernel
theorem dX7_where_2 : fet cX7_where 2 = some (.bipush 60) := by decide +kernel
theorem dX7_where_4 : fet cX7_where 4 = some (.invokestatic 90) := by decide +kernel
theorem dX7_where_7 : fet cX7_where 7 = some (.ifCond .eq 11) := by decide +kernel
theorem dX7_where_10 : fet cX7_where 10 = some (.aload_n 0) := by decide +kernel
theorem dX7_where_11 : fet cX7_where 11 = some (.iload_n 2) := by decide +kernel
theorem dX7_where_12 : fet cX7_where 12 = some (.invokevirtual 140) := by decide +kernel
theorem dX7_where_15 : fet cX7_where 15 = some (.ifCond .ne 5) := by decide +kernel
theorem dX7_where_18 : fet cX7_where 18 = some (.iconst (-1)) := by decide +kernel
theorem dX7_where_19 : fet cX7_where 19 = some (.ireturn) := by decide +kernel
theorem dX7_where_20 : fet cX7_where 20 = some (.aload_n 0) := by decide +kernel
theorem dX7_where_21 : fet cX7_where 21 = some (.iload_n 1) := by decide +kernel
theorem dX7_where_22 : fet cX7_where 22 = some (.invokevirtual 179) := by decide +kernel
theorem dX7_where_25 : fet cX7_where 25 = some (.aload_n 0) := by decide +kernel
theorem dX7_where_26 : fet cX7_where 26 = some (.getfield 40) := by decide +kernel
theorem dX7_where_29 : fet cX7_where 29 = some (.getfield 182) := by decide +kernel
theorem dX7_where_32 : fet cX7_where 32 = some (.getfield 143) := by decide +kernel
theorem dX7_where_35 : fet cX7_where 35 = some (.iload_n 2) := by decide +kernel
theorem dX7_where_36 : fet cX7_where 36 = some (.iaload) := by decide +kernel
theorem dX7_where_37 : fet cX7_where 37 = some (.ireturn) := by decide +kernel
theorem dX7_planks_0 : fet cX7_planks 0 = some (.iload_n 1) := by decide +kernel
theorem dX7_planks_1 : fet cX7_planks 1 = some (.iconst 0) := by decide +kernel
theorem dX7_planks_2 : fet cX7_planks 2 = some (.bipush 60) := by decide +kernel
theorem dX7_planks_4 : fet cX7_planks 4 = some (.invokestatic 90) := by decide +kernel
theorem dX7_planks_7 : fet cX7_planks 7 = some (.ifCond .eq 11) := by decide +kernel
theorem dX7_planks_10 : fet cX7_planks 10 = some (.aload_n 0) := by decide +kernel
theorem dX7_planks_11 : fet cX7_planks 11 = some (.iload_n 2) := by decide +kernel
theorem dX7_planks_12 : fet cX7_planks 12 = some (.invokevirtual 109) := by decide +kernel
theorem dX7_planks_15 : fet cX7_planks 15 = some (.ifCond .ne 5) := by decide +kernel
theorem dX7_planks_18 : fet cX7_planks 18 = some (.iconst (-1)) := by decide +kernel
theorem dX7_planks_19 : fet cX7_planks 19 = some (.ireturn) := by decide +kernel
theorem dX7_planks_20 : fet cX7_planks 20 = some (.aload_n 0) := by decide +kernel
theorem dX7_planks_21 : fet cX7_planks 21 = some (.iload_n 1) := by decide +kernel
theorem dX7_planks_22 : fet cX7_planks 22 = some (.invokevirtual 179) := by decide +kernel
theorem dX7_planks_25 : fet cX7_planks 25 = some (.aload_n 0) := by decide +kernel
theorem dX7_planks_26 : fet cX7_planks 26 = some (.iload_n 2) := by decide +kernel
theorem dX7_planks_27 : fet cX7_planks 27 = some (.invokevirtual 197) := by decide +kernel
theorem dX7_planks_30 : fet cX7_planks 30 = some (.ireturn) := by decide +kernel
theorem dX7_all_0 : fet cX7_all 0 = some (.iload_n 1) := by decide +kernel
theorem dX7_all_1 : fet cX7_all 1 = some (.iconst 0) := by decide +kernel
theorem dX7_all_2 : fet cX7_all 2 = some (.bipush 60) := by decide +kernel
theorem dX7_all_4 : fet cX7_all 4 = some (.invokestatic 90) := by decide +kernel
theorem dX7_all_7 : fet cX7_all 7 = some (.ifCond .eq 12) := by decide +kernel
theorem dX7_all_10 : fet cX7_all 10 = some (.iload_n 2) := by decide +kernel
theorem dX7_all_11 : fet cX7_all 11 = some (.iconst 0) := by decide +kernel
theorem dX7_all_12 : fet cX7_all 12 = some (.iconst 3) := by decide +kernel
theorem dX7_all_13 : fet cX7_all 13 = some (.invokestatic 90) := by decide +kernel
theorem dX7_all_16 : fet cX7_all 16 = some (.ifCond .ne 5) := by decide +kernel
theorem dX7_all_19 : fet cX7_all 19 = some (.iconst (-1)) := by decide +kernel
theorem dX7_all_20 : fet cX7_all 20 = some (.ireturn) := by decide +kernel
theorem dX7_all_21 : fet cX7_all 21 = some (.aload_n 0) := by decide +kernel
theorem dX7_all_22 : fet cX7_all 22 = some (.iload_n 1) := by decide +kernel
theorem dX7_all_23 : fet cX7_all 23 = some (.invokevirtual 179) := by decide +kernel
theorem dX7_all_26 : fet cX7_all 26 = some (.iload_n 2) := by decide +kernel
theorem dX7_all_27 : fet cX7_all 27 = some (.tableswitch 49 0 2 #[25, 33, 41]) := by decide +kernel
theorem dX7_all_52 : fet cX7_all 52 = some (.aload_n 0) := by decide +kernel
theorem dX7_all_53 : fet cX7_all 53 = some (.getfield 40) := by decide +kernel
theorem dX7_all_56 : fet cX7_all 56 = some (.getfield 200) := by decide +kernel
theorem dX7_all_59 : fet cX7_all 59 = some (.ireturn) := by decide +kernel
theorem dX7_all_60 : fet cX7_all 60 = some (.aload_n 0) := by decide +kernel
theorem dX7_all_61 : fet cX7_all 61 = some (.getfield 40) := by decide +kernel
theorem dX7_all_64 : fet cX7_all 64 = some (.getfield 203) := by decide +kernel
theorem dX7_all_67 : fet cX7_all 67 = some (.ireturn) := by decide +kernel
theorem dX7_all_68 : fet cX7_all 68 = some (.aload_n 0) := by decide +kernel
theorem dX7_all_69 : fet cX7_all 69 = some (.getfield 40) := by decide +kernel
theorem dX7_all_72 : fet cX7_all 72 = some (.getfield 206) := by decide +kernel
theorem dX7_all_75 : fet cX7_all 75 = some (.ireturn) := by decide +kernel
theorem dX7_all_76 : fet cX7_all 76 = some (.aload_n 0) := by decide +kernel
theorem dX7_all_77 : fet cX7_all 77 = some (.getfield 40) := by decide +kernel
theorem dX7_all_80 : fet cX7_all 80 = some (.getfield 209) := by decide +kernel
theorem dX7_all_83 : fet cX7_all 83 = some (.ireturn) := by decide +kernel
theorem dX7_goBehind_0 : fet cX7_goBehind 0 = some (.aload_n 0) := by decide +kernel
theorem dX7_goBehind_1 : fet cX7_goBehind 1 = some (.getfield 40) := by decide +kernel
theorem dX7_goBehind_4 : fet cX7_goBehind 4 = some (.aload_n 0) := by decide +kernel
theorem dX7_goBehind_5 : fet cX7_goBehind 5 = some (.getfield 23) := by decide +kernel
theorem dX7_goBehind_8 : fet cX7_goBehind 8 = some (.aload_n 0) := by decide +kernel
theorem dX7_goBehind_9 : fet cX7_goBehind 9 = some (.getfield 33) := by decide +kernel
theorem dX7_goBehind_12 : fet cX7_goBehind 12 = some (.invokevirtual 165) := by decide +kernel
theorem dX7_goBehind_15 : fet cX7_goBehind 15 = some (.aload_n 0) := by decide +kernel
theorem dX7_goBehind_16 : fet cX7_goBehind 16 = some (.getfield 40) := by decide +kernel
theorem dX7_goBehind_19 : fet cX7_goBehind 19 = some (.iload_n 1) := by decide +kernel
theorem dX7_goBehind_20 : fet cX7_goBehind 20 = some (.invokevirtual 212) := by decide +kernel
theorem dX7_goBehind_23 : fet cX7_goBehind 23 = some (.return_) := by decide +kernel
theorem dX7_planksThen_0 : fet cX7_planksThen 0 = some (.aload_n 0) := by decide +kernel
theorem dX7_planksThen_1 : fet cX7_planksThen 1 = some (.getfield 40) := by decide +kernel
theorem dX7_planksThen_4 : fet cX7_planksThen 4 = some (.aload_n 0) := by decide +kernel
theorem dX7_planksThen_5 : fet cX7_planksThen 5 = some (.getfield 40) := by decide +kernel
theorem dX7_planksThen_8 : fet cX7_planksThen 8 = some (.getfield 182) := by decide +kernel
theorem dX7_planksThen_11 : fet cX7_planksThen 11 = some (.getfield 169) := by decide +kernel
theorem dX7_planksThen_14 : fet cX7_planksThen 14 = some (.invokevirtual 172) := by decide +kernel
theorem dX7_planksThen_17 : fet cX7_planksThen 17 = some (.aload_n 0) := by decide +kernel
theorem dX7_planksThen_18 : fet cX7_planksThen 18 = some (.getfield 40) := by decide +kernel
theorem dX7_planksThen_21 : fet cX7_planksThen 21 = some (.getfield 131) := by decide +kernel
theorem dX7_planksThen_24 : fet cX7_planksThen 24 = some (.iload_n 1) := by decide +kernel
theorem dX7_planksThen_25 : fet cX7_planksThen 25 = some (.iaload) := by decide +kernel
theorem dX7_planksThen_26 : fet cX7_planksThen 26 = some (.ireturn) := by decide +kernel
theorem dX7_abbot_0 : fet cX7_abbot 0 = some (.iload_n 1) := by decide +kernel
theorem dX7_abbot_1 : fet cX7_abbot 1 = some (.iconst 1) := by decide +kernel
theorem dX7_abbot_2 : fet cX7_abbot 2 = some (.bipush 60) := by decide +kernel
theorem dX7_abbot_4 : fet cX7_abbot 4 = some (.invokestatic 90) := by decide +kernel
theorem dX7_abbot_7 : fet cX7_abbot 7 = some (.ifCond .ne 5) := by decide +kernel
theorem dX7_abbot_10 : fet cX7_abbot 10 = some (.iconst (-1)) := by decide +kernel
theorem dX7_abbot_11 : fet cX7_abbot 11 = some (.ireturn) := by decide +kernel
theorem dX7_abbot_12 : fet cX7_abbot 12 = some (.iconst 0) := by decide +kernel
theorem dX7_abbot_13 : fet cX7_abbot 13 = some (.istore_n 2) := by decide +kernel
theorem dX7_abbot_14 : fet cX7_abbot 14 = some (.iload_n 2) := by decide +kernel
theorem dX7_abbot_15 : fet cX7_abbot 15 = some (.bipush 20) := by decide +kernel
theorem dX7_abbot_17 : fet cX7_abbot 17 = some (.if_icmp .gt 20) := by decide +kernel
theorem dX7_abbot_20 : fet cX7_abbot 20 = some (.aload_n 0) := by decide +kernel
theorem dX7_abbot_21 : fet cX7_abbot 21 = some (.iload_n 2) := by decide +kernel
theorem dX7_abbot_22 : fet cX7_abbot 22 = some (.iload_n 1) := by decide +kernel
theorem dX7_abbot_23 : fet cX7_abbot 23 = some (.invokevirtual 215) := by decide +kernel
theorem dX7_abbot_26 : fet cX7_abbot 26 = some (.ifCond .eq 5) := by decide +kernel
theorem dX7_abbot_29 : fet cX7_abbot 29 = some (.iload_n 2) := by decide +kernel
theorem dX7_abbot_30 : fet cX7_abbot 30 = some (.ireturn) := by decide +kernel
theorem dX7_abbot_31 : fet cX7_abbot 31 = some (.iinc 2 1) := by decide +kernel
theorem dX7_abbot_34 : fet cX7_abbot 34 = some (.goto (-20)) := by decide +kernel
theorem dX7_abbot_37 : fet cX7_abbot 37 = some (.bipush (-4)) := by decide +kernel
theorem dX7_abbot_39 : fet cX7_abbot 39 = some (.ireturn) := by decide +kernel
theorem dX7_nobodyWaits_0 : fet cX7_nobodyWaits 0 = some (.aload_n 0) := by decide +kernel
theorem dX7_nobodyWaits_1 : fet cX7_nobodyWaits 1 = some (.getfield 40) := by decide +kernel
theorem dX7_nobodyWaits_4 : fet cX7_nobodyWaits 4 = some (.aload_n 0) := by decide +kernel
theorem dX7_nobodyWaits_5 : fet cX7_nobodyWaits 5 = some (.getfield 23) := by decide +kernel
theorem dX7_nobodyWaits_8 : fet cX7_nobodyWaits 8 = some (.aload_n 0) := by decide +kernel
theorem dX7_nobodyWaits_9 : fet cX7_nobodyWaits 9 = some (.getfield 33) := by decide +kernel
theorem dX7_nobodyWaits_12 : fet cX7_nobodyWaits 12 = some (.invokevirtual 165) := by decide +kernel
theorem dX7_nobodyWaits_15 : fet cX7_nobodyWaits 15 = some (.aload_n 0) := by decide +kernel
theorem dX7_nobodyWaits_16 : fet cX7_nobodyWaits 16 = some (.getfield 40) := by decide +kernel
theorem dX7_nobodyWaits_19 : fet cX7_nobodyWaits 19 = some (.iload_n 1) := by decide +kernel
theorem dX7_nobodyWaits_20 : fet cX7_nobodyWaits 20 = some (.putfield 219) := by decide +kernel
theorem dX7_nobodyWaits_23 : fet cX7_nobodyWaits 23 = some (.iconst 0) := by decide +kernel
theorem dX7_nobodyWaits_24 : fet cX7_nobodyWaits 24 = some (.istore_n 3) := by decide +kernel
theorem dX7_nobodyWaits_25 : fet cX7_nobodyWaits 25 = some (.iload_n 3) := by decide +kernel
theorem dX7_nobodyWaits_26 : fet cX7_nobodyWaits 26 = some (.iload_n 2) := by decide +kernel
theorem dX7_nobodyWaits_27 : fet cX7_nobodyWaits 27 = some (.if_icmp .ge 50) := by decide +kernel
theorem dX7_nobodyWaits_30 : fet cX7_nobodyWaits 30 = some (.aload_n 0) := by decide +kernel
theorem dX7_nobodyWaits_31 : fet cX7_nobodyWaits 31 = some (.getfield 40) := by decide +kernel
theorem dX7_nobodyWaits_34 : fet cX7_nobodyWaits 34 = some (.getfield 200) := by decide +kernel
theorem dX7_nobodyWaits_37 : fet cX7_nobodyWaits 37 = some (.istore 4) := by decide +kernel
theorem dX7_nobodyWaits_39 : fet cX7_nobodyWaits 39 = some (.aload_n 0) := by decide +kernel
theorem dX7_nobodyWaits_40 : fet cX7_nobodyWaits 40 = some (.getfield 40) := by decide +kernel
theorem dX7_nobodyWaits_43 : fet cX7_nobodyWaits 43 = some (.invokevirtual 222) := by decide +kernel
theorem dX7_nobodyWaits_46 : fet cX7_nobodyWaits 46 = some (.iload_n 3) := by decide +kernel
theorem dX7_nobodyWaits_47 : fet cX7_nobodyWaits 47 = some (.aload_n 0) := by decide +kernel
theorem dX7_nobodyWaits_48 : fet cX7_nobodyWaits 48 = some (.getfield 23) := by decide +kernel
theorem dX7_nobodyWaits_51 : fet cX7_nobodyWaits 51 = some (.getfield 225) := by decide +kernel
theorem dX7_nobodyWaits_54 : fet cX7_nobodyWaits 54 = some (.if_icmp .lt 17) := by decide +kernel
theorem dX7_nobodyWaits_57 : fet cX7_nobodyWaits 57 = some (.aload_n 0) := by decide +kernel
theorem dX7_nobodyWaits_58 : fet cX7_nobodyWaits 58 = some (.getfield 40) := by decide +kernel
theorem dX7_nobodyWaits_61 : fet cX7_nobodyWaits 61 = some (.getfield 200) := by decide +kernel
theorem dX7_nobodyWaits_64 : fet cX7_nobodyWaits 64 = some (.iload 4) := by decide +kernel
theorem dX7_nobodyWaits_66 : fet cX7_nobodyWaits 66 = some (.if_icmp .le 5) := by decide +kernel
theorem dX7_nobodyWaits_69 : fet cX7_nobodyWaits 69 = some (.iconst 0) := by decide +kernel
theorem dX7_nobodyWaits_70 : fet cX7_nobodyWaits 70 = some (.ireturn) := by decide +kernel
theorem dX7_nobodyWaits_71 : fet cX7_nobodyWaits 71 = some (.iinc 3 1) := by decide +kernel
theorem dX7_nobodyWaits_74 : fet cX7_nobodyWaits 74 = some (.goto (-49)) := by decide +kernel
theorem dX7_nobodyWaits_77 : fet cX7_nobodyWaits 77 = some (.iconst 1) := by decide +kernel
theorem dX7_nobodyWaits_78 : fet cX7_nobodyWaits 78 = some (.ireturn) := by decide +kernel
theorem dX7_oak_0 : fet cX7_oak 0 = some (.iload_n 1) := by decide +kernel
theorem dX7_oak_1 : fet cX7_oak 1 = some (.iconst 1) := by decide +kernel
theorem dX7_oak_2 : fet cX7_oak 2 = some (.bipush 60) := by decide +kernel
theorem dX7_oak_4 : fet cX7_oak 4 = some (.invokestatic 90) := by decide +kernel
theorem dX7_oak_7 : fet cX7_oak 7 = some (.ifCond .ne 5) := by decide +kernel
theorem dX7_oak_10 : fet cX7_oak 10 = some (.iconst (-1)) := by decide +kernel
theorem dX7_oak_11 : fet cX7_oak 11 = some (.ireturn) := by decide +kernel
theorem dX7_oak_12 : fet cX7_oak 12 = some (.bipush (-4)) := by decide +kernel
theorem dX7_oak_14 : fet cX7_oak 14 = some (.istore_n 2) := by decide +kernel
theorem dX7_oak_15 : fet cX7_oak 15 = some (.iconst 0) := by decide +kernel
theorem dX7_oak_16 : fet cX7_oak 16 = some (.istore_n 3) := by decide +kernel
theorem dX7_oak_17 : fet cX7_oak 17 = some (.iconst 0) := by decide +kernel
theorem dX7_oak_18 : fet cX7_oak 18 = some (.istore 4) := by decide +kernel
theorem dX7_oak_20 : fet cX7_oak 20 = some (.iload 4) := by decide +kernel
theorem dX7_oak_22 : fet cX7_oak 22 = some (.aload_n 0) := by decide +kernel
theorem dX7_oak_23 : fet cX7_oak 23 = some (.getfield 23) := by decide +kernel
theorem dX7_oak_26 : fet cX7_oak 26 = some (.getfield 97) := by decide +kernel
theorem dX7_oak_29 : fet cX7_oak 29 = some (.if_icmp .ge 94) := by decide +kernel
theorem dX7_oak_32 : fet cX7_oak 32 = some (.aload_n 0) := by decide +kernel
theorem dX7_oak_33 : fet cX7_oak 33 = some (.getfield 23) := by decide +kernel
theorem dX7_oak_36 : fet cX7_oak 36 = some (.getfield 125) := by decide +kernel
theorem dX7_oak_39 : fet cX7_oak 39 = some (.iload 4) := by decide +kernel
theorem dX7_oak_41 : fet cX7_oak 41 = some (.ishr) := by decide +kernel
theorem dX7_oak_42 : fet cX7_oak 42 = some (.iconst 1) := by decide +kernel
theorem dX7_oak_43 : fet cX7_oak 43 = some (.iand) := by decide +kernel
theorem dX7_oak_44 : fet cX7_oak 44 = some (.ifCond .eq 6) := by decide +kernel
theorem dX7_oak_47 : fet cX7_oak 47 = some (.goto 70) := by decide +kernel
theorem dX7_oak_50 : fet cX7_oak 50 = some (.aload_n 0) := by decide +kernel
theorem dX7_oak_51 : fet cX7_oak 51 = some (.getfield 40) := by decide +kernel
theorem dX7_oak_54 : fet cX7_oak 54 = some (.aload_n 0) := by decide +kernel
theorem dX7_oak_55 : fet cX7_oak 55 = some (.getfield 23) := by decide +kernel
theorem dX7_oak_58 : fet cX7_oak 58 = some (.aload_n 0) := by decide +kernel
theorem dX7_oak_59 : fet cX7_oak 59 = some (.getfield 33) := by decide +kernel
theorem dX7_oak_62 : fet cX7_oak 62 = some (.invokevirtual 165) := by decide +kernel
theorem dX7_oak_65 : fet cX7_oak 65 = some (.aload_n 0) := by decide +kernel
theorem dX7_oak_66 : fet cX7_oak 66 = some (.getfield 40) := by decide +kernel
theorem dX7_oak_69 : fet cX7_oak 69 = some (.dup) := by decide +kernel
theorem dX7_oak_70 : fet cX7_oak 70 = some (.getfield 228) := by decide +kernel
theorem dX7_oak_73 : fet cX7_oak 73 = some (.iconst 1) := by decide +kernel
theorem dX7_oak_74 : fet cX7_oak 74 = some (.iload 4) := by decide +kernel
theorem dX7_oak_76 : fet cX7_oak 76 = some (.ishl) := by decide +kernel
theorem dX7_oak_77 : fet cX7_oak 77 = some (.ior) := by decide +kernel
theorem dX7_oak_78 : fet cX7_oak 78 = some (.putfield 228) := by decide +kernel
theorem dX7_oak_81 : fet cX7_oak 81 = some (.aload_n 0) := by decide +kernel
theorem dX7_oak_82 : fet cX7_oak 82 = some (.getfield 40) := by decide +kernel
theorem dX7_oak_85 : fet cX7_oak 85 = some (.iload_n 1) := by decide +kernel
theorem dX7_oak_86 : fet cX7_oak 86 = some (.invokevirtual 212) := by decide +kernel
theorem dX7_oak_89 : fet cX7_oak 89 = some (.iload_n 2) := by decide +kernel
theorem dX7_oak_90 : fet cX7_oak 90 = some (.bipush (-4)) := by decide +kernel
theorem dX7_oak_92 : fet cX7_oak 92 = some (.if_icmp .eq 14) := by decide +kernel
theorem dX7_oak_95 : fet cX7_oak 95 = some (.aload_n 0) := by decide +kernel
theorem dX7_oak_96 : fet cX7_oak 96 = some (.getfield 40) := by decide +kernel
theorem dX7_oak_99 : fet cX7_oak 99 = some (.getfield 200) := by decide +kernel
theorem dX7_oak_102 : fet cX7_oak 102 = some (.iload_n 3) := by decide +kernel
theorem dX7_oak_103 : fet cX7_oak 103 = some (.if_icmp .ge 14) := by decide +kernel
theorem dX7_oak_106 : fet cX7_oak 106 = some (.iload 4) := by decide +kernel
theorem dX7_oak_108 : fet cX7_oak 108 = some (.istore_n 2) := by decide +kernel
theorem dX7_oak_109 : fet cX7_oak 109 = some (.aload_n 0) := by decide +kernel
theorem dX7_oak_110 : fet cX7_oak 110 = some (.getfield 40) := by decide +kernel
theorem dX7_oak_113 : fet cX7_oak 113 = some (.getfield 200) := by decide +kernel
theorem dX7_oak_116 : fet cX7_oak 116 = some (.istore_n 3) := by decide +kernel
theorem dX7_oak_117 : fet cX7_oak 117 = some (.iinc 4 1) := by decide +kernel
theorem dX7_oak_120 : fet cX7_oak 120 = some (.goto (-100)) := by decide +kernel
theorem dX7_oak_123 : fet cX7_oak 123 = some (.iload_n 2) := by decide +kernel
theorem dX7_oak_124 : fet cX7_oak 124 = some (.ireturn) := by decide +kernel
theorem dX7_delays_0 : fet cX7_delays 0 = some (.iload_n 1) := by decide +kernel
theorem dX7_delays_1 : fet cX7_delays 1 = some (.iconst 1) := by decide +kernel
theorem dX7_delays_2 : fet cX7_delays 2 = some (.bipush 60) := by decide +kernel
theorem dX7_delays_4 : fet cX7_delays 4 = some (.invokestatic 90) := by decide +kernel
theorem dX7_delays_7 : fet cX7_delays 7 = some (.ifCond .ne 5) := by decide +kernel
theorem dX7_delays_10 : fet cX7_delays 10 = some (.iconst (-1)) := by decide +kernel
theorem dX7_delays_11 : fet cX7_delays 11 = some (.ireturn) := by decide +kernel
theorem dX7_delays_12 : fet cX7_delays 12 = some (.bipush (-4)) := by decide +kernel
theorem dX7_delays_14 : fet cX7_delays 14 = some (.istore_n 2) := by decide +kernel
theorem dX7_delays_15 : fet cX7_delays 15 = some (.iconst 0) := by decide +kernel
theorem dX7_delays_16 : fet cX7_delays 16 = some (.istore_n 3) := by decide +kernel
theorem dX7_delays_17 : fet cX7_delays 17 = some (.iconst 1) := by decide +kernel
theorem dX7_delays_18 : fet cX7_delays 18 = some (.istore 4) := by decide +kernel
theorem dX7_delays_20 : fet cX7_delays 20 = some (.iload 4) := by decide +kernel
theorem dX7_delays_22 : fet cX7_delays 22 = some (.bipush 9) := by decide +kernel
theorem dX7_delays_24 : fet cX7_delays 24 = some (.if_icmp .gt 69) := by decide +kernel
theorem dX7_delays_27 : fet cX7_delays 27 = some (.aload_n 0) := by decide +kernel
theorem dX7_delays_28 : fet cX7_delays 28 = some (.getfield 40) := by decide +kernel
theorem dX7_delays_31 : fet cX7_delays 31 = some (.aload_n 0) := by decide +kernel
theorem dX7_delays_32 : fet cX7_delays 32 = some (.getfield 23) := by decide +kernel
theorem dX7_delays_35 : fet cX7_delays 35 = some (.aload_n 0) := by decide +kernel
theorem dX7_delays_36 : fet cX7_delays 36 = some (.getfield 33) := by decide +kernel
theorem dX7_delays_39 : fet cX7_delays 39 = some (.invokevirtual 165) := by decide +kernel
theorem dX7_delays_42 : fet cX7_delays 42 = some (.aload_n 0) := by decide +kernel
theorem dX7_delays_43 : fet cX7_delays 43 = some (.getfield 40) := by decide +kernel
theorem dX7_delays_46 : fet cX7_delays 46 = some (.iload 4) := by decide +kernel
theorem dX7_delays_48 : fet cX7_delays 48 = some (.putfield 229) := by decide +kernel
theorem dX7_delays_51 : fet cX7_delays 51 = some (.aload_n 0) := by decide +kernel
theorem dX7_delays_52 : fet cX7_delays 52 = some (.getfield 40) := by decide +kernel
theorem dX7_delays_55 : fet cX7_delays 55 = some (.iload_n 1) := by decide +kernel
theorem dX7_delays_56 : fet cX7_delays 56 = some (.invokevirtual 212) := by decide +kernel
theorem dX7_delays_59 : fet cX7_delays 59 = some (.iload_n 2) := by decide +kernel
theorem dX7_delays_60 : fet cX7_delays 60 = some (.bipush (-4)) := by decide +kernel
theorem dX7_delays_62 : fet cX7_delays 62 = some (.if_icmp .eq 14) := by decide +kernel
theorem dX7_delays_65 : fet cX7_delays 65 = some (.aload_n 0) := by decide +kernel
theorem dX7_delays_66 : fet cX7_delays 66 = some (.getfield 40) := by decide +kernel
theorem dX7_delays_69 : fet cX7_delays 69 = some (.getfield 200) := by decide +kernel
theorem dX7_delays_72 : fet cX7_delays 72 = some (.iload_n 3) := by decide +kernel
theorem dX7_delays_73 : fet cX7_delays 73 = some (.if_icmp .ge 14) := by decide +kernel
theorem dX7_delays_76 : fet cX7_delays 76 = some (.iload 4) := by decide +kernel
theorem dX7_delays_78 : fet cX7_delays 78 = some (.istore_n 2) := by decide +kernel
theorem dX7_delays_79 : fet cX7_delays 79 = some (.aload_n 0) := by decide +kernel
theorem dX7_delays_80 : fet cX7_delays 80 = some (.getfield 40) := by decide +kernel
theorem dX7_delays_83 : fet cX7_delays 83 = some (.getfield 200) := by decide +kernel
theorem dX7_delays_86 : fet cX7_delays 86 = some (.istore_n 3) := by decide +kernel
theorem dX7_delays_87 : fet cX7_delays 87 = some (.iinc 4 1) := by decide +kernel
theorem dX7_delays_90 : fet cX7_delays 90 = some (.goto (-70)) := by decide +kernel
theorem dX7_delays_93 : fet cX7_delays 93 = some (.iload_n 2) := by decide +kernel
theorem dX7_delays_94 : fet cX7_delays 94 = some (.ireturn) := by decide +kernel
theorem dX7_watch_0 : fet cX7_watch 0 = some (.iload_n 1) := by decide +kernel
theorem dX7_watch_1 : fet cX7_watch 1 = some (.iconst 1) := by decide +kernel
theorem dX7_watch_2 : fet cX7_watch 2 = some (.bipush 60) := by decide +kernel
theorem dX7_watch_4 : fet cX7_watch 4 = some (.invokestatic 90) := by decide +kernel
theorem dX7_watch_7 : fet cX7_watch 7 = some (.ifCond .ne 5) := by decide +kernel
theorem dX7_watch_10 : fet cX7_watch 10 = some (.iconst (-1)) := by decide +kernel
theorem dX7_watch_11 : fet cX7_watch 11 = some (.ireturn) := by decide +kernel
theorem dX7_watch_12 : fet cX7_watch 12 = some (.bipush (-4)) := by decide +kernel
theorem dX7_watch_14 : fet cX7_watch 14 = some (.istore_n 2) := by decide +kernel
theorem dX7_watch_15 : fet cX7_watch 15 = some (.iconst 0) := by decide +kernel
theorem dX7_watch_16 : fet cX7_watch 16 = some (.istore_n 3) := by decide +kernel
theorem dX7_watch_17 : fet cX7_watch 17 = some (.iconst 0) := by decide +kernel
theorem dX7_watch_18 : fet cX7_watch 18 = some (.istore 4) := by decide +kernel
theorem dX7_watch_20 : fet cX7_watch 20 = some (.iload 4) := by decide +kernel
theorem dX7_watch_22 : fet cX7_watch 22 = some (.aload_n 0) := by decide +kernel
theorem dX7_watch_23 : fet cX7_watch 23 = some (.getfield 23) := by decide +kernel
theorem dX7_watch_26 : fet cX7_watch 26 = some (.getfield 97) := by decide +kernel
theorem dX7_watch_29 : fet cX7_watch 29 = some (.if_icmp .ge 79) := by decide +kernel
theorem dX7_watch_32 : fet cX7_watch 32 = some (.aload_n 0) := by decide +kernel
theorem dX7_watch_33 : fet cX7_watch 33 = some (.getfield 40) := by decide +kernel
theorem dX7_watch_36 : fet cX7_watch 36 = some (.aload_n 0) := by decide +kernel
theorem dX7_watch_37 : fet cX7_watch 37 = some (.getfield 23) := by decide +kernel
theorem dX7_watch_40 : fet cX7_watch 40 = some (.aload_n 0) := by decide +kernel
theorem dX7_watch_41 : fet cX7_watch 41 = some (.getfield 33) := by decide +kernel
theorem dX7_watch_44 : fet cX7_watch 44 = some (.invokevirtual 165) := by decide +kernel
theorem dX7_watch_47 : fet cX7_watch 47 = some (.aload_n 0) := by decide +kernel
theorem dX7_watch_48 : fet cX7_watch 48 = some (.getfield 40) := by decide +kernel
theorem dX7_watch_51 : fet cX7_watch 51 = some (.getfield 182) := by decide +kernel
theorem dX7_watch_54 : fet cX7_watch 54 = some (.dup) := by decide +kernel
theorem dX7_watch_55 : fet cX7_watch 55 = some (.getfield 128) := by decide +kernel
theorem dX7_watch_58 : fet cX7_watch 58 = some (.iconst 1) := by decide +kernel
theorem dX7_watch_59 : fet cX7_watch 59 = some (.iload 4) := by decide +kernel
theorem dX7_watch_61 : fet cX7_watch 61 = some (.ishl) := by decide +kernel
theorem dX7_watch_62 : fet cX7_watch 62 = some (.ior) := by decide +kernel
theorem dX7_watch_63 : fet cX7_watch 63 = some (.putfield 128) := by decide +kernel
theorem dX7_watch_66 : fet cX7_watch 66 = some (.aload_n 0) := by decide +kernel
theorem dX7_watch_67 : fet cX7_watch 67 = some (.getfield 40) := by decide +kernel
theorem dX7_watch_70 : fet cX7_watch 70 = some (.iload_n 1) := by decide +kernel
theorem dX7_watch_71 : fet cX7_watch 71 = some (.invokevirtual 212) := by decide +kernel
theorem dX7_watch_74 : fet cX7_watch 74 = some (.iload_n 2) := by decide +kernel
theorem dX7_watch_75 : fet cX7_watch 75 = some (.bipush (-4)) := by decide +kernel
theorem dX7_watch_77 : fet cX7_watch 77 = some (.if_icmp .eq 14) := by decide +kernel
theorem dX7_watch_80 : fet cX7_watch 80 = some (.aload_n 0) := by decide +kernel
theorem dX7_watch_81 : fet cX7_watch 81 = some (.getfield 40) := by decide +kernel
theorem dX7_watch_84 : fet cX7_watch 84 = some (.getfield 203) := by decide +kernel
theorem dX7_watch_87 : fet cX7_watch 87 = some (.iload_n 3) := by decide +kernel
theorem dX7_watch_88 : fet cX7_watch 88 = some (.if_icmp .ge 14) := by decide +kernel
theorem dX7_watch_91 : fet cX7_watch 91 = some (.iload 4) := by decide +kernel
theorem dX7_watch_93 : fet cX7_watch 93 = some (.istore_n 2) := by decide +kernel
theorem dX7_watch_94 : fet cX7_watch 94 = some (.aload_n 0) := by decide +kernel
theorem dX7_watch_95 : fet cX7_watch 95 = some (.getfield 40) := by decide +kernel
theorem dX7_watch_98 : fet cX7_watch 98 = some (.getfield 203) := by decide +kernel
theorem dX7_watch_101 : fet cX7_watch 101 = some (.istore_n 3) := by decide +kernel
theorem dX7_watch_102 : fet cX7_watch 102 = some (.iinc 4 1) := by decide +kernel
theorem dX7_watch_105 : fet cX7_watch 105 = some (.goto (-85)) := by decide +kernel
theorem dX7_watch_108 : fet cX7_watch 108 = some (.iload_n 2) := by decide +kernel
theorem dX7_watch_109 : fet cX7_watch 109 = some (.ireturn) := by decide +kernel
theorem dX7_sent_0 : fet cX7_sent 0 = some (.aload_n 0) := by decide +kernel
theorem dX7_sent_1 : fet cX7_sent 1 = some (.iload_n 1) := by decide +kernel
theorem dX7_sent_2 : fet cX7_sent 2 = some (.invokevirtual 230) := by decide +kernel
theorem dX7_sent_5 : fet cX7_sent 5 = some (.ifCond .eq 31) := by decide +kernel
theorem dX7_sent_8 : fet cX7_sent 8 = some (.aload_n 0) := by decide +kernel
theorem dX7_sent_9 : fet cX7_sent 9 = some (.iload_n 2) := by decide +kernel
theorem dX7_sent_10 : fet cX7_sent 10 = some (.invokevirtual 230) := by decide +kernel
theorem dX7_sent_13 : fet cX7_sent 13 = some (.ifCond .eq 23) := by decide +kernel
theorem dX7_sent_16 : fet cX7_sent 16 = some (.iload_n 3) := by decide +kernel
theorem dX7_sent_17 : fet cX7_sent 17 = some (.iconst 1) := by decide +kernel
theorem dX7_sent_18 : fet cX7_sent 18 = some (.bipush 40) := by decide +kernel
theorem dX7_sent_20 : fet cX7_sent 20 = some (.invokestatic 90) := by decide +kernel
theorem dX7_sent_23 : fet cX7_sent 23 = some (.ifCond .eq 13) := by decide +kernel
theorem dX7_sent_26 : fet cX7_sent 26 = some (.iload 4) := by decide +kernel
theorem dX7_sent_28 : fet cX7_sent 28 = some (.iconst 0) := by decide +kernel
theorem dX7_sent_29 : fet cX7_sent 29 = some (.iconst 1) := by decide +kernel
theorem dX7_sent_30 : fet cX7_sent 30 = some (.invokestatic 90) := by decide +kernel
theorem dX7_sent_33 : fet cX7_sent 33 = some (.ifCond .ne 5) := by decide +kernel
theorem dX7_sent_36 : fet cX7_sent 36 = some (.iconst (-1)) := by decide +kernel
theorem dX7_sent_37 : fet cX7_sent 37 = some (.ireturn) := by decide +kernel
theorem dX7_sent_38 : fet cX7_sent 38 = some (.iload_n 1) := by decide +kernel
theorem dX7_sent_39 : fet cX7_sent 39 = some (.iload_n 2) := by decide +kernel
theorem dX7_sent_40 : fet cX7_sent 40 = some (.if_icmp .ne 5) := by decide +kernel
theorem dX7_sent_43 : fet cX7_sent 43 = some (.iconst 0) := by decide +kernel
theorem dX7_sent_44 : fet cX7_sent 44 = some (.ireturn) := by decide +kernel
theorem dX7_sent_45 : fet cX7_sent 45 = some (.aload_n 0) := by decide +kernel
theorem dX7_sent_46 : fet cX7_sent 46 = some (.getfield 40) := by decide +kernel
theorem dX7_sent_49 : fet cX7_sent 49 = some (.aload_n 0) := by decide +kernel
theorem dX7_sent_50 : fet cX7_sent 50 = some (.getfield 23) := by decide +kernel
theorem dX7_sent_53 : fet cX7_sent 53 = some (.aload_n 0) := by decide +kernel
theorem dX7_sent_54 : fet cX7_sent 54 = some (.getfield 33) := by decide +kernel
theorem dX7_sent_57 : fet cX7_sent 57 = some (.invokevirtual 165) := by decide +kernel
theorem dX7_sent_60 : fet cX7_sent 60 = some (.aload_n 0) := by decide +kernel
theorem dX7_sent_61 : fet cX7_sent 61 = some (.getfield 47) := by decide +kernel
theorem dX7_sent_64 : fet cX7_sent 64 = some (.aload_n 0) := by decide +kernel
theorem dX7_sent_65 : fet cX7_sent 65 = some (.getfield 40) := by decide +kernel
theorem dX7_sent_68 : fet cX7_sent 68 = some (.iload_n 1) := by decide +kernel
theorem dX7_sent_69 : fet cX7_sent 69 = some (.iload_n 2) := by decide +kernel
theorem dX7_sent_70 : fet cX7_sent 70 = some (.iload_n 3) := by decide +kernel
theorem dX7_sent_71 : fet cX7_sent 71 = some (.invokevirtual 233) := by decide +kernel
theorem dX7_sent_74 : fet cX7_sent 74 = some (.iload 4) := by decide +kernel
theorem dX7_sent_76 : fet cX7_sent 76 = some (.ifCond .ne 13) := by decide +kernel
theorem dX7_sent_79 : fet cX7_sent 79 = some (.aload_n 0) := by decide +kernel
theorem dX7_sent_80 : fet cX7_sent 80 = some (.getfield 47) := by decide +kernel
theorem dX7_sent_83 : fet cX7_sent 83 = some (.getfield 237) := by decide +kernel
theorem dX7_sent_86 : fet cX7_sent 86 = some (.goto 10) := by decide +kernel
theorem dX7_sent_89 : fet cX7_sent 89 = some (.aload_n 0) := by decide +kernel
theorem dX7_sent_90 : fet cX7_sent 90 = some (.getfield 47) := by decide +kernel
theorem dX7_sent_93 : fet cX7_sent 93 = some (.getfield 240) := by decide +kernel
theorem dX7_sent_96 : fet cX7_sent 96 = some (.ireturn) := by decide +kernel
theorem dX7_rumour_0 : fet cX7_rumour 0 = some (.aload_n 0) := by decide +kernel
theorem dX7_rumour_1 : fet cX7_rumour 1 = some (.iload_n 1) := by decide +kernel
theorem dX7_rumour_2 : fet cX7_rumour 2 = some (.invokevirtual 140) := by decide +kernel
theorem dX7_rumour_5 : fet cX7_rumour 5 = some (.ifCond .eq 31) := by decide +kernel
theorem dX7_rumour_8 : fet cX7_rumour 8 = some (.aload_n 0) := by decide +kernel
theorem dX7_rumour_9 : fet cX7_rumour 9 = some (.iload_n 2) := by decide +kernel
theorem dX7_rumour_10 : fet cX7_rumour 10 = some (.invokevirtual 109) := by decide +kernel
theorem dX7_rumour_13 : fet cX7_rumour 13 = some (.ifCond .eq 23) := by decide +kernel
theorem dX7_rumour_16 : fet cX7_rumour 16 = some (.iload_n 3) := by decide +kernel
theorem dX7_rumour_17 : fet cX7_rumour 17 = some (.iconst 0) := by decide +kernel
theorem dX7_rumour_18 : fet cX7_rumour 18 = some (.bipush 60) := by decide +kernel
theorem dX7_rumour_20 : fet cX7_rumour 20 = some (.invokestatic 90) := by decide +kernel
theorem dX7_rumour_23 : fet cX7_rumour 23 = some (.ifCond .eq 13) := by decide +kernel
theorem dX7_rumour_26 : fet cX7_rumour 26 = some (.iload 4) := by decide +kernel
theorem dX7_rumour_28 : fet cX7_rumour 28 = some (.iconst 0) := by decide +kernel
theorem dX7_rumour_29 : fet cX7_rumour 29 = some (.iconst 1) := by decide +kernel
theorem dX7_rumour_30 : fet cX7_rumour 30 = some (.invokestatic 90) := by decide +kernel
theorem dX7_rumour_33 : fet cX7_rumour 33 = some (.ifCond .ne 5) := by decide +kernel
theorem dX7_rumour_36 : fet cX7_rumour 36 = some (.iconst (-1)) := by decide +kernel
theorem dX7_rumour_37 : fet cX7_rumour 37 = some (.ireturn) := by decide +kernel
theorem dX7_rumour_38 : fet cX7_rumour 38 = some (.aload_n 0) := by decide +kernel
theorem dX7_rumour_39 : fet cX7_rumour 39 = some (.getfield 40) := by decide +kernel
theorem dX7_rumour_42 : fet cX7_rumour 42 = some (.aload_n 0) := by decide +kernel
theorem dX7_rumour_43 : fet cX7_rumour 43 = some (.getfield 23) := by decide +kernel
theorem dX7_rumour_46 : fet cX7_rumour 46 = some (.aload_n 0) := by decide +kernel
theorem dX7_rumour_47 : fet cX7_rumour 47 = some (.getfield 33) := by decide +kernel
theorem dX7_rumour_50 : fet cX7_rumour 50 = some (.invokevirtual 165) := by decide +kernel
theorem dX7_rumour_53 : fet cX7_rumour 53 = some (.aload_n 0) := by decide +kernel
theorem dX7_rumour_54 : fet cX7_rumour 54 = some (.getfield 40) := by decide +kernel
theorem dX7_rumour_57 : fet cX7_rumour 57 = some (.iload_n 2) := by decide +kernel
theorem dX7_rumour_58 : fet cX7_rumour 58 = some (.putfield 243) := by decide +kernel
theorem dX7_rumour_61 : fet cX7_rumour 61 = some (.aload_n 0) := by decide +kernel
theorem dX7_rumour_62 : fet cX7_rumour 62 = some (.getfield 40) := by decide +kernel
theorem dX7_rumour_65 : fet cX7_rumour 65 = some (.iconst 1) := by decide +kernel
theorem dX7_rumour_66 : fet cX7_rumour 66 = some (.iload_n 1) := by decide +kernel
theorem dX7_rumour_67 : fet cX7_rumour 67 = some (.ishl) := by decide +kernel
theorem dX7_rumour_68 : fet cX7_rumour 68 = some (.putfield 246) := by decide +kernel
theorem dX7_rumour_71 : fet cX7_rumour 71 = some (.aload_n 0) := by decide +kernel
theorem dX7_rumour_72 : fet cX7_rumour 72 = some (.getfield 40) := by decide +kernel
theorem dX7_rumour_75 : fet cX7_rumour 75 = some (.iload_n 3) := by decide +kernel
theorem dX7_rumour_76 : fet cX7_rumour 76 = some (.invokevirtual 212) := by decide +kernel
theorem dX7_rumour_79 : fet cX7_rumour 79 = some (.iload 4) := by decide +kernel
theorem dX7_rumour_81 : fet cX7_rumour 81 = some (.ifCond .ne 13) := by decide +kernel
theorem dX7_rumour_84 : fet cX7_rumour 84 = some (.aload_n 0) := by decide +kernel
theorem dX7_rumour_85 : fet cX7_rumour 85 = some (.getfield 40) := by decide +kernel
theorem dX7_rumour_88 : fet cX7_rumour 88 = some (.getfield 246) := by decide +kernel
theorem dX7_rumour_91 : fet cX7_rumour 91 = some (.goto 8) := by decide +kernel
theorem dX7_rumour_94 : fet cX7_rumour 94 = some (.aload_n 0) := by decide +kernel
theorem dX7_rumour_95 : fet cX7_rumour 95 = some (.iload_n 2) := by decide +kernel
theorem dX7_rumour_96 : fet cX7_rumour 96 = some (.invokevirtual 197) := by decide +kernel
theorem dX7_rumour_99 : fet cX7_rumour 99 = some (.ireturn) := by decide +kernel
theorem dX7_enter_0 : fet cX7_enter 0 = some (.aload_n 0) := by decide +kernel
theorem dX7_enter_1 : fet cX7_enter 1 = some (.iload_n 1) := by decide +kernel
theorem dX7_enter_2 : fet cX7_enter 2 = some (.invokevirtual 109) := by decide +kernel
theorem dX7_enter_5 : fet cX7_enter 5 = some (.ifCond .eq 23) := by decide +kernel
theorem dX7_enter_8 : fet cX7_enter 8 = some (.iload_n 2) := by decide +kernel
theorem dX7_enter_9 : fet cX7_enter 9 = some (.iconst 0) := by decide +kernel
theorem dX7_enter_10 : fet cX7_enter 10 = some (.bipush 99) := by decide +kernel
theorem dX7_enter_12 : fet cX7_enter 12 = some (.invokestatic 90) := by decide +kernel
theorem dX7_enter_15 : fet cX7_enter 15 = some (.ifCond .eq 13) := by decide +kernel
theorem dX7_enter_18 : fet cX7_enter 18 = some (.iload_n 3) := by decide +kernel
theorem dX7_enter_19 : fet cX7_enter 19 = some (.iconst 1) := by decide +kernel
theorem dX7_enter_20 : fet cX7_enter 20 = some (.bipush 80) := by decide +kernel
theorem dX7_enter_22 : fet cX7_enter 22 = some (.invokestatic 90) := by decide +kernel
theorem dX7_enter_25 : fet cX7_enter 25 = some (.ifCond .ne 5) := by decide +kernel
theorem dX7_enter_28 : fet cX7_enter 28 = some (.iconst (-1)) := by decide +kernel
theorem dX7_enter_29 : fet cX7_enter 29 = some (.ireturn) := by decide +kernel
theorem dX7_enter_30 : fet cX7_enter 30 = some (.aload_n 0) := by decide +kernel
theorem dX7_enter_31 : fet cX7_enter 31 = some (.getfield 54) := by decide +kernel
theorem dX7_enter_34 : fet cX7_enter 34 = some (.iload_n 1) := by decide +kernel
theorem dX7_enter_35 : fet cX7_enter 35 = some (.iload_n 2) := by decide +kernel
theorem dX7_enter_36 : fet cX7_enter 36 = some (.iload_n 3) := by decide +kernel
theorem dX7_enter_37 : fet cX7_enter 37 = some (.iload 4) := by decide +kernel
theorem dX7_enter_39 : fet cX7_enter 39 = some (.invokevirtual 249) := by decide +kernel
theorem dX7_enter_42 : fet cX7_enter 42 = some (.ireturn) := by decide +kernel
theorem dX7_close_0 : fet cX7_close 0 = some (.aload_n 0) := by decide +kernel
theorem dX7_close_1 : fet cX7_close 1 = some (.getfield 54) := by decide +kernel
theorem dX7_close_4 : fet cX7_close 4 = some (.getfield 100) := by decide +kernel
theorem dX7_close_7 : fet cX7_close 7 = some (.istore_n 1) := by decide +kernel
theorem dX7_close_8 : fet cX7_close 8 = some (.aload_n 0) := by decide +kernel
theorem dX7_close_9 : fet cX7_close 9 = some (.getfield 54) := by decide +kernel
theorem dX7_close_12 : fet cX7_close 12 = some (.iconst 0) := by decide +kernel
theorem dX7_close_13 : fet cX7_close 13 = some (.putfield 100) := by decide +kernel
theorem dX7_close_16 : fet cX7_close 16 = some (.iload_n 1) := by decide +kernel
theorem dX7_close_17 : fet cX7_close 17 = some (.ireturn) := by decide +kernel
theorem dX7_span_0 : fet cX7_span 0 = some (.aload_n 0) := by decide +kernel
theorem dX7_span_1 : fet cX7_span 1 = some (.iload_n 1) := by decide +kernel
theorem dX7_span_2 : fet cX7_span 2 = some (.invokevirtual 109) := by decide +kernel
theorem dX7_span_5 : fet cX7_span 5 = some (.ifCond .eq 22) := by decide +kernel
theorem dX7_span_8 : fet cX7_span 8 = some (.iload_n 2) := by decide +kernel
theorem dX7_span_9 : fet cX7_span 9 = some (.iconst 0) := by decide +kernel
theorem dX7_span_10 : fet cX7_span 10 = some (.bipush 99) := by decide +kernel
theorem dX7_span_12 : fet cX7_span 12 = some (.invokestatic 90) := by decide +kernel
theorem dX7_span_15 : fet cX7_span 15 = some (.ifCond .eq 12) := by decide +kernel
theorem dX7_span_18 : fet cX7_span 18 = some (.iload_n 3) := by decide +kernel
theorem dX7_span_19 : fet cX7_span 19 = some (.iconst 0) := by decide +kernel
theorem dX7_span_20 : fet cX7_span 20 = some (.iconst 1) := by decide +kernel
theorem dX7_span_21 : fet cX7_span 21 = some (.invokestatic 90) := by decide +kernel
theorem dX7_span_24 : fet cX7_span 24 = some (.ifCond .ne 5) := by decide +kernel
theorem dX7_span_27 : fet cX7_span 27 = some (.iconst (-1)) := by decide +kernel
theorem dX7_span_28 : fet cX7_span 28 = some (.ireturn) := by decide +kernel
theorem dX7_span_29 : fet cX7_span 29 = some (.aload_n 0) := by decide +kernel
theorem dX7_span_30 : fet cX7_span 30 = some (.getfield 54) := by decide +kernel
theorem dX7_span_33 : fet cX7_span 33 = some (.iload_n 1) := by decide +kernel
theorem dX7_span_34 : fet cX7_span 34 = some (.iload_n 2) := by decide +kernel
theorem dX7_span_35 : fet cX7_span 35 = some (.invokevirtual 253) := by decide +kernel
theorem dX7_span_38 : fet cX7_span 38 = some (.istore 4) := by decide +kernel
theorem dX7_span_40 : fet cX7_span 40 = some (.aload_n 0) := by decide +kernel
theorem dX7_span_41 : fet cX7_span 41 = some (.getfield 54) := by decide +kernel
theorem dX7_span_44 : fet cX7_span 44 = some (.iload_n 1) := by decide +kernel
theorem dX7_span_45 : fet cX7_span 45 = some (.iload_n 2) := by decide +kernel
theorem dX7_span_46 : fet cX7_span 46 = some (.invokevirtual 257) := by decide +kernel
theorem dX7_span_49 : fet cX7_span 49 = some (.istore 5) := by decide +kernel
theorem dX7_span_51 : fet cX7_span 51 = some (.iload 4) := by decide +kernel
theorem dX7_span_53 : fet cX7_span 53 = some (.iload 5) := by decide +kernel
theorem dX7_span_55 : fet cX7_span 55 = some (.if_icmp .le 6) := by decide +kernel
theorem dX7_span_58 : fet cX7_span 58 = some (.bipush (-4)) := by decide +kernel
theorem dX7_span_60 : fet cX7_span 60 = some (.ireturn) := by decide +kernel
theorem dX7_span_61 : fet cX7_span 61 = some (.iload_n 3) := by decide +kernel
theorem dX7_span_62 : fet cX7_span 62 = some (.ifCond .ne 8) := by decide +kernel
theorem dX7_span_65 : fet cX7_span 65 = some (.iload 4) := by decide +kernel
theorem dX7_span_67 : fet cX7_span 67 = some (.goto 5) := by decide +kernel
theorem dX7_span_70 : fet cX7_span 70 = some (.iload 5) := by decide +kernel
theorem dX7_span_72 : fet cX7_span 72 = some (.ireturn) := by decide +kernel
theorem dX7_cart_0 : fet cX7_cart 0 = some (.aload_n 0) := by decide +kernel
theorem dX7_cart_1 : fet cX7_cart 1 = some (.iload_n 1) := by decide +kernel
theorem dX7_cart_2 : fet cX7_cart 2 = some (.invokevirtual 109) := by decide +kernel
theorem dX7_cart_5 : fet cX7_cart 5 = some (.ifCond .eq 25) := by decide +kernel
theorem dX7_cart_8 : fet cX7_cart 8 = some (.aload_n 0) := by decide +kernel
theorem dX7_cart_9 : fet cX7_cart 9 = some (.iload_n 2) := by decide +kernel
theorem dX7_cart_10 : fet cX7_cart 10 = some (.invokevirtual 109) := by decide +kernel
theorem dX7_cart_13 : fet cX7_cart 13 = some (.ifCond .eq 17) := by decide +kernel
theorem dX7_cart_16 : fet cX7_cart 16 = some (.iload_n 1) := by decide +kernel
theorem dX7_cart_17 : fet cX7_cart 17 = some (.iload_n 2) := by decide +kernel
theorem dX7_cart_18 : fet cX7_cart 18 = some (.if_icmp .eq 12) := by decide +kernel
theorem dX7_cart_21 : fet cX7_cart 21 = some (.iload_n 3) := by decide +kernel
theorem dX7_cart_22 : fet cX7_cart 22 = some (.iconst 0) := by decide +kernel
theorem dX7_cart_23 : fet cX7_cart 23 = some (.iconst 1) := by decide +kernel
theorem dX7_cart_24 : fet cX7_cart 24 = some (.invokestatic 90) := by decide +kernel
theorem dX7_cart_27 : fet cX7_cart 27 = some (.ifCond .ne 5) := by decide +kernel
theorem dX7_cart_30 : fet cX7_cart 30 = some (.iconst (-1)) := by decide +kernel
theorem dX7_cart_31 : fet cX7_cart 31 = some (.ireturn) := by decide +kernel
theorem dX7_cart_32 : fet cX7_cart 32 = some (.aload_n 0) := by decide +kernel
theorem dX7_cart_33 : fet cX7_cart 33 = some (.invokevirtual 113) := by decide +kernel
theorem dX7_cart_36 : fet cX7_cart 36 = some (.iconst 0) := by decide +kernel
theorem dX7_cart_37 : fet cX7_cart 37 = some (.istore 4) := by decide +kernel
theorem dX7_cart_39 : fet cX7_cart 39 = some (.bipush (-4)) := by decide +kernel
theorem dX7_cart_41 : fet cX7_cart 41 = some (.istore 5) := by decide +kernel
theorem dX7_cart_43 : fet cX7_cart 43 = some (.bipush 40) := by decide +kernel
theorem dX7_cart_45 : fet cX7_cart 45 = some (.istore 6) := by decide +kernel
theorem dX7_cart_47 : fet cX7_cart 47 = some (.iload 6) := by decide +kernel
theorem dX7_cart_49 : fet cX7_cart 49 = some (.iconst 1) := by decide +kernel
theorem dX7_cart_50 : fet cX7_cart 50 = some (.if_icmp .lt 64) := by decide +kernel
theorem dX7_cart_53 : fet cX7_cart 53 = some (.iconst 2) := by decide +kernel
theorem dX7_cart_54 : fet cX7_cart 54 = some (.iload 6) := by decide +kernel
theorem dX7_cart_56 : fet cX7_cart 56 = some (.imul) := by decide +kernel
theorem dX7_cart_57 : fet cX7_cart 57 = some (.istore 7) := by decide +kernel
theorem dX7_cart_59 : fet cX7_cart 59 = some (.iload 7) := by decide +kernel
theorem dX7_cart_61 : fet cX7_cart 61 = some (.aload_n 0) := by decide +kernel
theorem dX7_cart_62 : fet cX7_cart 62 = some (.getfield 40) := by decide +kernel
theorem dX7_cart_65 : fet cX7_cart 65 = some (.getfield 131) := by decide +kernel
theorem dX7_cart_68 : fet cX7_cart 68 = some (.iload_n 1) := by decide +kernel
theorem dX7_cart_69 : fet cX7_cart 69 = some (.iaload) := by decide +kernel
theorem dX7_cart_70 : fet cX7_cart 70 = some (.if_icmp .gt 38) := by decide +kernel
theorem dX7_cart_73 : fet cX7_cart 73 = some (.iload 7) := by decide +kernel
theorem dX7_cart_75 : fet cX7_cart 75 = some (.aload_n 0) := by decide +kernel
theorem dX7_cart_76 : fet cX7_cart 76 = some (.getfield 40) := by decide +kernel
theorem dX7_cart_79 : fet cX7_cart 79 = some (.getfield 131) := by decide +kernel
theorem dX7_cart_82 : fet cX7_cart 82 = some (.iload_n 2) := by decide +kernel
theorem dX7_cart_83 : fet cX7_cart 83 = some (.iaload) := by decide +kernel
theorem dX7_cart_84 : fet cX7_cart 84 = some (.if_icmp .le 24) := by decide +kernel
theorem dX7_cart_87 : fet cX7_cart 87 = some (.iload 7) := by decide +kernel
theorem dX7_cart_89 : fet cX7_cart 89 = some (.aload_n 0) := by decide +kernel
theorem dX7_cart_90 : fet cX7_cart 90 = some (.getfield 40) := by decide +kernel
theorem dX7_cart_93 : fet cX7_cart 93 = some (.getfield 134) := by decide +kernel
theorem dX7_cart_96 : fet cX7_cart 96 = some (.iload_n 2) := by decide +kernel
theorem dX7_cart_97 : fet cX7_cart 97 = some (.iaload) := by decide +kernel
theorem dX7_cart_98 : fet cX7_cart 98 = some (.if_icmp .gt 10) := by decide +kernel
theorem dX7_cart_101 : fet cX7_cart 101 = some (.iinc 4 1) := by decide +kernel
theorem dX7_cart_104 : fet cX7_cart 104 = some (.iload 6) := by decide +kernel
theorem dX7_cart_106 : fet cX7_cart 106 = some (.istore 5) := by decide +kernel
theorem dX7_cart_108 : fet cX7_cart 108 = some (.iinc 6 (-1)) := by decide +kernel
theorem dX7_cart_111 : fet cX7_cart 111 = some (.goto (-64)) := by decide +kernel
theorem dX7_cart_114 : fet cX7_cart 114 = some (.iload_n 3) := by decide +kernel
theorem dX7_cart_115 : fet cX7_cart 115 = some (.ifCond .ne 8) := by decide +kernel
theorem dX7_cart_118 : fet cX7_cart 118 = some (.iload 4) := by decide +kernel
theorem dX7_cart_120 : fet cX7_cart 120 = some (.goto 5) := by decide +kernel
theorem dX7_cart_123 : fet cX7_cart 123 = some (.iload 5) := by decide +kernel
theorem dX7_cart_125 : fet cX7_cart 125 = some (.ireturn) := by decide +kernel
theorem dX7_year_0 : fet cX7_year 0 = some (.iload_n 1) := by decide +kernel
theorem dX7_year_1 : fet cX7_year 1 = some (.iconst 0) := by decide +kernel
theorem dX7_year_2 : fet cX7_year 2 = some (.sipush 9999) := by decide +kernel
theorem dX7_year_5 : fet cX7_year 5 = some (.invokestatic 90) := by decide +kernel
theorem dX7_year_8 : fet cX7_year 8 = some (.ifCond .eq 22) := by decide +kernel
theorem dX7_year_11 : fet cX7_year 11 = some (.iload_n 2) := by decide +kernel
theorem dX7_year_12 : fet cX7_year 12 = some (.iconst 1) := by decide +kernel
theorem dX7_year_13 : fet cX7_year 13 = some (.bipush 60) := by decide +kernel
theorem dX7_year_15 : fet cX7_year 15 = some (.invokestatic 90) := by decide +kernel
theorem dX7_year_18 : fet cX7_year 18 = some (.ifCond .eq 12) := by decide +kernel
theorem dX7_year_21 : fet cX7_year 21 = some (.iload_n 3) := by decide +kernel
theorem dX7_year_22 : fet cX7_year 22 = some (.iconst 0) := by decide +kernel
theorem dX7_year_23 : fet cX7_year 23 = some (.iconst 1) := by decide +kernel
theorem dX7_year_24 : fet cX7_year 24 = some (.invokestatic 90) := by decide +kernel
theorem dX7_year_27 : fet cX7_year 27 = some (.ifCond .ne 5) := by decide +kernel
theorem dX7_year_30 : fet cX7_year 30 = some (.iconst (-1)) := by decide +kernel
theorem dX7_year_31 : fet cX7_year 31 = some (.ireturn) := by decide +kernel
theorem dX7_year_32 : fet cX7_year 32 = some (.aload_n 0) := by decide +kernel
theorem dX7_year_33 : fet cX7_year 33 = some (.getfield 40) := by decide +kernel
theorem dX7_year_36 : fet cX7_year 36 = some (.aload_n 0) := by decide +kernel
theorem dX7_year_37 : fet cX7_year 37 = some (.getfield 23) := by decide +kernel
theorem dX7_year_40 : fet cX7_year 40 = some (.aload_n 0) := by decide +kernel
theorem dX7_year_41 : fet cX7_year 41 = some (.getfield 33) := by decide +kernel
theorem dX7_year_44 : fet cX7_year 44 = some (.invokevirtual 165) := by decide +kernel
theorem dX7_year_47 : fet cX7_year 47 = some (.iconst 0) := by decide +kernel
theorem dX7_year_48 : fet cX7_year 48 = some (.istore 4) := by decide +kernel
theorem dX7_year_50 : fet cX7_year 50 = some (.iload 4) := by decide +kernel
theorem dX7_year_52 : fet cX7_year 52 = some (.iload_n 2) := by decide +kernel
theorem dX7_year_53 : fet cX7_year 53 = some (.if_icmp .ge 26) := by decide +kernel
theorem dX7_year_56 : fet cX7_year 56 = some (.aload_n 0) := by decide +kernel
theorem dX7_year_57 : fet cX7_year 57 = some (.iload_n 1) := by decide +kernel
theorem dX7_year_58 : fet cX7_year 58 = some (.iload 4) := by decide +kernel
theorem dX7_year_60 : fet cX7_year 60 = some (.invokestatic 260) := by decide +kernel
theorem dX7_year_63 : fet cX7_year 63 = some (.invokevirtual 263) := by decide +kernel
theorem dX7_year_66 : fet cX7_year 66 = some (.aload_n 0) := by decide +kernel
theorem dX7_year_67 : fet cX7_year 67 = some (.getfield 40) := by decide +kernel
theorem dX7_year_70 : fet cX7_year 70 = some (.invokevirtual 222) := by decide +kernel
theorem dX7_year_73 : fet cX7_year 73 = some (.iinc 4 1) := by decide +kernel
theorem dX7_year_76 : fet cX7_year 76 = some (.goto (-26)) := by decide +kernel
theorem dX7_year_79 : fet cX7_year 79 = some (.iload_n 3) := by decide +kernel
theorem dX7_year_80 : fet cX7_year 80 = some (.ifCond .ne 13) := by decide +kernel
theorem dX7_year_83 : fet cX7_year 83 = some (.aload_n 0) := by decide +kernel
theorem dX7_year_84 : fet cX7_year 84 = some (.getfield 40) := by decide +kernel
theorem dX7_year_87 : fet cX7_year 87 = some (.getfield 200) := by decide +kernel
theorem dX7_year_90 : fet cX7_year 90 = some (.goto 10) := by decide +kernel
theorem dX7_year_93 : fet cX7_year 93 = some (.aload_n 0) := by decide +kernel
theorem dX7_year_94 : fet cX7_year 94 = some (.getfield 40) := by decide +kernel
theorem dX7_year_97 : fet cX7_year 97 = some (.getfield 203) := by decide +kernel
theorem dX7_year_100 : fet cX7_year 100 = some (.ireturn) := by decide +kernel
theorem dX7_drawn_0 : fet cX7_drawn 0 = some (.ldc2_w 266) := by decide +kernel
theorem dX7_drawn_3 : fet cX7_drawn 3 = some (.iload_n 0) := by decide +kernel
theorem dX7_drawn_4 : fet cX7_drawn 4 = some (.i2l) := by decide +kernel
theorem dX7_drawn_5 : fet cX7_drawn 5 = some (.lmul) := by decide +kernel
theorem dX7_drawn_6 : fet cX7_drawn 6 = some (.ldc2_w 268) := by decide +kernel
theorem dX7_drawn_9 : fet cX7_drawn 9 = some (.iload_n 1) := by decide +kernel
theorem dX7_drawn_10 : fet cX7_drawn 10 = some (.i2l) := by decide +kernel
theorem dX7_drawn_11 : fet cX7_drawn 11 = some (.lmul) := by decide +kernel
theorem dX7_drawn_12 : fet cX7_drawn 12 = some (.ladd) := by decide +kernel
theorem dX7_drawn_13 : fet cX7_drawn 13 = some (.lconst 1) := by decide +kernel
theorem dX7_drawn_14 : fet cX7_drawn 14 = some (.ladd) := by decide +kernel
theorem dX7_drawn_15 : fet cX7_drawn 15 = some (.lstore_n 2) := by decide +kernel
theorem dX7_drawn_16 : fet cX7_drawn 16 = some (.lload_n 2) := by decide +kernel
theorem dX7_drawn_17 : fet cX7_drawn 17 = some (.lload_n 2) := by decide +kernel
theorem dX7_drawn_18 : fet cX7_drawn 18 = some (.lmul) := by decide +kernel
theorem dX7_drawn_19 : fet cX7_drawn 19 = some (.ldc2_w 270) := by decide +kernel
theorem dX7_drawn_22 : fet cX7_drawn 22 = some (.lrem) := by decide +kernel
theorem dX7_drawn_23 : fet cX7_drawn 23 = some (.l2i) := by decide +kernel
theorem dX7_drawn_24 : fet cX7_drawn 24 = some (.ireturn) := by decide +kernel
theorem dX7_putByDraw_0 : fet cX7_putByDraw 0 = some (.aload_n 0) := by decide +kernel
theorem dX7_putByDraw_1 : fet cX7_putByDraw 1 = some (.getfield 23) := by decide +kernel
theorem dX7_putByDraw_4 : fet cX7_putByDraw 4 = some (.getfield 97) := by decide +kernel
theorem dX7_putByDraw_7 : fet cX7_putByDraw 7 = some (.ifCond .le 33) := by decide +kernel
theorem dX7_putByDraw_10 : fet cX7_putByDraw 10 = some (.aload_n 0) := by decide +kernel
theorem dX7_putByDraw_11 : fet cX7_putByDraw 11 = some (.getfield 40) := by decide +kernel
theorem dX7_putByDraw_14 : fet cX7_putByDraw 14 = some (.getfield 182) := by decide +kernel
theorem dX7_putByDraw_17 : fet cX7_putByDraw 17 = some (.getfield 137) := by decide +kernel
theorem dX7_putByDraw_20 : fet cX7_putByDraw 20 = some (.iload_n 1) := by decide +kernel
theorem dX7_putByDraw_21 : fet cX7_putByDraw 21 = some (.bipush 16) := by decide +kernel
theorem dX7_putByDraw_23 : fet cX7_putByDraw 23 = some (.idiv) := by decide +kernel
theorem dX7_putByDraw_24 : fet cX7_putByDraw 24 = some (.aload_n 0) := by decide +kernel
theorem dX7_putByDraw_25 : fet cX7_putByDraw 25 = some (.getfield 23) := by decide +kernel
theorem dX7_putByDraw_28 : fet cX7_putByDraw 28 = some (.getfield 97) := by decide +kernel
theorem dX7_putByDraw_31 : fet cX7_putByDraw 31 = some (.irem) := by decide +kernel
theorem dX7_putByDraw_32 : fet cX7_putByDraw 32 = some (.dup2) := by decide +kernel
theorem dX7_putByDraw_33 : fet cX7_putByDraw 33 = some (.iaload) := by decide +kernel
theorem dX7_putByDraw_34 : fet cX7_putByDraw 34 = some (.iload_n 1) := by decide +kernel
theorem dX7_putByDraw_35 : fet cX7_putByDraw 35 = some (.bipush 10) := by decide +kernel
theorem dX7_putByDraw_37 : fet cX7_putByDraw 37 = some (.irem) := by decide +kernel
theorem dX7_putByDraw_38 : fet cX7_putByDraw 38 = some (.iadd) := by decide +kernel
theorem dX7_putByDraw_39 : fet cX7_putByDraw 39 = some (.iastore) := by decide +kernel
theorem dX7_putByDraw_40 : fet cX7_putByDraw 40 = some (.return_) := by decide +kernel
theorem dX7_keep_0 : fet cX7_keep 0 = some (.aload_n 0) := by decide +kernel
theorem dX7_keep_1 : fet cX7_keep 1 = some (.getfield 67) := by decide +kernel
theorem dX7_keep_4 : fet cX7_keep 4 = some (.getfield 103) := by decide +kernel
theorem dX7_keep_7 : fet cX7_keep 7 = some (.iconst 2) := by decide +kernel
theorem dX7_keep_8 : fet cX7_keep 8 = some (.if_icmp .lt 6) := by decide +kernel
theorem dX7_keep_11 : fet cX7_keep 11 = some (.bipush (-3)) := by decide +kernel
theorem dX7_keep_13 : fet cX7_keep 13 = some (.ireturn) := by decide +kernel
theorem dX7_keep_14 : fet cX7_keep 14 = some (.aload_n 0) := by decide +kernel
theorem dX7_keep_15 : fet cX7_keep 15 = some (.getfield 67) := by decide +kernel
theorem dX7_keep_18 : fet cX7_keep 18 = some (.aload_n 0) := by decide +kernel
theorem dX7_keep_19 : fet cX7_keep 19 = some (.getfield 33) := by decide +kernel
theorem dX7_keep_22 : fet cX7_keep 22 = some (.invokevirtual 175) := by decide +kernel
theorem dX7_keep_25 : fet cX7_keep 25 = some (.aload_n 0) := by decide +kernel
theorem dX7_keep_26 : fet cX7_keep 26 = some (.getfield 67) := by decide +kernel
theorem dX7_keep_29 : fet cX7_keep 29 = some (.getfield 103) := by decide +kernel
theorem dX7_keep_32 : fet cX7_keep 32 = some (.ireturn) := by decide +kernel
theorem dX7_back_0 : fet cX7_back 0 = some (.aload_n 0) := by decide +kernel
theorem dX7_back_1 : fet cX7_back 1 = some (.getfield 67) := by decide +kernel
theorem dX7_back_4 : fet cX7_back 4 = some (.aload_n 0) := by decide +kernel
theorem dX7_back_5 : fet cX7_back 5 = some (.getfield 33) := by decide +kernel
theorem dX7_back_8 : fet cX7_back 8 = some (.invokevirtual 193) := by decide +kernel
theorem dX7_back_11 : fet cX7_back 11 = some (.ifCond .ne 6) := by decide +kernel
theorem dX7_back_14 : fet cX7_back 14 = some (.bipush (-2)) := by decide +kernel
theorem dX7_back_16 : fet cX7_back 16 = some (.ireturn) := by decide +kernel
theorem dX7_back_17 : fet cX7_back 17 = some (.aload_n 0) := by decide +kernel
theorem dX7_back_18 : fet cX7_back 18 = some (.getfield 63) := by decide +kernel
theorem dX7_back_21 : fet cX7_back 21 = some (.iconst 0) := by decide +kernel
theorem dX7_back_22 : fet cX7_back 22 = some (.putfield 103) := by decide +kernel
theorem dX7_back_25 : fet cX7_back 25 = some (.aload_n 0) := by decide +kernel
theorem dX7_back_26 : fet cX7_back 26 = some (.getfield 67) := by decide +kernel
theorem dX7_back_29 : fet cX7_back 29 = some (.getfield 103) := by decide +kernel
theorem dX7_back_32 : fet cX7_back 32 = some (.ireturn) := by decide +kernel
theorem dX7_count_0 : fet cX7_count 0 = some (.iload_n 1) := by decide +kernel
theorem dX7_count_1 : fet cX7_count 1 = some (.tableswitch 139 0 9 #[55, 63, 71, 79, 87, 95, 110, 118, 126, 134]) := by decide +kernel
theorem dX7_count_56 : fet cX7_count 56 = some (.aload_n 0) := by decide +kernel
theorem dX7_count_57 : fet cX7_count 57 = some (.getfield 23) := by decide +kernel
theorem dX7_count_60 : fet cX7_count 60 = some (.getfield 106) := by decide +kernel
theorem dX7_count_63 : fet cX7_count 63 = some (.ireturn) := by decide +kernel
theorem dX7_count_64 : fet cX7_count 64 = some (.aload_n 0) := by decide +kernel
theorem dX7_count_65 : fet cX7_count 65 = some (.getfield 23) := by decide +kernel
theorem dX7_count_68 : fet cX7_count 68 = some (.getfield 97) := by decide +kernel
theorem dX7_count_71 : fet cX7_count 71 = some (.ireturn) := by decide +kernel
theorem dX7_count_72 : fet cX7_count 72 = some (.aload_n 0) := by decide +kernel
theorem dX7_count_73 : fet cX7_count 73 = some (.getfield 23) := by decide +kernel
theorem dX7_count_76 : fet cX7_count 76 = some (.getfield 272) := by decide +kernel
theorem dX7_count_79 : fet cX7_count 79 = some (.ireturn) := by decide +kernel
theorem dX7_count_80 : fet cX7_count 80 = some (.aload_n 0) := by decide +kernel
theorem dX7_count_81 : fet cX7_count 81 = some (.getfield 23) := by decide +kernel
theorem dX7_count_84 : fet cX7_count 84 = some (.getfield 225) := by decide +kernel
theorem dX7_count_87 : fet cX7_count 87 = some (.ireturn) := by decide +kernel
theorem dX7_count_88 : fet cX7_count 88 = some (.aload_n 0) := by decide +kernel
theorem dX7_count_89 : fet cX7_count 89 = some (.getfield 33) := by decide +kernel
theorem dX7_count_92 : fet cX7_count 92 = some (.getfield 169) := by decide +kernel
theorem dX7_count_95 : fet cX7_count 95 = some (.ireturn) := by decide +kernel
theorem dX7_count_96 : fet cX7_count 96 = some (.aload_n 0) := by decide +kernel
theorem dX7_count_97 : fet cX7_count 97 = some (.getfield 33) := by decide +kernel
theorem dX7_count_100 : fet cX7_count 100 = some (.aload_n 0) := by decide +kernel
theorem dX7_count_101 : fet cX7_count 101 = some (.getfield 23) := by decide +kernel
theorem dX7_count_104 : fet cX7_count 104 = some (.getfield 272) := by decide +kernel
theorem dX7_count_107 : fet cX7_count 107 = some (.invokevirtual 275) := by decide +kernel
theorem dX7_count_110 : fet cX7_count 110 = some (.ireturn) := by decide +kernel
theorem dX7_count_111 : fet cX7_count 111 = some (.aload_n 0) := by decide +kernel
theorem dX7_count_112 : fet cX7_count 112 = some (.getfield 54) := by decide +kernel
theorem dX7_count_115 : fet cX7_count 115 = some (.getfield 100) := by decide +kernel
theorem dX7_count_118 : fet cX7_count 118 = some (.ireturn) := by decide +kernel
theorem dX7_count_119 : fet cX7_count 119 = some (.aload_n 0) := by decide +kernel
theorem dX7_count_120 : fet cX7_count 120 = some (.getfield 63) := by decide +kernel
theorem dX7_count_123 : fet cX7_count 123 = some (.getfield 103) := by decide +kernel
theorem dX7_count_126 : fet cX7_count 126 = some (.ireturn) := by decide +kernel
theorem dX7_count_127 : fet cX7_count 127 = some (.aload_n 0) := by decide +kernel
theorem dX7_count_128 : fet cX7_count 128 = some (.getfield 67) := by decide +kernel
theorem dX7_count_131 : fet cX7_count 131 = some (.getfield 103) := by decide +kernel
theorem dX7_count_134 : fet cX7_count 134 = some (.ireturn) := by decide +kernel
theorem dX7_count_135 : fet cX7_count 135 = some (.aload_n 0) := by decide +kernel
theorem dX7_count_136 : fet cX7_count 136 = some (.getfield 94) := by decide +kernel
theorem dX7_count_139 : fet cX7_count 139 = some (.ireturn) := by decide +kernel
theorem dX7_count_140 : fet cX7_count 140 = some (.iconst (-1)) := by decide +kernel
theorem dX7_count_141 : fet cX7_count 141 = some (.ireturn) := by decide +kernel
theorem dX7_isIsland_0 : fet cX7_isIsland 0 = some (.iload_n 1) := by decide +kernel
theorem dX7_isIsland_1 : fet cX7_isIsland 1 = some (.ifCond .lt 24) := by decide +kernel
theorem dX7_isIsland_4 : fet cX7_isIsland 4 = some (.iload_n 1) := by decide +kernel
theorem dX7_isIsland_5 : fet cX7_isIsland 5 = some (.aload_n 0) := by decide +kernel
theorem dX7_isIsland_6 : fet cX7_isIsland 6 = some (.getfield 23) := by decide +kernel
theorem dX7_isIsland_9 : fet cX7_isIsland 9 = some (.getfield 106) := by decide +kernel
theorem dX7_isIsland_12 : fet cX7_isIsland 12 = some (.if_icmp .ge 13) := by decide +kernel
theorem dX7_isIsland_15 : fet cX7_isIsland 15 = some (.iload_n 1) := by decide +kernel
theorem dX7_isIsland_16 : fet cX7_isIsland 16 = some (.bipush 8) := by decide +kernel
theorem dX7_isIsland_18 : fet cX7_isIsland 18 = some (.if_icmp .ge 7) := by decide +kernel
theorem dX7_isIsland_21 : fet cX7_isIsland 21 = some (.iconst 1) := by decide +kernel
theorem dX7_isIsland_22 : fet cX7_isIsland 22 = some (.goto 4) := by decide +kernel
theorem dX7_isIsland_25 : fet cX7_isIsland 25 = some (.iconst 0) := by decide +kernel
theorem dX7_isIsland_26 : fet cX7_isIsland 26 = some (.ireturn) := by decide +kernel
theorem dX7_isBridge_0 : fet cX7_isBridge 0 = some (.iload_n 1) := by decide +kernel
theorem dX7_isBridge_1 : fet cX7_isBridge 1 = some (.ifCond .lt 24) := by decide +kernel
theorem dX7_isBridge_4 : fet cX7_isBridge 4 = some (.iload_n 1) := by decide +kernel
theorem dX7_isBridge_5 : fet cX7_isBridge 5 = some (.aload_n 0) := by decide +kernel
theorem dX7_isBridge_6 : fet cX7_isBridge 6 = some (.getfield 23) := by decide +kernel
theorem dX7_isBridge_9 : fet cX7_isBridge 9 = some (.getfield 97) := by decide +kernel
theorem dX7_isBridge_12 : fet cX7_isBridge 12 = some (.if_icmp .ge 13) := by decide +kernel
theorem dX7_isBridge_15 : fet cX7_isBridge 15 = some (.iload_n 1) := by decide +kernel
theorem dX7_isBridge_16 : fet cX7_isBridge 16 = some (.bipush 9) := by decide +kernel
theorem dX7_isBridge_18 : fet cX7_isBridge 18 = some (.if_icmp .ge 7) := by decide +kernel
theorem dX7_isBridge_21 : fet cX7_isBridge 21 = some (.iconst 1) := by decide +kernel
theorem dX7_isBridge_22 : fet cX7_isBridge 22 = some (.goto 4) := by decide +kernel
theorem dX7_isBridge_25 : fet cX7_isBridge 25 = some (.iconst 0) := by decide +kernel
theorem dX7_isBridge_26 : fet cX7_isBridge 26 = some (.ireturn) := by decide +kernel
theorem dX7_isGoer_0 : fet cX7_isGoer 0 = some (.iload_n 1) := by decide +kernel
theorem dX7_isGoer_1 : fet cX7_isGoer 1 = some (.ifCond .lt 23) := by decide +kernel
theorem dX7_isGoer_4 : fet cX7_isGoer 4 = some (.iload_n 1) := by decide +kernel
theorem dX7_isGoer_5 : fet cX7_isGoer 5 = some (.aload_n 0) := by decide +kernel
theorem dX7_isGoer_6 : fet cX7_isGoer 6 = some (.getfield 23) := by decide +kernel
theorem dX7_isGoer_9 : fet cX7_isGoer 9 = some (.getfield 272) := by decide +kernel
theorem dX7_isGoer_12 : fet cX7_isGoer 12 = some (.if_icmp .ge 12) := by decide +kernel
theorem dX7_isGoer_15 : fet cX7_isGoer 15 = some (.iload_n 1) := by decide +kernel
theorem dX7_isGoer_16 : fet cX7_isGoer 16 = some (.iconst 5) := by decide +kernel
theorem dX7_isGoer_17 : fet cX7_isGoer 17 = some (.if_icmp .ge 7) := by decide +kernel
theorem dX7_isGoer_20 : fet cX7_isGoer 20 = some (.iconst 1) := by decide +kernel
theorem dX7_isGoer_21 : fet cX7_isGoer 21 = some (.goto 4) := by decide +kernel
theorem dX7_isGoer_24 : fet cX7_isGoer 24 = some (.iconst 0) := by decide +kernel
theorem dX7_isGoer_25 : fet cX7_isGoer 25 = some (.ireturn) := by decide +kernel
theorem dX7_isWithin_0 : fet cX7_isWithin 0 = some (.iload_n 0) := by decide +kernel
theorem dX7_isWithin_1 : fet cX7_isWithin 1 = some (.iload_n 1) := by decide +kernel
theorem dX7_isWithin_2 : fet cX7_isWithin 2 = some (.if_icmp .lt 12) := by decide +kernel
theorem dX7_isWithin_5 : fet cX7_isWithin 5 = some (.iload_n 0) := by decide +kernel
theorem dX7_isWithin_6 : fet cX7_isWithin 6 = some (.iload_n 2) := by decide +kernel
theorem dX7_isWithin_7 : fet cX7_isWithin 7 = some (.if_icmp .gt 7) := by decide +kernel
theorem dX7_isWithin_10 : fet cX7_isWithin 10 = some (.iconst 1) := by decide +kernel
theorem dX7_isWithin_11 : fet cX7_isWithin 11 = some (.goto 4) := by decide +kernel
theorem dX7_isWithin_14 : fet cX7_isWithin 14 = some (.iconst 0) := by decide +kernel
theorem dX7_isWithin_15 : fet cX7_isWithin 15 = some (.ireturn) := by decide +kernel
