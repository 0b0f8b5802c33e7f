theorem dX7_init_0 : decode cX7_init 0 = .ok (.aload_n 0, 1) := by decide +kernel
theorem dX7_init_1 : decode cX7_init 1 = .ok (.invokespecial 1, 3) := by decide +kernel
theorem dX7_init_4 : decode cX7_init 4 = .ok (.aload_n 0, 1) := by decide +kernel
theorem dX7_init_5 : decode cX7_init 5 = .ok (.sipush 200, 3) := by decide +kernel
theorem dX7_init_8 : decode cX7_init 8 = .ok (.newarray .int, 2) := by decide +kernel
theorem dX7_init_10 : decode cX7_init 10 = .ok (.putfield 9, 3) := by decide +kernel
theorem dX7_init_13 : decode cX7_init 13 = .ok (.aload_n 0, 1) := by decide +kernel
theorem dX7_init_14 : decode cX7_init 14 = .ok (.new 13, 3) := by decide +kernel
theorem dX7_init_17 : decode cX7_init 17 = .ok (.dup, 1) := by decide +kernel
theorem dX7_init_18 : decode cX7_init 18 = .ok (.invokespecial 15, 3) := by decide +kernel
theorem dX7_init_21 : decode cX7_init 21 = .ok (.putfield 16, 3) := by decide +kernel
theorem dX7_init_24 : decode cX7_init 24 = .ok (.aload_n 0, 1) := by decide +kernel
theorem dX7_init_25 : decode cX7_init 25 = .ok (.new 20, 3) := by decide +kernel
theorem dX7_init_28 : decode cX7_init 28 = .ok (.dup, 1) := by decide +kernel
theorem dX7_init_29 : decode cX7_init 29 = .ok (.invokespecial 22, 3) := by decide +kernel
theorem dX7_init_32 : decode cX7_init 32 = .ok (.putfield 23, 3) := by decide +kernel
theorem dX7_init_35 : decode cX7_init 35 = .ok (.aload_n 0, 1) := by decide +kernel
theorem dX7_init_36 : decode cX7_init 36 = .ok (.new 20, 3) := by decide +kernel
theorem dX7_init_39 : decode cX7_init 39 = .ok (.dup, 1) := by decide +kernel
theorem dX7_init_40 : decode cX7_init 40 = .ok (.invokespecial 22, 3) := by decide +kernel
theorem dX7_init_43 : decode cX7_init 43 = .ok (.putfield 27, 3) := by decide +kernel
theorem dX7_init_46 : decode cX7_init 46 = .ok (.aload_n 0, 1) := by decide +kernel
theorem dX7_init_47 : decode cX7_init 47 = .ok (.new 30, 3) := by decide +kernel
theorem dX7_init_50 : decode cX7_init 50 = .ok (.dup, 1) := by decide +kernel
theorem dX7_init_51 : decode cX7_init 51 = .ok (.invokespecial 32, 3) := by decide +kernel
theorem dX7_init_54 : decode cX7_init 54 = .ok (.putfield 33, 3) := by decide +kernel
theorem dX7_init_57 : decode cX7_init 57 = .ok (.aload_n 0, 1) := by decide +kernel
theorem dX7_init_58 : decode cX7_init 58 = .ok (.new 37, 3) := by decide +kernel
theorem dX7_init_61 : decode cX7_init 61 = .ok (.dup, 1) := by decide +kernel
theorem dX7_init_62 : decode cX7_init 62 = .ok (.invokespecial 39, 3) := by decide +kernel
theorem dX7_init_65 : decode cX7_init 65 = .ok (.putfield 40, 3) := by decide +kernel
theorem dX7_init_68 : decode cX7_init 68 = .ok (.aload_n 0, 1) := by decide +kernel
theorem dX7_init_69 : decode cX7_init 69 = .ok (.new 44, 3) := by decide +kernel
theorem dX7_init_72 : decode cX7_init 72 = .ok (.dup, 1) := by decide +kernel
theorem dX7_init_73 : decode cX7_init 73 = .ok (.invokespecial 46, 3) := by decide +kernel
theorem dX7_init_76 : decode cX7_init 76 = .ok (.putfield 47, 3) := by decide +kernel
theorem dX7_init_79 : decode cX7_init 79 = .ok (.aload_n 0, 1) := by decide +kernel
theorem dX7_init_80 : decode cX7_init 80 = .ok (.new 51, 3) := by decide +kernel
theorem dX7_init_83 : decode cX7_init 83 = .ok (.dup, 1) := by decide +kernel
theorem dX7_init_84 : decode cX7_init 84 = .ok (.invokespecial 53, 3) := by decide +kernel
theorem dX7_init_87 : decode cX7_init 87 = .ok (.putfield 54, 3) := by decide +kernel
theorem dX7_init_90 : decode cX7_init 90 = .ok (.aload_n 0, 1) := by decide +kernel
theorem dX7_init_91 : decode cX7_init 91 = .ok (.new 58, 3) := by decide +kernel
theorem dX7_init_94 : decode cX7_init 94 = .ok (.dup, 1) := by decide +kernel
theorem dX7_init_95 : decode cX7_init 95 = .ok (.bipush 8, 2) := by decide +kernel
theorem dX7_init_97 : decode cX7_init 97 = .ok (.invokespecial 60, 3) := by decide +kernel
theorem dX7_init_100 : decode cX7_init 100 = .ok (.putfield 63, 3) := by decide +kernel
theorem dX7_init_103 : decode cX7_init 103 = .ok (.aload_n 0, 1) := by decide +kernel
theorem dX7_init_104 : decode cX7_init 104 = .ok (.new 58, 3) := by decide +kernel
theorem dX7_init_107 : decode cX7_init 107 = .ok (.dup, 1) := by decide +kernel
theorem dX7_init_108 : decode cX7_init 108 = .ok (.iconst 2, 1) := by decide +kernel
theorem dX7_init_109 : decode cX7_init 109 = .ok (.invokespecial 60, 3) := by decide +kernel
theorem dX7_init_112 : decode cX7_init 112 = .ok (.putfield 67, 3) := by decide +kernel
theorem dX7_init_115 : decode cX7_init 115 = .ok (.iconst 0, 1) := by decide +kernel
theorem dX7_init_116 : decode cX7_init 116 = .ok (.istore_n 1, 1) := by decide +kernel
theorem dX7_init_117 : decode cX7_init 117 = .ok (.iload_n 1, 1) := by decide +kernel
theorem dX7_init_118 : decode cX7_init 118 = .ok (.ldc 70, 2) := by decide +kernel
theorem dX7_init_120 : decode cX7_init 120 = .ok (.invokevirtual 72, 3) := by decide +kernel
theorem dX7_init_123 : decode cX7_init 123 = .ok (.if_icmp .ge 28, 3) := by decide +kernel
theorem dX7_init_126 : decode cX7_init 126 = .ok (.iload_n 1, 1) := by decide +kernel
theorem dX7_init_127 : decode cX7_init 127 = .ok (.sipush 200, 3) := by decide +kernel
theorem dX7_init_130 : decode cX7_init 130 = .ok (.if_icmp .ge 21, 3) := by decide +kernel
theorem dX7_init_133 : decode cX7_init 133 = .ok (.aload_n 0, 1) := by decide +kernel
theorem dX7_init_134 : decode cX7_init 134 = .ok (.getfield 9, 3) := by decide +kernel
theorem dX7_init_137 : decode cX7_init 137 = .ok (.iload_n 1, 1) := by decide +kernel
theorem dX7_init_138 : decode cX7_init 138 = .ok (.ldc 70, 2) := by decide +kernel
theorem dX7_init_140 : decode cX7_init 140 = .ok (.iload_n 1, 1) := by decide +kernel
theorem dX7_init_141 : decode cX7_init 141 = .ok (.invokevirtual 78, 3) := by decide +kernel
theorem dX7_init_144 : decode cX7_init 144 = .ok (.iastore, 1) := by decide +kernel
theorem dX7_init_145 : decode cX7_init 145 = .ok (.iinc 1 1, 3) := by decide +kernel
theorem dX7_init_148 : decode cX7_init 148 = .ok (.goto (-31), 3) := by decide +kernel
theorem dX7_init_151 : decode cX7_init 151 = .ok (.aload_n 0, 1) := by decide +kernel
theorem dX7_init_152 : decode cX7_init 152 = .ok (.getfield 16, 3) := by decide +kernel
theorem dX7_init_155 : decode cX7_init 155 = .ok (.aload_n 0, 1) := by decide +kernel
theorem dX7_init_156 : decode cX7_init 156 = .ok (.getfield 9, 3) := by decide +kernel
theorem dX7_init_159 : decode cX7_init 159 = .ok (.ldc 70, 2) := by decide +kernel
theorem dX7_init_161 : decode cX7_init 161 = .ok (.invokevirtual 72, 3) := by decide +kernel
theorem dX7_init_164 : decode cX7_init 164 = .ok (.aload_n 0, 1) := by decide +kernel
theorem dX7_init_165 : decode cX7_init 165 = .ok (.getfield 23, 3) := by decide +kernel
theorem dX7_init_168 : decode cX7_init 168 = .ok (.invokevirtual 82, 3) := by decide +kernel
theorem dX7_init_171 : decode cX7_init 171 = .ok (.pop, 1) := by decide +kernel
theorem dX7_init_172 : decode cX7_init 172 = .ok (.aload_n 0, 1) := by decide +kernel
theorem dX7_init_173 : decode cX7_init 173 = .ok (.getfield 33, 3) := by decide +kernel
theorem dX7_init_176 : decode cX7_init 176 = .ok (.aload_n 0, 1) := by decide +kernel
theorem dX7_init_177 : decode cX7_init 177 = .ok (.getfield 23, 3) := by decide +kernel
theorem dX7_init_180 : decode cX7_init 180 = .ok (.invokevirtual 86, 3) := by decide +kernel
theorem dX7_init_183 : decode cX7_init 183 = .ok (.return_, 1) := by decide +kernel
theorem dX7_write_0 : decode cX7_write 0 = .ok (.iload_n 1, 1) := by decide +kernel
theorem dX7_write_1 : decode cX7_write 1 = .ok (.bipush 32, 2) := by decide +kernel
theorem dX7_write_3 : decode cX7_write 3 = .ok (.bipush 126, 2) := by decide +kernel
theorem dX7_write_5 : decode cX7_write 5 = .ok (.invokestatic 90, 3) := by decide +kernel
theorem dX7_write_8 : decode cX7_write 8 = .ok (.ifCond .ne 5, 3) := by decide +kernel
theorem dX7_write_11 : decode cX7_write 11 = .ok (.iconst (-1), 1) := by decide +kernel
theorem dX7_write_12 : decode cX7_write 12 = .ok (.ireturn, 1) := by decide +kernel
theorem dX7_write_13 : decode cX7_write 13 = .ok (.aload_n 0, 1) := by decide +kernel
theorem dX7_write_14 : decode cX7_write 14 = .ok (.getfield 94, 3) := by decide +kernel
theorem dX7_write_17 : decode cX7_write 17 = .ok (.ifCond .lt 15, 3) := by decide +kernel
theorem dX7_write_20 : decode cX7_write 20 = .ok (.aload_n 0, 1) := by decide +kernel
theorem dX7_write_21 : decode cX7_write 21 = .ok (.getfield 94, 3) := by decide +kernel
theorem dX7_write_24 : decode cX7_write 24 = .ok (.aload_n 0, 1) := by decide +kernel
theorem dX7_write_25 : decode cX7_write 25 = .ok (.getfield 9, 3) := by decide +kernel
theorem dX7_write_28 : decode cX7_write 28 = .ok (.arraylength, 1) := by decide +kernel
theorem dX7_write_29 : decode cX7_write 29 = .ok (.if_icmp .lt 6, 3) := by decide +kernel
theorem dX7_write_32 : decode cX7_write 32 = .ok (.bipush (-3), 2) := by decide +kernel
theorem dX7_write_34 : decode cX7_write 34 = .ok (.ireturn, 1) := by decide +kernel
theorem dX7_write_35 : decode cX7_write 35 = .ok (.aload_n 0, 1) := by decide +kernel
theorem dX7_write_36 : decode cX7_write 36 = .ok (.getfield 9, 3) := by decide +kernel
theorem dX7_write_39 : decode cX7_write 39 = .ok (.aload_n 0, 1) := by decide +kernel
theorem dX7_write_40 : decode cX7_write 40 = .ok (.getfield 94, 3) := by decide +kernel
theorem dX7_write_43 : decode cX7_write 43 = .ok (.iload_n 1, 1) := by decide +kernel
theorem dX7_write_44 : decode cX7_write 44 = .ok (.iastore, 1) := by decide +kernel
theorem dX7_write_45 : decode cX7_write 45 = .ok (.aload_n 0, 1) := by decide +kernel
theorem dX7_write_46 : decode cX7_write 46 = .ok (.dup, 1) := by decide +kernel
theorem dX7_write_47 : decode cX7_write 47 = .ok (.getfield 94, 3) := by decide +kernel
theorem dX7_write_50 : decode cX7_write 50 = .ok (.iconst 1, 1) := by decide +kernel
theorem dX7_write_51 : decode cX7_write 51 = .ok (.iadd, 1) := by decide +kernel
theorem dX7_write_52 : decode cX7_write 52 = .ok (.putfield 94, 3) := by decide +kernel
theorem dX7_write_55 : decode cX7_write 55 = .ok (.aload_n 0, 1) := by decide +kernel
theorem dX7_write_56 : decode cX7_write 56 = .ok (.getfield 94, 3) := by decide +kernel
theorem dX7_write_59 : decode cX7_write 59 = .ok (.ireturn, 1) := by decide +kernel
theorem dX7_wipe_0 : decode cX7_wipe 0 = .ok (.aload_n 0, 1) := by decide +kernel
theorem dX7_wipe_1 : decode cX7_wipe 1 = .ok (.getfield 94, 3) := by decide +kernel
theorem dX7_wipe_4 : decode cX7_wipe 4 = .ok (.istore_n 1, 1) := by decide +kernel
theorem dX7_wipe_5 : decode cX7_wipe 5 = .ok (.aload_n 0, 1) := by decide +kernel
theorem dX7_wipe_6 : decode cX7_wipe 6 = .ok (.iconst 0, 1) := by decide +kernel
theorem dX7_wipe_7 : decode cX7_wipe 7 = .ok (.putfield 94, 3) := by decide +kernel
theorem dX7_wipe_10 : decode cX7_wipe 10 = .ok (.iload_n 1, 1) := by decide +kernel
theorem dX7_wipe_11 : decode cX7_wipe 11 = .ok (.ireturn, 1) := by decide +kernel
theorem dX7_fault_0 : decode cX7_fault 0 = .ok (.aload_n 0, 1) := by decide +kernel
theorem dX7_fault_1 : decode cX7_fault 1 = .ok (.getfield 16, 3) := by decide +kernel
theorem dX7_fault_4 : decode cX7_fault 4 = .ok (.aload_n 0, 1) := by decide +kernel
theorem dX7_fault_5 : decode cX7_fault 5 = .ok (.getfield 9, 3) := by decide +kernel
theorem dX7_fault_8 : decode cX7_fault 8 = .ok (.aload_n 0, 1) := by decide +kernel
theorem dX7_fault_9 : decode cX7_fault 9 = .ok (.getfield 94, 3) := by decide +kernel
theorem dX7_fault_12 : decode cX7_fault 12 = .ok (.aload_n 0, 1) := by decide +kernel
theorem dX7_fault_13 : decode cX7_fault 13 = .ok (.getfield 27, 3) := by decide +kernel
theorem dX7_fault_16 : decode cX7_fault 16 = .ok (.invokevirtual 82, 3) := by decide +kernel
theorem dX7_fault_19 : decode cX7_fault 19 = .ok (.ireturn, 1) := by decide +kernel
theorem dX7_lay_0 : decode cX7_lay 0 = .ok (.aload_n 0, 1) := by decide +kernel
theorem dX7_lay_1 : decode cX7_lay 1 = .ok (.getfield 16, 3) := by decide +kernel
theorem dX7_lay_4 : decode cX7_lay 4 = .ok (.aload_n 0, 1) := by decide +kernel
theorem dX7_lay_5 : decode cX7_lay 5 = .ok (.getfield 9, 3) := by decide +kernel
theorem dX7_lay_8 : decode cX7_lay 8 = .ok (.aload_n 0, 1) := by decide +kernel
theorem dX7_lay_9 : decode cX7_lay 9 = .ok (.getfield 94, 3) := by decide +kernel
theorem dX7_lay_12 : decode cX7_lay 12 = .ok (.aload_n 0, 1) := by decide +kernel
theorem dX7_lay_13 : decode cX7_lay 13 = .ok (.getfield 27, 3) := by decide +kernel
theorem dX7_lay_16 : decode cX7_lay 16 = .ok (.invokevirtual 82, 3) := by decide +kernel
theorem dX7_lay_19 : decode cX7_lay 19 = .ok (.bipush (-4), 2) := by decide +kernel
theorem dX7_lay_21 : decode cX7_lay 21 = .ok (.if_icmp .ne 13, 3) := by decide +kernel
theorem dX7_lay_24 : decode cX7_lay 24 = .ok (.aload_n 0, 1) := by decide +kernel
theorem dX7_lay_25 : decode cX7_lay 25 = .ok (.getfield 27, 3) := by decide +kernel
theorem dX7_lay_28 : decode cX7_lay 28 = .ok (.getfield 97, 3) := by decide +kernel
theorem dX7_lay_31 : decode cX7_lay 31 = .ok (.ifCond .ne 6, 3) := by decide +kernel
theorem dX7_lay_34 : decode cX7_lay 34 = .ok (.bipush (-2), 2) := by decide +kernel
theorem dX7_lay_36 : decode cX7_lay 36 = .ok (.ireturn, 1) := by decide +kernel
theorem dX7_lay_37 : decode cX7_lay 37 = .ok (.aload_n 0, 1) := by decide +kernel
theorem dX7_lay_38 : decode cX7_lay 38 = .ok (.getfield 23, 3) := by decide +kernel
theorem dX7_lay_41 : decode cX7_lay 41 = .ok (.astore_n 1, 1) := by decide +kernel
theorem dX7_lay_42 : decode cX7_lay 42 = .ok (.aload_n 0, 1) := by decide +kernel
theorem dX7_lay_43 : decode cX7_lay 43 = .ok (.aload_n 0, 1) := by decide +kernel
theorem dX7_lay_44 : decode cX7_lay 44 = .ok (.getfield 27, 3) := by decide +kernel
theorem dX7_lay_47 : decode cX7_lay 47 = .ok (.putfield 23, 3) := by decide +kernel
theorem dX7_lay_50 : decode cX7_lay 50 = .ok (.aload_n 0, 1) := by decide +kernel
theorem dX7_lay_51 : decode cX7_lay 51 = .ok (.aload_n 1, 1) := by decide +kernel
theorem dX7_lay_52 : decode cX7_lay 52 = .ok (.putfield 27, 3) := by decide +kernel
theorem dX7_lay_55 : decode cX7_lay 55 = .ok (.aload_n 0, 1) := by decide +kernel
theorem dX7_lay_56 : decode cX7_lay 56 = .ok (.getfield 33, 3) := by decide +kernel
theorem dX7_lay_59 : decode cX7_lay 59 = .ok (.aload_n 0, 1) := by decide +kernel
theorem dX7_lay_60 : decode cX7_lay 60 = .ok (.getfield 23, 3) := by decide +kernel
theorem dX7_lay_63 : decode cX7_lay 63 = .ok (.invokevirtual 86, 3) := by decide +kernel
theorem dX7_lay_66 : decode cX7_lay 66 = .ok (.aload_n 0, 1) := by decide +kernel
theorem dX7_lay_67 : decode cX7_lay 67 = .ok (.getfield 54, 3) := by decide +kernel
theorem dX7_lay_70 : decode cX7_lay 70 = .ok (.iconst 0, 1) := by decide +kernel
theorem dX7_lay_71 : decode cX7_lay 71 = .ok (.putfield 100, 3) := by decide +kernel
theorem dX7_lay_74 : decode cX7_lay 74 = .ok (.aload_n 0, 1) := by decide +kernel
theorem dX7_lay_75 : decode cX7_lay 75 = .ok (.getfield 63, 3) := by decide +kernel
theorem dX7_lay_78 : decode cX7_lay 78 = .ok (.iconst 0, 1) := by decide +kernel
theorem dX7_lay_79 : decode cX7_lay 79 = .ok (.putfield 103, 3) := by decide +kernel
theorem dX7_lay_82 : decode cX7_lay 82 = .ok (.aload_n 0, 1) := by decide +kernel
theorem dX7_lay_83 : decode cX7_lay 83 = .ok (.getfield 67, 3) := by decide +kernel
theorem dX7_lay_86 : decode cX7_lay 86 = .ok (.iconst 0, 1) := by decide +kernel
theorem dX7_lay_87 : decode cX7_lay 87 = .ok (.putfield 103, 3) := by decide +kernel
theorem dX7_lay_90 : decode cX7_lay 90 = .ok (.aload_n 0, 1) := by decide +kernel
theorem dX7_lay_91 : decode cX7_lay 91 = .ok (.getfield 23, 3) := by decide +kernel
theorem dX7_lay_94 : decode cX7_lay 94 = .ok (.getfield 106, 3) := by decide +kernel
theorem dX7_lay_97 : decode cX7_lay 97 = .ok (.ireturn, 1) := by decide +kernel
theorem dX7_bridge_0 : decode cX7_bridge 0 = .ok (.aload_n 0, 1) := by decide +kernel
theorem dX7_bridge_1 : decode cX7_bridge 1 = .ok (.iload_n 1, 1) := by decide +kernel
theorem dX7_bridge_2 : decode cX7_bridge 2 = .ok (.invokevirtual 109, 3) := by decide +kernel
theorem dX7_bridge_5 : decode cX7_bridge 5 = .ok (.ifCond .ne 5, 3) := by decide +kernel
theorem dX7_bridge_8 : decode cX7_bridge 8 = .ok (.iconst (-1), 1) := by decide +kernel
theorem dX7_bridge_9 : decode cX7_bridge 9 = .ok (.ireturn, 1) := by decide +kernel
theorem dX7_bridge_10 : decode cX7_bridge 10 = .ok (.aload_n 0, 1) := by decide +kernel
theorem dX7_bridge_11 : decode cX7_bridge 11 = .ok (.invokevirtual 113, 3) := by decide +kernel
theorem dX7_bridge_14 : decode cX7_bridge 14 = .ok (.iload_n 2, 1) := by decide +kernel
theorem dX7_bridge_15 : decode cX7_bridge 15 = .ok (.tableswitch 129 0 7 #[45, 55, 65, 75, 87, 99, 109, 119], 45) := by decide +kernel
theorem dX7_bridge_60 : decode cX7_bridge 60 = .ok (.aload_n 0, 1) := by decide +kernel
theorem dX7_bridge_61 : decode cX7_bridge 61 = .ok (.getfield 23, 3) := by decide +kernel
theorem dX7_bridge_64 : decode cX7_bridge 64 = .ok (.getfield 116, 3) := by decide +kernel
theorem dX7_bridge_67 : decode cX7_bridge 67 = .ok (.iload_n 1, 1) := by decide +kernel
theorem dX7_bridge_68 : decode cX7_bridge 68 = .ok (.iaload, 1) := by decide +kernel
theorem dX7_bridge_69 : decode cX7_bridge 69 = .ok (.ireturn, 1) := by decide +kernel
theorem dX7_bridge_70 : decode cX7_bridge 70 = .ok (.aload_n 0, 1) := by decide +kernel
theorem dX7_bridge_71 : decode cX7_bridge 71 = .ok (.getfield 23, 3) := by decide +kernel
theorem dX7_bridge_74 : decode cX7_bridge 74 = .ok (.getfield 119, 3) := by decide +kernel
theorem dX7_bridge_77 : decode cX7_bridge 77 = .ok (.iload_n 1, 1) := by decide +kernel
theorem dX7_bridge_78 : decode cX7_bridge 78 = .ok (.iaload, 1) := by decide +kernel
theorem dX7_bridge_79 : decode cX7_bridge 79 = .ok (.ireturn, 1) := by decide +kernel
theorem dX7_bridge_80 : decode cX7_bridge 80 = .ok (.aload_n 0, 1) := by decide +kernel
theorem dX7_bridge_81 : decode cX7_bridge 81 = .ok (.getfield 23, 3) := by decide +kernel
theorem dX7_bridge_84 : decode cX7_bridge 84 = .ok (.getfield 122, 3) := by decide +kernel
theorem dX7_bridge_87 : decode cX7_bridge 87 = .ok (.iload_n 1, 1) := by decide +kernel
theorem dX7_bridge_88 : decode cX7_bridge 88 = .ok (.iaload, 1) := by decide +kernel
theorem dX7_bridge_89 : decode cX7_bridge 89 = .ok (.ireturn, 1) := by decide +kernel
theorem dX7_bridge_90 : decode cX7_bridge 90 = .ok (.aload_n 0, 1) := by decide +kernel
theorem dX7_bridge_91 : decode cX7_bridge 91 = .ok (.getfield 23, 3) := by decide +kernel
theorem dX7_bridge_94 : decode cX7_bridge 94 = .ok (.getfield 125, 3) := by decide +kernel
theorem dX7_bridge_97 : decode cX7_bridge 97 = .ok (.iload_n 1, 1) := by decide +kernel
theorem dX7_bridge_98 : decode cX7_bridge 98 = .ok (.ishr, 1) := by decide +kernel
theorem dX7_bridge_99 : decode cX7_bridge 99 = .ok (.iconst 1, 1) := by decide +kernel
theorem dX7_bridge_100 : decode cX7_bridge 100 = .ok (.iand, 1) := by decide +kernel
theorem dX7_bridge_101 : decode cX7_bridge 101 = .ok (.ireturn, 1) := by decide +kernel
theorem dX7_bridge_102 : decode cX7_bridge 102 = .ok (.aload_n 0, 1) := by decide +kernel
theorem dX7_bridge_103 : decode cX7_bridge 103 = .ok (.getfield 33, 3) := by decide +kernel
theorem dX7_bridge_106 : decode cX7_bridge 106 = .ok (.getfield 128, 3) := by decide +kernel
theorem dX7_bridge_109 : decode cX7_bridge 109 = .ok (.iload_n 1, 1) := by decide +kernel
theorem dX7_bridge_110 : decode cX7_bridge 110 = .ok (.ishr, 1) := by decide +kernel
theorem dX7_bridge_111 : decode cX7_bridge 111 = .ok (.iconst 1, 1) := by decide +kernel
theorem dX7_bridge_112 : decode cX7_bridge 112 = .ok (.iand, 1) := by decide +kernel
theorem dX7_bridge_113 : decode cX7_bridge 113 = .ok (.ireturn, 1) := by decide +kernel
theorem dX7_bridge_114 : decode cX7_bridge 114 = .ok (.aload_n 0, 1) := by decide +kernel
theorem dX7_bridge_115 : decode cX7_bridge 115 = .ok (.getfield 40, 3) := by decide +kernel
theorem dX7_bridge_118 : decode cX7_bridge 118 = .ok (.getfield 131, 3) := by decide +kernel
theorem dX7_bridge_121 : decode cX7_bridge 121 = .ok (.iload_n 1, 1) := by decide +kernel
theorem dX7_bridge_122 : decode cX7_bridge 122 = .ok (.iaload, 1) := by decide +kernel
theorem dX7_bridge_123 : decode cX7_bridge 123 = .ok (.ireturn, 1) := by decide +kernel
theorem dX7_bridge_124 : decode cX7_bridge 124 = .ok (.aload_n 0, 1) := by decide +kernel
theorem dX7_bridge_125 : decode cX7_bridge 125 = .ok (.getfield 40, 3) := by decide +kernel
theorem dX7_bridge_128 : decode cX7_bridge 128 = .ok (.getfield 134, 3) := by decide +kernel
theorem dX7_bridge_131 : decode cX7_bridge 131 = .ok (.iload_n 1, 1) := by decide +kernel
theorem dX7_bridge_132 : decode cX7_bridge 132 = .ok (.iaload, 1) := by decide +kernel
theorem dX7_bridge_133 : decode cX7_bridge 133 = .ok (.ireturn, 1) := by decide +kernel
theorem dX7_bridge_134 : decode cX7_bridge 134 = .ok (.aload_n 0, 1) := by decide +kernel
theorem dX7_bridge_135 : decode cX7_bridge 135 = .ok (.getfield 33, 3) := by decide +kernel
theorem dX7_bridge_138 : decode cX7_bridge 138 = .ok (.getfield 137, 3) := by decide +kernel
theorem dX7_bridge_141 : decode cX7_bridge 141 = .ok (.iload_n 1, 1) := by decide +kernel
theorem dX7_bridge_142 : decode cX7_bridge 142 = .ok (.iaload, 1) := by decide +kernel
theorem dX7_bridge_143 : decode cX7_bridge 143 = .ok (.ireturn, 1) := by decide +kernel
theorem dX7_bridge_144 : decode cX7_bridge 144 = .ok (.iconst (-1), 1) := by decide +kernel
theorem dX7_bridge_145 : decode cX7_bridge 145 = .ok (.ireturn, 1) := by decide +kernel
theorem dX7_goer_0 : decode cX7_goer 0 = .ok (.aload_n 0, 1) := by decide +kernel
theorem dX7_goer_1 : decode cX7_goer 1 = .ok (.iload_n 1, 1) := by decide +kernel
theorem dX7_goer_2 : decode cX7_goer 2 = .ok (.invokevirtual 140, 3) := by decide +kernel
theorem dX7_goer_5 : decode cX7_goer 5 = .ok (.ifCond .ne 5, 3) := by decide +kernel
theorem dX7_goer_8 : decode cX7_goer 8 = .ok (.iconst (-1), 1) := by decide +kernel
theorem dX7_goer_9 : decode cX7_goer 9 = .ok (.ireturn, 1) := by decide +kernel
theorem dX7_goer_10 : decode cX7_goer 10 = .ok (.aload_n 0, 1) := by decide +kernel
theorem dX7_goer_11 : decode cX7_goer 11 = .ok (.invokevirtual 113, 3) := by decide +kernel
theorem dX7_goer_14 : decode cX7_goer 14 = .ok (.iload_n 2, 1) := by decide +kernel
theorem dX7_goer_15 : decode cX7_goer 15 = .ok (.tableswitch 110 0 6 #[41, 51, 61, 71, 81, 91, 101], 41) := by decide +kernel
theorem dX7_goer_56 : decode cX7_goer 56 = .ok (.aload_n 0, 1) := by decide +kernel
theorem dX7_goer_57 : decode cX7_goer 57 = .ok (.getfield 33, 3) := by decide +kernel
theorem dX7_goer_60 : decode cX7_goer 60 = .ok (.getfield 143, 3) := by decide +kernel
theorem dX7_goer_63 : decode cX7_goer 63 = .ok (.iload_n 1, 1) := by decide +kernel
theorem dX7_goer_64 : decode cX7_goer 64 = .ok (.iaload, 1) := by decide +kernel
theorem dX7_goer_65 : decode cX7_goer 65 = .ok (.ireturn, 1) := by decide +kernel
theorem dX7_goer_66 : decode cX7_goer 66 = .ok (.aload_n 0, 1) := by decide +kernel
theorem dX7_goer_67 : decode cX7_goer 67 = .ok (.getfield 33, 3) := by decide +kernel
theorem dX7_goer_70 : decode cX7_goer 70 = .ok (.getfield 146, 3) := by decide +kernel
theorem dX7_goer_73 : decode cX7_goer 73 = .ok (.iload_n 1, 1) := by decide +kernel
theorem dX7_goer_74 : decode cX7_goer 74 = .ok (.iaload, 1) := by decide +kernel
theorem dX7_goer_75 : decode cX7_goer 75 = .ok (.ireturn, 1) := by decide +kernel
theorem dX7_goer_76 : decode cX7_goer 76 = .ok (.aload_n 0, 1) := by decide +kernel
theorem dX7_goer_77 : decode cX7_goer 77 = .ok (.getfield 23, 3) := by decide +kernel
theorem dX7_goer_80 : decode cX7_goer 80 = .ok (.getfield 149, 3) := by decide +kernel
theorem dX7_goer_83 : decode cX7_goer 83 = .ok (.iload_n 1, 1) := by decide +kernel
theorem dX7_goer_84 : decode cX7_goer 84 = .ok (.iaload, 1) := by decide +kernel
theorem dX7_goer_85 : decode cX7_goer 85 = .ok (.ireturn, 1) := by decide +kernel
theorem dX7_goer_86 : decode cX7_goer 86 = .ok (.aload_n 0, 1) := by decide +kernel
theorem dX7_goer_87 : decode cX7_goer 87 = .ok (.getfield 23, 3) := by decide +kernel
theorem dX7_goer_90 : decode cX7_goer 90 = .ok (.getfield 152, 3) := by decide +kernel
theorem dX7_goer_93 : decode cX7_goer 93 = .ok (.iload_n 1, 1) := by decide +kernel
theorem dX7_goer_94 : decode cX7_goer 94 = .ok (.iaload, 1) := by decide +kernel
theorem dX7_goer_95 : decode cX7_goer 95 = .ok (.ireturn, 1) := by decide +kernel
theorem dX7_goer_96 : decode cX7_goer 96 = .ok (.aload_n 0, 1) := by decide +kernel
theorem dX7_goer_97 : decode cX7_goer 97 = .ok (.getfield 23, 3) := by decide +kernel
theorem dX7_goer_100 : decode cX7_goer 100 = .ok (.getfield 155, 3) := by decide +kernel
theorem dX7_goer_103 : decode cX7_goer 103 = .ok (.iload_n 1, 1) := by decide +kernel
theorem dX7_goer_104 : decode cX7_goer 104 = .ok (.iaload, 1) := by decide +kernel
theorem dX7_goer_105 : decode cX7_goer 105 = .ok (.ireturn, 1) := by decide +kernel
theorem dX7_goer_106 : decode cX7_goer 106 = .ok (.aload_n 0, 1) := by decide +kernel
theorem dX7_goer_107 : decode cX7_goer 107 = .ok (.getfield 23, 3) := by decide +kernel
theorem dX7_goer_110 : decode cX7_goer 110 = .ok (.getfield 158, 3) := by decide +kernel
theorem dX7_goer_113 : decode cX7_goer 113 = .ok (.iload_n 1, 1) := by decide +kernel
theorem dX7_goer_114 : decode cX7_goer 114 = .ok (.iaload, 1) := by decide +kernel
theorem dX7_goer_115 : decode cX7_goer 115 = .ok (.ireturn, 1) := by decide +kernel
theorem dX7_goer_116 : decode cX7_goer 116 = .ok (.aload_n 0, 1) := by decide +kernel
theorem dX7_goer_117 : decode cX7_goer 117 = .ok (.getfield 40, 3) := by decide +kernel
theorem dX7_goer_120 : decode cX7_goer 120 = .ok (.iload_n 1, 1) := by decide +kernel
theorem dX7_goer_121 : decode cX7_goer 121 = .ok (.invokevirtual 161, 3) := by decide +kernel
theorem dX7_goer_124 : decode cX7_goer 124 = .ok (.ireturn, 1) := by decide +kernel
theorem dX7_goer_125 : decode cX7_goer 125 = .ok (.iconst (-1), 1) := by decide +kernel
theorem dX7_goer_126 : decode cX7_goer 126 = .ok (.ireturn, 1) := by decide +kernel
theorem dX7_lookAtToday_0 : decode cX7_lookAtToday 0 = .ok (.aload_n 0, 1) := by decide +kernel
theorem dX7_lookAtToday_1 : decode cX7_lookAtToday 1 = .ok (.getfield 40, 3) := by decide +kernel
theorem dX7_lookAtToday_4 : decode cX7_lookAtToday 4 = .ok (.aload_n 0, 1) := by decide +kernel
theorem dX7_lookAtToday_5 : decode cX7_lookAtToday 5 = .ok (.getfield 23, 3) := by decide +kernel
theorem dX7_lookAtToday_8 : decode cX7_lookAtToday 8 = .ok (.aload_n 0, 1) := by decide +kernel
theorem dX7_lookAtToday_9 : decode cX7_lookAtToday 9 = .ok (.getfield 33, 3) := by decide +kernel
theorem dX7_lookAtToday_12 : decode cX7_lookAtToday 12 = .ok (.invokevirtual 165, 3) := by decide +kernel
theorem dX7_lookAtToday_15 : decode cX7_lookAtToday 15 = .ok (.aload_n 0, 1) := by decide +kernel
theorem dX7_lookAtToday_16 : decode cX7_lookAtToday 16 = .ok (.getfield 40, 3) := by decide +kernel
theorem dX7_lookAtToday_19 : decode cX7_lookAtToday 19 = .ok (.aload_n 0, 1) := by decide +kernel
theorem dX7_lookAtToday_20 : decode cX7_lookAtToday 20 = .ok (.getfield 33, 3) := by decide +kernel
theorem dX7_lookAtToday_23 : decode cX7_lookAtToday 23 = .ok (.getfield 169, 3) := by decide +kernel
theorem dX7_lookAtToday_26 : decode cX7_lookAtToday 26 = .ok (.invokevirtual 172, 3) := by decide +kernel
theorem dX7_lookAtToday_29 : decode cX7_lookAtToday 29 = .ok (.return_, 1) := by decide +kernel
theorem dX7_days_0 : decode cX7_days 0 = .ok (.iload_n 1, 1) := by decide +kernel
theorem dX7_days_1 : decode cX7_days 1 = .ok (.iconst 1, 1) := by decide +kernel
theorem dX7_days_2 : decode cX7_days 2 = .ok (.bipush 60, 2) := by decide +kernel
theorem dX7_days_4 : decode cX7_days 4 = .ok (.invokestatic 90, 3) := by decide +kernel
theorem dX7_days_7 : decode cX7_days 7 = .ok (.ifCond .ne 5, 3) := by decide +kernel
theorem dX7_days_10 : decode cX7_days 10 = .ok (.iconst (-1), 1) := by decide +kernel
theorem dX7_days_11 : decode cX7_days 11 = .ok (.ireturn, 1) := by decide +kernel
theorem dX7_days_12 : decode cX7_days 12 = .ok (.aload_n 0, 1) := by decide +kernel
theorem dX7_days_13 : decode cX7_days 13 = .ok (.getfield 33, 3) := by decide +kernel
theorem dX7_days_16 : decode cX7_days 16 = .ok (.getfield 169, 3) := by decide +kernel
theorem dX7_days_19 : decode cX7_days 19 = .ok (.iload_n 1, 1) := by decide +kernel
theorem dX7_days_20 : decode cX7_days 20 = .ok (.iadd, 1) := by decide +kernel
theorem dX7_days_21 : decode cX7_days 21 = .ok (.bipush 99, 2) := by decide +kernel
theorem dX7_days_23 : decode cX7_days 23 = .ok (.if_icmp .le 6, 3) := by decide +kernel
theorem dX7_days_26 : decode cX7_days 26 = .ok (.bipush (-2), 2) := by decide +kernel
theorem dX7_days_28 : decode cX7_days 28 = .ok (.ireturn, 1) := by decide +kernel
theorem dX7_days_29 : decode cX7_days 29 = .ok (.aload_n 0, 1) := by decide +kernel
theorem dX7_days_30 : decode cX7_days 30 = .ok (.getfield 63, 3) := by decide +kernel
theorem dX7_days_33 : decode cX7_days 33 = .ok (.aload_n 0, 1) := by decide +kernel
theorem dX7_days_34 : decode cX7_days 34 = .ok (.getfield 33, 3) := by decide +kernel
theorem dX7_days_37 : decode cX7_days 37 = .ok (.invokevirtual 175, 3) := by decide +kernel
theorem dX7_days_40 : decode cX7_days 40 = .ok (.aload_n 0, 1) := by decide +kernel
theorem dX7_days_41 : decode cX7_days 41 = .ok (.iload_n 1, 1) := by decide +kernel
theorem dX7_days_42 : decode cX7_days 42 = .ok (.invokevirtual 179, 3) := by decide +kernel
theorem dX7_days_45 : decode cX7_days 45 = .ok (.aload_n 0, 1) := by decide +kernel
theorem dX7_days_46 : decode cX7_days 46 = .ok (.getfield 33, 3) := by decide +kernel
theorem dX7_days_49 : decode cX7_days 49 = .ok (.aload_n 0, 1) := by decide +kernel
theorem dX7_days_50 : decode cX7_days 50 = .ok (.getfield 40, 3) := by decide +kernel
theorem dX7_days_53 : decode cX7_days 53 = .ok (.getfield 182, 3) := by decide +kernel
theorem dX7_days_56 : decode cX7_days 56 = .ok (.invokevirtual 185, 3) := by decide +kernel
theorem dX7_days_59 : decode cX7_days 59 = .ok (.aload_n 0, 1) := by decide +kernel
theorem dX7_days_60 : decode cX7_days 60 = .ok (.getfield 33, 3) := by decide +kernel
theorem dX7_days_63 : decode cX7_days 63 = .ok (.getfield 169, 3) := by decide +kernel
theorem dX7_days_66 : decode cX7_days 66 = .ok (.ireturn, 1) := by decide +kernel
theorem dX7_put_0 : decode cX7_put 0 = .ok (.aload_n 0, 1) := by decide +kernel
theorem dX7_put_1 : decode cX7_put 1 = .ok (.iload_n 1, 1) := by decide +kernel
theorem dX7_put_2 : decode cX7_put 2 = .ok (.invokevirtual 109, 3) := by decide +kernel
theorem dX7_put_5 : decode cX7_put 5 = .ok (.ifCond .eq 13, 3) := by decide +kernel
theorem dX7_put_8 : decode cX7_put 8 = .ok (.iload_n 2, 1) := by decide +kernel
theorem dX7_put_9 : decode cX7_put 9 = .ok (.iconst 1, 1) := by decide +kernel
theorem dX7_put_10 : decode cX7_put 10 = .ok (.bipush 99, 2) := by decide +kernel
theorem dX7_put_12 : decode cX7_put 12 = .ok (.invokestatic 90, 3) := by decide +kernel
theorem dX7_put_15 : decode cX7_put 15 = .ok (.ifCond .ne 5, 3) := by decide +kernel
theorem dX7_put_18 : decode cX7_put 18 = .ok (.iconst (-1), 1) := by decide +kernel
theorem dX7_put_19 : decode cX7_put 19 = .ok (.ireturn, 1) := by decide +kernel
theorem dX7_put_20 : decode cX7_put 20 = .ok (.aload_n 0, 1) := by decide +kernel
theorem dX7_put_21 : decode cX7_put 21 = .ok (.getfield 33, 3) := by decide +kernel
theorem dX7_put_24 : decode cX7_put 24 = .ok (.getfield 137, 3) := by decide +kernel
theorem dX7_put_27 : decode cX7_put 27 = .ok (.iload_n 1, 1) := by decide +kernel
theorem dX7_put_28 : decode cX7_put 28 = .ok (.iaload, 1) := by decide +kernel
theorem dX7_put_29 : decode cX7_put 29 = .ok (.iload_n 2, 1) := by decide +kernel
theorem dX7_put_30 : decode cX7_put 30 = .ok (.iadd, 1) := by decide +kernel
theorem dX7_put_31 : decode cX7_put 31 = .ok (.bipush 99, 2) := by decide +kernel
theorem dX7_put_33 : decode cX7_put 33 = .ok (.if_icmp .le 6, 3) := by decide +kernel
theorem dX7_put_36 : decode cX7_put 36 = .ok (.bipush (-2), 2) := by decide +kernel
theorem dX7_put_38 : decode cX7_put 38 = .ok (.ireturn, 1) := by decide +kernel
theorem dX7_put_39 : decode cX7_put 39 = .ok (.aload_n 0, 1) := by decide +kernel
theorem dX7_put_40 : decode cX7_put 40 = .ok (.getfield 63, 3) := by decide +kernel
theorem dX7_put_43 : decode cX7_put 43 = .ok (.aload_n 0, 1) := by decide +kernel
theorem dX7_put_44 : decode cX7_put 44 = .ok (.getfield 33, 3) := by decide +kernel
theorem dX7_put_47 : decode cX7_put 47 = .ok (.invokevirtual 175, 3) := by decide +kernel
theorem dX7_put_50 : decode cX7_put 50 = .ok (.aload_n 0, 1) := by decide +kernel
theorem dX7_put_51 : decode cX7_put 51 = .ok (.getfield 33, 3) := by decide +kernel
theorem dX7_put_54 : decode cX7_put 54 = .ok (.getfield 137, 3) := by decide +kernel
theorem dX7_put_57 : decode cX7_put 57 = .ok (.iload_n 1, 1) := by decide +kernel
theorem dX7_put_58 : decode cX7_put 58 = .ok (.dup2, 1) := by decide +kernel
theorem dX7_put_59 : decode cX7_put 59 = .ok (.iaload, 1) := by decide +kernel
theorem dX7_put_60 : decode cX7_put 60 = .ok (.iload_n 2, 1) := by decide +kernel
theorem dX7_put_61 : decode cX7_put 61 = .ok (.iadd, 1) := by decide +kernel
theorem dX7_put_62 : decode cX7_put 62 = .ok (.iastore, 1) := by decide +kernel
theorem dX7_put_63 : decode cX7_put 63 = .ok (.aload_n 0, 1) := by decide +kernel
theorem dX7_put_64 : decode cX7_put 64 = .ok (.getfield 33, 3) := by decide +kernel
theorem dX7_put_67 : decode cX7_put 67 = .ok (.getfield 137, 3) := by decide +kernel
theorem dX7_put_70 : decode cX7_put 70 = .ok (.iload_n 1, 1) := by decide +kernel
theorem dX7_put_71 : decode cX7_put 71 = .ok (.iaload, 1) := by decide +kernel
theorem dX7_put_72 : decode cX7_put 72 = .ok (.ireturn, 1) := by decide +kernel
theorem dX7_guard_0 : decode cX7_guard 0 = .ok (.aload_n 0, 1) := by decide +kernel
theorem dX7_guard_1 : decode cX7_guard 1 = .ok (.iload_n 1, 1) := by decide +kernel
theorem dX7_guard_2 : decode cX7_guard 2 = .ok (.invokevirtual 109, 3) := by decide +kernel
theorem dX7_guard_5 : decode cX7_guard 5 = .ok (.ifCond .ne 5, 3) := by decide +kernel
theorem dX7_guard_8 : decode cX7_guard 8 = .ok (.iconst (-1), 1) := by decide +kernel
theorem dX7_guard_9 : decode cX7_guard 9 = .ok (.ireturn, 1) := by decide +kernel
theorem dX7_guard_10 : decode cX7_guard 10 = .ok (.aload_n 0, 1) := by decide +kernel
theorem dX7_guard_11 : decode cX7_guard 11 = .ok (.getfield 63, 3) := by decide +kernel
theorem dX7_guard_14 : decode cX7_guard 14 = .ok (.aload_n 0, 1) := by decide +kernel
theorem dX7_guard_15 : decode cX7_guard 15 = .ok (.getfield 33, 3) := by decide +kernel
theorem dX7_guard_18 : decode cX7_guard 18 = .ok (.invokevirtual 175, 3) := by decide +kernel
theorem dX7_guard_21 : decode cX7_guard 21 = .ok (.iload_n 2, 1) := by decide +kernel
theorem dX7_guard_22 : decode cX7_guard 22 = .ok (.ifCond .eq 21, 3) := by decide +kernel
theorem dX7_guard_25 : decode cX7_guard 25 = .ok (.aload_n 0, 1) := by decide +kernel
theorem dX7_guard_26 : decode cX7_guard 26 = .ok (.getfield 33, 3) := by decide +kernel
theorem dX7_guard_29 : decode cX7_guard 29 = .ok (.dup, 1) := by decide +kernel
theorem dX7_guard_30 : decode cX7_guard 30 = .ok (.getfield 128, 3) := by decide +kernel
theorem dX7_guard_33 : decode cX7_guard 33 = .ok (.iconst 1, 1) := by decide +kernel
theorem dX7_guard_34 : decode cX7_guard 34 = .ok (.iload_n 1, 1) := by decide +kernel
theorem dX7_guard_35 : decode cX7_guard 35 = .ok (.ishl, 1) := by decide +kernel
theorem dX7_guard_36 : decode cX7_guard 36 = .ok (.ior, 1) := by decide +kernel
theorem dX7_guard_37 : decode cX7_guard 37 = .ok (.putfield 128, 3) := by decide +kernel
theorem dX7_guard_40 : decode cX7_guard 40 = .ok (.goto 20, 3) := by decide +kernel
theorem dX7_guard_43 : decode cX7_guard 43 = .ok (.aload_n 0, 1) := by decide +kernel
theorem dX7_guard_44 : decode cX7_guard 44 = .ok (.getfield 33, 3) := by decide +kernel
theorem dX7_guard_47 : decode cX7_guard 47 = .ok (.dup, 1) := by decide +kernel
theorem dX7_guard_48 : decode cX7_guard 48 = .ok (.getfield 128, 3) := by decide +kernel
theorem dX7_guard_51 : decode cX7_guard 51 = .ok (.iconst 1, 1) := by decide +kernel
theorem dX7_guard_52 : decode cX7_guard 52 = .ok (.iload_n 1, 1) := by decide +kernel
theorem dX7_guard_53 : decode cX7_guard 53 = .ok (.ishl, 1) := by decide +kernel
theorem dX7_guard_54 : decode cX7_guard 54 = .ok (.iconst (-1), 1) := by decide +kernel
theorem dX7_guard_55 : decode cX7_guard 55 = .ok (.ixor, 1) := by decide +kernel
theorem dX7_guard_56 : decode cX7_guard 56 = .ok (.iand, 1) := by decide +kernel
theorem dX7_guard_57 : decode cX7_guard 57 = .ok (.putfield 128, 3) := by decide +kernel
theorem dX7_guard_60 : decode cX7_guard 60 = .ok (.aload_n 0, 1) := by decide +kernel
theorem dX7_guard_61 : decode cX7_guard 61 = .ok (.getfield 33, 3) := by decide +kernel
theorem dX7_guard_64 : decode cX7_guard 64 = .ok (.getfield 128, 3) := by decide +kernel
theorem dX7_guard_67 : decode cX7_guard 67 = .ok (.invokestatic 188, 3) := by decide +kernel
theorem dX7_guard_70 : decode cX7_guard 70 = .ok (.ireturn, 1) := by decide +kernel
theorem dX7_undo_0 : decode cX7_undo 0 = .ok (.aload_n 0, 1) := by decide +kernel
theorem dX7_undo_1 : decode cX7_undo 1 = .ok (.getfield 63, 3) := by decide +kernel
theorem dX7_undo_4 : decode cX7_undo 4 = .ok (.aload_n 0, 1) := by decide +kernel
theorem dX7_undo_5 : decode cX7_undo 5 = .ok (.getfield 33, 3) := by decide +kernel
theorem dX7_undo_8 : decode cX7_undo 8 = .ok (.invokevirtual 193, 3) := by decide +kernel
theorem dX7_undo_11 : decode cX7_undo 11 = .ok (.ifCond .ne 6, 3) := by decide +kernel
theorem dX7_undo_14 : decode cX7_undo 14 = .ok (.bipush (-2), 2) := by decide +kernel
theorem dX7_undo_16 : decode cX7_undo 16 = .ok (.ireturn, 1) := by decide +kernel
theorem dX7_undo_17 : decode cX7_undo 17 = .ok (.aload_n 0, 1) := by decide +kernel
theorem dX7_undo_18 : decode cX7_undo 18 = .ok (.getfield 63, 3) := by decide +kernel
theorem dX7_undo_21 : decode cX7_undo 21 = .ok (.getfield 103, 3) := by decide +kernel
theorem dX7_undo_24 : decode cX7_undo 24 = .ok (.ireturn, 1) := by decide +kernel
theorem dX7_where_0 : decode cX7_where 0 = .ok (.iload_n 1, 1) := by decide +kernel
theorem dX7_where_1 : decode cX7_where 1 = .ok (.iconst 0, 1) := by decide +kernel
theorem dX7_where_2 : decode cX7_where 2 = .ok (.bipush 60, 2) := by decide +kernel
theorem dX7_where_4 : decode cX7_where 4 = .ok (.invokestatic 90, 3) := by decide +kernel
theorem dX7_where_7 : decode cX7_where 7 = .ok (.ifCond .eq 11, 3) := by decide +kernel
theorem dX7_where_10 : decode cX7_where 10 = .ok (.aload_n 0, 1) := by decide +kernel
theorem dX7_where_11 : decode cX7_where 11 = .ok (.iload_n 2, 1) := by decide +kernel
theorem dX7_where_12 : decode cX7_where 12 = .ok (.invokevirtual 140, 3) := by decide +kernel
theorem dX7_where_15 : decode cX7_where 15 = .ok (.ifCond .ne 5, 3) := by decide +kernel
theorem dX7_where_18 : decode cX7_where 18 = .ok (.iconst (-1), 1) := by decide +kernel
theorem dX7_where_19 : decode cX7_where 19 = .ok (.ireturn, 1) := by decide +kernel
theorem dX7_where_20 : decode cX7_where 20 = .ok (.aload_n 0, 1) := by decide +kernel
theorem dX7_where_21 : decode cX7_where 21 = .ok (.iload_n 1, 1) := by decide +kernel
theorem dX7_where_22 : decode cX7_where 22 = .ok (.invokevirtual 179, 3) := by decide +kernel
theorem dX7_where_25 : decode cX7_where 25 = .ok (.aload_n 0, 1) := by decide +kernel
theorem dX7_where_26 : decode cX7_where 26 = .ok (.getfield 40, 3) := by decide +kernel
theorem dX7_where_29 : decode cX7_where 29 = .ok (.getfield 182, 3) := by decide +kernel
theorem dX7_where_32 : decode cX7_where 32 = .ok (.getfield 143, 3) := by decide +kernel
theorem dX7_where_35 : decode cX7_where 35 = .ok (.iload_n 2, 1) := by decide +kernel
theorem dX7_where_36 : decode cX7_where 36 = .ok (.iaload, 1) := by decide +kernel
theorem dX7_where_37 : decode cX7_where 37 = .ok (.ireturn, 1) := by decide +kernel
theorem dX7_planks_0 : decode cX7_planks 0 = .ok (.iload_n 1, 1) := by decide +kernel
theorem dX7_planks_1 : decode cX7_planks 1 = .ok (.iconst 0, 1) := by decide +kernel
theorem dX7_planks_2 : decode cX7_planks 2 = .ok (.bipush 60, 2) := by decide +kernel
theorem dX7_planks_4 : decode cX7_planks 4 = .ok (.invokestatic 90, 3) := by decide +kernel
theorem dX7_planks_7 : decode cX7_planks 7 = .ok (.ifCond .eq 11, 3) := by decide +kernel
theorem dX7_planks_10 : decode cX7_planks 10 = .ok (.aload_n 0, 1) := by decide +kernel
theorem dX7_planks_11 : decode cX7_planks 11 = .ok (.iload_n 2, 1) := by decide +kernel
theorem dX7_planks_12 : decode cX7_planks 12 = .ok (.invokevirtual 109, 3) := by decide +kernel
theorem dX7_planks_15 : decode cX7_planks 15 = .ok (.ifCond .ne 5, 3) := by decide +kernel
theorem dX7_planks_18 : decode cX7_planks 18 = .ok (.iconst (-1), 1) := by decide +kernel
theorem dX7_planks_19 : decode cX7_planks 19 = .ok (.ireturn, 1) := by decide +kernel
theorem dX7_planks_20 : decode cX7_planks 20 = .ok (.aload_n 0, 1) := by decide +kernel
theorem dX7_planks_21 : decode cX7_planks 21 = .ok (.iload_n 1, 1) := by decide +kernel
theorem dX7_planks_22 : decode cX7_planks 22 = .ok (.invokevirtual 179, 3) := by decide +kernel
theorem dX7_planks_25 : decode cX7_planks 25 = .ok (.aload_n 0, 1) := by decide +kernel
theorem dX7_planks_26 : decode cX7_planks 26 = .ok (.iload_n 2, 1) := by decide +kernel
theorem dX7_planks_27 : decode cX7_planks 27 = .ok (.invokevirtual 197, 3) := by decide +kernel
theorem dX7_planks_30 : decode cX7_planks 30 = .ok (.ireturn, 1) := by decide +kernel
theorem dX7_all_0 : decode cX7_all 0 = .ok (.iload_n 1, 1) := by decide +kernel
theorem dX7_all_1 : decode cX7_all 1 = .ok (.iconst 0, 1) := by decide +kernel
theorem dX7_all_2 : decode cX7_all 2 = .ok (.bipush 60, 2) := by decide +kernel
theorem dX7_all_4 : decode cX7_all 4 = .ok (.invokestatic 90, 3) := by decide +kernel
theorem dX7_all_7 : decode cX7_all 7 = .ok (.ifCond .eq 12, 3) := by decide +kernel
theorem dX7_all_10 : decode cX7_all 10 = .ok (.iload_n 2, 1) := by decide +kernel
theorem dX7_all_11 : decode cX7_all 11 = .ok (.iconst 0, 1) := by decide +kernel
theorem dX7_all_12 : decode cX7_all 12 = .ok (.iconst 3, 1) := by decide +kernel
theorem dX7_all_13 : decode cX7_all 13 = .ok (.invokestatic 90, 3) := by decide +kernel
theorem dX7_all_16 : decode cX7_all 16 = .ok (.ifCond .ne 5, 3) := by decide +kernel
theorem dX7_all_19 : decode cX7_all 19 = .ok (.iconst (-1), 1) := by decide +kernel
theorem dX7_all_20 : decode cX7_all 20 = .ok (.ireturn, 1) := by decide +kernel
theorem dX7_all_21 : decode cX7_all 21 = .ok (.aload_n 0, 1) := by decide +kernel
theorem dX7_all_22 : decode cX7_all 22 = .ok (.iload_n 1, 1) := by decide +kernel
theorem dX7_all_23 : decode cX7_all 23 = .ok (.invokevirtual 179, 3) := by decide +kernel
theorem dX7_all_26 : decode cX7_all 26 = .ok (.iload_n 2, 1) := by decide +kernel
theorem dX7_all_27 : decode cX7_all 27 = .ok (.tableswitch 49 0 2 #[25, 33, 41], 25) := by decide +kernel
theorem dX7_all_52 : decode cX7_all 52 = .ok (.aload_n 0, 1) := by decide +kernel
theorem dX7_all_53 : decode cX7_all 53 = .ok (.getfield 40, 3) := by decide +kernel
theorem dX7_all_56 : decode cX7_all 56 = .ok (.getfield 200, 3) := by decide +kernel
theorem dX7_all_59 : decode cX7_all 59 = .ok (.ireturn, 1) := by decide +kernel
theorem dX7_all_60 : decode cX7_all 60 = .ok (.aload_n 0, 1) := by decide +kernel
theorem dX7_all_61 : decode cX7_all 61 = .ok (.getfield 40, 3) := by decide +kernel
theorem dX7_all_64 : decode cX7_all 64 = .ok (.getfield 203, 3) := by decide +kernel
theorem dX7_all_67 : decode cX7_all 67 = .ok (.ireturn, 1) := by decide +kernel
theorem dX7_all_68 : decode cX7_all 68 = .ok (.aload_n 0, 1) := by decide +kernel
theorem dX7_all_69 : decode cX7_all 69 = .ok (.getfield 40, 3) := by decide +kernel
theorem dX7_all_72 : decode cX7_all 72 = .ok (.getfield 206, 3) := by decide +kernel
theorem dX7_all_75 : decode cX7_all 75 = .ok (.ireturn, 1) := by decide +kernel
theorem dX7_all_76 : decode cX7_all 76 = .ok (.aload_n 0, 1) := by decide +kernel
theorem dX7_all_77 : decode cX7_all 77 = .ok (.getfield 40, 3) := by decide +kernel
theorem dX7_all_80 : decode cX7_all 80 = .ok (.getfield 209, 3) := by decide +kernel
theorem dX7_all_83 : decode cX7_all 83 = .ok (.ireturn, 1) := by decide +kernel
theorem dX7_goBehind_0 : decode cX7_goBehind 0 = .ok (.aload_n 0, 1) := by decide +kernel
theorem dX7_goBehind_1 : decode cX7_goBehind 1 = .ok (.getfield 40, 3) := by decide +kernel
theorem dX7_goBehind_4 : decode cX7_goBehind 4 = .ok (.aload_n 0, 1) := by decide +kernel
theorem dX7_goBehind_5 : decode cX7_goBehind 5 = .ok (.getfield 23, 3) := by decide +kernel
theorem dX7_goBehind_8 : decode cX7_goBehind 8 = .ok (.aload_n 0, 1) := by decide +kernel
theorem dX7_goBehind_9 : decode cX7_goBehind 9 = .ok (.getfield 33, 3) := by decide +kernel
theorem dX7_goBehind_12 : decode cX7_goBehind 12 = .ok (.invokevirtual 165, 3) := by decide +kernel
theorem dX7_goBehind_15 : decode cX7_goBehind 15 = .ok (.aload_n 0, 1) := by decide +kernel
theorem dX7_goBehind_16 : decode cX7_goBehind 16 = .ok (.getfield 40, 3) := by decide +kernel
theorem dX7_goBehind_19 : decode cX7_goBehind 19 = .ok (.iload_n 1, 1) := by decide +kernel
theorem dX7_goBehind_20 : decode cX7_goBehind 20 = .ok (.invokevirtual 212, 3) := by decide +kernel
theorem dX7_goBehind_23 : decode cX7_goBehind 23 = .ok (.return_, 1) := by decide +kernel
theorem dX7_planksThen_0 : decode cX7_planksThen 0 = .ok (.aload_n 0, 1) := by decide +kernel
theorem dX7_planksThen_1 : decode cX7_planksThen 1 = .ok (.getfield 40, 3) := by decide +kernel
theorem dX7_planksThen_4 : decode cX7_planksThen 4 = .ok (.aload_n 0, 1) := by decide +kernel
theorem dX7_planksThen_5 : decode cX7_planksThen 5 = .ok (.getfield 40, 3) := by decide +kernel
theorem dX7_planksThen_8 : decode cX7_planksThen 8 = .ok (.getfield 182, 3) := by decide +kernel
theorem dX7_planksThen_11 : decode cX7_planksThen 11 = .ok (.getfield 169, 3) := by decide +kernel
theorem dX7_planksThen_14 : decode cX7_planksThen 14 = .ok (.invokevirtual 172, 3) := by decide +kernel
theorem dX7_planksThen_17 : decode cX7_planksThen 17 = .ok (.aload_n 0, 1) := by decide +kernel
theorem dX7_planksThen_18 : decode cX7_planksThen 18 = .ok (.getfield 40, 3) := by decide +kernel
theorem dX7_planksThen_21 : decode cX7_planksThen 21 = .ok (.getfield 131, 3) := by decide +kernel
theorem dX7_planksThen_24 : decode cX7_planksThen 24 = .ok (.iload_n 1, 1) := by decide +kernel
theorem dX7_planksThen_25 : decode cX7_planksThen 25 = .ok (.iaload, 1) := by decide +kernel
theorem dX7_planksThen_26 : decode cX7_planksThen 26 = .ok (.ireturn, 1) := by decide +kernel
theorem dX7_abbot_0 : decode cX7_abbot 0 = .ok (.iload_n 1, 1) := by decide +kernel
theorem dX7_abbot_1 : decode cX7_abbot 1 = .ok (.iconst 1, 1) := by decide +kernel
theorem dX7_abbot_2 : decode cX7_abbot 2 = .ok (.bipush 60, 2) := by decide +kernel
theorem dX7_abbot_4 : decode cX7_abbot 4 = .ok (.invokestatic 90, 3) := by decide +kernel
theorem dX7_abbot_7 : decode cX7_abbot 7 = .ok (.ifCond .ne 5, 3) := by decide +kernel
theorem dX7_abbot_10 : decode cX7_abbot 10 = .ok (.iconst (-1), 1) := by decide +kernel
theorem dX7_abbot_11 : decode cX7_abbot 11 = .ok (.ireturn, 1) := by decide +kernel
theorem dX7_abbot_12 : decode cX7_abbot 12 = .ok (.iconst 0, 1) := by decide +kernel
theorem dX7_abbot_13 : decode cX7_abbot 13 = .ok (.istore_n 2, 1) := by decide +kernel
theorem dX7_abbot_14 : decode cX7_abbot 14 = .ok (.iload_n 2, 1) := by decide +kernel
theorem dX7_abbot_15 : decode cX7_abbot 15 = .ok (.bipush 20, 2) := by decide +kernel
theorem dX7_abbot_17 : decode cX7_abbot 17 = .ok (.if_icmp .gt 20, 3) := by decide +kernel
theorem dX7_abbot_20 : decode cX7_abbot 20 = .ok (.aload_n 0, 1) := by decide +kernel
theorem dX7_abbot_21 : decode cX7_abbot 21 = .ok (.iload_n 2, 1) := by decide +kernel
theorem dX7_abbot_22 : decode cX7_abbot 22 = .ok (.iload_n 1, 1) := by decide +kernel
theorem dX7_abbot_23 : decode cX7_abbot 23 = .ok (.invokevirtual 215, 3) := by decide +kernel
theorem dX7_abbot_26 : decode cX7_abbot 26 = .ok (.ifCond .eq 5, 3) := by decide +kernel
theorem dX7_abbot_29 : decode cX7_abbot 29 = .ok (.iload_n 2, 1) := by decide +kernel
theorem dX7_abbot_30 : decode cX7_abbot 30 = .ok (.ireturn, 1) := by decide +kernel
theorem dX7_abbot_31 : decode cX7_abbot 31 = .ok (.iinc 2 1, 3) := by decide +kernel
theorem dX7_abbot_34 : decode cX7_abbot 34 = .ok (.goto (-20), 3) := by decide +kernel
theorem dX7_abbot_37 : decode cX7_abbot 37 = .ok (.bipush (-4), 2) := by decide +kernel
theorem dX7_abbot_39 : decode cX7_abbot 39 = .ok (.ireturn, 1) := by decide +kernel
theorem dX7_nobodyWaits_0 : decode cX7_nobodyWaits 0 = .ok (.aload_n 0, 1) := by decide +kernel
theorem dX7_nobodyWaits_1 : decode cX7_nobodyWaits 1 = .ok (.getfield 40, 3) := by decide +kernel
theorem dX7_nobodyWaits_4 : decode cX7_nobodyWaits 4 = .ok (.aload_n 0, 1) := by decide +kernel
theorem dX7_nobodyWaits_5 : decode cX7_nobodyWaits 5 = .ok (.getfield 23, 3) := by decide +kernel
theorem dX7_nobodyWaits_8 : decode cX7_nobodyWaits 8 = .ok (.aload_n 0, 1) := by decide +kernel
theorem dX7_nobodyWaits_9 : decode cX7_nobodyWaits 9 = .ok (.getfield 33, 3) := by decide +kernel
theorem dX7_nobodyWaits_12 : decode cX7_nobodyWaits 12 = .ok (.invokevirtual 165, 3) := by decide +kernel
theorem dX7_nobodyWaits_15 : decode cX7_nobodyWaits 15 = .ok (.aload_n 0, 1) := by decide +kernel
theorem dX7_nobodyWaits_16 : decode cX7_nobodyWaits 16 = .ok (.getfield 40, 3) := by decide +kernel
theorem dX7_nobodyWaits_19 : decode cX7_nobodyWaits 19 = .ok (.iload_n 1, 1) := by decide +kernel
theorem dX7_nobodyWaits_20 : decode cX7_nobodyWaits 20 = .ok (.putfield 219, 3) := by decide +kernel
theorem dX7_nobodyWaits_23 : decode cX7_nobodyWaits 23 = .ok (.iconst 0, 1) := by decide +kernel
theorem dX7_nobodyWaits_24 : decode cX7_nobodyWaits 24 = .ok (.istore_n 3, 1) := by decide +kernel
theorem dX7_nobodyWaits_25 : decode cX7_nobodyWaits 25 = .ok (.iload_n 3, 1) := by decide +kernel
theorem dX7_nobodyWaits_26 : decode cX7_nobodyWaits 26 = .ok (.iload_n 2, 1) := by decide +kernel
theorem dX7_nobodyWaits_27 : decode cX7_nobodyWaits 27 = .ok (.if_icmp .ge 50, 3) := by decide +kernel
theorem dX7_nobodyWaits_30 : decode cX7_nobodyWaits 30 = .ok (.aload_n 0, 1) := by decide +kernel
theorem dX7_nobodyWaits_31 : decode cX7_nobodyWaits 31 = .ok (.getfield 40, 3) := by decide +kernel
theorem dX7_nobodyWaits_34 : decode cX7_nobodyWaits 34 = .ok (.getfield 200, 3) := by decide +kernel
theorem dX7_nobodyWaits_37 : decode cX7_nobodyWaits 37 = .ok (.istore 4, 2) := by decide +kernel
theorem dX7_nobodyWaits_39 : decode cX7_nobodyWaits 39 = .ok (.aload_n 0, 1) := by decide +kernel
theorem dX7_nobodyWaits_40 : decode cX7_nobodyWaits 40 = .ok (.getfield 40, 3) := by decide +kernel
theorem dX7_nobodyWaits_43 : decode cX7_nobodyWaits 43 = .ok (.invokevirtual 222, 3) := by decide +kernel
theorem dX7_nobodyWaits_46 : decode cX7_nobodyWaits 46 = .ok (.iload_n 3, 1) := by decide +kernel
theorem dX7_nobodyWaits_47 : decode cX7_nobodyWaits 47 = .ok (.aload_n 0, 1) := by decide +kernel
theorem dX7_nobodyWaits_48 : decode cX7_nobodyWaits 48 = .ok (.getfield 23, 3) := by decide +kernel
theorem dX7_nobodyWaits_51 : decode cX7_nobodyWaits 51 = .ok (.getfield 225, 3) := by decide +kernel
theorem dX7_nobodyWaits_54 : decode cX7_nobodyWaits 54 = .ok (.if_icmp .lt 17, 3) := by decide +kernel
theorem dX7_nobodyWaits_57 : decode cX7_nobodyWaits 57 = .ok (.aload_n 0, 1) := by decide +kernel
theorem dX7_nobodyWaits_58 : decode cX7_nobodyWaits 58 = .ok (.getfield 40, 3) := by decide +kernel
theorem dX7_nobodyWaits_61 : decode cX7_nobodyWaits 61 = .ok (.getfield 200, 3) := by decide +kernel
theorem dX7_nobodyWaits_64 : decode cX7_nobodyWaits 64 = .ok (.iload 4, 2) := by decide +kernel
theorem dX7_nobodyWaits_66 : decode cX7_nobodyWaits 66 = .ok (.if_icmp .le 5, 3) := by decide +kernel
theorem dX7_nobodyWaits_69 : decode cX7_nobodyWaits 69 = .ok (.iconst 0, 1) := by decide +kernel
theorem dX7_nobodyWaits_70 : decode cX7_nobodyWaits 70 = .ok (.ireturn, 1) := by decide +kernel
theorem dX7_nobodyWaits_71 : decode cX7_nobodyWaits 71 = .ok (.iinc 3 1, 3) := by decide +kernel
theorem dX7_nobodyWaits_74 : decode cX7_nobodyWaits 74 = .ok (.goto (-49), 3) := by decide +kernel
theorem dX7_nobodyWaits_77 : decode cX7_nobodyWaits 77 = .ok (.iconst 1, 1) := by decide +kernel
theorem dX7_nobodyWaits_78 : decode cX7_nobodyWaits 78 = .ok (.ireturn, 1) := by decide +kernel
theorem dX7_oak_0 : decode cX7_oak 0 = .ok (.iload_n 1, 1) := by decide +kernel
theorem dX7_oak_1 : decode cX7_oak 1 = .ok (.iconst 1, 1) := by decide +kernel
theorem dX7_oak_2 : decode cX7_oak 2 = .ok (.bipush 60, 2) := by decide +kernel
theorem dX7_oak_4 : decode cX7_oak 4 = .ok (.invokestatic 90, 3) := by decide +kernel
theorem dX7_oak_7 : decode cX7_oak 7 = .ok (.ifCond .ne 5, 3) := by decide +kernel
theorem dX7_oak_10 : decode cX7_oak 10 = .ok (.iconst (-1), 1) := by decide +kernel
theorem dX7_oak_11 : decode cX7_oak 11 = .ok (.ireturn, 1) := by decide +kernel
theorem dX7_oak_12 : decode cX7_oak 12 = .ok (.bipush (-4), 2) := by decide +kernel
theorem dX7_oak_14 : decode cX7_oak 14 = .ok (.istore_n 2, 1) := by decide +kernel
theorem dX7_oak_15 : decode cX7_oak 15 = .ok (.iconst 0, 1) := by decide +kernel
theorem dX7_oak_16 : decode cX7_oak 16 = .ok (.istore_n 3, 1) := by decide +kernel
theorem dX7_oak_17 : decode cX7_oak 17 = .ok (.iconst 0, 1) := by decide +kernel
theorem dX7_oak_18 : decode cX7_oak 18 = .ok (.istore 4, 2) := by decide +kernel
theorem dX7_oak_20 : decode cX7_oak 20 = .ok (.iload 4, 2) := by decide +kernel
theorem dX7_oak_22 : decode cX7_oak 22 = .ok (.aload_n 0, 1) := by decide +kernel
theorem dX7_oak_23 : decode cX7_oak 23 = .ok (.getfield 23, 3) := by decide +kernel
theorem dX7_oak_26 : decode cX7_oak 26 = .ok (.getfield 97, 3) := by decide +kernel
theorem dX7_oak_29 : decode cX7_oak 29 = .ok (.if_icmp .ge 94, 3) := by decide +kernel
theorem dX7_oak_32 : decode cX7_oak 32 = .ok (.aload_n 0, 1) := by decide +kernel
theorem dX7_oak_33 : decode cX7_oak 33 = .ok (.getfield 23, 3) := by decide +kernel
theorem dX7_oak_36 : decode cX7_oak 36 = .ok (.getfield 125, 3) := by decide +kernel
theorem dX7_oak_39 : decode cX7_oak 39 = .ok (.iload 4, 2) := by decide +kernel
theorem dX7_oak_41 : decode cX7_oak 41 = .ok (.ishr, 1) := by decide +kernel
theorem dX7_oak_42 : decode cX7_oak 42 = .ok (.iconst 1, 1) := by decide +kernel
theorem dX7_oak_43 : decode cX7_oak 43 = .ok (.iand, 1) := by decide +kernel
theorem dX7_oak_44 : decode cX7_oak 44 = .ok (.ifCond .eq 6, 3) := by decide +kernel
theorem dX7_oak_47 : decode cX7_oak 47 = .ok (.goto 70, 3) := by decide +kernel
theorem dX7_oak_50 : decode cX7_oak 50 = .ok (.aload_n 0, 1) := by decide +kernel
theorem dX7_oak_51 : decode cX7_oak 51 = .ok (.getfield 40, 3) := by decide +kernel
theorem dX7_oak_54 : decode cX7_oak 54 = .ok (.aload_n 0, 1) := by decide +kernel
theorem dX7_oak_55 : decode cX7_oak 55 = .ok (.getfield 23, 3) := by decide +kernel
theorem dX7_oak_58 : decode cX7_oak 58 = .ok (.aload_n 0, 1) := by decide +kernel
theorem dX7_oak_59 : decode cX7_oak 59 = .ok (.getfield 33, 3) := by decide +kernel
theorem dX7_oak_62 : decode cX7_oak 62 = .ok (.invokevirtual 165, 3) := by decide +kernel
theorem dX7_oak_65 : decode cX7_oak 65 = .ok (.aload_n 0, 1) := by decide +kernel
theorem dX7_oak_66 : decode cX7_oak 66 = .ok (.getfield 40, 3) := by decide +kernel
theorem dX7_oak_69 : decode cX7_oak 69 = .ok (.dup, 1) := by decide +kernel
theorem dX7_oak_70 : decode cX7_oak 70 = .ok (.getfield 228, 3) := by decide +kernel
theorem dX7_oak_73 : decode cX7_oak 73 = .ok (.iconst 1, 1) := by decide +kernel
theorem dX7_oak_74 : decode cX7_oak 74 = .ok (.iload 4, 2) := by decide +kernel
theorem dX7_oak_76 : decode cX7_oak 76 = .ok (.ishl, 1) := by decide +kernel
theorem dX7_oak_77 : decode cX7_oak 77 = .ok (.ior, 1) := by decide +kernel
theorem dX7_oak_78 : decode cX7_oak 78 = .ok (.putfield 228, 3) := by decide +kernel
theorem dX7_oak_81 : decode cX7_oak 81 = .ok (.aload_n 0, 1) := by decide +kernel
theorem dX7_oak_82 : decode cX7_oak 82 = .ok (.getfield 40, 3) := by decide +kernel
theorem dX7_oak_85 : decode cX7_oak 85 = .ok (.iload_n 1, 1) := by decide +kernel
theorem dX7_oak_86 : decode cX7_oak 86 = .ok (.invokevirtual 212, 3) := by decide +kernel
theorem dX7_oak_89 : decode cX7_oak 89 = .ok (.iload_n 2, 1) := by decide +kernel
theorem dX7_oak_90 : decode cX7_oak 90 = .ok (.bipush (-4), 2) := by decide +kernel
theorem dX7_oak_92 : decode cX7_oak 92 = .ok (.if_icmp .eq 14, 3) := by decide +kernel
theorem dX7_oak_95 : decode cX7_oak 95 = .ok (.aload_n 0, 1) := by decide +kernel
theorem dX7_oak_96 : decode cX7_oak 96 = .ok (.getfield 40, 3) := by decide +kernel
theorem dX7_oak_99 : decode cX7_oak 99 = .ok (.getfield 200, 3) := by decide +kernel
theorem dX7_oak_102 : decode cX7_oak 102 = .ok (.iload_n 3, 1) := by decide +kernel
theorem dX7_oak_103 : decode cX7_oak 103 = .ok (.if_icmp .ge 14, 3) := by decide +kernel
theorem dX7_oak_106 : decode cX7_oak 106 = .ok (.iload 4, 2) := by decide +kernel
theorem dX7_oak_108 : decode cX7_oak 108 = .ok (.istore_n 2, 1) := by decide +kernel
theorem dX7_oak_109 : decode cX7_oak 109 = .ok (.aload_n 0, 1) := by decide +kernel
theorem dX7_oak_110 : decode cX7_oak 110 = .ok (.getfield 40, 3) := by decide +kernel
theorem dX7_oak_113 : decode cX7_oak 113 = .ok (.getfield 200, 3) := by decide +kernel
theorem dX7_oak_116 : decode cX7_oak 116 = .ok (.istore_n 3, 1) := by decide +kernel
theorem dX7_oak_117 : decode cX7_oak 117 = .ok (.iinc 4 1, 3) := by decide +kernel
theorem dX7_oak_120 : decode cX7_oak 120 = .ok (.goto (-100), 3) := by decide +kernel
theorem dX7_oak_123 : decode cX7_oak 123 = .ok (.iload_n 2, 1) := by decide +kernel
theorem dX7_oak_124 : decode cX7_oak 124 = .ok (.ireturn, 1) := by decide +kernel
theorem dX7_delays_0 : decode cX7_delays 0 = .ok (.iload_n 1, 1) := by decide +kernel
theorem dX7_delays_1 : decode cX7_delays 1 = .ok (.iconst 1, 1) := by decide +kernel
theorem dX7_delays_2 : decode cX7_delays 2 = .ok (.bipush 60, 2) := by decide +kernel
theorem dX7_delays_4 : decode cX7_delays 4 = .ok (.invokestatic 90, 3) := by decide +kernel
theorem dX7_delays_7 : decode cX7_delays 7 = .ok (.ifCond .ne 5, 3) := by decide +kernel
theorem dX7_delays_10 : decode cX7_delays 10 = .ok (.iconst (-1), 1) := by decide +kernel
theorem dX7_delays_11 : decode cX7_delays 11 = .ok (.ireturn, 1) := by decide +kernel
theorem dX7_delays_12 : decode cX7_delays 12 = .ok (.bipush (-4), 2) := by decide +kernel
theorem dX7_delays_14 : decode cX7_delays 14 = .ok (.istore_n 2, 1) := by decide +kernel
theorem dX7_delays_15 : decode cX7_delays 15 = .ok (.iconst 0, 1) := by decide +kernel
theorem dX7_delays_16 : decode cX7_delays 16 = .ok (.istore_n 3, 1) := by decide +kernel
theorem dX7_delays_17 : decode cX7_delays 17 = .ok (.iconst 1, 1) := by decide +kernel
theorem dX7_delays_18 : decode cX7_delays 18 = .ok (.istore 4, 2) := by decide +kernel
theorem dX7_delays_20 : decode cX7_delays 20 = .ok (.iload 4, 2) := by decide +kernel
theorem dX7_delays_22 : decode cX7_delays 22 = .ok (.bipush 9, 2) := by decide +kernel
theorem dX7_delays_24 : decode cX7_delays 24 = .ok (.if_icmp .gt 69, 3) := by decide +kernel
theorem dX7_delays_27 : decode cX7_delays 27 = .ok (.aload_n 0, 1) := by decide +kernel
theorem dX7_delays_28 : decode cX7_delays 28 = .ok (.getfield 40, 3) := by decide +kernel
theorem dX7_delays_31 : decode cX7_delays 31 = .ok (.aload_n 0, 1) := by decide +kernel
theorem dX7_delays_32 : decode cX7_delays 32 = .ok (.getfield 23, 3) := by decide +kernel
theorem dX7_delays_35 : decode cX7_delays 35 = .ok (.aload_n 0, 1) := by decide +kernel
theorem dX7_delays_36 : decode cX7_delays 36 = .ok (.getfield 33, 3) := by decide +kernel
theorem dX7_delays_39 : decode cX7_delays 39 = .ok (.invokevirtual 165, 3) := by decide +kernel
theorem dX7_delays_42 : decode cX7_delays 42 = .ok (.aload_n 0, 1) := by decide +kernel
theorem dX7_delays_43 : decode cX7_delays 43 = .ok (.getfield 40, 3) := by decide +kernel
theorem dX7_delays_46 : decode cX7_delays 46 = .ok (.iload 4, 2) := by decide +kernel
theorem dX7_delays_48 : decode cX7_delays 48 = .ok (.putfield 229, 3) := by decide +kernel
theorem dX7_delays_51 : decode cX7_delays 51 = .ok (.aload_n 0, 1) := by decide +kernel
theorem dX7_delays_52 : decode cX7_delays 52 = .ok (.getfield 40, 3) := by decide +kernel
theorem dX7_delays_55 : decode cX7_delays 55 = .ok (.iload_n 1, 1) := by decide +kernel
theorem dX7_delays_56 : decode cX7_delays 56 = .ok (.invokevirtual 212, 3) := by decide +kernel
theorem dX7_delays_59 : decode cX7_delays 59 = .ok (.iload_n 2, 1) := by decide +kernel
theorem dX7_delays_60 : decode cX7_delays 60 = .ok (.bipush (-4), 2) := by decide +kernel
theorem dX7_delays_62 : decode cX7_delays 62 = .ok (.if_icmp .eq 14, 3) := by decide +kernel
theorem dX7_delays_65 : decode cX7_delays 65 = .ok (.aload_n 0, 1) := by decide +kernel
theorem dX7_delays_66 : decode cX7_delays 66 = .ok (.getfield 40, 3) := by decide +kernel
theorem dX7_delays_69 : decode cX7_delays 69 = .ok (.getfield 200, 3) := by decide +kernel
theorem dX7_delays_72 : decode cX7_delays 72 = .ok (.iload_n 3, 1) := by decide +kernel
theorem dX7_delays_73 : decode cX7_delays 73 = .ok (.if_icmp .ge 14, 3) := by decide +kernel
theorem dX7_delays_76 : decode cX7_delays 76 = .ok (.iload 4, 2) := by decide +kernel
theorem dX7_delays_78 : decode cX7_delays 78 = .ok (.istore_n 2, 1) := by decide +kernel
theorem dX7_delays_79 : decode cX7_delays 79 = .ok (.aload_n 0, 1) := by decide +kernel
theorem dX7_delays_80 : decode cX7_delays 80 = .ok (.getfield 40, 3) := by decide +kernel
theorem dX7_delays_83 : decode cX7_delays 83 = .ok (.getfield 200, 3) := by decide +kernel
theorem dX7_delays_86 : decode cX7_delays 86 = .ok (.istore_n 3, 1) := by decide +kernel
theorem dX7_delays_87 : decode cX7_delays 87 = .ok (.iinc 4 1, 3) := by decide +kernel
theorem dX7_delays_90 : decode cX7_delays 90 = .ok (.goto (-70), 3) := by decide +kernel
theorem dX7_delays_93 : decode cX7_delays 93 = .ok (.iload_n 2, 1) := by decide +kernel
theorem dX7_delays_94 : decode cX7_delays 94 = .ok (.ireturn, 1) := by decide +kernel
theorem dX7_watch_0 : decode cX7_watch 0 = .ok (.iload_n 1, 1) := by decide +kernel
theorem dX7_watch_1 : decode cX7_watch 1 = .ok (.iconst 1, 1) := by decide +kernel
theorem dX7_watch_2 : decode cX7_watch 2 = .ok (.bipush 60, 2) := by decide +kernel
theorem dX7_watch_4 : decode cX7_watch 4 = .ok (.invokestatic 90, 3) := by decide +kernel
theorem dX7_watch_7 : decode cX7_watch 7 = .ok (.ifCond .ne 5, 3) := by decide +kernel
theorem dX7_watch_10 : decode cX7_watch 10 = .ok (.iconst (-1), 1) := by decide +kernel
theorem dX7_watch_11 : decode cX7_watch 11 = .ok (.ireturn, 1) := by decide +kernel
theorem dX7_watch_12 : decode cX7_watch 12 = .ok (.bipush (-4), 2) := by decide +kernel
theorem dX7_watch_14 : decode cX7_watch 14 = .ok (.istore_n 2, 1) := by decide +kernel
theorem dX7_watch_15 : decode cX7_watch 15 = .ok (.iconst 0, 1) := by decide +kernel
theorem dX7_watch_16 : decode cX7_watch 16 = .ok (.istore_n 3, 1) := by decide +kernel
theorem dX7_watch_17 : decode cX7_watch 17 = .ok (.iconst 0, 1) := by decide +kernel
theorem dX7_watch_18 : decode cX7_watch 18 = .ok (.istore 4, 2) := by decide +kernel
theorem dX7_watch_20 : decode cX7_watch 20 = .ok (.iload 4, 2) := by decide +kernel
theorem dX7_watch_22 : decode cX7_watch 22 = .ok (.aload_n 0, 1) := by decide +kernel
theorem dX7_watch_23 : decode cX7_watch 23 = .ok (.getfield 23, 3) := by decide +kernel
theorem dX7_watch_26 : decode cX7_watch 26 = .ok (.getfield 97, 3) := by decide +kernel
theorem dX7_watch_29 : decode cX7_watch 29 = .ok (.if_icmp .ge 79, 3) := by decide +kernel
theorem dX7_watch_32 : decode cX7_watch 32 = .ok (.aload_n 0, 1) := by decide +kernel
theorem dX7_watch_33 : decode cX7_watch 33 = .ok (.getfield 40, 3) := by decide +kernel
theorem dX7_watch_36 : decode cX7_watch 36 = .ok (.aload_n 0, 1) := by decide +kernel
theorem dX7_watch_37 : decode cX7_watch 37 = .ok (.getfield 23, 3) := by decide +kernel
theorem dX7_watch_40 : decode cX7_watch 40 = .ok (.aload_n 0, 1) := by decide +kernel
theorem dX7_watch_41 : decode cX7_watch 41 = .ok (.getfield 33, 3) := by decide +kernel
theorem dX7_watch_44 : decode cX7_watch 44 = .ok (.invokevirtual 165, 3) := by decide +kernel
theorem dX7_watch_47 : decode cX7_watch 47 = .ok (.aload_n 0, 1) := by decide +kernel
theorem dX7_watch_48 : decode cX7_watch 48 = .ok (.getfield 40, 3) := by decide +kernel
theorem dX7_watch_51 : decode cX7_watch 51 = .ok (.getfield 182, 3) := by decide +kernel
theorem dX7_watch_54 : decode cX7_watch 54 = .ok (.dup, 1) := by decide +kernel
theorem dX7_watch_55 : decode cX7_watch 55 = .ok (.getfield 128, 3) := by decide +kernel
theorem dX7_watch_58 : decode cX7_watch 58 = .ok (.iconst 1, 1) := by decide +kernel
theorem dX7_watch_59 : decode cX7_watch 59 = .ok (.iload 4, 2) := by decide +kernel
theorem dX7_watch_61 : decode cX7_watch 61 = .ok (.ishl, 1) := by decide +kernel
theorem dX7_watch_62 : decode cX7_watch 62 = .ok (.ior, 1) := by decide +kernel
theorem dX7_watch_63 : decode cX7_watch 63 = .ok (.putfield 128, 3) := by decide +kernel
theorem dX7_watch_66 : decode cX7_watch 66 = .ok (.aload_n 0, 1) := by decide +kernel
theorem dX7_watch_67 : decode cX7_watch 67 = .ok (.getfield 40, 3) := by decide +kernel
theorem dX7_watch_70 : decode cX7_watch 70 = .ok (.iload_n 1, 1) := by decide +kernel
theorem dX7_watch_71 : decode cX7_watch 71 = .ok (.invokevirtual 212, 3) := by decide +kernel
theorem dX7_watch_74 : decode cX7_watch 74 = .ok (.iload_n 2, 1) := by decide +kernel
theorem dX7_watch_75 : decode cX7_watch 75 = .ok (.bipush (-4), 2) := by decide +kernel
theorem dX7_watch_77 : decode cX7_watch 77 = .ok (.if_icmp .eq 14, 3) := by decide +kernel
theorem dX7_watch_80 : decode cX7_watch 80 = .ok (.aload_n 0, 1) := by decide +kernel
theorem dX7_watch_81 : decode cX7_watch 81 = .ok (.getfield 40, 3) := by decide +kernel
theorem dX7_watch_84 : decode cX7_watch 84 = .ok (.getfield 203, 3) := by decide +kernel
theorem dX7_watch_87 : decode cX7_watch 87 = .ok (.iload_n 3, 1) := by decide +kernel
theorem dX7_watch_88 : decode cX7_watch 88 = .ok (.if_icmp .ge 14, 3) := by decide +kernel
theorem dX7_watch_91 : decode cX7_watch 91 = .ok (.iload 4, 2) := by decide +kernel
theorem dX7_watch_93 : decode cX7_watch 93 = .ok (.istore_n 2, 1) := by decide +kernel
theorem dX7_watch_94 : decode cX7_watch 94 = .ok (.aload_n 0, 1) := by decide +kernel
theorem dX7_watch_95 : decode cX7_watch 95 = .ok (.getfield 40, 3) := by decide +kernel
theorem dX7_watch_98 : decode cX7_watch 98 = .ok (.getfield 203, 3) := by decide +kernel
theorem dX7_watch_101 : decode cX7_watch 101 = .ok (.istore_n 3, 1) := by decide +kernel
theorem dX7_watch_102 : decode cX7_watch 102 = .ok (.iinc 4 1, 3) := by decide +kernel
theorem dX7_watch_105 : decode cX7_watch 105 = .ok (.goto (-85), 3) := by decide +kernel
theorem dX7_watch_108 : decode cX7_watch 108 = .ok (.iload_n 2, 1) := by decide +kernel
theorem dX7_watch_109 : decode cX7_watch 109 = .ok (.ireturn, 1) := by decide +kernel
theorem dX7_sent_0 : decode cX7_sent 0 = .ok (.aload_n 0, 1) := by decide +kernel
theorem dX7_sent_1 : decode cX7_sent 1 = .ok (.iload_n 1, 1) := by decide +kernel
theorem dX7_sent_2 : decode cX7_sent 2 = .ok (.invokevirtual 230, 3) := by decide +kernel
theorem dX7_sent_5 : decode cX7_sent 5 = .ok (.ifCond .eq 31, 3) := by decide +kernel
theorem dX7_sent_8 : decode cX7_sent 8 = .ok (.aload_n 0, 1) := by decide +kernel
theorem dX7_sent_9 : decode cX7_sent 9 = .ok (.iload_n 2, 1) := by decide +kernel
theorem dX7_sent_10 : decode cX7_sent 10 = .ok (.invokevirtual 230, 3) := by decide +kernel
theorem dX7_sent_13 : decode cX7_sent 13 = .ok (.ifCond .eq 23, 3) := by decide +kernel
theorem dX7_sent_16 : decode cX7_sent 16 = .ok (.iload_n 3, 1) := by decide +kernel
theorem dX7_sent_17 : decode cX7_sent 17 = .ok (.iconst 1, 1) := by decide +kernel
theorem dX7_sent_18 : decode cX7_sent 18 = .ok (.bipush 40, 2) := by decide +kernel
theorem dX7_sent_20 : decode cX7_sent 20 = .ok (.invokestatic 90, 3) := by decide +kernel
theorem dX7_sent_23 : decode cX7_sent 23 = .ok (.ifCond .eq 13, 3) := by decide +kernel
theorem dX7_sent_26 : decode cX7_sent 26 = .ok (.iload 4, 2) := by decide +kernel
theorem dX7_sent_28 : decode cX7_sent 28 = .ok (.iconst 0, 1) := by decide +kernel
theorem dX7_sent_29 : decode cX7_sent 29 = .ok (.iconst 1, 1) := by decide +kernel
theorem dX7_sent_30 : decode cX7_sent 30 = .ok (.invokestatic 90, 3) := by decide +kernel
theorem dX7_sent_33 : decode cX7_sent 33 = .ok (.ifCond .ne 5, 3) := by decide +kernel
theorem dX7_sent_36 : decode cX7_sent 36 = .ok (.iconst (-1), 1) := by decide +kernel
theorem dX7_sent_37 : decode cX7_sent 37 = .ok (.ireturn, 1) := by decide +kernel
theorem dX7_sent_38 : decode cX7_sent 38 = .ok (.iload_n 1, 1) := by decide +kernel
theorem dX7_sent_39 : decode cX7_sent 39 = .ok (.iload_n 2, 1) := by decide +kernel
theorem dX7_sent_40 : decode cX7_sent 40 = .ok (.if_icmp .ne 5, 3) := by decide +kernel
theorem dX7_sent_43 : decode cX7_sent 43 = .ok (.iconst 0, 1) := by decide +kernel
theorem dX7_sent_44 : decode cX7_sent 44 = .ok (.ireturn, 1) := by decide +kernel
theorem dX7_sent_45 : decode cX7_sent 45 = .ok (.aload_n 0, 1) := by decide +kernel
theorem dX7_sent_46 : decode cX7_sent 46 = .ok (.getfield 40, 3) := by decide +kernel
theorem dX7_sent_49 : decode cX7_sent 49 = .ok (.aload_n 0, 1) := by decide +kernel
theorem dX7_sent_50 : decode cX7_sent 50 = .ok (.getfield 23, 3) := by decide +kernel
theorem dX7_sent_53 : decode cX7_sent 53 = .ok (.aload_n 0, 1) := by decide +kernel
theorem dX7_sent_54 : decode cX7_sent 54 = .ok (.getfield 33, 3) := by decide +kernel
theorem dX7_sent_57 : decode cX7_sent 57 = .ok (.invokevirtual 165, 3) := by decide +kernel
theorem dX7_sent_60 : decode cX7_sent 60 = .ok (.aload_n 0, 1) := by decide +kernel
theorem dX7_sent_61 : decode cX7_sent 61 = .ok (.getfield 47, 3) := by decide +kernel
theorem dX7_sent_64 : decode cX7_sent 64 = .ok (.aload_n 0, 1) := by decide +kernel
theorem dX7_sent_65 : decode cX7_sent 65 = .ok (.getfield 40, 3) := by decide +kernel
theorem dX7_sent_68 : decode cX7_sent 68 = .ok (.iload_n 1, 1) := by decide +kernel
theorem dX7_sent_69 : decode cX7_sent 69 = .ok (.iload_n 2, 1) := by decide +kernel
theorem dX7_sent_70 : decode cX7_sent 70 = .ok (.iload_n 3, 1) := by decide +kernel
theorem dX7_sent_71 : decode cX7_sent 71 = .ok (.invokevirtual 233, 3) := by decide +kernel
theorem dX7_sent_74 : decode cX7_sent 74 = .ok (.iload 4, 2) := by decide +kernel
theorem dX7_sent_76 : decode cX7_sent 76 = .ok (.ifCond .ne 13, 3) := by decide +kernel
theorem dX7_sent_79 : decode cX7_sent 79 = .ok (.aload_n 0, 1) := by decide +kernel
theorem dX7_sent_80 : decode cX7_sent 80 = .ok (.getfield 47, 3) := by decide +kernel
theorem dX7_sent_83 : decode cX7_sent 83 = .ok (.getfield 237, 3) := by decide +kernel
theorem dX7_sent_86 : decode cX7_sent 86 = .ok (.goto 10, 3) := by decide +kernel
theorem dX7_sent_89 : decode cX7_sent 89 = .ok (.aload_n 0, 1) := by decide +kernel
theorem dX7_sent_90 : decode cX7_sent 90 = .ok (.getfield 47, 3) := by decide +kernel
theorem dX7_sent_93 : decode cX7_sent 93 = .ok (.getfield 240, 3) := by decide +kernel
theorem dX7_sent_96 : decode cX7_sent 96 = .ok (.ireturn, 1) := by decide +kernel
theorem dX7_rumour_0 : decode cX7_rumour 0 = .ok (.aload_n 0, 1) := by decide +kernel
theorem dX7_rumour_1 : decode cX7_rumour 1 = .ok (.iload_n 1, 1) := by decide +kernel
theorem dX7_rumour_2 : decode cX7_rumour 2 = .ok (.invokevirtual 140, 3) := by decide +kernel
theorem dX7_rumour_5 : decode cX7_rumour 5 = .ok (.ifCond .eq 31, 3) := by decide +kernel
theorem dX7_rumour_8 : decode cX7_rumour 8 = .ok (.aload_n 0, 1) := by decide +kernel
theorem dX7_rumour_9 : decode cX7_rumour 9 = .ok (.iload_n 2, 1) := by decide +kernel
theorem dX7_rumour_10 : decode cX7_rumour 10 = .ok (.invokevirtual 109, 3) := by decide +kernel
theorem dX7_rumour_13 : decode cX7_rumour 13 = .ok (.ifCond .eq 23, 3) := by decide +kernel
theorem dX7_rumour_16 : decode cX7_rumour 16 = .ok (.iload_n 3, 1) := by decide +kernel
theorem dX7_rumour_17 : decode cX7_rumour 17 = .ok (.iconst 0, 1) := by decide +kernel
theorem dX7_rumour_18 : decode cX7_rumour 18 = .ok (.bipush 60, 2) := by decide +kernel
theorem dX7_rumour_20 : decode cX7_rumour 20 = .ok (.invokestatic 90, 3) := by decide +kernel
theorem dX7_rumour_23 : decode cX7_rumour 23 = .ok (.ifCond .eq 13, 3) := by decide +kernel
theorem dX7_rumour_26 : decode cX7_rumour 26 = .ok (.iload 4, 2) := by decide +kernel
theorem dX7_rumour_28 : decode cX7_rumour 28 = .ok (.iconst 0, 1) := by decide +kernel
theorem dX7_rumour_29 : decode cX7_rumour 29 = .ok (.iconst 1, 1) := by decide +kernel
theorem dX7_rumour_30 : decode cX7_rumour 30 = .ok (.invokestatic 90, 3) := by decide +kernel
theorem dX7_rumour_33 : decode cX7_rumour 33 = .ok (.ifCond .ne 5, 3) := by decide +kernel
theorem dX7_rumour_36 : decode cX7_rumour 36 = .ok (.iconst (-1), 1) := by decide +kernel
theorem dX7_rumour_37 : decode cX7_rumour 37 = .ok (.ireturn, 1) := by decide +kernel
theorem dX7_rumour_38 : decode cX7_rumour 38 = .ok (.aload_n 0, 1) := by decide +kernel
theorem dX7_rumour_39 : decode cX7_rumour 39 = .ok (.getfield 40, 3) := by decide +kernel
theorem dX7_rumour_42 : decode cX7_rumour 42 = .ok (.aload_n 0, 1) := by decide +kernel
theorem dX7_rumour_43 : decode cX7_rumour 43 = .ok (.getfield 23, 3) := by decide +kernel
theorem dX7_rumour_46 : decode cX7_rumour 46 = .ok (.aload_n 0, 1) := by decide +kernel
theorem dX7_rumour_47 : decode cX7_rumour 47 = .ok (.getfield 33, 3) := by decide +kernel
theorem dX7_rumour_50 : decode cX7_rumour 50 = .ok (.invokevirtual 165, 3) := by decide +kernel
theorem dX7_rumour_53 : decode cX7_rumour 53 = .ok (.aload_n 0, 1) := by decide +kernel
theorem dX7_rumour_54 : decode cX7_rumour 54 = .ok (.getfield 40, 3) := by decide +kernel
theorem dX7_rumour_57 : decode cX7_rumour 57 = .ok (.iload_n 2, 1) := by decide +kernel
theorem dX7_rumour_58 : decode cX7_rumour 58 = .ok (.putfield 243, 3) := by decide +kernel
theorem dX7_rumour_61 : decode cX7_rumour 61 = .ok (.aload_n 0, 1) := by decide +kernel
theorem dX7_rumour_62 : decode cX7_rumour 62 = .ok (.getfield 40, 3) := by decide +kernel
theorem dX7_rumour_65 : decode cX7_rumour 65 = .ok (.iconst 1, 1) := by decide +kernel
theorem dX7_rumour_66 : decode cX7_rumour 66 = .ok (.iload_n 1, 1) := by decide +kernel
theorem dX7_rumour_67 : decode cX7_rumour 67 = .ok (.ishl, 1) := by decide +kernel
theorem dX7_rumour_68 : decode cX7_rumour 68 = .ok (.putfield 246, 3) := by decide +kernel
theorem dX7_rumour_71 : decode cX7_rumour 71 = .ok (.aload_n 0, 1) := by decide +kernel
theorem dX7_rumour_72 : decode cX7_rumour 72 = .ok (.getfield 40, 3) := by decide +kernel
theorem dX7_rumour_75 : decode cX7_rumour 75 = .ok (.iload_n 3, 1) := by decide +kernel
theorem dX7_rumour_76 : decode cX7_rumour 76 = .ok (.invokevirtual 212, 3) := by decide +kernel
theorem dX7_rumour_79 : decode cX7_rumour 79 = .ok (.iload 4, 2) := by decide +kernel
theorem dX7_rumour_81 : decode cX7_rumour 81 = .ok (.ifCond .ne 13, 3) := by decide +kernel
theorem dX7_rumour_84 : decode cX7_rumour 84 = .ok (.aload_n 0, 1) := by decide +kernel
theorem dX7_rumour_85 : decode cX7_rumour 85 = .ok (.getfield 40, 3) := by decide +kernel
theorem dX7_rumour_88 : decode cX7_rumour 88 = .ok (.getfield 246, 3) := by decide +kernel
theorem dX7_rumour_91 : decode cX7_rumour 91 = .ok (.goto 8, 3) := by decide +kernel
theorem dX7_rumour_94 : decode cX7_rumour 94 = .ok (.aload_n 0, 1) := by decide +kernel
theorem dX7_rumour_95 : decode cX7_rumour 95 = .ok (.iload_n 2, 1) := by decide +kernel
theorem dX7_rumour_96 : decode cX7_rumour 96 = .ok (.invokevirtual 197, 3) := by decide +kernel
theorem dX7_rumour_99 : decode cX7_rumour 99 = .ok (.ireturn, 1) := by decide +kernel
theorem dX7_enter_0 : decode cX7_enter 0 = .ok (.aload_n 0, 1) := by decide +kernel
theorem dX7_enter_1 : decode cX7_enter 1 = .ok (.iload_n 1, 1) := by decide +kernel
theorem dX7_enter_2 : decode cX7_enter 2 = .ok (.invokevirtual 109, 3) := by decide +kernel
theorem dX7_enter_5 : decode cX7_enter 5 = .ok (.ifCond .eq 23, 3) := by decide +kernel
theorem dX7_enter_8 : decode cX7_enter 8 = .ok (.iload_n 2, 1) := by decide +kernel
theorem dX7_enter_9 : decode cX7_enter 9 = .ok (.iconst 0, 1) := by decide +kernel
theorem dX7_enter_10 : decode cX7_enter 10 = .ok (.bipush 99, 2) := by decide +kernel
theorem dX7_enter_12 : decode cX7_enter 12 = .ok (.invokestatic 90, 3) := by decide +kernel
theorem dX7_enter_15 : decode cX7_enter 15 = .ok (.ifCond .eq 13, 3) := by decide +kernel
theorem dX7_enter_18 : decode cX7_enter 18 = .ok (.iload_n 3, 1) := by decide +kernel
theorem dX7_enter_19 : decode cX7_enter 19 = .ok (.iconst 1, 1) := by decide +kernel
theorem dX7_enter_20 : decode cX7_enter 20 = .ok (.bipush 80, 2) := by decide +kernel
theorem dX7_enter_22 : decode cX7_enter 22 = .ok (.invokestatic 90, 3) := by decide +kernel
theorem dX7_enter_25 : decode cX7_enter 25 = .ok (.ifCond .ne 5, 3) := by decide +kernel
theorem dX7_enter_28 : decode cX7_enter 28 = .ok (.iconst (-1), 1) := by decide +kernel
theorem dX7_enter_29 : decode cX7_enter 29 = .ok (.ireturn, 1) := by decide +kernel
theorem dX7_enter_30 : decode cX7_enter 30 = .ok (.aload_n 0, 1) := by decide +kernel
theorem dX7_enter_31 : decode cX7_enter 31 = .ok (.getfield 54, 3) := by decide +kernel
theorem dX7_enter_34 : decode cX7_enter 34 = .ok (.iload_n 1, 1) := by decide +kernel
theorem dX7_enter_35 : decode cX7_enter 35 = .ok (.iload_n 2, 1) := by decide +kernel
theorem dX7_enter_36 : decode cX7_enter 36 = .ok (.iload_n 3, 1) := by decide +kernel
theorem dX7_enter_37 : decode cX7_enter 37 = .ok (.iload 4, 2) := by decide +kernel
theorem dX7_enter_39 : decode cX7_enter 39 = .ok (.invokevirtual 249, 3) := by decide +kernel
theorem dX7_enter_42 : decode cX7_enter 42 = .ok (.ireturn, 1) := by decide +kernel
theorem dX7_close_0 : decode cX7_close 0 = .ok (.aload_n 0, 1) := by decide +kernel
theorem dX7_close_1 : decode cX7_close 1 = .ok (.getfield 54, 3) := by decide +kernel
theorem dX7_close_4 : decode cX7_close 4 = .ok (.getfield 100, 3) := by decide +kernel
theorem dX7_close_7 : decode cX7_close 7 = .ok (.istore_n 1, 1) := by decide +kernel
theorem dX7_close_8 : decode cX7_close 8 = .ok (.aload_n 0, 1) := by decide +kernel
theorem dX7_close_9 : decode cX7_close 9 = .ok (.getfield 54, 3) := by decide +kernel
theorem dX7_close_12 : decode cX7_close 12 = .ok (.iconst 0, 1) := by decide +kernel
theorem dX7_close_13 : decode cX7_close 13 = .ok (.putfield 100, 3) := by decide +kernel
theorem dX7_close_16 : decode cX7_close 16 = .ok (.iload_n 1, 1) := by decide +kernel
theorem dX7_close_17 : decode cX7_close 17 = .ok (.ireturn, 1) := by decide +kernel
theorem dX7_span_0 : decode cX7_span 0 = .ok (.aload_n 0, 1) := by decide +kernel
theorem dX7_span_1 : decode cX7_span 1 = .ok (.iload_n 1, 1) := by decide +kernel
theorem dX7_span_2 : decode cX7_span 2 = .ok (.invokevirtual 109, 3) := by decide +kernel
theorem dX7_span_5 : decode cX7_span 5 = .ok (.ifCond .eq 22, 3) := by decide +kernel
theorem dX7_span_8 : decode cX7_span 8 = .ok (.iload_n 2, 1) := by decide +kernel
theorem dX7_span_9 : decode cX7_span 9 = .ok (.iconst 0, 1) := by decide +kernel
theorem dX7_span_10 : decode cX7_span 10 = .ok (.bipush 99, 2) := by decide +kernel
theorem dX7_span_12 : decode cX7_span 12 = .ok (.invokestatic 90, 3) := by decide +kernel
theorem dX7_span_15 : decode cX7_span 15 = .ok (.ifCond .eq 12, 3) := by decide +kernel
theorem dX7_span_18 : decode cX7_span 18 = .ok (.iload_n 3, 1) := by decide +kernel
theorem dX7_span_19 : decode cX7_span 19 = .ok (.iconst 0, 1) := by decide +kernel
theorem dX7_span_20 : decode cX7_span 20 = .ok (.iconst 1, 1) := by decide +kernel
theorem dX7_span_21 : decode cX7_span 21 = .ok (.invokestatic 90, 3) := by decide +kernel
theorem dX7_span_24 : decode cX7_span 24 = .ok (.ifCond .ne 5, 3) := by decide +kernel
theorem dX7_span_27 : decode cX7_span 27 = .ok (.iconst (-1), 1) := by decide +kernel
theorem dX7_span_28 : decode cX7_span 28 = .ok (.ireturn, 1) := by decide +kernel
theorem dX7_span_29 : decode cX7_span 29 = .ok (.aload_n 0, 1) := by decide +kernel
theorem dX7_span_30 : decode cX7_span 30 = .ok (.getfield 54, 3) := by decide +kernel
theorem dX7_span_33 : decode cX7_span 33 = .ok (.iload_n 1, 1) := by decide +kernel
theorem dX7_span_34 : decode cX7_span 34 = .ok (.iload_n 2, 1) := by decide +kernel
theorem dX7_span_35 : decode cX7_span 35 = .ok (.invokevirtual 253, 3) := by decide +kernel
theorem dX7_span_38 : decode cX7_span 38 = .ok (.istore 4, 2) := by decide +kernel
theorem dX7_span_40 : decode cX7_span 40 = .ok (.aload_n 0, 1) := by decide +kernel
theorem dX7_span_41 : decode cX7_span 41 = .ok (.getfield 54, 3) := by decide +kernel
theorem dX7_span_44 : decode cX7_span 44 = .ok (.iload_n 1, 1) := by decide +kernel
theorem dX7_span_45 : decode cX7_span 45 = .ok (.iload_n 2, 1) := by decide +kernel
theorem dX7_span_46 : decode cX7_span 46 = .ok (.invokevirtual 257, 3) := by decide +kernel
theorem dX7_span_49 : decode cX7_span 49 = .ok (.istore 5, 2) := by decide +kernel
theorem dX7_span_51 : decode cX7_span 51 = .ok (.iload 4, 2) := by decide +kernel
theorem dX7_span_53 : decode cX7_span 53 = .ok (.iload 5, 2) := by decide +kernel
theorem dX7_span_55 : decode cX7_span 55 = .ok (.if_icmp .le 6, 3) := by decide +kernel
theorem dX7_span_58 : decode cX7_span 58 = .ok (.bipush (-4), 2) := by decide +kernel
theorem dX7_span_60 : decode cX7_span 60 = .ok (.ireturn, 1) := by decide +kernel
theorem dX7_span_61 : decode cX7_span 61 = .ok (.iload_n 3, 1) := by decide +kernel
theorem dX7_span_62 : decode cX7_span 62 = .ok (.ifCond .ne 8, 3) := by decide +kernel
theorem dX7_span_65 : decode cX7_span 65 = .ok (.iload 4, 2) := by decide +kernel
theorem dX7_span_67 : decode cX7_span 67 = .ok (.goto 5, 3) := by decide +kernel
theorem dX7_span_70 : decode cX7_span 70 = .ok (.iload 5, 2) := by decide +kernel
theorem dX7_span_72 : decode cX7_span 72 = .ok (.ireturn, 1) := by decide +kernel
theorem dX7_cart_0 : decode cX7_cart 0 = .ok (.aload_n 0, 1) := by decide +kernel
theorem dX7_cart_1 : decode cX7_cart 1 = .ok (.iload_n 1, 1) := by decide +kernel
theorem dX7_cart_2 : decode cX7_cart 2 = .ok (.invokevirtual 109, 3) := by decide +kernel
theorem dX7_cart_5 : decode cX7_cart 5 = .ok (.ifCond .eq 25, 3) := by decide +kernel
theorem dX7_cart_8 : decode cX7_cart 8 = .ok (.aload_n 0, 1) := by decide +kernel
theorem dX7_cart_9 : decode cX7_cart 9 = .ok (.iload_n 2, 1) := by decide +kernel
theorem dX7_cart_10 : decode cX7_cart 10 = .ok (.invokevirtual 109, 3) := by decide +kernel
theorem dX7_cart_13 : decode cX7_cart 13 = .ok (.ifCond .eq 17, 3) := by decide +kernel
theorem dX7_cart_16 : decode cX7_cart 16 = .ok (.iload_n 1, 1) := by decide +kernel
theorem dX7_cart_17 : decode cX7_cart 17 = .ok (.iload_n 2, 1) := by decide +kernel
theorem dX7_cart_18 : decode cX7_cart 18 = .ok (.if_icmp .eq 12, 3) := by decide +kernel
theorem dX7_cart_21 : decode cX7_cart 21 = .ok (.iload_n 3, 1) := by decide +kernel
theorem dX7_cart_22 : decode cX7_cart 22 = .ok (.iconst 0, 1) := by decide +kernel
theorem dX7_cart_23 : decode cX7_cart 23 = .ok (.iconst 1, 1) := by decide +kernel
theorem dX7_cart_24 : decode cX7_cart 24 = .ok (.invokestatic 90, 3) := by decide +kernel
theorem dX7_cart_27 : decode cX7_cart 27 = .ok (.ifCond .ne 5, 3) := by decide +kernel
theorem dX7_cart_30 : decode cX7_cart 30 = .ok (.iconst (-1), 1) := by decide +kernel
theorem dX7_cart_31 : decode cX7_cart 31 = .ok (.ireturn, 1) := by decide +kernel
theorem dX7_cart_32 : decode cX7_cart 32 = .ok (.aload_n 0, 1) := by decide +kernel
theorem dX7_cart_33 : decode cX7_cart 33 = .ok (.invokevirtual 113, 3) := by decide +kernel
theorem dX7_cart_36 : decode cX7_cart 36 = .ok (.iconst 0, 1) := by decide +kernel
theorem dX7_cart_37 : decode cX7_cart 37 = .ok (.istore 4, 2) := by decide +kernel
theorem dX7_cart_39 : decode cX7_cart 39 = .ok (.bipush (-4), 2) := by decide +kernel
theorem dX7_cart_41 : decode cX7_cart 41 = .ok (.istore 5, 2) := by decide +kernel
theorem dX7_cart_43 : decode cX7_cart 43 = .ok (.bipush 40, 2) := by decide +kernel
theorem dX7_cart_45 : decode cX7_cart 45 = .ok (.istore 6, 2) := by decide +kernel
theorem dX7_cart_47 : decode cX7_cart 47 = .ok (.iload 6, 2) := by decide +kernel
theorem dX7_cart_49 : decode cX7_cart 49 = .ok (.iconst 1, 1) := by decide +kernel
theorem dX7_cart_50 : decode cX7_cart 50 = .ok (.if_icmp .lt 64, 3) := by decide +kernel
theorem dX7_cart_53 : decode cX7_cart 53 = .ok (.iconst 2, 1) := by decide +kernel
theorem dX7_cart_54 : decode cX7_cart 54 = .ok (.iload 6, 2) := by decide +kernel
theorem dX7_cart_56 : decode cX7_cart 56 = .ok (.imul, 1) := by decide +kernel
theorem dX7_cart_57 : decode cX7_cart 57 = .ok (.istore 7, 2) := by decide +kernel
theorem dX7_cart_59 : decode cX7_cart 59 = .ok (.iload 7, 2) := by decide +kernel
theorem dX7_cart_61 : decode cX7_cart 61 = .ok (.aload_n 0, 1) := by decide +kernel
theorem dX7_cart_62 : decode cX7_cart 62 = .ok (.getfield 40, 3) := by decide +kernel
theorem dX7_cart_65 : decode cX7_cart 65 = .ok (.getfield 131, 3) := by decide +kernel
theorem dX7_cart_68 : decode cX7_cart 68 = .ok (.iload_n 1, 1) := by decide +kernel
theorem dX7_cart_69 : decode cX7_cart 69 = .ok (.iaload, 1) := by decide +kernel
theorem dX7_cart_70 : decode cX7_cart 70 = .ok (.if_icmp .gt 38, 3) := by decide +kernel
theorem dX7_cart_73 : decode cX7_cart 73 = .ok (.iload 7, 2) := by decide +kernel
theorem dX7_cart_75 : decode cX7_cart 75 = .ok (.aload_n 0, 1) := by decide +kernel
theorem dX7_cart_76 : decode cX7_cart 76 = .ok (.getfield 40, 3) := by decide +kernel
theorem dX7_cart_79 : decode cX7_cart 79 = .ok (.getfield 131, 3) := by decide +kernel
theorem dX7_cart_82 : decode cX7_cart 82 = .ok (.iload_n 2, 1) := by decide +kernel
theorem dX7_cart_83 : decode cX7_cart 83 = .ok (.iaload, 1) := by decide +kernel
theorem dX7_cart_84 : decode cX7_cart 84 = .ok (.if_icmp .le 24, 3) := by decide +kernel
theorem dX7_cart_87 : decode cX7_cart 87 = .ok (.iload 7, 2) := by decide +kernel
theorem dX7_cart_89 : decode cX7_cart 89 = .ok (.aload_n 0, 1) := by decide +kernel
theorem dX7_cart_90 : decode cX7_cart 90 = .ok (.getfield 40, 3) := by decide +kernel
theorem dX7_cart_93 : decode cX7_cart 93 = .ok (.getfield 134, 3) := by decide +kernel
theorem dX7_cart_96 : decode cX7_cart 96 = .ok (.iload_n 2, 1) := by decide +kernel
theorem dX7_cart_97 : decode cX7_cart 97 = .ok (.iaload, 1) := by decide +kernel
theorem dX7_cart_98 : decode cX7_cart 98 = .ok (.if_icmp .gt 10, 3) := by decide +kernel
theorem dX7_cart_101 : decode cX7_cart 101 = .ok (.iinc 4 1, 3) := by decide +kernel
theorem dX7_cart_104 : decode cX7_cart 104 = .ok (.iload 6, 2) := by decide +kernel
theorem dX7_cart_106 : decode cX7_cart 106 = .ok (.istore 5, 2) := by decide +kernel
theorem dX7_cart_108 : decode cX7_cart 108 = .ok (.iinc 6 (-1), 3) := by decide +kernel
theorem dX7_cart_111 : decode cX7_cart 111 = .ok (.goto (-64), 3) := by decide +kernel
theorem dX7_cart_114 : decode cX7_cart 114 = .ok (.iload_n 3, 1) := by decide +kernel
theorem dX7_cart_115 : decode cX7_cart 115 = .ok (.ifCond .ne 8, 3) := by decide +kernel
theorem dX7_cart_118 : decode cX7_cart 118 = .ok (.iload 4, 2) := by decide +kernel
theorem dX7_cart_120 : decode cX7_cart 120 = .ok (.goto 5, 3) := by decide +kernel
theorem dX7_cart_123 : decode cX7_cart 123 = .ok (.iload 5, 2) := by decide +kernel
theorem dX7_cart_125 : decode cX7_cart 125 = .ok (.ireturn, 1) := by decide +kernel
theorem dX7_year_0 : decode cX7_year 0 = .ok (.iload_n 1, 1) := by decide +kernel
theorem dX7_year_1 : decode cX7_year 1 = .ok (.iconst 0, 1) := by decide +kernel
theorem dX7_year_2 : decode cX7_year 2 = .ok (.sipush 9999, 3) := by decide +kernel
theorem dX7_year_5 : decode cX7_year 5 = .ok (.invokestatic 90, 3) := by decide +kernel
theorem dX7_year_8 : decode cX7_year 8 = .ok (.ifCond .eq 22, 3) := by decide +kernel
theorem dX7_year_11 : decode cX7_year 11 = .ok (.iload_n 2, 1) := by decide +kernel
theorem dX7_year_12 : decode cX7_year 12 = .ok (.iconst 1, 1) := by decide +kernel
theorem dX7_year_13 : decode cX7_year 13 = .ok (.bipush 60, 2) := by decide +kernel
theorem dX7_year_15 : decode cX7_year 15 = .ok (.invokestatic 90, 3) := by decide +kernel
theorem dX7_year_18 : decode cX7_year 18 = .ok (.ifCond .eq 12, 3) := by decide +kernel
theorem dX7_year_21 : decode cX7_year 21 = .ok (.iload_n 3, 1) := by decide +kernel
theorem dX7_year_22 : decode cX7_year 22 = .ok (.iconst 0, 1) := by decide +kernel
theorem dX7_year_23 : decode cX7_year 23 = .ok (.iconst 1, 1) := by decide +kernel
theorem dX7_year_24 : decode cX7_year 24 = .ok (.invokestatic 90, 3) := by decide +kernel
theorem dX7_year_27 : decode cX7_year 27 = .ok (.ifCond .ne 5, 3) := by decide +kernel
theorem dX7_year_30 : decode cX7_year 30 = .ok (.iconst (-1), 1) := by decide +kernel
theorem dX7_year_31 : decode cX7_year 31 = .ok (.ireturn, 1) := by decide +kernel
theorem dX7_year_32 : decode cX7_year 32 = .ok (.aload_n 0, 1) := by decide +kernel
theorem dX7_year_33 : decode cX7_year 33 = .ok (.getfield 40, 3) := by decide +kernel
theorem dX7_year_36 : decode cX7_year 36 = .ok (.aload_n 0, 1) := by decide +kernel
theorem dX7_year_37 : decode cX7_year 37 = .ok (.getfield 23, 3) := by decide +kernel
theorem dX7_year_40 : decode cX7_year 40 = .ok (.aload_n 0, 1) := by decide +kernel
theorem dX7_year_41 : decode cX7_year 41 = .ok (.getfield 33, 3) := by decide +kernel
theorem dX7_year_44 : decode cX7_year 44 = .ok (.invokevirtual 165, 3) := by decide +kernel
theorem dX7_year_47 : decode cX7_year 47 = .ok (.iconst 0, 1) := by decide +kernel
theorem dX7_year_48 : decode cX7_year 48 = .ok (.istore 4, 2) := by decide +kernel
theorem dX7_year_50 : decode cX7_year 50 = .ok (.iload 4, 2) := by decide +kernel
theorem dX7_year_52 : decode cX7_year 52 = .ok (.iload_n 2, 1) := by decide +kernel
theorem dX7_year_53 : decode cX7_year 53 = .ok (.if_icmp .ge 26, 3) := by decide +kernel
theorem dX7_year_56 : decode cX7_year 56 = .ok (.aload_n 0, 1) := by decide +kernel
theorem dX7_year_57 : decode cX7_year 57 = .ok (.iload_n 1, 1) := by decide +kernel
theorem dX7_year_58 : decode cX7_year 58 = .ok (.iload 4, 2) := by decide +kernel
theorem dX7_year_60 : decode cX7_year 60 = .ok (.invokestatic 260, 3) := by decide +kernel
theorem dX7_year_63 : decode cX7_year 63 = .ok (.invokevirtual 263, 3) := by decide +kernel
theorem dX7_year_66 : decode cX7_year 66 = .ok (.aload_n 0, 1) := by decide +kernel
theorem dX7_year_67 : decode cX7_year 67 = .ok (.getfield 40, 3) := by decide +kernel
theorem dX7_year_70 : decode cX7_year 70 = .ok (.invokevirtual 222, 3) := by decide +kernel
theorem dX7_year_73 : decode cX7_year 73 = .ok (.iinc 4 1, 3) := by decide +kernel
theorem dX7_year_76 : decode cX7_year 76 = .ok (.goto (-26), 3) := by decide +kernel
theorem dX7_year_79 : decode cX7_year 79 = .ok (.iload_n 3, 1) := by decide +kernel
theorem dX7_year_80 : decode cX7_year 80 = .ok (.ifCond .ne 13, 3) := by decide +kernel
theorem dX7_year_83 : decode cX7_year 83 = .ok (.aload_n 0, 1) := by decide +kernel
theorem dX7_year_84 : decode cX7_year 84 = .ok (.getfield 40, 3) := by decide +kernel
theorem dX7_year_87 : decode cX7_year 87 = .ok (.getfield 200, 3) := by decide +kernel
theorem dX7_year_90 : decode cX7_year 90 = .ok (.goto 10, 3) := by decide +kernel
theorem dX7_year_93 : decode cX7_year 93 = .ok (.aload_n 0, 1) := by decide +kernel
theorem dX7_year_94 : decode cX7_year 94 = .ok (.getfield 40, 3) := by decide +kernel
theorem dX7_year_97 : decode cX7_year 97 = .ok (.getfield 203, 3) := by decide +kernel
theorem dX7_year_100 : decode cX7_year 100 = .ok (.ireturn, 1) := by decide +kernel
theorem dX7_drawn_0 : decode cX7_drawn 0 = .ok (.ldc2_w 266, 3) := by decide +kernel
theorem dX7_drawn_3 : decode cX7_drawn 3 = .ok (.iload_n 0, 1) := by decide +kernel
theorem dX7_drawn_4 : decode cX7_drawn 4 = .ok (.i2l, 1) := by decide +kernel
theorem dX7_drawn_5 : decode cX7_drawn 5 = .ok (.lmul, 1) := by decide +kernel
theorem dX7_drawn_6 : decode cX7_drawn 6 = .ok (.ldc2_w 268, 3) := by decide +kernel
theorem dX7_drawn_9 : decode cX7_drawn 9 = .ok (.iload_n 1, 1) := by decide +kernel
theorem dX7_drawn_10 : decode cX7_drawn 10 = .ok (.i2l, 1) := by decide +kernel
theorem dX7_drawn_11 : decode cX7_drawn 11 = .ok (.lmul, 1) := by decide +kernel
theorem dX7_drawn_12 : decode cX7_drawn 12 = .ok (.ladd, 1) := by decide +kernel
theorem dX7_drawn_13 : decode cX7_drawn 13 = .ok (.lconst 1, 1) := by decide +kernel
theorem dX7_drawn_14 : decode cX7_drawn 14 = .ok (.ladd, 1) := by decide +kernel
theorem dX7_drawn_15 : decode cX7_drawn 15 = .ok (.lstore_n 2, 1) := by decide +kernel
theorem dX7_drawn_16 : decode cX7_drawn 16 = .ok (.lload_n 2, 1) := by decide +kernel
theorem dX7_drawn_17 : decode cX7_drawn 17 = .ok (.lload_n 2, 1) := by decide +kernel
theorem dX7_drawn_18 : decode cX7_drawn 18 = .ok (.lmul, 1) := by decide +kernel
theorem dX7_drawn_19 : decode cX7_drawn 19 = .ok (.ldc2_w 270, 3) := by decide +kernel
theorem dX7_drawn_22 : decode cX7_drawn 22 = .ok (.lrem, 1) := by decide +kernel
theorem dX7_drawn_23 : decode cX7_drawn 23 = .ok (.l2i, 1) := by decide +kernel
theorem dX7_drawn_24 : decode cX7_drawn 24 = .ok (.ireturn, 1) := by decide +kernel
theorem dX7_putByDraw_0 : decode cX7_putByDraw 0 = .ok (.aload_n 0, 1) := by decide +kernel
theorem dX7_putByDraw_1 : decode cX7_putByDraw 1 = .ok (.getfield 23, 3) := by decide +kernel
theorem dX7_putByDraw_4 : decode cX7_putByDraw 4 = .ok (.getfield 97, 3) := by decide +kernel
theorem dX7_putByDraw_7 : decode cX7_putByDraw 7 = .ok (.ifCond .le 33, 3) := by decide +kernel
theorem dX7_putByDraw_10 : decode cX7_putByDraw 10 = .ok (.aload_n 0, 1) := by decide +kernel
theorem dX7_putByDraw_11 : decode cX7_putByDraw 11 = .ok (.getfield 40, 3) := by decide +kernel
theorem dX7_putByDraw_14 : decode cX7_putByDraw 14 = .ok (.getfield 182, 3) := by decide +kernel
theorem dX7_putByDraw_17 : decode cX7_putByDraw 17 = .ok (.getfield 137, 3) := by decide +kernel
theorem dX7_putByDraw_20 : decode cX7_putByDraw 20 = .ok (.iload_n 1, 1) := by decide +kernel
theorem dX7_putByDraw_21 : decode cX7_putByDraw 21 = .ok (.bipush 16, 2) := by decide +kernel
theorem dX7_putByDraw_23 : decode cX7_putByDraw 23 = .ok (.idiv, 1) := by decide +kernel
theorem dX7_putByDraw_24 : decode cX7_putByDraw 24 = .ok (.aload_n 0, 1) := by decide +kernel
theorem dX7_putByDraw_25 : decode cX7_putByDraw 25 = .ok (.getfield 23, 3) := by decide +kernel
theorem dX7_putByDraw_28 : decode cX7_putByDraw 28 = .ok (.getfield 97, 3) := by decide +kernel
theorem dX7_putByDraw_31 : decode cX7_putByDraw 31 = .ok (.irem, 1) := by decide +kernel
theorem dX7_putByDraw_32 : decode cX7_putByDraw 32 = .ok (.dup2, 1) := by decide +kernel
theorem dX7_putByDraw_33 : decode cX7_putByDraw 33 = .ok (.iaload, 1) := by decide +kernel
theorem dX7_putByDraw_34 : decode cX7_putByDraw 34 = .ok (.iload_n 1, 1) := by decide +kernel
theorem dX7_putByDraw_35 : decode cX7_putByDraw 35 = .ok (.bipush 10, 2) := by decide +kernel
theorem dX7_putByDraw_37 : decode cX7_putByDraw 37 = .ok (.irem, 1) := by decide +kernel
theorem dX7_putByDraw_38 : decode cX7_putByDraw 38 = .ok (.iadd, 1) := by decide +kernel
theorem dX7_putByDraw_39 : decode cX7_putByDraw 39 = .ok (.iastore, 1) := by decide +kernel
theorem dX7_putByDraw_40 : decode cX7_putByDraw 40 = .ok (.return_, 1) := by decide +kernel
theorem dX7_keep_0 : decode cX7_keep 0 = .ok (.aload_n 0, 1) := by decide +kernel
theorem dX7_keep_1 : decode cX7_keep 1 = .ok (.getfield 67, 3) := by decide +kernel
theorem dX7_keep_4 : decode cX7_keep 4 = .ok (.getfield 103, 3) := by decide +kernel
theorem dX7_keep_7 : decode cX7_keep 7 = .ok (.iconst 2, 1) := by decide +kernel
theorem dX7_keep_8 : decode cX7_keep 8 = .ok (.if_icmp .lt 6, 3) := by decide +kernel
theorem dX7_keep_11 : decode cX7_keep 11 = .ok (.bipush (-3), 2) := by decide +kernel
theorem dX7_keep_13 : decode cX7_keep 13 = .ok (.ireturn, 1) := by decide +kernel
theorem dX7_keep_14 : decode cX7_keep 14 = .ok (.aload_n 0, 1) := by decide +kernel
theorem dX7_keep_15 : decode cX7_keep 15 = .ok (.getfield 67, 3) := by decide +kernel
theorem dX7_keep_18 : decode cX7_keep 18 = .ok (.aload_n 0, 1) := by decide +kernel
theorem dX7_keep_19 : decode cX7_keep 19 = .ok (.getfield 33, 3) := by decide +kernel
theorem dX7_keep_22 : decode cX7_keep 22 = .ok (.invokevirtual 175, 3) := by decide +kernel
theorem dX7_keep_25 : decode cX7_keep 25 = .ok (.aload_n 0, 1) := by decide +kernel
theorem dX7_keep_26 : decode cX7_keep 26 = .ok (.getfield 67, 3) := by decide +kernel
theorem dX7_keep_29 : decode cX7_keep 29 = .ok (.getfield 103, 3) := by decide +kernel
theorem dX7_keep_32 : decode cX7_keep 32 = .ok (.ireturn, 1) := by decide +kernel
theorem dX7_back_0 : decode cX7_back 0 = .ok (.aload_n 0, 1) := by decide +kernel
theorem dX7_back_1 : decode cX7_back 1 = .ok (.getfield 67, 3) := by decide +kernel
theorem dX7_back_4 : decode cX7_back 4 = .ok (.aload_n 0, 1) := by decide +kernel
theorem dX7_back_5 : decode cX7_back 5 = .ok (.getfield 33, 3) := by decide +kernel
theorem dX7_back_8 : decode cX7_back 8 = .ok (.invokevirtual 193, 3) := by decide +kernel
theorem dX7_back_11 : decode cX7_back 11 = .ok (.ifCond .ne 6, 3) := by decide +kernel
theorem dX7_back_14 : decode cX7_back 14 = .ok (.bipush (-2), 2) := by decide +kernel
theorem dX7_back_16 : decode cX7_back 16 = .ok (.ireturn, 1) := by decide +kernel
theorem dX7_back_17 : decode cX7_back 17 = .ok (.aload_n 0, 1) := by decide +kernel
theorem dX7_back_18 : decode cX7_back 18 = .ok (.getfield 63, 3) := by decide +kernel
theorem dX7_back_21 : decode cX7_back 21 = .ok (.iconst 0, 1) := by decide +kernel
theorem dX7_back_22 : decode cX7_back 22 = .ok (.putfield 103, 3) := by decide +kernel
theorem dX7_back_25 : decode cX7_back 25 = .ok (.aload_n 0, 1) := by decide +kernel
theorem dX7_back_26 : decode cX7_back 26 = .ok (.getfield 67, 3) := by decide +kernel
theorem dX7_back_29 : decode cX7_back 29 = .ok (.getfield 103, 3) := by decide +kernel
theorem dX7_back_32 : decode cX7_back 32 = .ok (.ireturn, 1) := by decide +kernel
theorem dX7_count_0 : decode cX7_count 0 = .ok (.iload_n 1, 1) := by decide +kernel
theorem dX7_count_1 : decode cX7_count 1 = .ok (.tableswitch 139 0 9 #[55, 63, 71, 79, 87, 95, 110, 118, 126, 134], 55) := by decide +kernel
theorem dX7_count_56 : decode cX7_count 56 = .ok (.aload_n 0, 1) := by decide +kernel
theorem dX7_count_57 : decode cX7_count 57 = .ok (.getfield 23, 3) := by decide +kernel
theorem dX7_count_60 : decode cX7_count 60 = .ok (.getfield 106, 3) := by decide +kernel
theorem dX7_count_63 : decode cX7_count 63 = .ok (.ireturn, 1) := by decide +kernel
theorem dX7_count_64 : decode cX7_count 64 = .ok (.aload_n 0, 1) := by decide +kernel
theorem dX7_count_65 : decode cX7_count 65 = .ok (.getfield 23, 3) := by decide +kernel
theorem dX7_count_68 : decode cX7_count 68 = .ok (.getfield 97, 3) := by decide +kernel
theorem dX7_count_71 : decode cX7_count 71 = .ok (.ireturn, 1) := by decide +kernel
theorem dX7_count_72 : decode cX7_count 72 = .ok (.aload_n 0, 1) := by decide +kernel
theorem dX7_count_73 : decode cX7_count 73 = .ok (.getfield 23, 3) := by decide +kernel
theorem dX7_count_76 : decode cX7_count 76 = .ok (.getfield 272, 3) := by decide +kernel
theorem dX7_count_79 : decode cX7_count 79 = .ok (.ireturn, 1) := by decide +kernel
theorem dX7_count_80 : decode cX7_count 80 = .ok (.aload_n 0, 1) := by decide +kernel
theorem dX7_count_81 : decode cX7_count 81 = .ok (.getfield 23, 3) := by decide +kernel
theorem dX7_count_84 : decode cX7_count 84 = .ok (.getfield 225, 3) := by decide +kernel
theorem dX7_count_87 : decode cX7_count 87 = .ok (.ireturn, 1) := by decide +kernel
theorem dX7_count_88 : decode cX7_count 88 = .ok (.aload_n 0, 1) := by decide +kernel
theorem dX7_count_89 : decode cX7_count 89 = .ok (.getfield 33, 3) := by decide +kernel
theorem dX7_count_92 : decode cX7_count 92 = .ok (.getfield 169, 3) := by decide +kernel
theorem dX7_count_95 : decode cX7_count 95 = .ok (.ireturn, 1) := by decide +kernel
theorem dX7_count_96 : decode cX7_count 96 = .ok (.aload_n 0, 1) := by decide +kernel
theorem dX7_count_97 : decode cX7_count 97 = .ok (.getfield 33, 3) := by decide +kernel
theorem dX7_count_100 : decode cX7_count 100 = .ok (.aload_n 0, 1) := by decide +kernel
theorem dX7_count_101 : decode cX7_count 101 = .ok (.getfield 23, 3) := by decide +kernel
theorem dX7_count_104 : decode cX7_count 104 = .ok (.getfield 272, 3) := by decide +kernel
theorem dX7_count_107 : decode cX7_count 107 = .ok (.invokevirtual 275, 3) := by decide +kernel
theorem dX7_count_110 : decode cX7_count 110 = .ok (.ireturn, 1) := by decide +kernel
theorem dX7_count_111 : decode cX7_count 111 = .ok (.aload_n 0, 1) := by decide +kernel
theorem dX7_count_112 : decode cX7_count 112 = .ok (.getfield 54, 3) := by decide +kernel
theorem dX7_count_115 : decode cX7_count 115 = .ok (.getfield 100, 3) := by decide +kernel
theorem dX7_count_118 : decode cX7_count 118 = .ok (.ireturn, 1) := by decide +kernel
theorem dX7_count_119 : decode cX7_count 119 = .ok (.aload_n 0, 1) := by decide +kernel
theorem dX7_count_120 : decode cX7_count 120 = .ok (.getfield 63, 3) := by decide +kernel
theorem dX7_count_123 : decode cX7_count 123 = .ok (.getfield 103, 3) := by decide +kernel
theorem dX7_count_126 : decode cX7_count 126 = .ok (.ireturn, 1) := by decide +kernel
theorem dX7_count_127 : decode cX7_count 127 = .ok (.aload_n 0, 1) := by decide +kernel
theorem dX7_count_128 : decode cX7_count 128 = .ok (.getfield 67, 3) := by decide +kernel
theorem dX7_count_131 : decode cX7_count 131 = .ok (.getfield 103, 3) := by decide +kernel
theorem dX7_count_134 : decode cX7_count 134 = .ok (.ireturn, 1) := by decide +kernel
theorem dX7_count_135 : decode cX7_count 135 = .ok (.aload_n 0, 1) := by decide +kernel
theorem dX7_count_136 : decode cX7_count 136 = .ok (.getfield 94, 3) := by decide +kernel
theorem dX7_count_139 : decode cX7_count 139 = .ok (.ireturn, 1) := by decide +kernel
theorem dX7_count_140 : decode cX7_count 140 = .ok (.iconst (-1), 1) := by decide +kernel
theorem dX7_count_141 : decode cX7_count 141 = .ok (.ireturn, 1) := by decide +kernel
theorem dX7_isIsland_0 : decode cX7_isIsland 0 = .ok (.iload_n 1, 1) := by decide +kernel
theorem dX7_isIsland_1 : decode cX7_isIsland 1 = .ok (.ifCond .lt 24, 3) := by decide +kernel
theorem dX7_isIsland_4 : decode cX7_isIsland 4 = .ok (.iload_n 1, 1) := by decide +kernel
theorem dX7_isIsland_5 : decode cX7_isIsland 5 = .ok (.aload_n 0, 1) := by decide +kernel
theorem dX7_isIsland_6 : decode cX7_isIsland 6 = .ok (.getfield 23, 3) := by decide +kernel
theorem dX7_isIsland_9 : decode cX7_isIsland 9 = .ok (.getfield 106, 3) := by decide +kernel
theorem dX7_isIsland_12 : decode cX7_isIsland 12 = .ok (.if_icmp .ge 13, 3) := by decide +kernel
theorem dX7_isIsland_15 : decode cX7_isIsland 15 = .ok (.iload_n 1, 1) := by decide +kernel
theorem dX7_isIsland_16 : decode cX7_isIsland 16 = .ok (.bipush 8, 2) := by decide +kernel
theorem dX7_isIsland_18 : decode cX7_isIsland 18 = .ok (.if_icmp .ge 7, 3) := by decide +kernel
theorem dX7_isIsland_21 : decode cX7_isIsland 21 = .ok (.iconst 1, 1) := by decide +kernel
theorem dX7_isIsland_22 : decode cX7_isIsland 22 = .ok (.goto 4, 3) := by decide +kernel
theorem dX7_isIsland_25 : decode cX7_isIsland 25 = .ok (.iconst 0, 1) := by decide +kernel
theorem dX7_isIsland_26 : decode cX7_isIsland 26 = .ok (.ireturn, 1) := by decide +kernel
theorem dX7_isBridge_0 : decode cX7_isBridge 0 = .ok (.iload_n 1, 1) := by decide +kernel
theorem dX7_isBridge_1 : decode cX7_isBridge 1 = .ok (.ifCond .lt 24, 3) := by decide +kernel
theorem dX7_isBridge_4 : decode cX7_isBridge 4 = .ok (.iload_n 1, 1) := by decide +kernel
theorem dX7_isBridge_5 : decode cX7_isBridge 5 = .ok (.aload_n 0, 1) := by decide +kernel
theorem dX7_isBridge_6 : decode cX7_isBridge 6 = .ok (.getfield 23, 3) := by decide +kernel
theorem dX7_isBridge_9 : decode cX7_isBridge 9 = .ok (.getfield 97, 3) := by decide +kernel
theorem dX7_isBridge_12 : decode cX7_isBridge 12 = .ok (.if_icmp .ge 13, 3) := by decide +kernel
theorem dX7_isBridge_15 : decode cX7_isBridge 15 = .ok (.iload_n 1, 1) := by decide +kernel
theorem dX7_isBridge_16 : decode cX7_isBridge 16 = .ok (.bipush 9, 2) := by decide +kernel
theorem dX7_isBridge_18 : decode cX7_isBridge 18 = .ok (.if_icmp .ge 7, 3) := by decide +kernel
theorem dX7_isBridge_21 : decode cX7_isBridge 21 = .ok (.iconst 1, 1) := by decide +kernel
theorem dX7_isBridge_22 : decode cX7_isBridge 22 = .ok (.goto 4, 3) := by decide +kernel
theorem dX7_isBridge_25 : decode cX7_isBridge 25 = .ok (.iconst 0, 1) := by decide +kernel
theorem dX7_isBridge_26 : decode cX7_isBridge 26 = .ok (.ireturn, 1) := by decide +kernel
theorem dX7_isGoer_0 : decode cX7_isGoer 0 = .ok (.iload_n 1, 1) := by decide +kernel
theorem dX7_isGoer_1 : decode cX7_isGoer 1 = .ok (.ifCond .lt 23, 3) := by decide +kernel
theorem dX7_isGoer_4 : decode cX7_isGoer 4 = .ok (.iload_n 1, 1) := by decide +kernel
theorem dX7_isGoer_5 : decode cX7_isGoer 5 = .ok (.aload_n 0, 1) := by decide +kernel
theorem dX7_isGoer_6 : decode cX7_isGoer 6 = .ok (.getfield 23, 3) := by decide +kernel
theorem dX7_isGoer_9 : decode cX7_isGoer 9 = .ok (.getfield 272, 3) := by decide +kernel
theorem dX7_isGoer_12 : decode cX7_isGoer 12 = .ok (.if_icmp .ge 12, 3) := by decide +kernel
theorem dX7_isGoer_15 : decode cX7_isGoer 15 = .ok (.iload_n 1, 1) := by decide +kernel
theorem dX7_isGoer_16 : decode cX7_isGoer 16 = .ok (.iconst 5, 1) := by decide +kernel
theorem dX7_isGoer_17 : decode cX7_isGoer 17 = .ok (.if_icmp .ge 7, 3) := by decide +kernel
theorem dX7_isGoer_20 : decode cX7_isGoer 20 = .ok (.iconst 1, 1) := by decide +kernel
theorem dX7_isGoer_21 : decode cX7_isGoer 21 = .ok (.goto 4, 3) := by decide +kernel
theorem dX7_isGoer_24 : decode cX7_isGoer 24 = .ok (.iconst 0, 1) := by decide +kernel
theorem dX7_isGoer_25 : decode cX7_isGoer 25 = .ok (.ireturn, 1) := by decide +kernel
theorem dX7_isWithin_0 : decode cX7_isWithin 0 = .ok (.iload_n 0, 1) := by decide +kernel
theorem dX7_isWithin_1 : decode cX7_isWithin 1 = .ok (.iload_n 1, 1) := by decide +kernel
theorem dX7_isWithin_2 : decode cX7_isWithin 2 = .ok (.if_icmp .lt 12, 3) := by decide +kernel
theorem dX7_isWithin_5 : decode cX7_isWithin 5 = .ok (.iload_n 0, 1) := by decide +kernel
theorem dX7_isWithin_6 : decode cX7_isWithin 6 = .ok (.iload_n 2, 1) := by decide +kernel
theorem dX7_isWithin_7 : decode cX7_isWithin 7 = .ok (.if_icmp .gt 7, 3) := by decide +kernel
theorem dX7_isWithin_10 : decode cX7_isWithin 10 = .ok (.iconst 1, 1) := by decide +kernel
theorem dX7_isWithin_11 : decode cX7_isWithin 11 = .ok (.goto 4, 3) := by decide +kernel
theorem dX7_isWithin_14 : decode cX7_isWithin 14 = .ok (.iconst 0, 1) := by decide +kernel
theorem dX7_isWithin_15 : decode cX7_isWithin 15 = .ok (.ireturn, 1) := by decide +kernel
