theorem dX0_init_0 : decode cX0_init 0 = .ok (.aload_n 0, 1) := by decide +kernel
theorem dX0_init_1 : decode cX0_init 1 = .ok (.invokespecial 3, 3) := by decide +kernel
theorem dX0_init_4 : decode cX0_init 4 = .ok (.aload_n 0, 1) := by decide +kernel
theorem dX0_init_5 : decode cX0_init 5 = .ok (.new 9, 3) := by decide +kernel
theorem dX0_init_8 : decode cX0_init 8 = .ok (.dup, 1) := by decide +kernel
theorem dX0_init_9 : decode cX0_init 9 = .ok (.invokespecial 11, 3) := by decide +kernel
theorem dX0_init_12 : decode cX0_init 12 = .ok (.putfield 12, 3) := by decide +kernel
theorem dX0_init_15 : decode cX0_init 15 = .ok (.aload_n 0, 1) := by decide +kernel
theorem dX0_init_16 : decode cX0_init 16 = .ok (.new 18, 3) := by decide +kernel
theorem dX0_init_19 : decode cX0_init 19 = .ok (.dup, 1) := by decide +kernel
theorem dX0_init_20 : decode cX0_init 20 = .ok (.invokespecial 20, 3) := by decide +kernel
theorem dX0_init_23 : decode cX0_init 23 = .ok (.putfield 21, 3) := by decide +kernel
theorem dX0_init_26 : decode cX0_init 26 = .ok (.aload_n 0, 1) := by decide +kernel
theorem dX0_init_27 : decode cX0_init 27 = .ok (.bipush 9, 2) := by decide +kernel
theorem dX0_init_29 : decode cX0_init 29 = .ok (.newarray .int, 2) := by decide +kernel
theorem dX0_init_31 : decode cX0_init 31 = .ok (.putfield 25, 3) := by decide +kernel
theorem dX0_init_34 : decode cX0_init 34 = .ok (.aload_n 0, 1) := by decide +kernel
theorem dX0_init_35 : decode cX0_init 35 = .ok (.bipush 9, 2) := by decide +kernel
theorem dX0_init_37 : decode cX0_init 37 = .ok (.newarray .int, 2) := by decide +kernel
theorem dX0_init_39 : decode cX0_init 39 = .ok (.putfield 29, 3) := by decide +kernel
theorem dX0_init_42 : decode cX0_init 42 = .ok (.return_, 1) := by decide +kernel
theorem dX0_begin_0 : decode cX0_begin 0 = .ok (.aload_n 0, 1) := by decide +kernel
theorem dX0_begin_1 : decode cX0_begin 1 = .ok (.aload_n 1, 1) := by decide +kernel
theorem dX0_begin_2 : decode cX0_begin 2 = .ok (.putfield 21, 3) := by decide +kernel
theorem dX0_begin_5 : decode cX0_begin 5 = .ok (.aload_n 0, 1) := by decide +kernel
theorem dX0_begin_6 : decode cX0_begin 6 = .ok (.getfield 12, 3) := by decide +kernel
theorem dX0_begin_9 : decode cX0_begin 9 = .ok (.aload_n 2, 1) := by decide +kernel
theorem dX0_begin_10 : decode cX0_begin 10 = .ok (.invokevirtual 32, 3) := by decide +kernel
theorem dX0_begin_13 : decode cX0_begin 13 = .ok (.aload_n 0, 1) := by decide +kernel
theorem dX0_begin_14 : decode cX0_begin 14 = .ok (.aload_n 1, 1) := by decide +kernel
theorem dX0_begin_15 : decode cX0_begin 15 = .ok (.getfield 36, 3) := by decide +kernel
theorem dX0_begin_18 : decode cX0_begin 18 = .ok (.putfield 40, 3) := by decide +kernel
theorem dX0_begin_21 : decode cX0_begin 21 = .ok (.aload_n 0, 1) := by decide +kernel
theorem dX0_begin_22 : decode cX0_begin 22 = .ok (.aload_n 1, 1) := by decide +kernel
theorem dX0_begin_23 : decode cX0_begin 23 = .ok (.getfield 41, 3) := by decide +kernel
theorem dX0_begin_26 : decode cX0_begin 26 = .ok (.putfield 44, 3) := by decide +kernel
theorem dX0_begin_29 : decode cX0_begin 29 = .ok (.aload_n 0, 1) := by decide +kernel
theorem dX0_begin_30 : decode cX0_begin 30 = .ok (.iconst 0, 1) := by decide +kernel
theorem dX0_begin_31 : decode cX0_begin 31 = .ok (.putfield 45, 3) := by decide +kernel
theorem dX0_begin_34 : decode cX0_begin 34 = .ok (.aload_n 0, 1) := by decide +kernel
theorem dX0_begin_35 : decode cX0_begin 35 = .ok (.bipush (-4), 2) := by decide +kernel
theorem dX0_begin_37 : decode cX0_begin 37 = .ok (.putfield 48, 3) := by decide +kernel
theorem dX0_begin_40 : decode cX0_begin 40 = .ok (.aload_n 0, 1) := by decide +kernel
theorem dX0_begin_41 : decode cX0_begin 41 = .ok (.iconst 0, 1) := by decide +kernel
theorem dX0_begin_42 : decode cX0_begin 42 = .ok (.putfield 51, 3) := by decide +kernel
theorem dX0_begin_45 : decode cX0_begin 45 = .ok (.aload_n 0, 1) := by decide +kernel
theorem dX0_begin_46 : decode cX0_begin 46 = .ok (.iconst 0, 1) := by decide +kernel
theorem dX0_begin_47 : decode cX0_begin 47 = .ok (.putfield 54, 3) := by decide +kernel
theorem dX0_begin_50 : decode cX0_begin 50 = .ok (.aload_n 0, 1) := by decide +kernel
theorem dX0_begin_51 : decode cX0_begin 51 = .ok (.iconst 0, 1) := by decide +kernel
theorem dX0_begin_52 : decode cX0_begin 52 = .ok (.putfield 57, 3) := by decide +kernel
theorem dX0_begin_55 : decode cX0_begin 55 = .ok (.aload_n 0, 1) := by decide +kernel
theorem dX0_begin_56 : decode cX0_begin 56 = .ok (.iconst 0, 1) := by decide +kernel
theorem dX0_begin_57 : decode cX0_begin 57 = .ok (.putfield 60, 3) := by decide +kernel
theorem dX0_begin_60 : decode cX0_begin 60 = .ok (.aload_n 0, 1) := by decide +kernel
theorem dX0_begin_61 : decode cX0_begin 61 = .ok (.iconst 0, 1) := by decide +kernel
theorem dX0_begin_62 : decode cX0_begin 62 = .ok (.putfield 63, 3) := by decide +kernel
theorem dX0_begin_65 : decode cX0_begin 65 = .ok (.return_, 1) := by decide +kernel
theorem dX0_look_0 : decode cX0_look 0 = .ok (.iconst 0, 1) := by decide +kernel
theorem dX0_look_1 : decode cX0_look 1 = .ok (.istore_n 2, 1) := by decide +kernel
theorem dX0_look_2 : decode cX0_look 2 = .ok (.iload_n 2, 1) := by decide +kernel
theorem dX0_look_3 : decode cX0_look 3 = .ok (.aload_n 0, 1) := by decide +kernel
theorem dX0_look_4 : decode cX0_look 4 = .ok (.getfield 21, 3) := by decide +kernel
theorem dX0_look_7 : decode cX0_look 7 = .ok (.getfield 66, 3) := by decide +kernel
theorem dX0_look_10 : decode cX0_look 10 = .ok (.if_icmp .ge 78, 3) := by decide +kernel
theorem dX0_look_13 : decode cX0_look 13 = .ok (.iload_n 2, 1) := by decide +kernel
theorem dX0_look_14 : decode cX0_look 14 = .ok (.iload_n 1, 1) := by decide +kernel
theorem dX0_look_15 : decode cX0_look 15 = .ok (.aload_n 0, 1) := by decide +kernel
theorem dX0_look_16 : decode cX0_look 16 = .ok (.getfield 40, 3) := by decide +kernel
theorem dX0_look_19 : decode cX0_look 19 = .ok (.isub, 1) := by decide +kernel
theorem dX0_look_20 : decode cX0_look 20 = .ok (.invokestatic 69, 3) := by decide +kernel
theorem dX0_look_23 : decode cX0_look 23 = .ok (.istore_n 3, 1) := by decide +kernel
theorem dX0_look_24 : decode cX0_look 24 = .ok (.aload_n 0, 1) := by decide +kernel
theorem dX0_look_25 : decode cX0_look 25 = .ok (.getfield 44, 3) := by decide +kernel
theorem dX0_look_28 : decode cX0_look 28 = .ok (.iload_n 2, 1) := by decide +kernel
theorem dX0_look_29 : decode cX0_look 29 = .ok (.ishr, 1) := by decide +kernel
theorem dX0_look_30 : decode cX0_look 30 = .ok (.iconst 1, 1) := by decide +kernel
theorem dX0_look_31 : decode cX0_look 31 = .ok (.iand, 1) := by decide +kernel
theorem dX0_look_32 : decode cX0_look 32 = .ok (.ifCond .eq 7, 3) := by decide +kernel
theorem dX0_look_35 : decode cX0_look 35 = .ok (.iconst 5, 1) := by decide +kernel
theorem dX0_look_36 : decode cX0_look 36 = .ok (.goto 4, 3) := by decide +kernel
theorem dX0_look_39 : decode cX0_look 39 = .ok (.iconst 0, 1) := by decide +kernel
theorem dX0_look_40 : decode cX0_look 40 = .ok (.istore 4, 2) := by decide +kernel
theorem dX0_look_42 : decode cX0_look 42 = .ok (.aload_n 0, 1) := by decide +kernel
theorem dX0_look_43 : decode cX0_look 43 = .ok (.getfield 25, 3) := by decide +kernel
theorem dX0_look_46 : decode cX0_look 46 = .ok (.iload_n 2, 1) := by decide +kernel
theorem dX0_look_47 : decode cX0_look 47 = .ok (.aload_n 0, 1) := by decide +kernel
theorem dX0_look_48 : decode cX0_look 48 = .ok (.getfield 12, 3) := by decide +kernel
theorem dX0_look_51 : decode cX0_look 51 = .ok (.getfield 73, 3) := by decide +kernel
theorem dX0_look_54 : decode cX0_look 54 = .ok (.iload_n 3, 1) := by decide +kernel
theorem dX0_look_55 : decode cX0_look 55 = .ok (.iaload, 1) := by decide +kernel
theorem dX0_look_56 : decode cX0_look 56 = .ok (.iload 4, 2) := by decide +kernel
theorem dX0_look_58 : decode cX0_look 58 = .ok (.iadd, 1) := by decide +kernel
theorem dX0_look_59 : decode cX0_look 59 = .ok (.iastore, 1) := by decide +kernel
theorem dX0_look_60 : decode cX0_look 60 = .ok (.aload_n 0, 1) := by decide +kernel
theorem dX0_look_61 : decode cX0_look 61 = .ok (.getfield 29, 3) := by decide +kernel
theorem dX0_look_64 : decode cX0_look 64 = .ok (.iload_n 2, 1) := by decide +kernel
theorem dX0_look_65 : decode cX0_look 65 = .ok (.aload_n 0, 1) := by decide +kernel
theorem dX0_look_66 : decode cX0_look 66 = .ok (.getfield 25, 3) := by decide +kernel
theorem dX0_look_69 : decode cX0_look 69 = .ok (.iload_n 2, 1) := by decide +kernel
theorem dX0_look_70 : decode cX0_look 70 = .ok (.iaload, 1) := by decide +kernel
theorem dX0_look_71 : decode cX0_look 71 = .ok (.aload_n 0, 1) := by decide +kernel
theorem dX0_look_72 : decode cX0_look 72 = .ok (.getfield 12, 3) := by decide +kernel
theorem dX0_look_75 : decode cX0_look 75 = .ok (.getfield 76, 3) := by decide +kernel
theorem dX0_look_78 : decode cX0_look 78 = .ok (.iload_n 3, 1) := by decide +kernel
theorem dX0_look_79 : decode cX0_look 79 = .ok (.iaload, 1) := by decide +kernel
theorem dX0_look_80 : decode cX0_look 80 = .ok (.isub, 1) := by decide +kernel
theorem dX0_look_81 : decode cX0_look 81 = .ok (.iastore, 1) := by decide +kernel
theorem dX0_look_82 : decode cX0_look 82 = .ok (.iinc 2 1, 3) := by decide +kernel
theorem dX0_look_85 : decode cX0_look 85 = .ok (.goto (-83), 3) := by decide +kernel
theorem dX0_look_88 : decode cX0_look 88 = .ok (.return_, 1) := by decide +kernel
theorem dX0_pass_0 : decode cX0_pass 0 = .ok (.iconst 0, 1) := by decide +kernel
theorem dX0_pass_1 : decode cX0_pass 1 = .ok (.istore_n 2, 1) := by decide +kernel
theorem dX0_pass_2 : decode cX0_pass 2 = .ok (.iload_n 2, 1) := by decide +kernel
theorem dX0_pass_3 : decode cX0_pass 3 = .ok (.iload_n 1, 1) := by decide +kernel
theorem dX0_pass_4 : decode cX0_pass 4 = .ok (.if_icmp .ge 13, 3) := by decide +kernel
theorem dX0_pass_7 : decode cX0_pass 7 = .ok (.aload_n 0, 1) := by decide +kernel
theorem dX0_pass_8 : decode cX0_pass 8 = .ok (.invokevirtual 79, 3) := by decide +kernel
theorem dX0_pass_11 : decode cX0_pass 11 = .ok (.iinc 2 1, 3) := by decide +kernel
theorem dX0_pass_14 : decode cX0_pass 14 = .ok (.goto (-12), 3) := by decide +kernel
theorem dX0_pass_17 : decode cX0_pass 17 = .ok (.return_, 1) := by decide +kernel
theorem dX0_passDay_0 : decode cX0_passDay 0 = .ok (.aload_n 0, 1) := by decide +kernel
theorem dX0_passDay_1 : decode cX0_passDay 1 = .ok (.invokevirtual 82, 3) := by decide +kernel
theorem dX0_passDay_4 : decode cX0_passDay 4 = .ok (.aload_n 0, 1) := by decide +kernel
theorem dX0_passDay_5 : decode cX0_passDay 5 = .ok (.aload_n 0, 1) := by decide +kernel
theorem dX0_passDay_6 : decode cX0_passDay 6 = .ok (.getfield 12, 3) := by decide +kernel
theorem dX0_passDay_9 : decode cX0_passDay 9 = .ok (.getfield 85, 3) := by decide +kernel
theorem dX0_passDay_12 : decode cX0_passDay 12 = .ok (.invokevirtual 88, 3) := by decide +kernel
theorem dX0_passDay_15 : decode cX0_passDay 15 = .ok (.iconst 0, 1) := by decide +kernel
theorem dX0_passDay_16 : decode cX0_passDay 16 = .ok (.istore_n 1, 1) := by decide +kernel
theorem dX0_passDay_17 : decode cX0_passDay 17 = .ok (.iload_n 1, 1) := by decide +kernel
theorem dX0_passDay_18 : decode cX0_passDay 18 = .ok (.aload_n 0, 1) := by decide +kernel
theorem dX0_passDay_19 : decode cX0_passDay 19 = .ok (.getfield 21, 3) := by decide +kernel
theorem dX0_passDay_22 : decode cX0_passDay 22 = .ok (.getfield 92, 3) := by decide +kernel
theorem dX0_passDay_25 : decode cX0_passDay 25 = .ok (.if_icmp .ge 28, 3) := by decide +kernel
theorem dX0_passDay_28 : decode cX0_passDay 28 = .ok (.aload_n 0, 1) := by decide +kernel
theorem dX0_passDay_29 : decode cX0_passDay 29 = .ok (.getfield 12, 3) := by decide +kernel
theorem dX0_passDay_32 : decode cX0_passDay 32 = .ok (.getfield 95, 3) := by decide +kernel
theorem dX0_passDay_35 : decode cX0_passDay 35 = .ok (.iload_n 1, 1) := by decide +kernel
theorem dX0_passDay_36 : decode cX0_passDay 36 = .ok (.iaload, 1) := by decide +kernel
theorem dX0_passDay_37 : decode cX0_passDay 37 = .ok (.bipush (-4), 2) := by decide +kernel
theorem dX0_passDay_39 : decode cX0_passDay 39 = .ok (.if_icmp .eq 8, 3) := by decide +kernel
theorem dX0_passDay_42 : decode cX0_passDay 42 = .ok (.aload_n 0, 1) := by decide +kernel
theorem dX0_passDay_43 : decode cX0_passDay 43 = .ok (.iload_n 1, 1) := by decide +kernel
theorem dX0_passDay_44 : decode cX0_passDay 44 = .ok (.invokevirtual 98, 3) := by decide +kernel
theorem dX0_passDay_47 : decode cX0_passDay 47 = .ok (.iinc 1 1, 3) := by decide +kernel
theorem dX0_passDay_50 : decode cX0_passDay 50 = .ok (.goto (-33), 3) := by decide +kernel
theorem dX0_passDay_53 : decode cX0_passDay 53 = .ok (.aload_n 0, 1) := by decide +kernel
theorem dX0_passDay_54 : decode cX0_passDay 54 = .ok (.invokevirtual 101, 3) := by decide +kernel
theorem dX0_passDay_57 : decode cX0_passDay 57 = .ok (.aload_n 0, 1) := by decide +kernel
theorem dX0_passDay_58 : decode cX0_passDay 58 = .ok (.getfield 12, 3) := by decide +kernel
theorem dX0_passDay_61 : decode cX0_passDay 61 = .ok (.invokevirtual 104, 3) := by decide +kernel
theorem dX0_passDay_64 : decode cX0_passDay 64 = .ok (.return_, 1) := by decide +kernel
theorem dX0_giveAlms_0 : decode cX0_giveAlms 0 = .ok (.iconst 0, 1) := by decide +kernel
theorem dX0_giveAlms_1 : decode cX0_giveAlms 1 = .ok (.istore_n 1, 1) := by decide +kernel
theorem dX0_giveAlms_2 : decode cX0_giveAlms 2 = .ok (.iload_n 1, 1) := by decide +kernel
theorem dX0_giveAlms_3 : decode cX0_giveAlms 3 = .ok (.aload_n 0, 1) := by decide +kernel
theorem dX0_giveAlms_4 : decode cX0_giveAlms 4 = .ok (.getfield 21, 3) := by decide +kernel
theorem dX0_giveAlms_7 : decode cX0_giveAlms 7 = .ok (.getfield 66, 3) := by decide +kernel
theorem dX0_giveAlms_10 : decode cX0_giveAlms 10 = .ok (.if_icmp .ge 25, 3) := by decide +kernel
theorem dX0_giveAlms_13 : decode cX0_giveAlms 13 = .ok (.aload_n 0, 1) := by decide +kernel
theorem dX0_giveAlms_14 : decode cX0_giveAlms 14 = .ok (.getfield 12, 3) := by decide +kernel
theorem dX0_giveAlms_17 : decode cX0_giveAlms 17 = .ok (.getfield 107, 3) := by decide +kernel
theorem dX0_giveAlms_20 : decode cX0_giveAlms 20 = .ok (.iload_n 1, 1) := by decide +kernel
theorem dX0_giveAlms_21 : decode cX0_giveAlms 21 = .ok (.dup2, 1) := by decide +kernel
theorem dX0_giveAlms_22 : decode cX0_giveAlms 22 = .ok (.iaload, 1) := by decide +kernel
theorem dX0_giveAlms_23 : decode cX0_giveAlms 23 = .ok (.aload_n 0, 1) := by decide +kernel
theorem dX0_giveAlms_24 : decode cX0_giveAlms 24 = .ok (.getfield 45, 3) := by decide +kernel
theorem dX0_giveAlms_27 : decode cX0_giveAlms 27 = .ok (.iadd, 1) := by decide +kernel
theorem dX0_giveAlms_28 : decode cX0_giveAlms 28 = .ok (.iastore, 1) := by decide +kernel
theorem dX0_giveAlms_29 : decode cX0_giveAlms 29 = .ok (.iinc 1 1, 3) := by decide +kernel
theorem dX0_giveAlms_32 : decode cX0_giveAlms 32 = .ok (.goto (-30), 3) := by decide +kernel
theorem dX0_giveAlms_35 : decode cX0_giveAlms 35 = .ok (.return_, 1) := by decide +kernel
theorem dX0_go_0 : decode cX0_go 0 = .ok (.aload_n 0, 1) := by decide +kernel
theorem dX0_go_1 : decode cX0_go 1 = .ok (.iload_n 1, 1) := by decide +kernel
theorem dX0_go_2 : decode cX0_go 2 = .ok (.invokevirtual 110, 3) := by decide +kernel
theorem dX0_go_5 : decode cX0_go 5 = .ok (.istore_n 2, 1) := by decide +kernel
theorem dX0_go_6 : decode cX0_go 6 = .ok (.iload_n 2, 1) := by decide +kernel
theorem dX0_go_7 : decode cX0_go 7 = .ok (.bipush (-4), 2) := by decide +kernel
theorem dX0_go_9 : decode cX0_go 9 = .ok (.if_icmp .ne 11, 3) := by decide +kernel
theorem dX0_go_12 : decode cX0_go 12 = .ok (.aload_n 0, 1) := by decide +kernel
theorem dX0_go_13 : decode cX0_go 13 = .ok (.iload_n 1, 1) := by decide +kernel
theorem dX0_go_14 : decode cX0_go 14 = .ok (.invokevirtual 114, 3) := by decide +kernel
theorem dX0_go_17 : decode cX0_go 17 = .ok (.goto 51, 3) := by decide +kernel
theorem dX0_go_20 : decode cX0_go 20 = .ok (.aload_n 0, 1) := by decide +kernel
theorem dX0_go_21 : decode cX0_go 21 = .ok (.getfield 29, 3) := by decide +kernel
theorem dX0_go_24 : decode cX0_go 24 = .ok (.iload_n 2, 1) := by decide +kernel
theorem dX0_go_25 : decode cX0_go 25 = .ok (.iaload, 1) := by decide +kernel
theorem dX0_go_26 : decode cX0_go 26 = .ok (.aload_n 0, 1) := by decide +kernel
theorem dX0_go_27 : decode cX0_go 27 = .ok (.getfield 21, 3) := by decide +kernel
theorem dX0_go_30 : decode cX0_go 30 = .ok (.getfield 117, 3) := by decide +kernel
theorem dX0_go_33 : decode cX0_go 33 = .ok (.iload_n 1, 1) := by decide +kernel
theorem dX0_go_34 : decode cX0_go 34 = .ok (.iaload, 1) := by decide +kernel
theorem dX0_go_35 : decode cX0_go 35 = .ok (.if_icmp .ge 27, 3) := by decide +kernel
theorem dX0_go_38 : decode cX0_go 38 = .ok (.aload_n 0, 1) := by decide +kernel
theorem dX0_go_39 : decode cX0_go 39 = .ok (.getfield 12, 3) := by decide +kernel
theorem dX0_go_42 : decode cX0_go 42 = .ok (.getfield 95, 3) := by decide +kernel
theorem dX0_go_45 : decode cX0_go 45 = .ok (.iload_n 1, 1) := by decide +kernel
theorem dX0_go_46 : decode cX0_go 46 = .ok (.bipush (-4), 2) := by decide +kernel
theorem dX0_go_48 : decode cX0_go 48 = .ok (.iastore, 1) := by decide +kernel
theorem dX0_go_49 : decode cX0_go 49 = .ok (.aload_n 0, 1) := by decide +kernel
theorem dX0_go_50 : decode cX0_go 50 = .ok (.dup, 1) := by decide +kernel
theorem dX0_go_51 : decode cX0_go 51 = .ok (.getfield 57, 3) := by decide +kernel
theorem dX0_go_54 : decode cX0_go 54 = .ok (.iconst 1, 1) := by decide +kernel
theorem dX0_go_55 : decode cX0_go 55 = .ok (.iadd, 1) := by decide +kernel
theorem dX0_go_56 : decode cX0_go 56 = .ok (.putfield 57, 3) := by decide +kernel
theorem dX0_go_59 : decode cX0_go 59 = .ok (.goto 9, 3) := by decide +kernel
theorem dX0_go_62 : decode cX0_go 62 = .ok (.aload_n 0, 1) := by decide +kernel
theorem dX0_go_63 : decode cX0_go 63 = .ok (.iload_n 1, 1) := by decide +kernel
theorem dX0_go_64 : decode cX0_go 64 = .ok (.iload_n 2, 1) := by decide +kernel
theorem dX0_go_65 : decode cX0_go 65 = .ok (.invokevirtual 120, 3) := by decide +kernel
theorem dX0_go_68 : decode cX0_go 68 = .ok (.return_, 1) := by decide +kernel
theorem dX0_firstBridge_0 : decode cX0_firstBridge 0 = .ok (.aload_n 0, 1) := by decide +kernel
theorem dX0_firstBridge_1 : decode cX0_firstBridge 1 = .ok (.getfield 12, 3) := by decide +kernel
theorem dX0_firstBridge_4 : decode cX0_firstBridge 4 = .ok (.getfield 95, 3) := by decide +kernel
theorem dX0_firstBridge_7 : decode cX0_firstBridge 7 = .ok (.iload_n 1, 1) := by decide +kernel
theorem dX0_firstBridge_8 : decode cX0_firstBridge 8 = .ok (.iaload, 1) := by decide +kernel
theorem dX0_firstBridge_9 : decode cX0_firstBridge 9 = .ok (.istore_n 2, 1) := by decide +kernel
theorem dX0_firstBridge_10 : decode cX0_firstBridge 10 = .ok (.iload_n 2, 1) := by decide +kernel
theorem dX0_firstBridge_11 : decode cX0_firstBridge 11 = .ok (.bipush (-4), 2) := by decide +kernel
theorem dX0_firstBridge_13 : decode cX0_firstBridge 13 = .ok (.if_icmp .ne 6, 3) := by decide +kernel
theorem dX0_firstBridge_16 : decode cX0_firstBridge 16 = .ok (.bipush (-4), 2) := by decide +kernel
theorem dX0_firstBridge_18 : decode cX0_firstBridge 18 = .ok (.ireturn, 1) := by decide +kernel
theorem dX0_firstBridge_19 : decode cX0_firstBridge 19 = .ok (.aload_n 0, 1) := by decide +kernel
theorem dX0_firstBridge_20 : decode cX0_firstBridge 20 = .ok (.iload_n 1, 1) := by decide +kernel
theorem dX0_firstBridge_21 : decode cX0_firstBridge 21 = .ok (.invokevirtual 124, 3) := by decide +kernel
theorem dX0_firstBridge_24 : decode cX0_firstBridge 24 = .ok (.istore_n 3, 1) := by decide +kernel
theorem dX0_firstBridge_25 : decode cX0_firstBridge 25 = .ok (.iconst 1, 1) := by decide +kernel
theorem dX0_firstBridge_26 : decode cX0_firstBridge 26 = .ok (.aload_n 0, 1) := by decide +kernel
theorem dX0_firstBridge_27 : decode cX0_firstBridge 27 = .ok (.getfield 12, 3) := by decide +kernel
theorem dX0_firstBridge_30 : decode cX0_firstBridge 30 = .ok (.getfield 127, 3) := by decide +kernel
theorem dX0_firstBridge_33 : decode cX0_firstBridge 33 = .ok (.iload_n 1, 1) := by decide +kernel
theorem dX0_firstBridge_34 : decode cX0_firstBridge 34 = .ok (.iaload, 1) := by decide +kernel
theorem dX0_firstBridge_35 : decode cX0_firstBridge 35 = .ok (.ishl, 1) := by decide +kernel
theorem dX0_firstBridge_36 : decode cX0_firstBridge 36 = .ok (.istore 4, 2) := by decide +kernel
theorem dX0_firstBridge_38 : decode cX0_firstBridge 38 = .ok (.iconst 1, 1) := by decide +kernel
theorem dX0_firstBridge_39 : decode cX0_firstBridge 39 = .ok (.istore 5, 2) := by decide +kernel
theorem dX0_firstBridge_41 : decode cX0_firstBridge 41 = .ok (.iload 5, 2) := by decide +kernel
theorem dX0_firstBridge_43 : decode cX0_firstBridge 43 = .ok (.bipush 8, 2) := by decide +kernel
theorem dX0_firstBridge_45 : decode cX0_firstBridge 45 = .ok (.if_icmp .ge 58, 3) := by decide +kernel
theorem dX0_firstBridge_48 : decode cX0_firstBridge 48 = .ok (.aload_n 0, 1) := by decide +kernel
theorem dX0_firstBridge_49 : decode cX0_firstBridge 49 = .ok (.getfield 21, 3) := by decide +kernel
theorem dX0_firstBridge_52 : decode cX0_firstBridge 52 = .ok (.iload 4, 2) := by decide +kernel
theorem dX0_firstBridge_54 : decode cX0_firstBridge 54 = .ok (.iload_n 2, 1) := by decide +kernel
theorem dX0_firstBridge_55 : decode cX0_firstBridge 55 = .ok (.iload_n 3, 1) := by decide +kernel
theorem dX0_firstBridge_56 : decode cX0_firstBridge 56 = .ok (.invokevirtual 130, 3) := by decide +kernel
theorem dX0_firstBridge_59 : decode cX0_firstBridge 59 = .ok (.istore 6, 2) := by decide +kernel
theorem dX0_firstBridge_61 : decode cX0_firstBridge 61 = .ok (.iload 6, 2) := by decide +kernel
theorem dX0_firstBridge_63 : decode cX0_firstBridge 63 = .ok (.bipush (-4), 2) := by decide +kernel
theorem dX0_firstBridge_65 : decode cX0_firstBridge 65 = .ok (.if_icmp .eq 6, 3) := by decide +kernel
theorem dX0_firstBridge_68 : decode cX0_firstBridge 68 = .ok (.iload 6, 2) := by decide +kernel
theorem dX0_firstBridge_70 : decode cX0_firstBridge 70 = .ok (.ireturn, 1) := by decide +kernel
theorem dX0_firstBridge_71 : decode cX0_firstBridge 71 = .ok (.aload_n 0, 1) := by decide +kernel
theorem dX0_firstBridge_72 : decode cX0_firstBridge 72 = .ok (.getfield 21, 3) := by decide +kernel
theorem dX0_firstBridge_75 : decode cX0_firstBridge 75 = .ok (.iload 4, 2) := by decide +kernel
theorem dX0_firstBridge_77 : decode cX0_firstBridge 77 = .ok (.iload_n 3, 1) := by decide +kernel
theorem dX0_firstBridge_78 : decode cX0_firstBridge 78 = .ok (.invokevirtual 134, 3) := by decide +kernel
theorem dX0_firstBridge_81 : decode cX0_firstBridge 81 = .ok (.istore 7, 2) := by decide +kernel
theorem dX0_firstBridge_83 : decode cX0_firstBridge 83 = .ok (.iload 7, 2) := by decide +kernel
theorem dX0_firstBridge_85 : decode cX0_firstBridge 85 = .ok (.iload 4, 2) := by decide +kernel
theorem dX0_firstBridge_87 : decode cX0_firstBridge 87 = .ok (.if_icmp .ne 6, 3) := by decide +kernel
theorem dX0_firstBridge_90 : decode cX0_firstBridge 90 = .ok (.bipush (-4), 2) := by decide +kernel
theorem dX0_firstBridge_92 : decode cX0_firstBridge 92 = .ok (.ireturn, 1) := by decide +kernel
theorem dX0_firstBridge_93 : decode cX0_firstBridge 93 = .ok (.iload 7, 2) := by decide +kernel
theorem dX0_firstBridge_95 : decode cX0_firstBridge 95 = .ok (.istore 4, 2) := by decide +kernel
theorem dX0_firstBridge_97 : decode cX0_firstBridge 97 = .ok (.iinc 5 1, 3) := by decide +kernel
theorem dX0_firstBridge_100 : decode cX0_firstBridge 100 = .ok (.goto (-59), 3) := by decide +kernel
theorem dX0_firstBridge_103 : decode cX0_firstBridge 103 = .ok (.bipush (-4), 2) := by decide +kernel
theorem dX0_firstBridge_105 : decode cX0_firstBridge 105 = .ok (.ireturn, 1) := by decide +kernel
theorem dX0_usableFor_0 : decode cX0_usableFor 0 = .ok (.iconst 0, 1) := by decide +kernel
theorem dX0_usableFor_1 : decode cX0_usableFor 1 = .ok (.istore_n 2, 1) := by decide +kernel
theorem dX0_usableFor_2 : decode cX0_usableFor 2 = .ok (.iconst 0, 1) := by decide +kernel
theorem dX0_usableFor_3 : decode cX0_usableFor 3 = .ok (.istore_n 3, 1) := by decide +kernel
theorem dX0_usableFor_4 : decode cX0_usableFor 4 = .ok (.iload_n 3, 1) := by decide +kernel
theorem dX0_usableFor_5 : decode cX0_usableFor 5 = .ok (.aload_n 0, 1) := by decide +kernel
theorem dX0_usableFor_6 : decode cX0_usableFor 6 = .ok (.getfield 21, 3) := by decide +kernel
theorem dX0_usableFor_9 : decode cX0_usableFor 9 = .ok (.getfield 66, 3) := by decide +kernel
theorem dX0_usableFor_12 : decode cX0_usableFor 12 = .ok (.if_icmp .ge 33, 3) := by decide +kernel
theorem dX0_usableFor_15 : decode cX0_usableFor 15 = .ok (.aload_n 0, 1) := by decide +kernel
theorem dX0_usableFor_16 : decode cX0_usableFor 16 = .ok (.getfield 25, 3) := by decide +kernel
theorem dX0_usableFor_19 : decode cX0_usableFor 19 = .ok (.iload_n 3, 1) := by decide +kernel
theorem dX0_usableFor_20 : decode cX0_usableFor 20 = .ok (.iaload, 1) := by decide +kernel
theorem dX0_usableFor_21 : decode cX0_usableFor 21 = .ok (.aload_n 0, 1) := by decide +kernel
theorem dX0_usableFor_22 : decode cX0_usableFor 22 = .ok (.getfield 21, 3) := by decide +kernel
theorem dX0_usableFor_25 : decode cX0_usableFor 25 = .ok (.getfield 117, 3) := by decide +kernel
theorem dX0_usableFor_28 : decode cX0_usableFor 28 = .ok (.iload_n 1, 1) := by decide +kernel
theorem dX0_usableFor_29 : decode cX0_usableFor 29 = .ok (.iaload, 1) := by decide +kernel
theorem dX0_usableFor_30 : decode cX0_usableFor 30 = .ok (.if_icmp .lt 9, 3) := by decide +kernel
theorem dX0_usableFor_33 : decode cX0_usableFor 33 = .ok (.iload_n 2, 1) := by decide +kernel
theorem dX0_usableFor_34 : decode cX0_usableFor 34 = .ok (.iconst 1, 1) := by decide +kernel
theorem dX0_usableFor_35 : decode cX0_usableFor 35 = .ok (.iload_n 3, 1) := by decide +kernel
theorem dX0_usableFor_36 : decode cX0_usableFor 36 = .ok (.ishl, 1) := by decide +kernel
theorem dX0_usableFor_37 : decode cX0_usableFor 37 = .ok (.ior, 1) := by decide +kernel
theorem dX0_usableFor_38 : decode cX0_usableFor 38 = .ok (.istore_n 2, 1) := by decide +kernel
theorem dX0_usableFor_39 : decode cX0_usableFor 39 = .ok (.iinc 3 1, 3) := by decide +kernel
theorem dX0_usableFor_42 : decode cX0_usableFor 42 = .ok (.goto (-38), 3) := by decide +kernel
theorem dX0_usableFor_45 : decode cX0_usableFor 45 = .ok (.aload_n 0, 1) := by decide +kernel
theorem dX0_usableFor_46 : decode cX0_usableFor 46 = .ok (.getfield 48, 3) := by decide +kernel
theorem dX0_usableFor_49 : decode cX0_usableFor 49 = .ok (.bipush (-4), 2) := by decide +kernel
theorem dX0_usableFor_51 : decode cX0_usableFor 51 = .ok (.if_icmp .eq 25, 3) := by decide +kernel
theorem dX0_usableFor_54 : decode cX0_usableFor 54 = .ok (.aload_n 0, 1) := by decide +kernel
theorem dX0_usableFor_55 : decode cX0_usableFor 55 = .ok (.getfield 51, 3) := by decide +kernel
theorem dX0_usableFor_58 : decode cX0_usableFor 58 = .ok (.iload_n 1, 1) := by decide +kernel
theorem dX0_usableFor_59 : decode cX0_usableFor 59 = .ok (.ishr, 1) := by decide +kernel
theorem dX0_usableFor_60 : decode cX0_usableFor 60 = .ok (.iconst 1, 1) := by decide +kernel
theorem dX0_usableFor_61 : decode cX0_usableFor 61 = .ok (.iand, 1) := by decide +kernel
theorem dX0_usableFor_62 : decode cX0_usableFor 62 = .ok (.ifCond .eq 14, 3) := by decide +kernel
theorem dX0_usableFor_65 : decode cX0_usableFor 65 = .ok (.iload_n 2, 1) := by decide +kernel
theorem dX0_usableFor_66 : decode cX0_usableFor 66 = .ok (.iconst 1, 1) := by decide +kernel
theorem dX0_usableFor_67 : decode cX0_usableFor 67 = .ok (.aload_n 0, 1) := by decide +kernel
theorem dX0_usableFor_68 : decode cX0_usableFor 68 = .ok (.getfield 48, 3) := by decide +kernel
theorem dX0_usableFor_71 : decode cX0_usableFor 71 = .ok (.ishl, 1) := by decide +kernel
theorem dX0_usableFor_72 : decode cX0_usableFor 72 = .ok (.iconst (-1), 1) := by decide +kernel
theorem dX0_usableFor_73 : decode cX0_usableFor 73 = .ok (.ixor, 1) := by decide +kernel
theorem dX0_usableFor_74 : decode cX0_usableFor 74 = .ok (.iand, 1) := by decide +kernel
theorem dX0_usableFor_75 : decode cX0_usableFor 75 = .ok (.istore_n 2, 1) := by decide +kernel
theorem dX0_usableFor_76 : decode cX0_usableFor 76 = .ok (.iload_n 2, 1) := by decide +kernel
theorem dX0_usableFor_77 : decode cX0_usableFor 77 = .ok (.ireturn, 1) := by decide +kernel
theorem dX0_waitHere_0 : decode cX0_waitHere 0 = .ok (.aload_n 0, 1) := by decide +kernel
theorem dX0_waitHere_1 : decode cX0_waitHere 1 = .ok (.dup, 1) := by decide +kernel
theorem dX0_waitHere_2 : decode cX0_waitHere 2 = .ok (.getfield 54, 3) := by decide +kernel
theorem dX0_waitHere_5 : decode cX0_waitHere 5 = .ok (.iconst 1, 1) := by decide +kernel
theorem dX0_waitHere_6 : decode cX0_waitHere 6 = .ok (.iadd, 1) := by decide +kernel
theorem dX0_waitHere_7 : decode cX0_waitHere 7 = .ok (.putfield 54, 3) := by decide +kernel
theorem dX0_waitHere_10 : decode cX0_waitHere 10 = .ok (.aload_n 0, 1) := by decide +kernel
theorem dX0_waitHere_11 : decode cX0_waitHere 11 = .ok (.getfield 21, 3) := by decide +kernel
theorem dX0_waitHere_14 : decode cX0_waitHere 14 = .ok (.getfield 137, 3) := by decide +kernel
theorem dX0_waitHere_17 : decode cX0_waitHere 17 = .ok (.iload_n 1, 1) := by decide +kernel
theorem dX0_waitHere_18 : decode cX0_waitHere 18 = .ok (.iaload, 1) := by decide +kernel
theorem dX0_waitHere_19 : decode cX0_waitHere 19 = .ok (.iconst 4, 1) := by decide +kernel
theorem dX0_waitHere_20 : decode cX0_waitHere 20 = .ok (.if_icmp .eq 4, 3) := by decide +kernel
theorem dX0_waitHere_23 : decode cX0_waitHere 23 = .ok (.return_, 1) := by decide +kernel
theorem dX0_waitHere_24 : decode cX0_waitHere 24 = .ok (.aload_n 0, 1) := by decide +kernel
theorem dX0_waitHere_25 : decode cX0_waitHere 25 = .ok (.getfield 21, 3) := by decide +kernel
theorem dX0_waitHere_28 : decode cX0_waitHere 28 = .ok (.aload_n 0, 1) := by decide +kernel
theorem dX0_waitHere_29 : decode cX0_waitHere 29 = .ok (.getfield 12, 3) := by decide +kernel
theorem dX0_waitHere_32 : decode cX0_waitHere 32 = .ok (.getfield 95, 3) := by decide +kernel
theorem dX0_waitHere_35 : decode cX0_waitHere 35 = .ok (.iload_n 1, 1) := by decide +kernel
theorem dX0_waitHere_36 : decode cX0_waitHere 36 = .ok (.iaload, 1) := by decide +kernel
theorem dX0_waitHere_37 : decode cX0_waitHere 37 = .ok (.invokevirtual 140, 3) := by decide +kernel
theorem dX0_waitHere_40 : decode cX0_waitHere 40 = .ok (.istore_n 2, 1) := by decide +kernel
theorem dX0_waitHere_41 : decode cX0_waitHere 41 = .ok (.iload_n 2, 1) := by decide +kernel
theorem dX0_waitHere_42 : decode cX0_waitHere 42 = .ok (.bipush (-4), 2) := by decide +kernel
theorem dX0_waitHere_44 : decode cX0_waitHere 44 = .ok (.if_icmp .eq 17, 3) := by decide +kernel
theorem dX0_waitHere_47 : decode cX0_waitHere 47 = .ok (.aload_n 0, 1) := by decide +kernel
theorem dX0_waitHere_48 : decode cX0_waitHere 48 = .ok (.iload_n 2, 1) := by decide +kernel
theorem dX0_waitHere_49 : decode cX0_waitHere 49 = .ok (.aload_n 0, 1) := by decide +kernel
theorem dX0_waitHere_50 : decode cX0_waitHere 50 = .ok (.getfield 21, 3) := by decide +kernel
theorem dX0_waitHere_53 : decode cX0_waitHere 53 = .ok (.getfield 143, 3) := by decide +kernel
theorem dX0_waitHere_56 : decode cX0_waitHere 56 = .ok (.iload_n 1, 1) := by decide +kernel
theorem dX0_waitHere_57 : decode cX0_waitHere 57 = .ok (.iaload, 1) := by decide +kernel
theorem dX0_waitHere_58 : decode cX0_waitHere 58 = .ok (.invokevirtual 146, 3) := by decide +kernel
theorem dX0_waitHere_61 : decode cX0_waitHere 61 = .ok (.return_, 1) := by decide +kernel
theorem dX0_cross_0 : decode cX0_cross 0 = .ok (.aload_n 0, 1) := by decide +kernel
theorem dX0_cross_1 : decode cX0_cross 1 = .ok (.getfield 12, 3) := by decide +kernel
theorem dX0_cross_4 : decode cX0_cross 4 = .ok (.getfield 95, 3) := by decide +kernel
theorem dX0_cross_7 : decode cX0_cross 7 = .ok (.iload_n 1, 1) := by decide +kernel
theorem dX0_cross_8 : decode cX0_cross 8 = .ok (.iaload, 1) := by decide +kernel
theorem dX0_cross_9 : decode cX0_cross 9 = .ok (.aload_n 0, 1) := by decide +kernel
theorem dX0_cross_10 : decode cX0_cross 10 = .ok (.getfield 21, 3) := by decide +kernel
theorem dX0_cross_13 : decode cX0_cross 13 = .ok (.getfield 149, 3) := by decide +kernel
theorem dX0_cross_16 : decode cX0_cross 16 = .ok (.iload_n 2, 1) := by decide +kernel
theorem dX0_cross_17 : decode cX0_cross 17 = .ok (.iaload, 1) := by decide +kernel
theorem dX0_cross_18 : decode cX0_cross 18 = .ok (.if_icmp .ne 7, 3) := by decide +kernel
theorem dX0_cross_21 : decode cX0_cross 21 = .ok (.iconst 1, 1) := by decide +kernel
theorem dX0_cross_22 : decode cX0_cross 22 = .ok (.goto 4, 3) := by decide +kernel
theorem dX0_cross_25 : decode cX0_cross 25 = .ok (.iconst 0, 1) := by decide +kernel
theorem dX0_cross_26 : decode cX0_cross 26 = .ok (.istore_n 3, 1) := by decide +kernel
theorem dX0_cross_27 : decode cX0_cross 27 = .ok (.aload_n 0, 1) := by decide +kernel
theorem dX0_cross_28 : decode cX0_cross 28 = .ok (.getfield 12, 3) := by decide +kernel
theorem dX0_cross_31 : decode cX0_cross 31 = .ok (.getfield 95, 3) := by decide +kernel
theorem dX0_cross_34 : decode cX0_cross 34 = .ok (.iload_n 1, 1) := by decide +kernel
theorem dX0_cross_35 : decode cX0_cross 35 = .ok (.iload_n 3, 1) := by decide +kernel
theorem dX0_cross_36 : decode cX0_cross 36 = .ok (.ifCond .eq 15, 3) := by decide +kernel
theorem dX0_cross_39 : decode cX0_cross 39 = .ok (.aload_n 0, 1) := by decide +kernel
theorem dX0_cross_40 : decode cX0_cross 40 = .ok (.getfield 21, 3) := by decide +kernel
theorem dX0_cross_43 : decode cX0_cross 43 = .ok (.getfield 152, 3) := by decide +kernel
theorem dX0_cross_46 : decode cX0_cross 46 = .ok (.iload_n 2, 1) := by decide +kernel
theorem dX0_cross_47 : decode cX0_cross 47 = .ok (.iaload, 1) := by decide +kernel
theorem dX0_cross_48 : decode cX0_cross 48 = .ok (.goto 12, 3) := by decide +kernel
theorem dX0_cross_51 : decode cX0_cross 51 = .ok (.aload_n 0, 1) := by decide +kernel
theorem dX0_cross_52 : decode cX0_cross 52 = .ok (.getfield 21, 3) := by decide +kernel
theorem dX0_cross_55 : decode cX0_cross 55 = .ok (.getfield 149, 3) := by decide +kernel
theorem dX0_cross_58 : decode cX0_cross 58 = .ok (.iload_n 2, 1) := by decide +kernel
theorem dX0_cross_59 : decode cX0_cross 59 = .ok (.iaload, 1) := by decide +kernel
theorem dX0_cross_60 : decode cX0_cross 60 = .ok (.iastore, 1) := by decide +kernel
theorem dX0_cross_61 : decode cX0_cross 61 = .ok (.aload_n 0, 1) := by decide +kernel
theorem dX0_cross_62 : decode cX0_cross 62 = .ok (.getfield 21, 3) := by decide +kernel
theorem dX0_cross_65 : decode cX0_cross 65 = .ok (.getfield 137, 3) := by decide +kernel
theorem dX0_cross_68 : decode cX0_cross 68 = .ok (.iload_n 1, 1) := by decide +kernel
theorem dX0_cross_69 : decode cX0_cross 69 = .ok (.iaload, 1) := by decide +kernel
theorem dX0_cross_70 : decode cX0_cross 70 = .ok (.istore 4, 2) := by decide +kernel
theorem dX0_cross_72 : decode cX0_cross 72 = .ok (.iload 4, 2) := by decide +kernel
theorem dX0_cross_74 : decode cX0_cross 74 = .ok (.iconst 3, 1) := by decide +kernel
theorem dX0_cross_75 : decode cX0_cross 75 = .ok (.if_icmp .ne 20, 3) := by decide +kernel
theorem dX0_cross_78 : decode cX0_cross 78 = .ok (.aload_n 0, 1) := by decide +kernel
theorem dX0_cross_79 : decode cX0_cross 79 = .ok (.iload_n 2, 1) := by decide +kernel
theorem dX0_cross_80 : decode cX0_cross 80 = .ok (.aload_n 0, 1) := by decide +kernel
theorem dX0_cross_81 : decode cX0_cross 81 = .ok (.getfield 21, 3) := by decide +kernel
theorem dX0_cross_84 : decode cX0_cross 84 = .ok (.getfield 143, 3) := by decide +kernel
theorem dX0_cross_87 : decode cX0_cross 87 = .ok (.iload_n 1, 1) := by decide +kernel
theorem dX0_cross_88 : decode cX0_cross 88 = .ok (.iaload, 1) := by decide +kernel
theorem dX0_cross_89 : decode cX0_cross 89 = .ok (.invokevirtual 155, 3) := by decide +kernel
theorem dX0_cross_92 : decode cX0_cross 92 = .ok (.goto 35, 3) := by decide +kernel
theorem dX0_cross_95 : decode cX0_cross 95 = .ok (.iload 4, 2) := by decide +kernel
theorem dX0_cross_97 : decode cX0_cross 97 = .ok (.iconst 2, 1) := by decide +kernel
theorem dX0_cross_98 : decode cX0_cross 98 = .ok (.if_icmp .ne 15, 3) := by decide +kernel
theorem dX0_cross_101 : decode cX0_cross 101 = .ok (.aload_n 0, 1) := by decide +kernel
theorem dX0_cross_102 : decode cX0_cross 102 = .ok (.getfield 12, 3) := by decide +kernel
theorem dX0_cross_105 : decode cX0_cross 105 = .ok (.getfield 85, 3) := by decide +kernel
theorem dX0_cross_108 : decode cX0_cross 108 = .ok (.iconst 2, 1) := by decide +kernel
theorem dX0_cross_109 : decode cX0_cross 109 = .ok (.irem, 1) := by decide +kernel
theorem dX0_cross_110 : decode cX0_cross 110 = .ok (.ifCond .ne 17, 3) := by decide +kernel
theorem dX0_cross_113 : decode cX0_cross 113 = .ok (.aload_n 0, 1) := by decide +kernel
theorem dX0_cross_114 : decode cX0_cross 114 = .ok (.iload_n 2, 1) := by decide +kernel
theorem dX0_cross_115 : decode cX0_cross 115 = .ok (.aload_n 0, 1) := by decide +kernel
theorem dX0_cross_116 : decode cX0_cross 116 = .ok (.getfield 21, 3) := by decide +kernel
theorem dX0_cross_119 : decode cX0_cross 119 = .ok (.getfield 143, 3) := by decide +kernel
theorem dX0_cross_122 : decode cX0_cross 122 = .ok (.iload_n 1, 1) := by decide +kernel
theorem dX0_cross_123 : decode cX0_cross 123 = .ok (.iaload, 1) := by decide +kernel
theorem dX0_cross_124 : decode cX0_cross 124 = .ok (.invokevirtual 146, 3) := by decide +kernel
theorem dX0_cross_127 : decode cX0_cross 127 = .ok (.aload_n 0, 1) := by decide +kernel
theorem dX0_cross_128 : decode cX0_cross 128 = .ok (.getfield 12, 3) := by decide +kernel
theorem dX0_cross_131 : decode cX0_cross 131 = .ok (.getfield 95, 3) := by decide +kernel
theorem dX0_cross_134 : decode cX0_cross 134 = .ok (.iload_n 1, 1) := by decide +kernel
theorem dX0_cross_135 : decode cX0_cross 135 = .ok (.iaload, 1) := by decide +kernel
theorem dX0_cross_136 : decode cX0_cross 136 = .ok (.aload_n 0, 1) := by decide +kernel
theorem dX0_cross_137 : decode cX0_cross 137 = .ok (.getfield 12, 3) := by decide +kernel
theorem dX0_cross_140 : decode cX0_cross 140 = .ok (.getfield 127, 3) := by decide +kernel
theorem dX0_cross_143 : decode cX0_cross 143 = .ok (.iload_n 1, 1) := by decide +kernel
theorem dX0_cross_144 : decode cX0_cross 144 = .ok (.iaload, 1) := by decide +kernel
theorem dX0_cross_145 : decode cX0_cross 145 = .ok (.if_icmp .ne 8, 3) := by decide +kernel
theorem dX0_cross_148 : decode cX0_cross 148 = .ok (.aload_n 0, 1) := by decide +kernel
theorem dX0_cross_149 : decode cX0_cross 149 = .ok (.iload_n 1, 1) := by decide +kernel
theorem dX0_cross_150 : decode cX0_cross 150 = .ok (.invokevirtual 158, 3) := by decide +kernel
theorem dX0_cross_153 : decode cX0_cross 153 = .ok (.return_, 1) := by decide +kernel
theorem dX0_give_0 : decode cX0_give 0 = .ok (.aload_n 0, 1) := by decide +kernel
theorem dX0_give_1 : decode cX0_give 1 = .ok (.getfield 12, 3) := by decide +kernel
theorem dX0_give_4 : decode cX0_give 4 = .ok (.getfield 107, 3) := by decide +kernel
theorem dX0_give_7 : decode cX0_give 7 = .ok (.iload_n 1, 1) := by decide +kernel
theorem dX0_give_8 : decode cX0_give 8 = .ok (.dup2, 1) := by decide +kernel
theorem dX0_give_9 : decode cX0_give 9 = .ok (.iaload, 1) := by decide +kernel
theorem dX0_give_10 : decode cX0_give 10 = .ok (.iload_n 2, 1) := by decide +kernel
theorem dX0_give_11 : decode cX0_give 11 = .ok (.iadd, 1) := by decide +kernel
theorem dX0_give_12 : decode cX0_give 12 = .ok (.iastore, 1) := by decide +kernel
theorem dX0_give_13 : decode cX0_give 13 = .ok (.aload_n 0, 1) := by decide +kernel
theorem dX0_give_14 : decode cX0_give 14 = .ok (.dup, 1) := by decide +kernel
theorem dX0_give_15 : decode cX0_give 15 = .ok (.getfield 60, 3) := by decide +kernel
theorem dX0_give_18 : decode cX0_give 18 = .ok (.iload_n 2, 1) := by decide +kernel
theorem dX0_give_19 : decode cX0_give 19 = .ok (.iadd, 1) := by decide +kernel
theorem dX0_give_20 : decode cX0_give 20 = .ok (.putfield 60, 3) := by decide +kernel
theorem dX0_give_23 : decode cX0_give 23 = .ok (.return_, 1) := by decide +kernel
theorem dX0_steal_0 : decode cX0_steal 0 = .ok (.aload_n 0, 1) := by decide +kernel
theorem dX0_steal_1 : decode cX0_steal 1 = .ok (.getfield 12, 3) := by decide +kernel
theorem dX0_steal_4 : decode cX0_steal 4 = .ok (.getfield 161, 3) := by decide +kernel
theorem dX0_steal_7 : decode cX0_steal 7 = .ok (.iload_n 1, 1) := by decide +kernel
theorem dX0_steal_8 : decode cX0_steal 8 = .ok (.ishr, 1) := by decide +kernel
theorem dX0_steal_9 : decode cX0_steal 9 = .ok (.iconst 1, 1) := by decide +kernel
theorem dX0_steal_10 : decode cX0_steal 10 = .ok (.iand, 1) := by decide +kernel
theorem dX0_steal_11 : decode cX0_steal 11 = .ok (.ifCond .eq 4, 3) := by decide +kernel
theorem dX0_steal_14 : decode cX0_steal 14 = .ok (.return_, 1) := by decide +kernel
theorem dX0_steal_15 : decode cX0_steal 15 = .ok (.aload_n 0, 1) := by decide +kernel
theorem dX0_steal_16 : decode cX0_steal 16 = .ok (.getfield 12, 3) := by decide +kernel
theorem dX0_steal_19 : decode cX0_steal 19 = .ok (.getfield 107, 3) := by decide +kernel
theorem dX0_steal_22 : decode cX0_steal 22 = .ok (.iload_n 1, 1) := by decide +kernel
theorem dX0_steal_23 : decode cX0_steal 23 = .ok (.iaload, 1) := by decide +kernel
theorem dX0_steal_24 : decode cX0_steal 24 = .ok (.aload_n 0, 1) := by decide +kernel
theorem dX0_steal_25 : decode cX0_steal 25 = .ok (.getfield 12, 3) := by decide +kernel
theorem dX0_steal_28 : decode cX0_steal 28 = .ok (.getfield 164, 3) := by decide +kernel
theorem dX0_steal_31 : decode cX0_steal 31 = .ok (.iload_n 1, 1) := by decide +kernel
theorem dX0_steal_32 : decode cX0_steal 32 = .ok (.iaload, 1) := by decide +kernel
theorem dX0_steal_33 : decode cX0_steal 33 = .ok (.isub, 1) := by decide +kernel
theorem dX0_steal_34 : decode cX0_steal 34 = .ok (.istore_n 3, 1) := by decide +kernel
theorem dX0_steal_35 : decode cX0_steal 35 = .ok (.iload_n 2, 1) := by decide +kernel
theorem dX0_steal_36 : decode cX0_steal 36 = .ok (.iload_n 3, 1) := by decide +kernel
theorem dX0_steal_37 : decode cX0_steal 37 = .ok (.if_icmp .ge 7, 3) := by decide +kernel
theorem dX0_steal_40 : decode cX0_steal 40 = .ok (.iload_n 2, 1) := by decide +kernel
theorem dX0_steal_41 : decode cX0_steal 41 = .ok (.goto 4, 3) := by decide +kernel
theorem dX0_steal_44 : decode cX0_steal 44 = .ok (.iload_n 3, 1) := by decide +kernel
theorem dX0_steal_45 : decode cX0_steal 45 = .ok (.istore 4, 2) := by decide +kernel
theorem dX0_steal_47 : decode cX0_steal 47 = .ok (.aload_n 0, 1) := by decide +kernel
theorem dX0_steal_48 : decode cX0_steal 48 = .ok (.getfield 12, 3) := by decide +kernel
theorem dX0_steal_51 : decode cX0_steal 51 = .ok (.getfield 164, 3) := by decide +kernel
theorem dX0_steal_54 : decode cX0_steal 54 = .ok (.iload_n 1, 1) := by decide +kernel
theorem dX0_steal_55 : decode cX0_steal 55 = .ok (.dup2, 1) := by decide +kernel
theorem dX0_steal_56 : decode cX0_steal 56 = .ok (.iaload, 1) := by decide +kernel
theorem dX0_steal_57 : decode cX0_steal 57 = .ok (.iload 4, 2) := by decide +kernel
theorem dX0_steal_59 : decode cX0_steal 59 = .ok (.iadd, 1) := by decide +kernel
theorem dX0_steal_60 : decode cX0_steal 60 = .ok (.iastore, 1) := by decide +kernel
theorem dX0_steal_61 : decode cX0_steal 61 = .ok (.aload_n 0, 1) := by decide +kernel
theorem dX0_steal_62 : decode cX0_steal 62 = .ok (.dup, 1) := by decide +kernel
theorem dX0_steal_63 : decode cX0_steal 63 = .ok (.getfield 63, 3) := by decide +kernel
theorem dX0_steal_66 : decode cX0_steal 66 = .ok (.iload 4, 2) := by decide +kernel
theorem dX0_steal_68 : decode cX0_steal 68 = .ok (.iadd, 1) := by decide +kernel
theorem dX0_steal_69 : decode cX0_steal 69 = .ok (.putfield 63, 3) := by decide +kernel
theorem dX0_steal_72 : decode cX0_steal 72 = .ok (.return_, 1) := by decide +kernel
theorem dX0_turnRound_0 : decode cX0_turnRound 0 = .ok (.aload_n 0, 1) := by decide +kernel
theorem dX0_turnRound_1 : decode cX0_turnRound 1 = .ok (.getfield 12, 3) := by decide +kernel
theorem dX0_turnRound_4 : decode cX0_turnRound 4 = .ok (.getfield 95, 3) := by decide +kernel
theorem dX0_turnRound_7 : decode cX0_turnRound 7 = .ok (.iload_n 1, 1) := by decide +kernel
theorem dX0_turnRound_8 : decode cX0_turnRound 8 = .ok (.iaload, 1) := by decide +kernel
theorem dX0_turnRound_9 : decode cX0_turnRound 9 = .ok (.aload_n 0, 1) := by decide +kernel
theorem dX0_turnRound_10 : decode cX0_turnRound 10 = .ok (.getfield 21, 3) := by decide +kernel
theorem dX0_turnRound_13 : decode cX0_turnRound 13 = .ok (.getfield 167, 3) := by decide +kernel
theorem dX0_turnRound_16 : decode cX0_turnRound 16 = .ok (.iload_n 1, 1) := by decide +kernel
theorem dX0_turnRound_17 : decode cX0_turnRound 17 = .ok (.iaload, 1) := by decide +kernel
theorem dX0_turnRound_18 : decode cX0_turnRound 18 = .ok (.if_icmp .ne 7, 3) := by decide +kernel
theorem dX0_turnRound_21 : decode cX0_turnRound 21 = .ok (.iconst 1, 1) := by decide +kernel
theorem dX0_turnRound_22 : decode cX0_turnRound 22 = .ok (.goto 4, 3) := by decide +kernel
theorem dX0_turnRound_25 : decode cX0_turnRound 25 = .ok (.iconst 0, 1) := by decide +kernel
theorem dX0_turnRound_26 : decode cX0_turnRound 26 = .ok (.istore_n 2, 1) := by decide +kernel
theorem dX0_turnRound_27 : decode cX0_turnRound 27 = .ok (.aload_n 0, 1) := by decide +kernel
theorem dX0_turnRound_28 : decode cX0_turnRound 28 = .ok (.getfield 12, 3) := by decide +kernel
theorem dX0_turnRound_31 : decode cX0_turnRound 31 = .ok (.getfield 127, 3) := by decide +kernel
theorem dX0_turnRound_34 : decode cX0_turnRound 34 = .ok (.iload_n 1, 1) := by decide +kernel
theorem dX0_turnRound_35 : decode cX0_turnRound 35 = .ok (.iload_n 2, 1) := by decide +kernel
theorem dX0_turnRound_36 : decode cX0_turnRound 36 = .ok (.ifCond .eq 15, 3) := by decide +kernel
theorem dX0_turnRound_39 : decode cX0_turnRound 39 = .ok (.aload_n 0, 1) := by decide +kernel
theorem dX0_turnRound_40 : decode cX0_turnRound 40 = .ok (.getfield 21, 3) := by decide +kernel
theorem dX0_turnRound_43 : decode cX0_turnRound 43 = .ok (.getfield 170, 3) := by decide +kernel
theorem dX0_turnRound_46 : decode cX0_turnRound 46 = .ok (.iload_n 1, 1) := by decide +kernel
theorem dX0_turnRound_47 : decode cX0_turnRound 47 = .ok (.iaload, 1) := by decide +kernel
theorem dX0_turnRound_48 : decode cX0_turnRound 48 = .ok (.goto 12, 3) := by decide +kernel
theorem dX0_turnRound_51 : decode cX0_turnRound 51 = .ok (.aload_n 0, 1) := by decide +kernel
theorem dX0_turnRound_52 : decode cX0_turnRound 52 = .ok (.getfield 21, 3) := by decide +kernel
theorem dX0_turnRound_55 : decode cX0_turnRound 55 = .ok (.getfield 167, 3) := by decide +kernel
theorem dX0_turnRound_58 : decode cX0_turnRound 58 = .ok (.iload_n 1, 1) := by decide +kernel
theorem dX0_turnRound_59 : decode cX0_turnRound 59 = .ok (.iaload, 1) := by decide +kernel
theorem dX0_turnRound_60 : decode cX0_turnRound 60 = .ok (.iastore, 1) := by decide +kernel
theorem dX0_turnRound_61 : decode cX0_turnRound 61 = .ok (.return_, 1) := by decide +kernel
theorem dX0_spreadRumour_0 : decode cX0_spreadRumour 0 = .ok (.iconst 0, 1) := by decide +kernel
theorem dX0_spreadRumour_1 : decode cX0_spreadRumour 1 = .ok (.istore_n 1, 1) := by decide +kernel
theorem dX0_spreadRumour_2 : decode cX0_spreadRumour 2 = .ok (.iconst 0, 1) := by decide +kernel
theorem dX0_spreadRumour_3 : decode cX0_spreadRumour 3 = .ok (.istore_n 2, 1) := by decide +kernel
theorem dX0_spreadRumour_4 : decode cX0_spreadRumour 4 = .ok (.iload_n 2, 1) := by decide +kernel
theorem dX0_spreadRumour_5 : decode cX0_spreadRumour 5 = .ok (.aload_n 0, 1) := by decide +kernel
theorem dX0_spreadRumour_6 : decode cX0_spreadRumour 6 = .ok (.getfield 21, 3) := by decide +kernel
theorem dX0_spreadRumour_9 : decode cX0_spreadRumour 9 = .ok (.getfield 92, 3) := by decide +kernel
theorem dX0_spreadRumour_12 : decode cX0_spreadRumour 12 = .ok (.if_icmp .ge 48, 3) := by decide +kernel
theorem dX0_spreadRumour_15 : decode cX0_spreadRumour 15 = .ok (.aload_n 0, 1) := by decide +kernel
theorem dX0_spreadRumour_16 : decode cX0_spreadRumour 16 = .ok (.getfield 51, 3) := by decide +kernel
theorem dX0_spreadRumour_19 : decode cX0_spreadRumour 19 = .ok (.iload_n 2, 1) := by decide +kernel
theorem dX0_spreadRumour_20 : decode cX0_spreadRumour 20 = .ok (.ishr, 1) := by decide +kernel
theorem dX0_spreadRumour_21 : decode cX0_spreadRumour 21 = .ok (.iconst 1, 1) := by decide +kernel
theorem dX0_spreadRumour_22 : decode cX0_spreadRumour 22 = .ok (.iand, 1) := by decide +kernel
theorem dX0_spreadRumour_23 : decode cX0_spreadRumour 23 = .ok (.ifCond .eq 31, 3) := by decide +kernel
theorem dX0_spreadRumour_26 : decode cX0_spreadRumour 26 = .ok (.aload_n 0, 1) := by decide +kernel
theorem dX0_spreadRumour_27 : decode cX0_spreadRumour 27 = .ok (.getfield 12, 3) := by decide +kernel
theorem dX0_spreadRumour_30 : decode cX0_spreadRumour 30 = .ok (.getfield 95, 3) := by decide +kernel
theorem dX0_spreadRumour_33 : decode cX0_spreadRumour 33 = .ok (.iload_n 2, 1) := by decide +kernel
theorem dX0_spreadRumour_34 : decode cX0_spreadRumour 34 = .ok (.iaload, 1) := by decide +kernel
theorem dX0_spreadRumour_35 : decode cX0_spreadRumour 35 = .ok (.bipush (-4), 2) := by decide +kernel
theorem dX0_spreadRumour_37 : decode cX0_spreadRumour 37 = .ok (.if_icmp .eq 17, 3) := by decide +kernel
theorem dX0_spreadRumour_40 : decode cX0_spreadRumour 40 = .ok (.iload_n 1, 1) := by decide +kernel
theorem dX0_spreadRumour_41 : decode cX0_spreadRumour 41 = .ok (.iconst 1, 1) := by decide +kernel
theorem dX0_spreadRumour_42 : decode cX0_spreadRumour 42 = .ok (.aload_n 0, 1) := by decide +kernel
theorem dX0_spreadRumour_43 : decode cX0_spreadRumour 43 = .ok (.getfield 12, 3) := by decide +kernel
theorem dX0_spreadRumour_46 : decode cX0_spreadRumour 46 = .ok (.getfield 95, 3) := by decide +kernel
theorem dX0_spreadRumour_49 : decode cX0_spreadRumour 49 = .ok (.iload_n 2, 1) := by decide +kernel
theorem dX0_spreadRumour_50 : decode cX0_spreadRumour 50 = .ok (.iaload, 1) := by decide +kernel
theorem dX0_spreadRumour_51 : decode cX0_spreadRumour 51 = .ok (.ishl, 1) := by decide +kernel
theorem dX0_spreadRumour_52 : decode cX0_spreadRumour 52 = .ok (.ior, 1) := by decide +kernel
theorem dX0_spreadRumour_53 : decode cX0_spreadRumour 53 = .ok (.istore_n 1, 1) := by decide +kernel
theorem dX0_spreadRumour_54 : decode cX0_spreadRumour 54 = .ok (.iinc 2 1, 3) := by decide +kernel
theorem dX0_spreadRumour_57 : decode cX0_spreadRumour 57 = .ok (.goto (-53), 3) := by decide +kernel
theorem dX0_spreadRumour_60 : decode cX0_spreadRumour 60 = .ok (.iconst 0, 1) := by decide +kernel
theorem dX0_spreadRumour_61 : decode cX0_spreadRumour 61 = .ok (.istore_n 2, 1) := by decide +kernel
theorem dX0_spreadRumour_62 : decode cX0_spreadRumour 62 = .ok (.iload_n 2, 1) := by decide +kernel
theorem dX0_spreadRumour_63 : decode cX0_spreadRumour 63 = .ok (.aload_n 0, 1) := by decide +kernel
theorem dX0_spreadRumour_64 : decode cX0_spreadRumour 64 = .ok (.getfield 21, 3) := by decide +kernel
theorem dX0_spreadRumour_67 : decode cX0_spreadRumour 67 = .ok (.getfield 92, 3) := by decide +kernel
theorem dX0_spreadRumour_70 : decode cX0_spreadRumour 70 = .ok (.if_icmp .ge 51, 3) := by decide +kernel
theorem dX0_spreadRumour_73 : decode cX0_spreadRumour 73 = .ok (.aload_n 0, 1) := by decide +kernel
theorem dX0_spreadRumour_74 : decode cX0_spreadRumour 74 = .ok (.getfield 12, 3) := by decide +kernel
theorem dX0_spreadRumour_77 : decode cX0_spreadRumour 77 = .ok (.getfield 95, 3) := by decide +kernel
theorem dX0_spreadRumour_80 : decode cX0_spreadRumour 80 = .ok (.iload_n 2, 1) := by decide +kernel
theorem dX0_spreadRumour_81 : decode cX0_spreadRumour 81 = .ok (.iaload, 1) := by decide +kernel
theorem dX0_spreadRumour_82 : decode cX0_spreadRumour 82 = .ok (.bipush (-4), 2) := by decide +kernel
theorem dX0_spreadRumour_84 : decode cX0_spreadRumour 84 = .ok (.if_icmp .eq 31, 3) := by decide +kernel
theorem dX0_spreadRumour_87 : decode cX0_spreadRumour 87 = .ok (.iload_n 1, 1) := by decide +kernel
theorem dX0_spreadRumour_88 : decode cX0_spreadRumour 88 = .ok (.aload_n 0, 1) := by decide +kernel
theorem dX0_spreadRumour_89 : decode cX0_spreadRumour 89 = .ok (.getfield 12, 3) := by decide +kernel
theorem dX0_spreadRumour_92 : decode cX0_spreadRumour 92 = .ok (.getfield 95, 3) := by decide +kernel
theorem dX0_spreadRumour_95 : decode cX0_spreadRumour 95 = .ok (.iload_n 2, 1) := by decide +kernel
theorem dX0_spreadRumour_96 : decode cX0_spreadRumour 96 = .ok (.iaload, 1) := by decide +kernel
theorem dX0_spreadRumour_97 : decode cX0_spreadRumour 97 = .ok (.ishr, 1) := by decide +kernel
theorem dX0_spreadRumour_98 : decode cX0_spreadRumour 98 = .ok (.iconst 1, 1) := by decide +kernel
theorem dX0_spreadRumour_99 : decode cX0_spreadRumour 99 = .ok (.iand, 1) := by decide +kernel
theorem dX0_spreadRumour_100 : decode cX0_spreadRumour 100 = .ok (.ifCond .eq 15, 3) := by decide +kernel
theorem dX0_spreadRumour_103 : decode cX0_spreadRumour 103 = .ok (.aload_n 0, 1) := by decide +kernel
theorem dX0_spreadRumour_104 : decode cX0_spreadRumour 104 = .ok (.dup, 1) := by decide +kernel
theorem dX0_spreadRumour_105 : decode cX0_spreadRumour 105 = .ok (.getfield 51, 3) := by decide +kernel
theorem dX0_spreadRumour_108 : decode cX0_spreadRumour 108 = .ok (.iconst 1, 1) := by decide +kernel
theorem dX0_spreadRumour_109 : decode cX0_spreadRumour 109 = .ok (.iload_n 2, 1) := by decide +kernel
theorem dX0_spreadRumour_110 : decode cX0_spreadRumour 110 = .ok (.ishl, 1) := by decide +kernel
theorem dX0_spreadRumour_111 : decode cX0_spreadRumour 111 = .ok (.ior, 1) := by decide +kernel
theorem dX0_spreadRumour_112 : decode cX0_spreadRumour 112 = .ok (.putfield 51, 3) := by decide +kernel
theorem dX0_spreadRumour_115 : decode cX0_spreadRumour 115 = .ok (.iinc 2 1, 3) := by decide +kernel
theorem dX0_spreadRumour_118 : decode cX0_spreadRumour 118 = .ok (.goto (-56), 3) := by decide +kernel
theorem dX0_spreadRumour_121 : decode cX0_spreadRumour 121 = .ok (.return_, 1) := by decide +kernel
theorem dX1_init_0 : decode cX1_init 0 = .ok (.aload_n 0, 1) := by decide +kernel
theorem dX1_init_1 : decode cX1_init 1 = .ok (.invokespecial 3, 3) := by decide +kernel
theorem dX1_init_4 : decode cX1_init 4 = .ok (.aload_n 0, 1) := by decide +kernel
theorem dX1_init_5 : decode cX1_init 5 = .ok (.bipush 9, 2) := by decide +kernel
theorem dX1_init_7 : decode cX1_init 7 = .ok (.newarray .int, 2) := by decide +kernel
theorem dX1_init_9 : decode cX1_init 9 = .ok (.putfield 9, 3) := by decide +kernel
theorem dX1_init_12 : decode cX1_init 12 = .ok (.aload_n 0, 1) := by decide +kernel
theorem dX1_init_13 : decode cX1_init 13 = .ok (.bipush 9, 2) := by decide +kernel
theorem dX1_init_15 : decode cX1_init 15 = .ok (.newarray .int, 2) := by decide +kernel
theorem dX1_init_17 : decode cX1_init 17 = .ok (.putfield 15, 3) := by decide +kernel
theorem dX1_init_20 : decode cX1_init 20 = .ok (.aload_n 0, 1) := by decide +kernel
theorem dX1_init_21 : decode cX1_init 21 = .ok (.bipush 9, 2) := by decide +kernel
theorem dX1_init_23 : decode cX1_init 23 = .ok (.newarray .int, 2) := by decide +kernel
theorem dX1_init_25 : decode cX1_init 25 = .ok (.putfield 18, 3) := by decide +kernel
theorem dX1_init_28 : decode cX1_init 28 = .ok (.aload_n 0, 1) := by decide +kernel
theorem dX1_init_29 : decode cX1_init 29 = .ok (.iconst 5, 1) := by decide +kernel
theorem dX1_init_30 : decode cX1_init 30 = .ok (.newarray .int, 2) := by decide +kernel
theorem dX1_init_32 : decode cX1_init 32 = .ok (.putfield 21, 3) := by decide +kernel
theorem dX1_init_35 : decode cX1_init 35 = .ok (.aload_n 0, 1) := by decide +kernel
theorem dX1_init_36 : decode cX1_init 36 = .ok (.iconst 5, 1) := by decide +kernel
theorem dX1_init_37 : decode cX1_init 37 = .ok (.newarray .int, 2) := by decide +kernel
theorem dX1_init_39 : decode cX1_init 39 = .ok (.putfield 24, 3) := by decide +kernel
theorem dX1_init_42 : decode cX1_init 42 = .ok (.aload_n 0, 1) := by decide +kernel
theorem dX1_init_43 : decode cX1_init 43 = .ok (.iconst 5, 1) := by decide +kernel
theorem dX1_init_44 : decode cX1_init 44 = .ok (.newarray .int, 2) := by decide +kernel
theorem dX1_init_46 : decode cX1_init 46 = .ok (.putfield 27, 3) := by decide +kernel
theorem dX1_init_49 : decode cX1_init 49 = .ok (.aload_n 0, 1) := by decide +kernel
theorem dX1_init_50 : decode cX1_init 50 = .ok (.iconst 5, 1) := by decide +kernel
theorem dX1_init_51 : decode cX1_init 51 = .ok (.newarray .int, 2) := by decide +kernel
theorem dX1_init_53 : decode cX1_init 53 = .ok (.putfield 30, 3) := by decide +kernel
theorem dX1_init_56 : decode cX1_init 56 = .ok (.aload_n 0, 1) := by decide +kernel
theorem dX1_init_57 : decode cX1_init 57 = .ok (.iconst 5, 1) := by decide +kernel
theorem dX1_init_58 : decode cX1_init 58 = .ok (.newarray .int, 2) := by decide +kernel
theorem dX1_init_60 : decode cX1_init 60 = .ok (.putfield 33, 3) := by decide +kernel
theorem dX1_init_63 : decode cX1_init 63 = .ok (.aload_n 0, 1) := by decide +kernel
theorem dX1_init_64 : decode cX1_init 64 = .ok (.iconst 5, 1) := by decide +kernel
theorem dX1_init_65 : decode cX1_init 65 = .ok (.newarray .int, 2) := by decide +kernel
theorem dX1_init_67 : decode cX1_init 67 = .ok (.putfield 36, 3) := by decide +kernel
theorem dX1_init_70 : decode cX1_init 70 = .ok (.return_, 1) := by decide +kernel
theorem dX1_empty_0 : decode cX1_empty 0 = .ok (.aload_n 0, 1) := by decide +kernel
theorem dX1_empty_1 : decode cX1_empty 1 = .ok (.iconst 4, 1) := by decide +kernel
theorem dX1_empty_2 : decode cX1_empty 2 = .ok (.putfield 39, 3) := by decide +kernel
theorem dX1_empty_5 : decode cX1_empty 5 = .ok (.aload_n 0, 1) := by decide +kernel
theorem dX1_empty_6 : decode cX1_empty 6 = .ok (.bipush 7, 2) := by decide +kernel
theorem dX1_empty_8 : decode cX1_empty 8 = .ok (.putfield 43, 3) := by decide +kernel
theorem dX1_empty_11 : decode cX1_empty 11 = .ok (.aload_n 0, 1) := by decide +kernel
theorem dX1_empty_12 : decode cX1_empty 12 = .ok (.iconst 0, 1) := by decide +kernel
theorem dX1_empty_13 : decode cX1_empty 13 = .ok (.putfield 46, 3) := by decide +kernel
theorem dX1_empty_16 : decode cX1_empty 16 = .ok (.aload_n 0, 1) := by decide +kernel
theorem dX1_empty_17 : decode cX1_empty 17 = .ok (.iconst 0, 1) := by decide +kernel
theorem dX1_empty_18 : decode cX1_empty 18 = .ok (.putfield 49, 3) := by decide +kernel
theorem dX1_empty_21 : decode cX1_empty 21 = .ok (.aload_n 0, 1) := by decide +kernel
theorem dX1_empty_22 : decode cX1_empty 22 = .ok (.iconst 0, 1) := by decide +kernel
theorem dX1_empty_23 : decode cX1_empty 23 = .ok (.putfield 52, 3) := by decide +kernel
theorem dX1_empty_26 : decode cX1_empty 26 = .ok (.return_, 1) := by decide +kernel
theorem dX1_lowestInto_0 : decode cX1_lowestInto 0 = .ok (.iconst 0, 1) := by decide +kernel
theorem dX1_lowestInto_1 : decode cX1_lowestInto 1 = .ok (.istore 4, 2) := by decide +kernel
theorem dX1_lowestInto_3 : decode cX1_lowestInto 3 = .ok (.iload 4, 2) := by decide +kernel
theorem dX1_lowestInto_5 : decode cX1_lowestInto 5 = .ok (.aload_n 0, 1) := by decide +kernel
theorem dX1_lowestInto_6 : decode cX1_lowestInto 6 = .ok (.getfield 46, 3) := by decide +kernel
theorem dX1_lowestInto_9 : decode cX1_lowestInto 9 = .ok (.if_icmp .ge 77, 3) := by decide +kernel
theorem dX1_lowestInto_12 : decode cX1_lowestInto 12 = .ok (.iload_n 3, 1) := by decide +kernel
theorem dX1_lowestInto_13 : decode cX1_lowestInto 13 = .ok (.iload 4, 2) := by decide +kernel
theorem dX1_lowestInto_15 : decode cX1_lowestInto 15 = .ok (.ishr, 1) := by decide +kernel
theorem dX1_lowestInto_16 : decode cX1_lowestInto 16 = .ok (.iconst 1, 1) := by decide +kernel
theorem dX1_lowestInto_17 : decode cX1_lowestInto 17 = .ok (.iand, 1) := by decide +kernel
theorem dX1_lowestInto_18 : decode cX1_lowestInto 18 = .ok (.ifCond .ne 6, 3) := by decide +kernel
theorem dX1_lowestInto_21 : decode cX1_lowestInto 21 = .ok (.goto 59, 3) := by decide +kernel
theorem dX1_lowestInto_24 : decode cX1_lowestInto 24 = .ok (.aload_n 0, 1) := by decide +kernel
theorem dX1_lowestInto_25 : decode cX1_lowestInto 25 = .ok (.getfield 9, 3) := by decide +kernel
theorem dX1_lowestInto_28 : decode cX1_lowestInto 28 = .ok (.iload 4, 2) := by decide +kernel
theorem dX1_lowestInto_30 : decode cX1_lowestInto 30 = .ok (.iaload, 1) := by decide +kernel
theorem dX1_lowestInto_31 : decode cX1_lowestInto 31 = .ok (.iload_n 2, 1) := by decide +kernel
theorem dX1_lowestInto_32 : decode cX1_lowestInto 32 = .ok (.if_icmp .ne 20, 3) := by decide +kernel
theorem dX1_lowestInto_35 : decode cX1_lowestInto 35 = .ok (.iload_n 1, 1) := by decide +kernel
theorem dX1_lowestInto_36 : decode cX1_lowestInto 36 = .ok (.aload_n 0, 1) := by decide +kernel
theorem dX1_lowestInto_37 : decode cX1_lowestInto 37 = .ok (.getfield 15, 3) := by decide +kernel
theorem dX1_lowestInto_40 : decode cX1_lowestInto 40 = .ok (.iload 4, 2) := by decide +kernel
theorem dX1_lowestInto_42 : decode cX1_lowestInto 42 = .ok (.iaload, 1) := by decide +kernel
theorem dX1_lowestInto_43 : decode cX1_lowestInto 43 = .ok (.ishr, 1) := by decide +kernel
theorem dX1_lowestInto_44 : decode cX1_lowestInto 44 = .ok (.iconst 1, 1) := by decide +kernel
theorem dX1_lowestInto_45 : decode cX1_lowestInto 45 = .ok (.iand, 1) := by decide +kernel
theorem dX1_lowestInto_46 : decode cX1_lowestInto 46 = .ok (.ifCond .eq 6, 3) := by decide +kernel
theorem dX1_lowestInto_49 : decode cX1_lowestInto 49 = .ok (.iload 4, 2) := by decide +kernel
theorem dX1_lowestInto_51 : decode cX1_lowestInto 51 = .ok (.ireturn, 1) := by decide +kernel
theorem dX1_lowestInto_52 : decode cX1_lowestInto 52 = .ok (.aload_n 0, 1) := by decide +kernel
theorem dX1_lowestInto_53 : decode cX1_lowestInto 53 = .ok (.getfield 15, 3) := by decide +kernel
theorem dX1_lowestInto_56 : decode cX1_lowestInto 56 = .ok (.iload 4, 2) := by decide +kernel
theorem dX1_lowestInto_58 : decode cX1_lowestInto 58 = .ok (.iaload, 1) := by decide +kernel
theorem dX1_lowestInto_59 : decode cX1_lowestInto 59 = .ok (.iload_n 2, 1) := by decide +kernel
theorem dX1_lowestInto_60 : decode cX1_lowestInto 60 = .ok (.if_icmp .ne 20, 3) := by decide +kernel
theorem dX1_lowestInto_63 : decode cX1_lowestInto 63 = .ok (.iload_n 1, 1) := by decide +kernel
theorem dX1_lowestInto_64 : decode cX1_lowestInto 64 = .ok (.aload_n 0, 1) := by decide +kernel
theorem dX1_lowestInto_65 : decode cX1_lowestInto 65 = .ok (.getfield 9, 3) := by decide +kernel
theorem dX1_lowestInto_68 : decode cX1_lowestInto 68 = .ok (.iload 4, 2) := by decide +kernel
theorem dX1_lowestInto_70 : decode cX1_lowestInto 70 = .ok (.iaload, 1) := by decide +kernel
theorem dX1_lowestInto_71 : decode cX1_lowestInto 71 = .ok (.ishr, 1) := by decide +kernel
theorem dX1_lowestInto_72 : decode cX1_lowestInto 72 = .ok (.iconst 1, 1) := by decide +kernel
theorem dX1_lowestInto_73 : decode cX1_lowestInto 73 = .ok (.iand, 1) := by decide +kernel
theorem dX1_lowestInto_74 : decode cX1_lowestInto 74 = .ok (.ifCond .eq 6, 3) := by decide +kernel
theorem dX1_lowestInto_77 : decode cX1_lowestInto 77 = .ok (.iload 4, 2) := by decide +kernel
theorem dX1_lowestInto_79 : decode cX1_lowestInto 79 = .ok (.ireturn, 1) := by decide +kernel
theorem dX1_lowestInto_80 : decode cX1_lowestInto 80 = .ok (.iinc 4 1, 3) := by decide +kernel
theorem dX1_lowestInto_83 : decode cX1_lowestInto 83 = .ok (.goto (-80), 3) := by decide +kernel
theorem dX1_lowestInto_86 : decode cX1_lowestInto 86 = .ok (.bipush (-4), 2) := by decide +kernel
theorem dX1_lowestInto_88 : decode cX1_lowestInto 88 = .ok (.ireturn, 1) := by decide +kernel
theorem dX1_widened_0 : decode cX1_widened 0 = .ok (.iload_n 1, 1) := by decide +kernel
theorem dX1_widened_1 : decode cX1_widened 1 = .ok (.istore_n 3, 1) := by decide +kernel
theorem dX1_widened_2 : decode cX1_widened 2 = .ok (.iconst 0, 1) := by decide +kernel
theorem dX1_widened_3 : decode cX1_widened 3 = .ok (.istore 4, 2) := by decide +kernel
theorem dX1_widened_5 : decode cX1_widened 5 = .ok (.iload 4, 2) := by decide +kernel
theorem dX1_widened_7 : decode cX1_widened 7 = .ok (.aload_n 0, 1) := by decide +kernel
theorem dX1_widened_8 : decode cX1_widened 8 = .ok (.getfield 46, 3) := by decide +kernel
theorem dX1_widened_11 : decode cX1_widened 11 = .ok (.if_icmp .ge 54, 3) := by decide +kernel
theorem dX1_widened_14 : decode cX1_widened 14 = .ok (.iload_n 2, 1) := by decide +kernel
theorem dX1_widened_15 : decode cX1_widened 15 = .ok (.iload 4, 2) := by decide +kernel
theorem dX1_widened_17 : decode cX1_widened 17 = .ok (.ishr, 1) := by decide +kernel
theorem dX1_widened_18 : decode cX1_widened 18 = .ok (.iconst 1, 1) := by decide +kernel
theorem dX1_widened_19 : decode cX1_widened 19 = .ok (.iand, 1) := by decide +kernel
theorem dX1_widened_20 : decode cX1_widened 20 = .ok (.ifCond .ne 6, 3) := by decide +kernel
theorem dX1_widened_23 : decode cX1_widened 23 = .ok (.goto 36, 3) := by decide +kernel
theorem dX1_widened_26 : decode cX1_widened 26 = .ok (.iconst 1, 1) := by decide +kernel
theorem dX1_widened_27 : decode cX1_widened 27 = .ok (.aload_n 0, 1) := by decide +kernel
theorem dX1_widened_28 : decode cX1_widened 28 = .ok (.getfield 9, 3) := by decide +kernel
theorem dX1_widened_31 : decode cX1_widened 31 = .ok (.iload 4, 2) := by decide +kernel
theorem dX1_widened_33 : decode cX1_widened 33 = .ok (.iaload, 1) := by decide +kernel
theorem dX1_widened_34 : decode cX1_widened 34 = .ok (.ishl, 1) := by decide +kernel
theorem dX1_widened_35 : decode cX1_widened 35 = .ok (.iconst 1, 1) := by decide +kernel
theorem dX1_widened_36 : decode cX1_widened 36 = .ok (.aload_n 0, 1) := by decide +kernel
theorem dX1_widened_37 : decode cX1_widened 37 = .ok (.getfield 15, 3) := by decide +kernel
theorem dX1_widened_40 : decode cX1_widened 40 = .ok (.iload 4, 2) := by decide +kernel
theorem dX1_widened_42 : decode cX1_widened 42 = .ok (.iaload, 1) := by decide +kernel
theorem dX1_widened_43 : decode cX1_widened 43 = .ok (.ishl, 1) := by decide +kernel
theorem dX1_widened_44 : decode cX1_widened 44 = .ok (.ior, 1) := by decide +kernel
theorem dX1_widened_45 : decode cX1_widened 45 = .ok (.istore 5, 2) := by decide +kernel
theorem dX1_widened_47 : decode cX1_widened 47 = .ok (.iload_n 1, 1) := by decide +kernel
theorem dX1_widened_48 : decode cX1_widened 48 = .ok (.iload 5, 2) := by decide +kernel
theorem dX1_widened_50 : decode cX1_widened 50 = .ok (.iand, 1) := by decide +kernel
theorem dX1_widened_51 : decode cX1_widened 51 = .ok (.ifCond .eq 8, 3) := by decide +kernel
theorem dX1_widened_54 : decode cX1_widened 54 = .ok (.iload_n 3, 1) := by decide +kernel
theorem dX1_widened_55 : decode cX1_widened 55 = .ok (.iload 5, 2) := by decide +kernel
theorem dX1_widened_57 : decode cX1_widened 57 = .ok (.ior, 1) := by decide +kernel
theorem dX1_widened_58 : decode cX1_widened 58 = .ok (.istore_n 3, 1) := by decide +kernel
theorem dX1_widened_59 : decode cX1_widened 59 = .ok (.iinc 4 1, 3) := by decide +kernel
theorem dX1_widened_62 : decode cX1_widened 62 = .ok (.goto (-57), 3) := by decide +kernel
theorem dX1_widened_65 : decode cX1_widened 65 = .ok (.iload_n 3, 1) := by decide +kernel
theorem dX1_widened_66 : decode cX1_widened 66 = .ok (.ireturn, 1) := by decide +kernel
theorem dX1_lowestBeside_0 : decode cX1_lowestBeside 0 = .ok (.iconst 0, 1) := by decide +kernel
theorem dX1_lowestBeside_1 : decode cX1_lowestBeside 1 = .ok (.istore_n 2, 1) := by decide +kernel
theorem dX1_lowestBeside_2 : decode cX1_lowestBeside 2 = .ok (.iload_n 2, 1) := by decide +kernel
theorem dX1_lowestBeside_3 : decode cX1_lowestBeside 3 = .ok (.aload_n 0, 1) := by decide +kernel
theorem dX1_lowestBeside_4 : decode cX1_lowestBeside 4 = .ok (.getfield 46, 3) := by decide +kernel
theorem dX1_lowestBeside_7 : decode cX1_lowestBeside 7 = .ok (.if_icmp .ge 31, 3) := by decide +kernel
theorem dX1_lowestBeside_10 : decode cX1_lowestBeside 10 = .ok (.aload_n 0, 1) := by decide +kernel
theorem dX1_lowestBeside_11 : decode cX1_lowestBeside 11 = .ok (.getfield 9, 3) := by decide +kernel
theorem dX1_lowestBeside_14 : decode cX1_lowestBeside 14 = .ok (.iload_n 2, 1) := by decide +kernel
theorem dX1_lowestBeside_15 : decode cX1_lowestBeside 15 = .ok (.iaload, 1) := by decide +kernel
theorem dX1_lowestBeside_16 : decode cX1_lowestBeside 16 = .ok (.iload_n 1, 1) := by decide +kernel
theorem dX1_lowestBeside_17 : decode cX1_lowestBeside 17 = .ok (.if_icmp .eq 13, 3) := by decide +kernel
theorem dX1_lowestBeside_20 : decode cX1_lowestBeside 20 = .ok (.aload_n 0, 1) := by decide +kernel
theorem dX1_lowestBeside_21 : decode cX1_lowestBeside 21 = .ok (.getfield 15, 3) := by decide +kernel
theorem dX1_lowestBeside_24 : decode cX1_lowestBeside 24 = .ok (.iload_n 2, 1) := by decide +kernel
theorem dX1_lowestBeside_25 : decode cX1_lowestBeside 25 = .ok (.iaload, 1) := by decide +kernel
theorem dX1_lowestBeside_26 : decode cX1_lowestBeside 26 = .ok (.iload_n 1, 1) := by decide +kernel
theorem dX1_lowestBeside_27 : decode cX1_lowestBeside 27 = .ok (.if_icmp .ne 5, 3) := by decide +kernel
theorem dX1_lowestBeside_30 : decode cX1_lowestBeside 30 = .ok (.iload_n 2, 1) := by decide +kernel
theorem dX1_lowestBeside_31 : decode cX1_lowestBeside 31 = .ok (.ireturn, 1) := by decide +kernel
theorem dX1_lowestBeside_32 : decode cX1_lowestBeside 32 = .ok (.iinc 2 1, 3) := by decide +kernel
theorem dX1_lowestBeside_35 : decode cX1_lowestBeside 35 = .ok (.goto (-33), 3) := by decide +kernel
theorem dX1_lowestBeside_38 : decode cX1_lowestBeside 38 = .ok (.bipush (-4), 2) := by decide +kernel
theorem dX1_lowestBeside_40 : decode cX1_lowestBeside 40 = .ok (.ireturn, 1) := by decide +kernel
theorem dX2_init_0 : decode cX2_init 0 = .ok (.aload_n 0, 1) := by decide +kernel
theorem dX2_init_1 : decode cX2_init 1 = .ok (.invokespecial 3, 3) := by decide +kernel
theorem dX2_init_4 : decode cX2_init 4 = .ok (.aload_n 0, 1) := by decide +kernel
theorem dX2_init_5 : decode cX2_init 5 = .ok (.bipush 8, 2) := by decide +kernel
theorem dX2_init_7 : decode cX2_init 7 = .ok (.newarray .int, 2) := by decide +kernel
theorem dX2_init_9 : decode cX2_init 9 = .ok (.putfield 11, 3) := by decide +kernel
theorem dX2_init_12 : decode cX2_init 12 = .ok (.aload_n 0, 1) := by decide +kernel
theorem dX2_init_13 : decode cX2_init 13 = .ok (.bipush 8, 2) := by decide +kernel
theorem dX2_init_15 : decode cX2_init 15 = .ok (.newarray .int, 2) := by decide +kernel
theorem dX2_init_17 : decode cX2_init 17 = .ok (.putfield 15, 3) := by decide +kernel
theorem dX2_init_20 : decode cX2_init 20 = .ok (.aload_n 0, 1) := by decide +kernel
theorem dX2_init_21 : decode cX2_init 21 = .ok (.bipush 8, 2) := by decide +kernel
theorem dX2_init_23 : decode cX2_init 23 = .ok (.newarray .int, 2) := by decide +kernel
theorem dX2_init_25 : decode cX2_init 25 = .ok (.putfield 18, 3) := by decide +kernel
theorem dX2_init_28 : decode cX2_init 28 = .ok (.aload_n 0, 1) := by decide +kernel
theorem dX2_init_29 : decode cX2_init 29 = .ok (.bipush 8, 2) := by decide +kernel
theorem dX2_init_31 : decode cX2_init 31 = .ok (.newarray .int, 2) := by decide +kernel
theorem dX2_init_33 : decode cX2_init 33 = .ok (.putfield 21, 3) := by decide +kernel
theorem dX2_init_36 : decode cX2_init 36 = .ok (.return_, 1) := by decide +kernel
theorem dX2_add_0 : decode cX2_add 0 = .ok (.aload_n 0, 1) := by decide +kernel
theorem dX2_add_1 : decode cX2_add 1 = .ok (.getfield 24, 3) := by decide +kernel
theorem dX2_add_4 : decode cX2_add 4 = .ok (.ifCond .lt 12, 3) := by decide +kernel
theorem dX2_add_7 : decode cX2_add 7 = .ok (.aload_n 0, 1) := by decide +kernel
theorem dX2_add_8 : decode cX2_add 8 = .ok (.getfield 24, 3) := by decide +kernel
theorem dX2_add_11 : decode cX2_add 11 = .ok (.bipush 8, 2) := by decide +kernel
theorem dX2_add_13 : decode cX2_add 13 = .ok (.if_icmp .lt 6, 3) := by decide +kernel
theorem dX2_add_16 : decode cX2_add 16 = .ok (.bipush (-3), 2) := by decide +kernel
theorem dX2_add_18 : decode cX2_add 18 = .ok (.ireturn, 1) := by decide +kernel
theorem dX2_add_19 : decode cX2_add 19 = .ok (.aload_n 0, 1) := by decide +kernel
theorem dX2_add_20 : decode cX2_add 20 = .ok (.getfield 11, 3) := by decide +kernel
theorem dX2_add_23 : decode cX2_add 23 = .ok (.aload_n 0, 1) := by decide +kernel
theorem dX2_add_24 : decode cX2_add 24 = .ok (.getfield 24, 3) := by decide +kernel
theorem dX2_add_27 : decode cX2_add 27 = .ok (.iload_n 1, 1) := by decide +kernel
theorem dX2_add_28 : decode cX2_add 28 = .ok (.iastore, 1) := by decide +kernel
theorem dX2_add_29 : decode cX2_add 29 = .ok (.aload_n 0, 1) := by decide +kernel
theorem dX2_add_30 : decode cX2_add 30 = .ok (.getfield 15, 3) := by decide +kernel
theorem dX2_add_33 : decode cX2_add 33 = .ok (.aload_n 0, 1) := by decide +kernel
theorem dX2_add_34 : decode cX2_add 34 = .ok (.getfield 24, 3) := by decide +kernel
theorem dX2_add_37 : decode cX2_add 37 = .ok (.iload_n 2, 1) := by decide +kernel
theorem dX2_add_38 : decode cX2_add 38 = .ok (.iastore, 1) := by decide +kernel
theorem dX2_add_39 : decode cX2_add 39 = .ok (.aload_n 0, 1) := by decide +kernel
theorem dX2_add_40 : decode cX2_add 40 = .ok (.getfield 18, 3) := by decide +kernel
theorem dX2_add_43 : decode cX2_add 43 = .ok (.aload_n 0, 1) := by decide +kernel
theorem dX2_add_44 : decode cX2_add 44 = .ok (.getfield 24, 3) := by decide +kernel
theorem dX2_add_47 : decode cX2_add 47 = .ok (.iload_n 3, 1) := by decide +kernel
theorem dX2_add_48 : decode cX2_add 48 = .ok (.iastore, 1) := by decide +kernel
theorem dX2_add_49 : decode cX2_add 49 = .ok (.aload_n 0, 1) := by decide +kernel
theorem dX2_add_50 : decode cX2_add 50 = .ok (.getfield 21, 3) := by decide +kernel
theorem dX2_add_53 : decode cX2_add 53 = .ok (.aload_n 0, 1) := by decide +kernel
theorem dX2_add_54 : decode cX2_add 54 = .ok (.getfield 24, 3) := by decide +kernel
theorem dX2_add_57 : decode cX2_add 57 = .ok (.iload 4, 2) := by decide +kernel
theorem dX2_add_59 : decode cX2_add 59 = .ok (.ifCond .eq 7, 3) := by decide +kernel
theorem dX2_add_62 : decode cX2_add 62 = .ok (.iconst 1, 1) := by decide +kernel
theorem dX2_add_63 : decode cX2_add 63 = .ok (.goto 4, 3) := by decide +kernel
theorem dX2_add_66 : decode cX2_add 66 = .ok (.iconst 0, 1) := by decide +kernel
theorem dX2_add_67 : decode cX2_add 67 = .ok (.iastore, 1) := by decide +kernel
theorem dX2_add_68 : decode cX2_add 68 = .ok (.aload_n 0, 1) := by decide +kernel
theorem dX2_add_69 : decode cX2_add 69 = .ok (.dup, 1) := by decide +kernel
theorem dX2_add_70 : decode cX2_add 70 = .ok (.getfield 24, 3) := by decide +kernel
theorem dX2_add_73 : decode cX2_add 73 = .ok (.iconst 1, 1) := by decide +kernel
theorem dX2_add_74 : decode cX2_add 74 = .ok (.iadd, 1) := by decide +kernel
theorem dX2_add_75 : decode cX2_add 75 = .ok (.putfield 24, 3) := by decide +kernel
theorem dX2_add_78 : decode cX2_add 78 = .ok (.aload_n 0, 1) := by decide +kernel
theorem dX2_add_79 : decode cX2_add 79 = .ok (.getfield 24, 3) := by decide +kernel
theorem dX2_add_82 : decode cX2_add 82 = .ok (.ireturn, 1) := by decide +kernel
theorem dX2_least_0 : decode cX2_least 0 = .ok (.iconst 0, 1) := by decide +kernel
theorem dX2_least_1 : decode cX2_least 1 = .ok (.istore_n 3, 1) := by decide +kernel
theorem dX2_least_2 : decode cX2_least 2 = .ok (.iconst 0, 1) := by decide +kernel
theorem dX2_least_3 : decode cX2_least 3 = .ok (.istore 4, 2) := by decide +kernel
theorem dX2_least_5 : decode cX2_least 5 = .ok (.iload 4, 2) := by decide +kernel
theorem dX2_least_7 : decode cX2_least 7 = .ok (.aload_n 0, 1) := by decide +kernel
theorem dX2_least_8 : decode cX2_least 8 = .ok (.getfield 24, 3) := by decide +kernel
theorem dX2_least_11 : decode cX2_least 11 = .ok (.if_icmp .ge 57, 3) := by decide +kernel
theorem dX2_least_14 : decode cX2_least 14 = .ok (.iload 4, 2) := by decide +kernel
theorem dX2_least_16 : decode cX2_least 16 = .ok (.bipush 8, 2) := by decide +kernel
theorem dX2_least_18 : decode cX2_least 18 = .ok (.if_icmp .ge 50, 3) := by decide +kernel
theorem dX2_least_21 : decode cX2_least 21 = .ok (.aload_n 0, 1) := by decide +kernel
theorem dX2_least_22 : decode cX2_least 22 = .ok (.iload 4, 2) := by decide +kernel
theorem dX2_least_24 : decode cX2_least 24 = .ok (.iload_n 1, 1) := by decide +kernel
theorem dX2_least_25 : decode cX2_least 25 = .ok (.iload_n 2, 1) := by decide +kernel
theorem dX2_least_26 : decode cX2_least 26 = .ok (.invokevirtual 28, 3) := by decide +kernel
theorem dX2_least_29 : decode cX2_least 29 = .ok (.ifCond .eq 33, 3) := by decide +kernel
theorem dX2_least_32 : decode cX2_least 32 = .ok (.aload_n 0, 1) := by decide +kernel
theorem dX2_least_33 : decode cX2_least 33 = .ok (.getfield 21, 3) := by decide +kernel
theorem dX2_least_36 : decode cX2_least 36 = .ok (.iload 4, 2) := by decide +kernel
theorem dX2_least_38 : decode cX2_least 38 = .ok (.iaload, 1) := by decide +kernel
theorem dX2_least_39 : decode cX2_least 39 = .ok (.iconst 1, 1) := by decide +kernel
theorem dX2_least_40 : decode cX2_least 40 = .ok (.if_icmp .ne 22, 3) := by decide +kernel
theorem dX2_least_43 : decode cX2_least 43 = .ok (.aload_n 0, 1) := by decide +kernel
theorem dX2_least_44 : decode cX2_least 44 = .ok (.getfield 18, 3) := by decide +kernel
theorem dX2_least_47 : decode cX2_least 47 = .ok (.iload 4, 2) := by decide +kernel
theorem dX2_least_49 : decode cX2_least 49 = .ok (.iaload, 1) := by decide +kernel
theorem dX2_least_50 : decode cX2_least 50 = .ok (.iload_n 3, 1) := by decide +kernel
theorem dX2_least_51 : decode cX2_least 51 = .ok (.if_icmp .le 11, 3) := by decide +kernel
theorem dX2_least_54 : decode cX2_least 54 = .ok (.aload_n 0, 1) := by decide +kernel
theorem dX2_least_55 : decode cX2_least 55 = .ok (.getfield 18, 3) := by decide +kernel
theorem dX2_least_58 : decode cX2_least 58 = .ok (.iload 4, 2) := by decide +kernel
theorem dX2_least_60 : decode cX2_least 60 = .ok (.iaload, 1) := by decide +kernel
theorem dX2_least_61 : decode cX2_least 61 = .ok (.istore_n 3, 1) := by decide +kernel
theorem dX2_least_62 : decode cX2_least 62 = .ok (.iinc 4 1, 3) := by decide +kernel
theorem dX2_least_65 : decode cX2_least 65 = .ok (.goto (-60), 3) := by decide +kernel
theorem dX2_least_68 : decode cX2_least 68 = .ok (.iload_n 3, 1) := by decide +kernel
theorem dX2_least_69 : decode cX2_least 69 = .ok (.ireturn, 1) := by decide +kernel
theorem dX2_most_0 : decode cX2_most 0 = .ok (.bipush 99, 2) := by decide +kernel
theorem dX2_most_2 : decode cX2_most 2 = .ok (.istore_n 3, 1) := by decide +kernel
theorem dX2_most_3 : decode cX2_most 3 = .ok (.iconst 0, 1) := by decide +kernel
theorem dX2_most_4 : decode cX2_most 4 = .ok (.istore 4, 2) := by decide +kernel
theorem dX2_most_6 : decode cX2_most 6 = .ok (.iload 4, 2) := by decide +kernel
theorem dX2_most_8 : decode cX2_most 8 = .ok (.aload_n 0, 1) := by decide +kernel
theorem dX2_most_9 : decode cX2_most 9 = .ok (.getfield 24, 3) := by decide +kernel
theorem dX2_most_12 : decode cX2_most 12 = .ok (.if_icmp .ge 58, 3) := by decide +kernel
theorem dX2_most_15 : decode cX2_most 15 = .ok (.iload 4, 2) := by decide +kernel
theorem dX2_most_17 : decode cX2_most 17 = .ok (.bipush 8, 2) := by decide +kernel
theorem dX2_most_19 : decode cX2_most 19 = .ok (.if_icmp .ge 51, 3) := by decide +kernel
theorem dX2_most_22 : decode cX2_most 22 = .ok (.aload_n 0, 1) := by decide +kernel
theorem dX2_most_23 : decode cX2_most 23 = .ok (.iload 4, 2) := by decide +kernel
theorem dX2_most_25 : decode cX2_most 25 = .ok (.iload_n 1, 1) := by decide +kernel
theorem dX2_most_26 : decode cX2_most 26 = .ok (.iload_n 2, 1) := by decide +kernel
theorem dX2_most_27 : decode cX2_most 27 = .ok (.invokevirtual 28, 3) := by decide +kernel
theorem dX2_most_30 : decode cX2_most 30 = .ok (.ifCond .eq 34, 3) := by decide +kernel
theorem dX2_most_33 : decode cX2_most 33 = .ok (.aload_n 0, 1) := by decide +kernel
theorem dX2_most_34 : decode cX2_most 34 = .ok (.getfield 21, 3) := by decide +kernel
theorem dX2_most_37 : decode cX2_most 37 = .ok (.iload 4, 2) := by decide +kernel
theorem dX2_most_39 : decode cX2_most 39 = .ok (.iaload, 1) := by decide +kernel
theorem dX2_most_40 : decode cX2_most 40 = .ok (.ifCond .ne 24, 3) := by decide +kernel
theorem dX2_most_43 : decode cX2_most 43 = .ok (.aload_n 0, 1) := by decide +kernel
theorem dX2_most_44 : decode cX2_most 44 = .ok (.getfield 18, 3) := by decide +kernel
theorem dX2_most_47 : decode cX2_most 47 = .ok (.iload 4, 2) := by decide +kernel
theorem dX2_most_49 : decode cX2_most 49 = .ok (.iaload, 1) := by decide +kernel
theorem dX2_most_50 : decode cX2_most 50 = .ok (.iload_n 3, 1) := by decide +kernel
theorem dX2_most_51 : decode cX2_most 51 = .ok (.if_icmp .gt 13, 3) := by decide +kernel
theorem dX2_most_54 : decode cX2_most 54 = .ok (.aload_n 0, 1) := by decide +kernel
theorem dX2_most_55 : decode cX2_most 55 = .ok (.getfield 18, 3) := by decide +kernel
theorem dX2_most_58 : decode cX2_most 58 = .ok (.iload 4, 2) := by decide +kernel
theorem dX2_most_60 : decode cX2_most 60 = .ok (.iaload, 1) := by decide +kernel
theorem dX2_most_61 : decode cX2_most 61 = .ok (.iconst 1, 1) := by decide +kernel
theorem dX2_most_62 : decode cX2_most 62 = .ok (.isub, 1) := by decide +kernel
theorem dX2_most_63 : decode cX2_most 63 = .ok (.istore_n 3, 1) := by decide +kernel
theorem dX2_most_64 : decode cX2_most 64 = .ok (.iinc 4 1, 3) := by decide +kernel
theorem dX2_most_67 : decode cX2_most 67 = .ok (.goto (-61), 3) := by decide +kernel
theorem dX2_most_70 : decode cX2_most 70 = .ok (.iload_n 3, 1) := by decide +kernel
theorem dX2_most_71 : decode cX2_most 71 = .ok (.ireturn, 1) := by decide +kernel
theorem dX2_isOf_0 : decode cX2_isOf 0 = .ok (.aload_n 0, 1) := by decide +kernel
theorem dX2_isOf_1 : decode cX2_isOf 1 = .ok (.getfield 11, 3) := by decide +kernel
theorem dX2_isOf_4 : decode cX2_isOf 4 = .ok (.iload_n 1, 1) := by decide +kernel
theorem dX2_isOf_5 : decode cX2_isOf 5 = .ok (.iaload, 1) := by decide +kernel
theorem dX2_isOf_6 : decode cX2_isOf 6 = .ok (.iload_n 2, 1) := by decide +kernel
theorem dX2_isOf_7 : decode cX2_isOf 7 = .ok (.if_icmp .ne 17, 3) := by decide +kernel
theorem dX2_isOf_10 : decode cX2_isOf 10 = .ok (.aload_n 0, 1) := by decide +kernel
theorem dX2_isOf_11 : decode cX2_isOf 11 = .ok (.getfield 15, 3) := by decide +kernel
theorem dX2_isOf_14 : decode cX2_isOf 14 = .ok (.iload_n 1, 1) := by decide +kernel
theorem dX2_isOf_15 : decode cX2_isOf 15 = .ok (.iaload, 1) := by decide +kernel
theorem dX2_isOf_16 : decode cX2_isOf 16 = .ok (.iload_n 3, 1) := by decide +kernel
theorem dX2_isOf_17 : decode cX2_isOf 17 = .ok (.if_icmp .ne 7, 3) := by decide +kernel
theorem dX2_isOf_20 : decode cX2_isOf 20 = .ok (.iconst 1, 1) := by decide +kernel
theorem dX2_isOf_21 : decode cX2_isOf 21 = .ok (.goto 4, 3) := by decide +kernel
theorem dX2_isOf_24 : decode cX2_isOf 24 = .ok (.iconst 0, 1) := by decide +kernel
theorem dX2_isOf_25 : decode cX2_isOf 25 = .ok (.ireturn, 1) := by decide +kernel
theorem dX3_init_0 : decode cX3_init 0 = .ok (.aload_n 0, 1) := by decide +kernel
theorem dX3_init_1 : decode cX3_init 1 = .ok (.invokespecial 1, 3) := by decide +kernel
theorem dX3_init_4 : decode cX3_init 4 = .ok (.aload_n 0, 1) := by decide +kernel
theorem dX3_init_5 : decode cX3_init 5 = .ok (.iload_n 1, 1) := by decide +kernel
theorem dX3_init_6 : decode cX3_init 6 = .ok (.ifCond .le 7, 3) := by decide +kernel
theorem dX3_init_9 : decode cX3_init 9 = .ok (.iload_n 1, 1) := by decide +kernel
theorem dX3_init_10 : decode cX3_init 10 = .ok (.goto 4, 3) := by decide +kernel
theorem dX3_init_13 : decode cX3_init 13 = .ok (.iconst 1, 1) := by decide +kernel
theorem dX3_init_14 : decode cX3_init 14 = .ok (.anewarray 7, 3) := by decide +kernel
theorem dX3_init_17 : decode cX3_init 17 = .ok (.putfield 9, 3) := by decide +kernel
theorem dX3_init_20 : decode cX3_init 20 = .ok (.iconst 0, 1) := by decide +kernel
theorem dX3_init_21 : decode cX3_init 21 = .ok (.istore_n 2, 1) := by decide +kernel
theorem dX3_init_22 : decode cX3_init 22 = .ok (.iload_n 2, 1) := by decide +kernel
theorem dX3_init_23 : decode cX3_init 23 = .ok (.aload_n 0, 1) := by decide +kernel
theorem dX3_init_24 : decode cX3_init 24 = .ok (.getfield 9, 3) := by decide +kernel
theorem dX3_init_27 : decode cX3_init 27 = .ok (.arraylength, 1) := by decide +kernel
theorem dX3_init_28 : decode cX3_init 28 = .ok (.if_icmp .ge 22, 3) := by decide +kernel
theorem dX3_init_31 : decode cX3_init 31 = .ok (.aload_n 0, 1) := by decide +kernel
theorem dX3_init_32 : decode cX3_init 32 = .ok (.getfield 9, 3) := by decide +kernel
theorem dX3_init_35 : decode cX3_init 35 = .ok (.iload_n 2, 1) := by decide +kernel
theorem dX3_init_36 : decode cX3_init 36 = .ok (.new 7, 3) := by decide +kernel
theorem dX3_init_39 : decode cX3_init 39 = .ok (.dup, 1) := by decide +kernel
theorem dX3_init_40 : decode cX3_init 40 = .ok (.invokespecial 15, 3) := by decide +kernel
theorem dX3_init_43 : decode cX3_init 43 = .ok (.aastore, 1) := by decide +kernel
theorem dX3_init_44 : decode cX3_init 44 = .ok (.iinc 2 1, 3) := by decide +kernel
theorem dX3_init_47 : decode cX3_init 47 = .ok (.goto (-25), 3) := by decide +kernel
theorem dX3_init_50 : decode cX3_init 50 = .ok (.return_, 1) := by decide +kernel
theorem dX3_push_0 : decode cX3_push 0 = .ok (.aload_n 0, 1) := by decide +kernel
theorem dX3_push_1 : decode cX3_push 1 = .ok (.getfield 16, 3) := by decide +kernel
theorem dX3_push_4 : decode cX3_push 4 = .ok (.aload_n 0, 1) := by decide +kernel
theorem dX3_push_5 : decode cX3_push 5 = .ok (.getfield 9, 3) := by decide +kernel
theorem dX3_push_8 : decode cX3_push 8 = .ok (.arraylength, 1) := by decide +kernel
theorem dX3_push_9 : decode cX3_push 9 = .ok (.if_icmp .lt 7, 3) := by decide +kernel
theorem dX3_push_12 : decode cX3_push 12 = .ok (.aload_n 0, 1) := by decide +kernel
theorem dX3_push_13 : decode cX3_push 13 = .ok (.invokevirtual 20, 3) := by decide +kernel
theorem dX3_push_16 : decode cX3_push 16 = .ok (.aload_n 0, 1) := by decide +kernel
theorem dX3_push_17 : decode cX3_push 17 = .ok (.getfield 9, 3) := by decide +kernel
theorem dX3_push_20 : decode cX3_push 20 = .ok (.aload_n 0, 1) := by decide +kernel
theorem dX3_push_21 : decode cX3_push 21 = .ok (.getfield 16, 3) := by decide +kernel
theorem dX3_push_24 : decode cX3_push 24 = .ok (.aaload, 1) := by decide +kernel
theorem dX3_push_25 : decode cX3_push 25 = .ok (.aload_n 1, 1) := by decide +kernel
theorem dX3_push_26 : decode cX3_push 26 = .ok (.invokevirtual 23, 3) := by decide +kernel
theorem dX3_push_29 : decode cX3_push 29 = .ok (.aload_n 0, 1) := by decide +kernel
theorem dX3_push_30 : decode cX3_push 30 = .ok (.dup, 1) := by decide +kernel
theorem dX3_push_31 : decode cX3_push 31 = .ok (.getfield 16, 3) := by decide +kernel
theorem dX3_push_34 : decode cX3_push 34 = .ok (.iconst 1, 1) := by decide +kernel
theorem dX3_push_35 : decode cX3_push 35 = .ok (.iadd, 1) := by decide +kernel
theorem dX3_push_36 : decode cX3_push 36 = .ok (.putfield 16, 3) := by decide +kernel
theorem dX3_push_39 : decode cX3_push 39 = .ok (.return_, 1) := by decide +kernel
theorem dX3_dropOldest_0 : decode cX3_dropOldest 0 = .ok (.aload_n 0, 1) := by decide +kernel
theorem dX3_dropOldest_1 : decode cX3_dropOldest 1 = .ok (.getfield 9, 3) := by decide +kernel
theorem dX3_dropOldest_4 : decode cX3_dropOldest 4 = .ok (.iconst 0, 1) := by decide +kernel
theorem dX3_dropOldest_5 : decode cX3_dropOldest 5 = .ok (.aaload, 1) := by decide +kernel
theorem dX3_dropOldest_6 : decode cX3_dropOldest 6 = .ok (.astore_n 1, 1) := by decide +kernel
theorem dX3_dropOldest_7 : decode cX3_dropOldest 7 = .ok (.iconst 1, 1) := by decide +kernel
theorem dX3_dropOldest_8 : decode cX3_dropOldest 8 = .ok (.istore_n 2, 1) := by decide +kernel
theorem dX3_dropOldest_9 : decode cX3_dropOldest 9 = .ok (.iload_n 2, 1) := by decide +kernel
theorem dX3_dropOldest_10 : decode cX3_dropOldest 10 = .ok (.aload_n 0, 1) := by decide +kernel
theorem dX3_dropOldest_11 : decode cX3_dropOldest 11 = .ok (.getfield 9, 3) := by decide +kernel
theorem dX3_dropOldest_14 : decode cX3_dropOldest 14 = .ok (.arraylength, 1) := by decide +kernel
theorem dX3_dropOldest_15 : decode cX3_dropOldest 15 = .ok (.if_icmp .ge 23, 3) := by decide +kernel
theorem dX3_dropOldest_18 : decode cX3_dropOldest 18 = .ok (.aload_n 0, 1) := by decide +kernel
theorem dX3_dropOldest_19 : decode cX3_dropOldest 19 = .ok (.getfield 9, 3) := by decide +kernel
theorem dX3_dropOldest_22 : decode cX3_dropOldest 22 = .ok (.iload_n 2, 1) := by decide +kernel
theorem dX3_dropOldest_23 : decode cX3_dropOldest 23 = .ok (.iconst 1, 1) := by decide +kernel
theorem dX3_dropOldest_24 : decode cX3_dropOldest 24 = .ok (.isub, 1) := by decide +kernel
theorem dX3_dropOldest_25 : decode cX3_dropOldest 25 = .ok (.aload_n 0, 1) := by decide +kernel
theorem dX3_dropOldest_26 : decode cX3_dropOldest 26 = .ok (.getfield 9, 3) := by decide +kernel
theorem dX3_dropOldest_29 : decode cX3_dropOldest 29 = .ok (.iload_n 2, 1) := by decide +kernel
theorem dX3_dropOldest_30 : decode cX3_dropOldest 30 = .ok (.aaload, 1) := by decide +kernel
theorem dX3_dropOldest_31 : decode cX3_dropOldest 31 = .ok (.aastore, 1) := by decide +kernel
theorem dX3_dropOldest_32 : decode cX3_dropOldest 32 = .ok (.iinc 2 1, 3) := by decide +kernel
theorem dX3_dropOldest_35 : decode cX3_dropOldest 35 = .ok (.goto (-26), 3) := by decide +kernel
theorem dX3_dropOldest_38 : decode cX3_dropOldest 38 = .ok (.aload_n 0, 1) := by decide +kernel
theorem dX3_dropOldest_39 : decode cX3_dropOldest 39 = .ok (.getfield 9, 3) := by decide +kernel
theorem dX3_dropOldest_42 : decode cX3_dropOldest 42 = .ok (.aload_n 0, 1) := by decide +kernel
theorem dX3_dropOldest_43 : decode cX3_dropOldest 43 = .ok (.getfield 9, 3) := by decide +kernel
theorem dX3_dropOldest_46 : decode cX3_dropOldest 46 = .ok (.arraylength, 1) := by decide +kernel
theorem dX3_dropOldest_47 : decode cX3_dropOldest 47 = .ok (.iconst 1, 1) := by decide +kernel
theorem dX3_dropOldest_48 : decode cX3_dropOldest 48 = .ok (.isub, 1) := by decide +kernel
theorem dX3_dropOldest_49 : decode cX3_dropOldest 49 = .ok (.aload_n 1, 1) := by decide +kernel
theorem dX3_dropOldest_50 : decode cX3_dropOldest 50 = .ok (.aastore, 1) := by decide +kernel
theorem dX3_dropOldest_51 : decode cX3_dropOldest 51 = .ok (.aload_n 0, 1) := by decide +kernel
theorem dX3_dropOldest_52 : decode cX3_dropOldest 52 = .ok (.aload_n 0, 1) := by decide +kernel
theorem dX3_dropOldest_53 : decode cX3_dropOldest 53 = .ok (.getfield 9, 3) := by decide +kernel
theorem dX3_dropOldest_56 : decode cX3_dropOldest 56 = .ok (.arraylength, 1) := by decide +kernel
theorem dX3_dropOldest_57 : decode cX3_dropOldest 57 = .ok (.iconst 1, 1) := by decide +kernel
theorem dX3_dropOldest_58 : decode cX3_dropOldest 58 = .ok (.isub, 1) := by decide +kernel
theorem dX3_dropOldest_59 : decode cX3_dropOldest 59 = .ok (.putfield 16, 3) := by decide +kernel
theorem dX3_dropOldest_62 : decode cX3_dropOldest 62 = .ok (.return_, 1) := by decide +kernel
theorem dX3_pop_0 : decode cX3_pop 0 = .ok (.aload_n 0, 1) := by decide +kernel
theorem dX3_pop_1 : decode cX3_pop 1 = .ok (.getfield 16, 3) := by decide +kernel
theorem dX3_pop_4 : decode cX3_pop 4 = .ok (.ifCond .le 15, 3) := by decide +kernel
theorem dX3_pop_7 : decode cX3_pop 7 = .ok (.aload_n 0, 1) := by decide +kernel
theorem dX3_pop_8 : decode cX3_pop 8 = .ok (.getfield 16, 3) := by decide +kernel
theorem dX3_pop_11 : decode cX3_pop 11 = .ok (.aload_n 0, 1) := by decide +kernel
theorem dX3_pop_12 : decode cX3_pop 12 = .ok (.getfield 9, 3) := by decide +kernel
theorem dX3_pop_15 : decode cX3_pop 15 = .ok (.arraylength, 1) := by decide +kernel
theorem dX3_pop_16 : decode cX3_pop 16 = .ok (.if_icmp .le 5, 3) := by decide +kernel
theorem dX3_pop_19 : decode cX3_pop 19 = .ok (.iconst 0, 1) := by decide +kernel
theorem dX3_pop_20 : decode cX3_pop 20 = .ok (.ireturn, 1) := by decide +kernel
theorem dX3_pop_21 : decode cX3_pop 21 = .ok (.aload_n 0, 1) := by decide +kernel
theorem dX3_pop_22 : decode cX3_pop 22 = .ok (.dup, 1) := by decide +kernel
theorem dX3_pop_23 : decode cX3_pop 23 = .ok (.getfield 16, 3) := by decide +kernel
theorem dX3_pop_26 : decode cX3_pop 26 = .ok (.iconst 1, 1) := by decide +kernel
theorem dX3_pop_27 : decode cX3_pop 27 = .ok (.isub, 1) := by decide +kernel
theorem dX3_pop_28 : decode cX3_pop 28 = .ok (.putfield 16, 3) := by decide +kernel
theorem dX3_pop_31 : decode cX3_pop 31 = .ok (.aload_n 1, 1) := by decide +kernel
theorem dX3_pop_32 : decode cX3_pop 32 = .ok (.aload_n 0, 1) := by decide +kernel
theorem dX3_pop_33 : decode cX3_pop 33 = .ok (.getfield 9, 3) := by decide +kernel
theorem dX3_pop_36 : decode cX3_pop 36 = .ok (.aload_n 0, 1) := by decide +kernel
theorem dX3_pop_37 : decode cX3_pop 37 = .ok (.getfield 16, 3) := by decide +kernel
theorem dX3_pop_40 : decode cX3_pop 40 = .ok (.aaload, 1) := by decide +kernel
theorem dX3_pop_41 : decode cX3_pop 41 = .ok (.invokevirtual 23, 3) := by decide +kernel
theorem dX3_pop_44 : decode cX3_pop 44 = .ok (.iconst 1, 1) := by decide +kernel
theorem dX3_pop_45 : decode cX3_pop 45 = .ok (.ireturn, 1) := by decide +kernel
theorem dX4_init_0 : decode cX4_init 0 = .ok (.aload_n 0, 1) := by decide +kernel
theorem dX4_init_1 : decode cX4_init 1 = .ok (.invokespecial 3, 3) := by decide +kernel
theorem dX4_init_4 : decode cX4_init 4 = .ok (.aload_n 0, 1) := by decide +kernel
theorem dX4_init_5 : decode cX4_init 5 = .ok (.iconst 5, 1) := by decide +kernel
theorem dX4_init_6 : decode cX4_init 6 = .ok (.newarray .int, 2) := by decide +kernel
theorem dX4_init_8 : decode cX4_init 8 = .ok (.putfield 11, 3) := by decide +kernel
theorem dX4_init_11 : decode cX4_init 11 = .ok (.return_, 1) := by decide +kernel
theorem dX4_read_0 : decode cX4_read 0 = .ok (.aload_n 3, 1) := by decide +kernel
theorem dX4_read_1 : decode cX4_read 1 = .ok (.invokevirtual 15, 3) := by decide +kernel
theorem dX4_read_4 : decode cX4_read 4 = .ok (.aload_n 0, 1) := by decide +kernel
theorem dX4_read_5 : decode cX4_read 5 = .ok (.iconst 1, 1) := by decide +kernel
theorem dX4_read_6 : decode cX4_read 6 = .ok (.putfield 20, 3) := by decide +kernel
theorem dX4_read_9 : decode cX4_read 9 = .ok (.iload_n 2, 1) := by decide +kernel
theorem dX4_read_10 : decode cX4_read 10 = .ok (.aload_n 1, 1) := by decide +kernel
theorem dX4_read_11 : decode cX4_read 11 = .ok (.arraylength, 1) := by decide +kernel
theorem dX4_read_12 : decode cX4_read 12 = .ok (.if_icmp .ge 7, 3) := by decide +kernel
theorem dX4_read_15 : decode cX4_read 15 = .ok (.iload_n 2, 1) := by decide +kernel
theorem dX4_read_16 : decode cX4_read 16 = .ok (.goto 5, 3) := by decide +kernel
theorem dX4_read_19 : decode cX4_read 19 = .ok (.aload_n 1, 1) := by decide +kernel
theorem dX4_read_20 : decode cX4_read 20 = .ok (.arraylength, 1) := by decide +kernel
theorem dX4_read_21 : decode cX4_read 21 = .ok (.istore 4, 2) := by decide +kernel
theorem dX4_read_23 : decode cX4_read 23 = .ok (.iconst 0, 1) := by decide +kernel
theorem dX4_read_24 : decode cX4_read 24 = .ok (.istore 5, 2) := by decide +kernel
theorem dX4_read_26 : decode cX4_read 26 = .ok (.iconst 0, 1) := by decide +kernel
theorem dX4_read_27 : decode cX4_read 27 = .ok (.istore 6, 2) := by decide +kernel
theorem dX4_read_29 : decode cX4_read 29 = .ok (.iload 6, 2) := by decide +kernel
theorem dX4_read_31 : decode cX4_read 31 = .ok (.iload 4, 2) := by decide +kernel
theorem dX4_read_33 : decode cX4_read 33 = .ok (.if_icmp .ge 55, 3) := by decide +kernel
theorem dX4_read_36 : decode cX4_read 36 = .ok (.iload 5, 2) := by decide +kernel
theorem dX4_read_38 : decode cX4_read 38 = .ok (.iload 4, 2) := by decide +kernel
theorem dX4_read_40 : decode cX4_read 40 = .ok (.if_icmp .ge 48, 3) := by decide +kernel
theorem dX4_read_43 : decode cX4_read 43 = .ok (.aload_n 0, 1) := by decide +kernel
theorem dX4_read_44 : decode cX4_read 44 = .ok (.aload_n 1, 1) := by decide +kernel
theorem dX4_read_45 : decode cX4_read 45 = .ok (.iload 5, 2) := by decide +kernel
theorem dX4_read_47 : decode cX4_read 47 = .ok (.iconst 1, 1) := by decide +kernel
theorem dX4_read_48 : decode cX4_read 48 = .ok (.iadd, 1) := by decide +kernel
theorem dX4_read_49 : decode cX4_read 49 = .ok (.iload 4, 2) := by decide +kernel
theorem dX4_read_51 : decode cX4_read 51 = .ok (.invokevirtual 24, 3) := by decide +kernel
theorem dX4_read_54 : decode cX4_read 54 = .ok (.istore 7, 2) := by decide +kernel
theorem dX4_read_56 : decode cX4_read 56 = .ok (.iload 7, 2) := by decide +kernel
theorem dX4_read_58 : decode cX4_read 58 = .ok (.bipush (-4), 2) := by decide +kernel
theorem dX4_read_60 : decode cX4_read 60 = .ok (.if_icmp .eq 15, 3) := by decide +kernel
theorem dX4_read_63 : decode cX4_read 63 = .ok (.aload_n 0, 1) := by decide +kernel
theorem dX4_read_64 : decode cX4_read 64 = .ok (.aload_n 1, 1) := by decide +kernel
theorem dX4_read_65 : decode cX4_read 65 = .ok (.iload 5, 2) := by decide +kernel
theorem dX4_read_67 : decode cX4_read 67 = .ok (.iaload, 1) := by decide +kernel
theorem dX4_read_68 : decode cX4_read 68 = .ok (.aload_n 3, 1) := by decide +kernel
theorem dX4_read_69 : decode cX4_read 69 = .ok (.invokevirtual 28, 3) := by decide +kernel
theorem dX4_read_72 : decode cX4_read 72 = .ok (.ifCond .ne 6, 3) := by decide +kernel
theorem dX4_read_75 : decode cX4_read 75 = .ok (.iload 5, 2) := by decide +kernel
theorem dX4_read_77 : decode cX4_read 77 = .ok (.ireturn, 1) := by decide +kernel
theorem dX4_read_78 : decode cX4_read 78 = .ok (.iload 7, 2) := by decide +kernel
theorem dX4_read_80 : decode cX4_read 80 = .ok (.istore 5, 2) := by decide +kernel
theorem dX4_read_82 : decode cX4_read 82 = .ok (.iinc 6 1, 3) := by decide +kernel
theorem dX4_read_85 : decode cX4_read 85 = .ok (.goto (-56), 3) := by decide +kernel
theorem dX4_read_88 : decode cX4_read 88 = .ok (.bipush (-4), 2) := by decide +kernel
theorem dX4_read_90 : decode cX4_read 90 = .ok (.ireturn, 1) := by decide +kernel
theorem dX4_scan_0 : decode cX4_scan 0 = .ok (.iload_n 2, 1) := by decide +kernel
theorem dX4_scan_1 : decode cX4_scan 1 = .ok (.istore 4, 2) := by decide +kernel
theorem dX4_scan_3 : decode cX4_scan 3 = .ok (.iconst 0, 1) := by decide +kernel
theorem dX4_scan_4 : decode cX4_scan 4 = .ok (.istore 5, 2) := by decide +kernel
theorem dX4_scan_6 : decode cX4_scan 6 = .ok (.iload 5, 2) := by decide +kernel
theorem dX4_scan_8 : decode cX4_scan 8 = .ok (.iconst 5, 1) := by decide +kernel
theorem dX4_scan_9 : decode cX4_scan 9 = .ok (.if_icmp .ge 129, 3) := by decide +kernel
theorem dX4_scan_12 : decode cX4_scan 12 = .ok (.iconst 0, 1) := by decide +kernel
theorem dX4_scan_13 : decode cX4_scan 13 = .ok (.istore 6, 2) := by decide +kernel
theorem dX4_scan_15 : decode cX4_scan 15 = .ok (.iconst 0, 1) := by decide +kernel
theorem dX4_scan_16 : decode cX4_scan 16 = .ok (.istore 7, 2) := by decide +kernel
theorem dX4_scan_18 : decode cX4_scan 18 = .ok (.iload 6, 2) := by decide +kernel
theorem dX4_scan_20 : decode cX4_scan 20 = .ok (.iconst 2, 1) := by decide +kernel
theorem dX4_scan_21 : decode cX4_scan 21 = .ok (.if_icmp .ge 51, 3) := by decide +kernel
theorem dX4_scan_24 : decode cX4_scan 24 = .ok (.iload 4, 2) := by decide +kernel
theorem dX4_scan_26 : decode cX4_scan 26 = .ok (.iload_n 3, 1) := by decide +kernel
theorem dX4_scan_27 : decode cX4_scan 27 = .ok (.if_icmp .ge 45, 3) := by decide +kernel
theorem dX4_scan_30 : decode cX4_scan 30 = .ok (.aload_n 1, 1) := by decide +kernel
theorem dX4_scan_31 : decode cX4_scan 31 = .ok (.iload 4, 2) := by decide +kernel
theorem dX4_scan_33 : decode cX4_scan 33 = .ok (.iaload, 1) := by decide +kernel
theorem dX4_scan_34 : decode cX4_scan 34 = .ok (.bipush 48, 2) := by decide +kernel
theorem dX4_scan_36 : decode cX4_scan 36 = .ok (.if_icmp .lt 36, 3) := by decide +kernel
theorem dX4_scan_39 : decode cX4_scan 39 = .ok (.aload_n 1, 1) := by decide +kernel
theorem dX4_scan_40 : decode cX4_scan 40 = .ok (.iload 4, 2) := by decide +kernel
theorem dX4_scan_42 : decode cX4_scan 42 = .ok (.iaload, 1) := by decide +kernel
theorem dX4_scan_43 : decode cX4_scan 43 = .ok (.bipush 57, 2) := by decide +kernel
theorem dX4_scan_45 : decode cX4_scan 45 = .ok (.if_icmp .gt 27, 3) := by decide +kernel
theorem dX4_scan_48 : decode cX4_scan 48 = .ok (.bipush 10, 2) := by decide +kernel
theorem dX4_scan_50 : decode cX4_scan 50 = .ok (.iload 7, 2) := by decide +kernel
theorem dX4_scan_52 : decode cX4_scan 52 = .ok (.imul, 1) := by decide +kernel
theorem dX4_scan_53 : decode cX4_scan 53 = .ok (.aload_n 1, 1) := by decide +kernel
theorem dX4_scan_54 : decode cX4_scan 54 = .ok (.iload 4, 2) := by decide +kernel
theorem dX4_scan_56 : decode cX4_scan 56 = .ok (.iaload, 1) := by decide +kernel
theorem dX4_scan_57 : decode cX4_scan 57 = .ok (.iadd, 1) := by decide +kernel
theorem dX4_scan_58 : decode cX4_scan 58 = .ok (.bipush 48, 2) := by decide +kernel
theorem dX4_scan_60 : decode cX4_scan 60 = .ok (.isub, 1) := by decide +kernel
theorem dX4_scan_61 : decode cX4_scan 61 = .ok (.istore 7, 2) := by decide +kernel
theorem dX4_scan_63 : decode cX4_scan 63 = .ok (.iinc 6 1, 3) := by decide +kernel
theorem dX4_scan_66 : decode cX4_scan 66 = .ok (.iinc 4 1, 3) := by decide +kernel
theorem dX4_scan_69 : decode cX4_scan 69 = .ok (.goto (-51), 3) := by decide +kernel
theorem dX4_scan_72 : decode cX4_scan 72 = .ok (.iload 6, 2) := by decide +kernel
theorem dX4_scan_74 : decode cX4_scan 74 = .ok (.ifCond .eq 9, 3) := by decide +kernel
theorem dX4_scan_77 : decode cX4_scan 77 = .ok (.iload 4, 2) := by decide +kernel
theorem dX4_scan_79 : decode cX4_scan 79 = .ok (.iload_n 3, 1) := by decide +kernel
theorem dX4_scan_80 : decode cX4_scan 80 = .ok (.if_icmp .lt 6, 3) := by decide +kernel
theorem dX4_scan_83 : decode cX4_scan 83 = .ok (.bipush (-4), 2) := by decide +kernel
theorem dX4_scan_85 : decode cX4_scan 85 = .ok (.ireturn, 1) := by decide +kernel
theorem dX4_scan_86 : decode cX4_scan 86 = .ok (.aload_n 0, 1) := by decide +kernel
theorem dX4_scan_87 : decode cX4_scan 87 = .ok (.getfield 11, 3) := by decide +kernel
theorem dX4_scan_90 : decode cX4_scan 90 = .ok (.iload 5, 2) := by decide +kernel
theorem dX4_scan_92 : decode cX4_scan 92 = .ok (.iload 7, 2) := by decide +kernel
theorem dX4_scan_94 : decode cX4_scan 94 = .ok (.iastore, 1) := by decide +kernel
theorem dX4_scan_95 : decode cX4_scan 95 = .ok (.aload_n 0, 1) := by decide +kernel
theorem dX4_scan_96 : decode cX4_scan 96 = .ok (.iload 5, 2) := by decide +kernel
theorem dX4_scan_98 : decode cX4_scan 98 = .ok (.iconst 1, 1) := by decide +kernel
theorem dX4_scan_99 : decode cX4_scan 99 = .ok (.iadd, 1) := by decide +kernel
theorem dX4_scan_100 : decode cX4_scan 100 = .ok (.putfield 32, 3) := by decide +kernel
theorem dX4_scan_103 : decode cX4_scan 103 = .ok (.aload_n 1, 1) := by decide +kernel
theorem dX4_scan_104 : decode cX4_scan 104 = .ok (.iload 4, 2) := by decide +kernel
theorem dX4_scan_106 : decode cX4_scan 106 = .ok (.iaload, 1) := by decide +kernel
theorem dX4_scan_107 : decode cX4_scan 107 = .ok (.istore 8, 2) := by decide +kernel
theorem dX4_scan_109 : decode cX4_scan 109 = .ok (.iinc 4 1, 3) := by decide +kernel
theorem dX4_scan_112 : decode cX4_scan 112 = .ok (.iload 8, 2) := by decide +kernel
theorem dX4_scan_114 : decode cX4_scan 114 = .ok (.bipush 59, 2) := by decide +kernel
theorem dX4_scan_116 : decode cX4_scan 116 = .ok (.if_icmp .ne 6, 3) := by decide +kernel
theorem dX4_scan_119 : decode cX4_scan 119 = .ok (.iload 4, 2) := by decide +kernel
theorem dX4_scan_121 : decode cX4_scan 121 = .ok (.ireturn, 1) := by decide +kernel
theorem dX4_scan_122 : decode cX4_scan 122 = .ok (.iload 8, 2) := by decide +kernel
theorem dX4_scan_124 : decode cX4_scan 124 = .ok (.bipush 44, 2) := by decide +kernel
theorem dX4_scan_126 : decode cX4_scan 126 = .ok (.if_icmp .eq 6, 3) := by decide +kernel
theorem dX4_scan_129 : decode cX4_scan 129 = .ok (.bipush (-4), 2) := by decide +kernel
theorem dX4_scan_131 : decode cX4_scan 131 = .ok (.ireturn, 1) := by decide +kernel
theorem dX4_scan_132 : decode cX4_scan 132 = .ok (.iinc 5 1, 3) := by decide +kernel
theorem dX4_scan_135 : decode cX4_scan 135 = .ok (.goto (-129), 3) := by decide +kernel
theorem dX4_scan_138 : decode cX4_scan 138 = .ok (.bipush (-4), 2) := by decide +kernel
theorem dX4_scan_140 : decode cX4_scan 140 = .ok (.ireturn, 1) := by decide +kernel
theorem dX4_take_0 : decode cX4_take 0 = .ok (.iload_n 1, 1) := by decide +kernel
theorem dX4_take_1 : decode cX4_take 1 = .ok (.bipush 105, 2) := by decide +kernel
theorem dX4_take_3 : decode cX4_take 3 = .ok (.if_icmp .ne 9, 3) := by decide +kernel
theorem dX4_take_6 : decode cX4_take 6 = .ok (.aload_n 0, 1) := by decide +kernel
theorem dX4_take_7 : decode cX4_take 7 = .ok (.aload_n 2, 1) := by decide +kernel
theorem dX4_take_8 : decode cX4_take 8 = .ok (.invokevirtual 36, 3) := by decide +kernel
theorem dX4_take_11 : decode cX4_take 11 = .ok (.ireturn, 1) := by decide +kernel
theorem dX4_take_12 : decode cX4_take 12 = .ok (.aload_n 0, 1) := by decide +kernel
theorem dX4_take_13 : decode cX4_take 13 = .ok (.iconst 0, 1) := by decide +kernel
theorem dX4_take_14 : decode cX4_take 14 = .ok (.putfield 20, 3) := by decide +kernel
theorem dX4_take_17 : decode cX4_take 17 = .ok (.iload_n 1, 1) := by decide +kernel
theorem dX4_take_18 : decode cX4_take 18 = .ok (.lookupswitch 66 #[(98, 48), (100, 42), (103, 60), (111, 54)], 42) := by decide +kernel
theorem dX4_take_60 : decode cX4_take 60 = .ok (.aload_n 0, 1) := by decide +kernel
theorem dX4_take_61 : decode cX4_take 61 = .ok (.aload_n 2, 1) := by decide +kernel
theorem dX4_take_62 : decode cX4_take 62 = .ok (.invokevirtual 40, 3) := by decide +kernel
theorem dX4_take_65 : decode cX4_take 65 = .ok (.ireturn, 1) := by decide +kernel
theorem dX4_take_66 : decode cX4_take 66 = .ok (.aload_n 0, 1) := by decide +kernel
theorem dX4_take_67 : decode cX4_take 67 = .ok (.aload_n 2, 1) := by decide +kernel
theorem dX4_take_68 : decode cX4_take 68 = .ok (.invokevirtual 43, 3) := by decide +kernel
theorem dX4_take_71 : decode cX4_take 71 = .ok (.ireturn, 1) := by decide +kernel
theorem dX4_take_72 : decode cX4_take 72 = .ok (.aload_n 0, 1) := by decide +kernel
theorem dX4_take_73 : decode cX4_take 73 = .ok (.aload_n 2, 1) := by decide +kernel
theorem dX4_take_74 : decode cX4_take 74 = .ok (.invokevirtual 46, 3) := by decide +kernel
theorem dX4_take_77 : decode cX4_take 77 = .ok (.ireturn, 1) := by decide +kernel
theorem dX4_take_78 : decode cX4_take 78 = .ok (.aload_n 0, 1) := by decide +kernel
theorem dX4_take_79 : decode cX4_take 79 = .ok (.aload_n 2, 1) := by decide +kernel
theorem dX4_take_80 : decode cX4_take 80 = .ok (.invokevirtual 49, 3) := by decide +kernel
theorem dX4_take_83 : decode cX4_take 83 = .ok (.ireturn, 1) := by decide +kernel
theorem dX4_take_84 : decode cX4_take 84 = .ok (.iconst 0, 1) := by decide +kernel
theorem dX4_take_85 : decode cX4_take 85 = .ok (.ireturn, 1) := by decide +kernel
theorem dX4_takeIslands_0 : decode cX4_takeIslands 0 = .ok (.aload_n 0, 1) := by decide +kernel
theorem dX4_takeIslands_1 : decode cX4_takeIslands 1 = .ok (.getfield 32, 3) := by decide +kernel
theorem dX4_takeIslands_4 : decode cX4_takeIslands 4 = .ok (.iconst 1, 1) := by decide +kernel
theorem dX4_takeIslands_5 : decode cX4_takeIslands 5 = .ok (.if_icmp .ne 25, 3) := by decide +kernel
theorem dX4_takeIslands_8 : decode cX4_takeIslands 8 = .ok (.aload_n 0, 1) := by decide +kernel
theorem dX4_takeIslands_9 : decode cX4_takeIslands 9 = .ok (.getfield 20, 3) := by decide +kernel
theorem dX4_takeIslands_12 : decode cX4_takeIslands 12 = .ok (.ifCond .eq 18, 3) := by decide +kernel
theorem dX4_takeIslands_15 : decode cX4_takeIslands 15 = .ok (.aload_n 0, 1) := by decide +kernel
theorem dX4_takeIslands_16 : decode cX4_takeIslands 16 = .ok (.getfield 11, 3) := by decide +kernel
theorem dX4_takeIslands_19 : decode cX4_takeIslands 19 = .ok (.iconst 0, 1) := by decide +kernel
theorem dX4_takeIslands_20 : decode cX4_takeIslands 20 = .ok (.iaload, 1) := by decide +kernel
theorem dX4_takeIslands_21 : decode cX4_takeIslands 21 = .ok (.iconst 2, 1) := by decide +kernel
theorem dX4_takeIslands_22 : decode cX4_takeIslands 22 = .ok (.bipush 8, 2) := by decide +kernel
theorem dX4_takeIslands_24 : decode cX4_takeIslands 24 = .ok (.invokestatic 52, 3) := by decide +kernel
theorem dX4_takeIslands_27 : decode cX4_takeIslands 27 = .ok (.ifCond .ne 5, 3) := by decide +kernel
theorem dX4_takeIslands_30 : decode cX4_takeIslands 30 = .ok (.iconst 0, 1) := by decide +kernel
theorem dX4_takeIslands_31 : decode cX4_takeIslands 31 = .ok (.ireturn, 1) := by decide +kernel
theorem dX4_takeIslands_32 : decode cX4_takeIslands 32 = .ok (.aload_n 1, 1) := by decide +kernel
theorem dX4_takeIslands_33 : decode cX4_takeIslands 33 = .ok (.aload_n 0, 1) := by decide +kernel
theorem dX4_takeIslands_34 : decode cX4_takeIslands 34 = .ok (.getfield 11, 3) := by decide +kernel
theorem dX4_takeIslands_37 : decode cX4_takeIslands 37 = .ok (.iconst 0, 1) := by decide +kernel
theorem dX4_takeIslands_38 : decode cX4_takeIslands 38 = .ok (.iaload, 1) := by decide +kernel
theorem dX4_takeIslands_39 : decode cX4_takeIslands 39 = .ok (.putfield 56, 3) := by decide +kernel
theorem dX4_takeIslands_42 : decode cX4_takeIslands 42 = .ok (.iconst 1, 1) := by decide +kernel
theorem dX4_takeIslands_43 : decode cX4_takeIslands 43 = .ok (.ireturn, 1) := by decide +kernel
theorem dX4_takeDelay_0 : decode cX4_takeDelay 0 = .ok (.aload_n 0, 1) := by decide +kernel
theorem dX4_takeDelay_1 : decode cX4_takeDelay 1 = .ok (.getfield 32, 3) := by decide +kernel
theorem dX4_takeDelay_4 : decode cX4_takeDelay 4 = .ok (.iconst 1, 1) := by decide +kernel
theorem dX4_takeDelay_5 : decode cX4_takeDelay 5 = .ok (.if_icmp .ne 18, 3) := by decide +kernel
theorem dX4_takeDelay_8 : decode cX4_takeDelay 8 = .ok (.aload_n 0, 1) := by decide +kernel
theorem dX4_takeDelay_9 : decode cX4_takeDelay 9 = .ok (.getfield 11, 3) := by decide +kernel
theorem dX4_takeDelay_12 : decode cX4_takeDelay 12 = .ok (.iconst 0, 1) := by decide +kernel
theorem dX4_takeDelay_13 : decode cX4_takeDelay 13 = .ok (.iaload, 1) := by decide +kernel
theorem dX4_takeDelay_14 : decode cX4_takeDelay 14 = .ok (.iconst 1, 1) := by decide +kernel
theorem dX4_takeDelay_15 : decode cX4_takeDelay 15 = .ok (.bipush 9, 2) := by decide +kernel
theorem dX4_takeDelay_17 : decode cX4_takeDelay 17 = .ok (.invokestatic 52, 3) := by decide +kernel
theorem dX4_takeDelay_20 : decode cX4_takeDelay 20 = .ok (.ifCond .ne 5, 3) := by decide +kernel
theorem dX4_takeDelay_23 : decode cX4_takeDelay 23 = .ok (.iconst 0, 1) := by decide +kernel
theorem dX4_takeDelay_24 : decode cX4_takeDelay 24 = .ok (.ireturn, 1) := by decide +kernel
theorem dX4_takeDelay_25 : decode cX4_takeDelay 25 = .ok (.aload_n 1, 1) := by decide +kernel
theorem dX4_takeDelay_26 : decode cX4_takeDelay 26 = .ok (.aload_n 0, 1) := by decide +kernel
theorem dX4_takeDelay_27 : decode cX4_takeDelay 27 = .ok (.getfield 11, 3) := by decide +kernel
theorem dX4_takeDelay_30 : decode cX4_takeDelay 30 = .ok (.iconst 0, 1) := by decide +kernel
theorem dX4_takeDelay_31 : decode cX4_takeDelay 31 = .ok (.iaload, 1) := by decide +kernel
theorem dX4_takeDelay_32 : decode cX4_takeDelay 32 = .ok (.putfield 59, 3) := by decide +kernel
theorem dX4_takeDelay_35 : decode cX4_takeDelay 35 = .ok (.iconst 1, 1) := by decide +kernel
theorem dX4_takeDelay_36 : decode cX4_takeDelay 36 = .ok (.ireturn, 1) := by decide +kernel
theorem dX4_takeBridge_0 : decode cX4_takeBridge 0 = .ok (.aload_n 1, 1) := by decide +kernel
theorem dX4_takeBridge_1 : decode cX4_takeBridge 1 = .ok (.getfield 62, 3) := by decide +kernel
theorem dX4_takeBridge_4 : decode cX4_takeBridge 4 = .ok (.istore_n 2, 1) := by decide +kernel
theorem dX4_takeBridge_5 : decode cX4_takeBridge 5 = .ok (.aload_n 0, 1) := by decide +kernel
theorem dX4_takeBridge_6 : decode cX4_takeBridge 6 = .ok (.getfield 32, 3) := by decide +kernel
theorem dX4_takeBridge_9 : decode cX4_takeBridge 9 = .ok (.iconst 3, 1) := by decide +kernel
theorem dX4_takeBridge_10 : decode cX4_takeBridge 10 = .ok (.if_icmp .ne 21, 3) := by decide +kernel
theorem dX4_takeBridge_13 : decode cX4_takeBridge 13 = .ok (.iload_n 2, 1) := by decide +kernel
theorem dX4_takeBridge_14 : decode cX4_takeBridge 14 = .ok (.ifCond .lt 17, 3) := by decide +kernel
theorem dX4_takeBridge_17 : decode cX4_takeBridge 17 = .ok (.iload_n 2, 1) := by decide +kernel
theorem dX4_takeBridge_18 : decode cX4_takeBridge 18 = .ok (.bipush 9, 2) := by decide +kernel
theorem dX4_takeBridge_20 : decode cX4_takeBridge 20 = .ok (.if_icmp .ge 11, 3) := by decide +kernel
theorem dX4_takeBridge_23 : decode cX4_takeBridge 23 = .ok (.aload_n 0, 1) := by decide +kernel
theorem dX4_takeBridge_24 : decode cX4_takeBridge 24 = .ok (.aload_n 1, 1) := by decide +kernel
theorem dX4_takeBridge_25 : decode cX4_takeBridge 25 = .ok (.invokevirtual 65, 3) := by decide +kernel
theorem dX4_takeBridge_28 : decode cX4_takeBridge 28 = .ok (.ifCond .ne 5, 3) := by decide +kernel
theorem dX4_takeBridge_31 : decode cX4_takeBridge 31 = .ok (.iconst 0, 1) := by decide +kernel
theorem dX4_takeBridge_32 : decode cX4_takeBridge 32 = .ok (.ireturn, 1) := by decide +kernel
theorem dX4_takeBridge_33 : decode cX4_takeBridge 33 = .ok (.aload_n 1, 1) := by decide +kernel
theorem dX4_takeBridge_34 : decode cX4_takeBridge 34 = .ok (.getfield 68, 3) := by decide +kernel
theorem dX4_takeBridge_37 : decode cX4_takeBridge 37 = .ok (.iload_n 2, 1) := by decide +kernel
theorem dX4_takeBridge_38 : decode cX4_takeBridge 38 = .ok (.aload_n 0, 1) := by decide +kernel
theorem dX4_takeBridge_39 : decode cX4_takeBridge 39 = .ok (.getfield 11, 3) := by decide +kernel
theorem dX4_takeBridge_42 : decode cX4_takeBridge 42 = .ok (.iconst 0, 1) := by decide +kernel
theorem dX4_takeBridge_43 : decode cX4_takeBridge 43 = .ok (.iaload, 1) := by decide +kernel
theorem dX4_takeBridge_44 : decode cX4_takeBridge 44 = .ok (.iastore, 1) := by decide +kernel
theorem dX4_takeBridge_45 : decode cX4_takeBridge 45 = .ok (.aload_n 1, 1) := by decide +kernel
theorem dX4_takeBridge_46 : decode cX4_takeBridge 46 = .ok (.getfield 71, 3) := by decide +kernel
theorem dX4_takeBridge_49 : decode cX4_takeBridge 49 = .ok (.iload_n 2, 1) := by decide +kernel
theorem dX4_takeBridge_50 : decode cX4_takeBridge 50 = .ok (.aload_n 0, 1) := by decide +kernel
theorem dX4_takeBridge_51 : decode cX4_takeBridge 51 = .ok (.getfield 11, 3) := by decide +kernel
theorem dX4_takeBridge_54 : decode cX4_takeBridge 54 = .ok (.iconst 1, 1) := by decide +kernel
theorem dX4_takeBridge_55 : decode cX4_takeBridge 55 = .ok (.iaload, 1) := by decide +kernel
theorem dX4_takeBridge_56 : decode cX4_takeBridge 56 = .ok (.iastore, 1) := by decide +kernel
theorem dX4_takeBridge_57 : decode cX4_takeBridge 57 = .ok (.aload_n 1, 1) := by decide +kernel
theorem dX4_takeBridge_58 : decode cX4_takeBridge 58 = .ok (.getfield 74, 3) := by decide +kernel
theorem dX4_takeBridge_61 : decode cX4_takeBridge 61 = .ok (.iload_n 2, 1) := by decide +kernel
theorem dX4_takeBridge_62 : decode cX4_takeBridge 62 = .ok (.aload_n 0, 1) := by decide +kernel
theorem dX4_takeBridge_63 : decode cX4_takeBridge 63 = .ok (.getfield 11, 3) := by decide +kernel
theorem dX4_takeBridge_66 : decode cX4_takeBridge 66 = .ok (.iconst 2, 1) := by decide +kernel
theorem dX4_takeBridge_67 : decode cX4_takeBridge 67 = .ok (.iaload, 1) := by decide +kernel
theorem dX4_takeBridge_68 : decode cX4_takeBridge 68 = .ok (.iastore, 1) := by decide +kernel
theorem dX4_takeBridge_69 : decode cX4_takeBridge 69 = .ok (.aload_n 1, 1) := by decide +kernel
theorem dX4_takeBridge_70 : decode cX4_takeBridge 70 = .ok (.dup, 1) := by decide +kernel
theorem dX4_takeBridge_71 : decode cX4_takeBridge 71 = .ok (.getfield 62, 3) := by decide +kernel
theorem dX4_takeBridge_74 : decode cX4_takeBridge 74 = .ok (.iconst 1, 1) := by decide +kernel
theorem dX4_takeBridge_75 : decode cX4_takeBridge 75 = .ok (.iadd, 1) := by decide +kernel
theorem dX4_takeBridge_76 : decode cX4_takeBridge 76 = .ok (.putfield 62, 3) := by decide +kernel
theorem dX4_takeBridge_79 : decode cX4_takeBridge 79 = .ok (.iconst 1, 1) := by decide +kernel
theorem dX4_takeBridge_80 : decode cX4_takeBridge 80 = .ok (.ireturn, 1) := by decide +kernel
theorem dX4_takeOak_0 : decode cX4_takeOak 0 = .ok (.aload_n 0, 1) := by decide +kernel
theorem dX4_takeOak_1 : decode cX4_takeOak 1 = .ok (.getfield 32, 3) := by decide +kernel
theorem dX4_takeOak_4 : decode cX4_takeOak 4 = .ok (.iconst 1, 1) := by decide +kernel
theorem dX4_takeOak_5 : decode cX4_takeOak 5 = .ok (.if_icmp .ne 16, 3) := by decide +kernel
theorem dX4_takeOak_8 : decode cX4_takeOak 8 = .ok (.aload_n 0, 1) := by decide +kernel
theorem dX4_takeOak_9 : decode cX4_takeOak 9 = .ok (.getfield 11, 3) := by decide +kernel
theorem dX4_takeOak_12 : decode cX4_takeOak 12 = .ok (.iconst 0, 1) := by decide +kernel
theorem dX4_takeOak_13 : decode cX4_takeOak 13 = .ok (.iaload, 1) := by decide +kernel
theorem dX4_takeOak_14 : decode cX4_takeOak 14 = .ok (.aload_n 1, 1) := by decide +kernel
theorem dX4_takeOak_15 : decode cX4_takeOak 15 = .ok (.getfield 62, 3) := by decide +kernel
theorem dX4_takeOak_18 : decode cX4_takeOak 18 = .ok (.if_icmp .lt 5, 3) := by decide +kernel
theorem dX4_takeOak_21 : decode cX4_takeOak 21 = .ok (.iconst 0, 1) := by decide +kernel
theorem dX4_takeOak_22 : decode cX4_takeOak 22 = .ok (.ireturn, 1) := by decide +kernel
theorem dX4_takeOak_23 : decode cX4_takeOak 23 = .ok (.aload_n 1, 1) := by decide +kernel
theorem dX4_takeOak_24 : decode cX4_takeOak 24 = .ok (.dup, 1) := by decide +kernel
theorem dX4_takeOak_25 : decode cX4_takeOak 25 = .ok (.getfield 77, 3) := by decide +kernel
theorem dX4_takeOak_28 : decode cX4_takeOak 28 = .ok (.iconst 1, 1) := by decide +kernel
theorem dX4_takeOak_29 : decode cX4_takeOak 29 = .ok (.aload_n 0, 1) := by decide +kernel
theorem dX4_takeOak_30 : decode cX4_takeOak 30 = .ok (.getfield 11, 3) := by decide +kernel
theorem dX4_takeOak_33 : decode cX4_takeOak 33 = .ok (.iconst 0, 1) := by decide +kernel
theorem dX4_takeOak_34 : decode cX4_takeOak 34 = .ok (.iaload, 1) := by decide +kernel
theorem dX4_takeOak_35 : decode cX4_takeOak 35 = .ok (.ishl, 1) := by decide +kernel
theorem dX4_takeOak_36 : decode cX4_takeOak 36 = .ok (.ior, 1) := by decide +kernel
theorem dX4_takeOak_37 : decode cX4_takeOak 37 = .ok (.putfield 77, 3) := by decide +kernel
theorem dX4_takeOak_40 : decode cX4_takeOak 40 = .ok (.iconst 1, 1) := by decide +kernel
theorem dX4_takeOak_41 : decode cX4_takeOak 41 = .ok (.ireturn, 1) := by decide +kernel
theorem dX4_takeGoer_0 : decode cX4_takeGoer 0 = .ok (.aload_n 1, 1) := by decide +kernel
theorem dX4_takeGoer_1 : decode cX4_takeGoer 1 = .ok (.getfield 80, 3) := by decide +kernel
theorem dX4_takeGoer_4 : decode cX4_takeGoer 4 = .ok (.istore_n 2, 1) := by decide +kernel
theorem dX4_takeGoer_5 : decode cX4_takeGoer 5 = .ok (.aload_n 0, 1) := by decide +kernel
theorem dX4_takeGoer_6 : decode cX4_takeGoer 6 = .ok (.getfield 32, 3) := by decide +kernel
theorem dX4_takeGoer_9 : decode cX4_takeGoer 9 = .ok (.iconst 5, 1) := by decide +kernel
theorem dX4_takeGoer_10 : decode cX4_takeGoer 10 = .ok (.if_icmp .ne 20, 3) := by decide +kernel
theorem dX4_takeGoer_13 : decode cX4_takeGoer 13 = .ok (.iload_n 2, 1) := by decide +kernel
theorem dX4_takeGoer_14 : decode cX4_takeGoer 14 = .ok (.ifCond .lt 16, 3) := by decide +kernel
theorem dX4_takeGoer_17 : decode cX4_takeGoer 17 = .ok (.iload_n 2, 1) := by decide +kernel
theorem dX4_takeGoer_18 : decode cX4_takeGoer 18 = .ok (.iconst 5, 1) := by decide +kernel
theorem dX4_takeGoer_19 : decode cX4_takeGoer 19 = .ok (.if_icmp .ge 11, 3) := by decide +kernel
theorem dX4_takeGoer_22 : decode cX4_takeGoer 22 = .ok (.aload_n 0, 1) := by decide +kernel
theorem dX4_takeGoer_23 : decode cX4_takeGoer 23 = .ok (.aload_n 1, 1) := by decide +kernel
theorem dX4_takeGoer_24 : decode cX4_takeGoer 24 = .ok (.invokevirtual 65, 3) := by decide +kernel
theorem dX4_takeGoer_27 : decode cX4_takeGoer 27 = .ok (.ifCond .ne 5, 3) := by decide +kernel
theorem dX4_takeGoer_30 : decode cX4_takeGoer 30 = .ok (.iconst 0, 1) := by decide +kernel
theorem dX4_takeGoer_31 : decode cX4_takeGoer 31 = .ok (.ireturn, 1) := by decide +kernel
theorem dX4_takeGoer_32 : decode cX4_takeGoer 32 = .ok (.aload_n 0, 1) := by decide +kernel
theorem dX4_takeGoer_33 : decode cX4_takeGoer 33 = .ok (.getfield 11, 3) := by decide +kernel
theorem dX4_takeGoer_36 : decode cX4_takeGoer 36 = .ok (.iconst 2, 1) := by decide +kernel
theorem dX4_takeGoer_37 : decode cX4_takeGoer 37 = .ok (.iaload, 1) := by decide +kernel
theorem dX4_takeGoer_38 : decode cX4_takeGoer 38 = .ok (.iconst 1, 1) := by decide +kernel
theorem dX4_takeGoer_39 : decode cX4_takeGoer 39 = .ok (.bipush 40, 2) := by decide +kernel
theorem dX4_takeGoer_41 : decode cX4_takeGoer 41 = .ok (.invokestatic 52, 3) := by decide +kernel
theorem dX4_takeGoer_44 : decode cX4_takeGoer 44 = .ok (.ifCond .ne 5, 3) := by decide +kernel
theorem dX4_takeGoer_47 : decode cX4_takeGoer 47 = .ok (.iconst 0, 1) := by decide +kernel
theorem dX4_takeGoer_48 : decode cX4_takeGoer 48 = .ok (.ireturn, 1) := by decide +kernel
theorem dX4_takeGoer_49 : decode cX4_takeGoer 49 = .ok (.aload_n 0, 1) := by decide +kernel
theorem dX4_takeGoer_50 : decode cX4_takeGoer 50 = .ok (.getfield 11, 3) := by decide +kernel
theorem dX4_takeGoer_53 : decode cX4_takeGoer 53 = .ok (.iconst 3, 1) := by decide +kernel
theorem dX4_takeGoer_54 : decode cX4_takeGoer 54 = .ok (.iaload, 1) := by decide +kernel
theorem dX4_takeGoer_55 : decode cX4_takeGoer 55 = .ok (.iconst 0, 1) := by decide +kernel
theorem dX4_takeGoer_56 : decode cX4_takeGoer 56 = .ok (.bipush 20, 2) := by decide +kernel
theorem dX4_takeGoer_58 : decode cX4_takeGoer 58 = .ok (.invokestatic 52, 3) := by decide +kernel
theorem dX4_takeGoer_61 : decode cX4_takeGoer 61 = .ok (.ifCond .eq 17, 3) := by decide +kernel
theorem dX4_takeGoer_64 : decode cX4_takeGoer 64 = .ok (.aload_n 0, 1) := by decide +kernel
theorem dX4_takeGoer_65 : decode cX4_takeGoer 65 = .ok (.getfield 11, 3) := by decide +kernel
theorem dX4_takeGoer_68 : decode cX4_takeGoer 68 = .ok (.iconst 4, 1) := by decide +kernel
theorem dX4_takeGoer_69 : decode cX4_takeGoer 69 = .ok (.iaload, 1) := by decide +kernel
theorem dX4_takeGoer_70 : decode cX4_takeGoer 70 = .ok (.iconst 0, 1) := by decide +kernel
theorem dX4_takeGoer_71 : decode cX4_takeGoer 71 = .ok (.iconst 4, 1) := by decide +kernel
theorem dX4_takeGoer_72 : decode cX4_takeGoer 72 = .ok (.invokestatic 52, 3) := by decide +kernel
theorem dX4_takeGoer_75 : decode cX4_takeGoer 75 = .ok (.ifCond .ne 5, 3) := by decide +kernel
theorem dX4_takeGoer_78 : decode cX4_takeGoer 78 = .ok (.iconst 0, 1) := by decide +kernel
theorem dX4_takeGoer_79 : decode cX4_takeGoer 79 = .ok (.ireturn, 1) := by decide +kernel
theorem dX4_takeGoer_80 : decode cX4_takeGoer 80 = .ok (.aload_n 1, 1) := by decide +kernel
theorem dX4_takeGoer_81 : decode cX4_takeGoer 81 = .ok (.getfield 83, 3) := by decide +kernel
theorem dX4_takeGoer_84 : decode cX4_takeGoer 84 = .ok (.iload_n 2, 1) := by decide +kernel
theorem dX4_takeGoer_85 : decode cX4_takeGoer 85 = .ok (.aload_n 0, 1) := by decide +kernel
theorem dX4_takeGoer_86 : decode cX4_takeGoer 86 = .ok (.getfield 11, 3) := by decide +kernel
theorem dX4_takeGoer_89 : decode cX4_takeGoer 89 = .ok (.iconst 0, 1) := by decide +kernel
theorem dX4_takeGoer_90 : decode cX4_takeGoer 90 = .ok (.iaload, 1) := by decide +kernel
theorem dX4_takeGoer_91 : decode cX4_takeGoer 91 = .ok (.iastore, 1) := by decide +kernel
theorem dX4_takeGoer_92 : decode cX4_takeGoer 92 = .ok (.aload_n 1, 1) := by decide +kernel
theorem dX4_takeGoer_93 : decode cX4_takeGoer 93 = .ok (.getfield 86, 3) := by decide +kernel
theorem dX4_takeGoer_96 : decode cX4_takeGoer 96 = .ok (.iload_n 2, 1) := by decide +kernel
theorem dX4_takeGoer_97 : decode cX4_takeGoer 97 = .ok (.aload_n 0, 1) := by decide +kernel
theorem dX4_takeGoer_98 : decode cX4_takeGoer 98 = .ok (.getfield 11, 3) := by decide +kernel
theorem dX4_takeGoer_101 : decode cX4_takeGoer 101 = .ok (.iconst 1, 1) := by decide +kernel
theorem dX4_takeGoer_102 : decode cX4_takeGoer 102 = .ok (.iaload, 1) := by decide +kernel
theorem dX4_takeGoer_103 : decode cX4_takeGoer 103 = .ok (.iastore, 1) := by decide +kernel
theorem dX4_takeGoer_104 : decode cX4_takeGoer 104 = .ok (.aload_n 1, 1) := by decide +kernel
theorem dX4_takeGoer_105 : decode cX4_takeGoer 105 = .ok (.getfield 89, 3) := by decide +kernel
theorem dX4_takeGoer_108 : decode cX4_takeGoer 108 = .ok (.iload_n 2, 1) := by decide +kernel
theorem dX4_takeGoer_109 : decode cX4_takeGoer 109 = .ok (.aload_n 0, 1) := by decide +kernel
theorem dX4_takeGoer_110 : decode cX4_takeGoer 110 = .ok (.getfield 11, 3) := by decide +kernel
theorem dX4_takeGoer_113 : decode cX4_takeGoer 113 = .ok (.iconst 2, 1) := by decide +kernel
theorem dX4_takeGoer_114 : decode cX4_takeGoer 114 = .ok (.iaload, 1) := by decide +kernel
theorem dX4_takeGoer_115 : decode cX4_takeGoer 115 = .ok (.iastore, 1) := by decide +kernel
theorem dX4_takeGoer_116 : decode cX4_takeGoer 116 = .ok (.aload_n 1, 1) := by decide +kernel
theorem dX4_takeGoer_117 : decode cX4_takeGoer 117 = .ok (.getfield 92, 3) := by decide +kernel
theorem dX4_takeGoer_120 : decode cX4_takeGoer 120 = .ok (.iload_n 2, 1) := by decide +kernel
theorem dX4_takeGoer_121 : decode cX4_takeGoer 121 = .ok (.aload_n 0, 1) := by decide +kernel
theorem dX4_takeGoer_122 : decode cX4_takeGoer 122 = .ok (.getfield 11, 3) := by decide +kernel
theorem dX4_takeGoer_125 : decode cX4_takeGoer 125 = .ok (.iconst 3, 1) := by decide +kernel
theorem dX4_takeGoer_126 : decode cX4_takeGoer 126 = .ok (.iaload, 1) := by decide +kernel
theorem dX4_takeGoer_127 : decode cX4_takeGoer 127 = .ok (.iastore, 1) := by decide +kernel
theorem dX4_takeGoer_128 : decode cX4_takeGoer 128 = .ok (.aload_n 1, 1) := by decide +kernel
theorem dX4_takeGoer_129 : decode cX4_takeGoer 129 = .ok (.getfield 95, 3) := by decide +kernel
theorem dX4_takeGoer_132 : decode cX4_takeGoer 132 = .ok (.iload_n 2, 1) := by decide +kernel
theorem dX4_takeGoer_133 : decode cX4_takeGoer 133 = .ok (.aload_n 0, 1) := by decide +kernel
theorem dX4_takeGoer_134 : decode cX4_takeGoer 134 = .ok (.getfield 11, 3) := by decide +kernel
theorem dX4_takeGoer_137 : decode cX4_takeGoer 137 = .ok (.iconst 4, 1) := by decide +kernel
theorem dX4_takeGoer_138 : decode cX4_takeGoer 138 = .ok (.iaload, 1) := by decide +kernel
theorem dX4_takeGoer_139 : decode cX4_takeGoer 139 = .ok (.iastore, 1) := by decide +kernel
theorem dX4_takeGoer_140 : decode cX4_takeGoer 140 = .ok (.aload_n 1, 1) := by decide +kernel
theorem dX4_takeGoer_141 : decode cX4_takeGoer 141 = .ok (.getfield 98, 3) := by decide +kernel
theorem dX4_takeGoer_144 : decode cX4_takeGoer 144 = .ok (.iload_n 2, 1) := by decide +kernel
theorem dX4_takeGoer_145 : decode cX4_takeGoer 145 = .ok (.aload_n 0, 1) := by decide +kernel
theorem dX4_takeGoer_146 : decode cX4_takeGoer 146 = .ok (.getfield 11, 3) := by decide +kernel
theorem dX4_takeGoer_149 : decode cX4_takeGoer 149 = .ok (.iconst 4, 1) := by decide +kernel
theorem dX4_takeGoer_150 : decode cX4_takeGoer 150 = .ok (.iaload, 1) := by decide +kernel
theorem dX4_takeGoer_151 : decode cX4_takeGoer 151 = .ok (.iconst 1, 1) := by decide +kernel
theorem dX4_takeGoer_152 : decode cX4_takeGoer 152 = .ok (.if_icmp .ne 14, 3) := by decide +kernel
theorem dX4_takeGoer_155 : decode cX4_takeGoer 155 = .ok (.iconst 2, 1) := by decide +kernel
theorem dX4_takeGoer_156 : decode cX4_takeGoer 156 = .ok (.aload_n 0, 1) := by decide +kernel
theorem dX4_takeGoer_157 : decode cX4_takeGoer 157 = .ok (.getfield 11, 3) := by decide +kernel
theorem dX4_takeGoer_160 : decode cX4_takeGoer 160 = .ok (.iconst 2, 1) := by decide +kernel
theorem dX4_takeGoer_161 : decode cX4_takeGoer 161 = .ok (.iaload, 1) := by decide +kernel
theorem dX4_takeGoer_162 : decode cX4_takeGoer 162 = .ok (.imul, 1) := by decide +kernel
theorem dX4_takeGoer_163 : decode cX4_takeGoer 163 = .ok (.goto 9, 3) := by decide +kernel
theorem dX4_takeGoer_166 : decode cX4_takeGoer 166 = .ok (.aload_n 0, 1) := by decide +kernel
theorem dX4_takeGoer_167 : decode cX4_takeGoer 167 = .ok (.getfield 11, 3) := by decide +kernel
theorem dX4_takeGoer_170 : decode cX4_takeGoer 170 = .ok (.iconst 2, 1) := by decide +kernel
theorem dX4_takeGoer_171 : decode cX4_takeGoer 171 = .ok (.iaload, 1) := by decide +kernel
theorem dX4_takeGoer_172 : decode cX4_takeGoer 172 = .ok (.iastore, 1) := by decide +kernel
theorem dX4_takeGoer_173 : decode cX4_takeGoer 173 = .ok (.aload_n 1, 1) := by decide +kernel
theorem dX4_takeGoer_174 : decode cX4_takeGoer 174 = .ok (.dup, 1) := by decide +kernel
theorem dX4_takeGoer_175 : decode cX4_takeGoer 175 = .ok (.getfield 80, 3) := by decide +kernel
theorem dX4_takeGoer_178 : decode cX4_takeGoer 178 = .ok (.iconst 1, 1) := by decide +kernel
theorem dX4_takeGoer_179 : decode cX4_takeGoer 179 = .ok (.iadd, 1) := by decide +kernel
theorem dX4_takeGoer_180 : decode cX4_takeGoer 180 = .ok (.putfield 80, 3) := by decide +kernel
theorem dX4_takeGoer_183 : decode cX4_takeGoer 183 = .ok (.iconst 1, 1) := by decide +kernel
theorem dX4_takeGoer_184 : decode cX4_takeGoer 184 = .ok (.ireturn, 1) := by decide +kernel
theorem dX4_areTwoIslands_0 : decode cX4_areTwoIslands 0 = .ok (.aload_n 0, 1) := by decide +kernel
theorem dX4_areTwoIslands_1 : decode cX4_areTwoIslands 1 = .ok (.getfield 11, 3) := by decide +kernel
theorem dX4_areTwoIslands_4 : decode cX4_areTwoIslands 4 = .ok (.iconst 0, 1) := by decide +kernel
theorem dX4_areTwoIslands_5 : decode cX4_areTwoIslands 5 = .ok (.iaload, 1) := by decide +kernel
theorem dX4_areTwoIslands_6 : decode cX4_areTwoIslands 6 = .ok (.aload_n 1, 1) := by decide +kernel
theorem dX4_areTwoIslands_7 : decode cX4_areTwoIslands 7 = .ok (.getfield 56, 3) := by decide +kernel
theorem dX4_areTwoIslands_10 : decode cX4_areTwoIslands 10 = .ok (.if_icmp .ge 35, 3) := by decide +kernel
theorem dX4_areTwoIslands_13 : decode cX4_areTwoIslands 13 = .ok (.aload_n 0, 1) := by decide +kernel
theorem dX4_areTwoIslands_14 : decode cX4_areTwoIslands 14 = .ok (.getfield 11, 3) := by decide +kernel
theorem dX4_areTwoIslands_17 : decode cX4_areTwoIslands 17 = .ok (.iconst 1, 1) := by decide +kernel
theorem dX4_areTwoIslands_18 : decode cX4_areTwoIslands 18 = .ok (.iaload, 1) := by decide +kernel
theorem dX4_areTwoIslands_19 : decode cX4_areTwoIslands 19 = .ok (.aload_n 1, 1) := by decide +kernel
theorem dX4_areTwoIslands_20 : decode cX4_areTwoIslands 20 = .ok (.getfield 56, 3) := by decide +kernel
theorem dX4_areTwoIslands_23 : decode cX4_areTwoIslands 23 = .ok (.if_icmp .ge 22, 3) := by decide +kernel
theorem dX4_areTwoIslands_26 : decode cX4_areTwoIslands 26 = .ok (.aload_n 0, 1) := by decide +kernel
theorem dX4_areTwoIslands_27 : decode cX4_areTwoIslands 27 = .ok (.getfield 11, 3) := by decide +kernel
theorem dX4_areTwoIslands_30 : decode cX4_areTwoIslands 30 = .ok (.iconst 0, 1) := by decide +kernel
theorem dX4_areTwoIslands_31 : decode cX4_areTwoIslands 31 = .ok (.iaload, 1) := by decide +kernel
theorem dX4_areTwoIslands_32 : decode cX4_areTwoIslands 32 = .ok (.aload_n 0, 1) := by decide +kernel
theorem dX4_areTwoIslands_33 : decode cX4_areTwoIslands 33 = .ok (.getfield 11, 3) := by decide +kernel
theorem dX4_areTwoIslands_36 : decode cX4_areTwoIslands 36 = .ok (.iconst 1, 1) := by decide +kernel
theorem dX4_areTwoIslands_37 : decode cX4_areTwoIslands 37 = .ok (.iaload, 1) := by decide +kernel
theorem dX4_areTwoIslands_38 : decode cX4_areTwoIslands 38 = .ok (.if_icmp .eq 7, 3) := by decide +kernel
theorem dX4_areTwoIslands_41 : decode cX4_areTwoIslands 41 = .ok (.iconst 1, 1) := by decide +kernel
theorem dX4_areTwoIslands_42 : decode cX4_areTwoIslands 42 = .ok (.goto 4, 3) := by decide +kernel
theorem dX4_areTwoIslands_45 : decode cX4_areTwoIslands 45 = .ok (.iconst 0, 1) := by decide +kernel
theorem dX4_areTwoIslands_46 : decode cX4_areTwoIslands 46 = .ok (.ireturn, 1) := by decide +kernel
theorem dX5_init_0 : decode cX5_init 0 = .ok (.aload_n 0, 1) := by decide +kernel
theorem dX5_init_1 : decode cX5_init 1 = .ok (.invokespecial 3, 3) := by decide +kernel
theorem dX5_init_4 : decode cX5_init 4 = .ok (.aload_n 0, 1) := by decide +kernel
theorem dX5_init_5 : decode cX5_init 5 = .ok (.bipush 9, 2) := by decide +kernel
theorem dX5_init_7 : decode cX5_init 7 = .ok (.newarray .int, 2) := by decide +kernel
theorem dX5_init_9 : decode cX5_init 9 = .ok (.putfield 9, 3) := by decide +kernel
theorem dX5_init_12 : decode cX5_init 12 = .ok (.aload_n 0, 1) := by decide +kernel
theorem dX5_init_13 : decode cX5_init 13 = .ok (.bipush 9, 2) := by decide +kernel
theorem dX5_init_15 : decode cX5_init 15 = .ok (.newarray .int, 2) := by decide +kernel
theorem dX5_init_17 : decode cX5_init 17 = .ok (.putfield 15, 3) := by decide +kernel
theorem dX5_init_20 : decode cX5_init 20 = .ok (.aload_n 0, 1) := by decide +kernel
theorem dX5_init_21 : decode cX5_init 21 = .ok (.bipush 81, 2) := by decide +kernel
theorem dX5_init_23 : decode cX5_init 23 = .ok (.newarray .int, 2) := by decide +kernel
theorem dX5_init_25 : decode cX5_init 25 = .ok (.putfield 18, 3) := by decide +kernel
theorem dX5_init_28 : decode cX5_init 28 = .ok (.aload_n 0, 1) := by decide +kernel
theorem dX5_init_29 : decode cX5_init 29 = .ok (.bipush 81, 2) := by decide +kernel
theorem dX5_init_31 : decode cX5_init 31 = .ok (.newarray .int, 2) := by decide +kernel
theorem dX5_init_33 : decode cX5_init 33 = .ok (.putfield 21, 3) := by decide +kernel
theorem dX5_init_36 : decode cX5_init 36 = .ok (.aload_n 0, 1) := by decide +kernel
theorem dX5_init_37 : decode cX5_init 37 = .ok (.iconst 5, 1) := by decide +kernel
theorem dX5_init_38 : decode cX5_init 38 = .ok (.newarray .int, 2) := by decide +kernel
theorem dX5_init_40 : decode cX5_init 40 = .ok (.putfield 24, 3) := by decide +kernel
theorem dX5_init_43 : decode cX5_init 43 = .ok (.aload_n 0, 1) := by decide +kernel
theorem dX5_init_44 : decode cX5_init 44 = .ok (.iconst 5, 1) := by decide +kernel
theorem dX5_init_45 : decode cX5_init 45 = .ok (.newarray .int, 2) := by decide +kernel
theorem dX5_init_47 : decode cX5_init 47 = .ok (.putfield 27, 3) := by decide +kernel
theorem dX5_init_50 : decode cX5_init 50 = .ok (.return_, 1) := by decide +kernel
theorem dX5_start_0 : decode cX5_start 0 = .ok (.aload_n 0, 1) := by decide +kernel
theorem dX5_start_1 : decode cX5_start 1 = .ok (.iconst 0, 1) := by decide +kernel
theorem dX5_start_2 : decode cX5_start 2 = .ok (.putfield 30, 3) := by decide +kernel
theorem dX5_start_5 : decode cX5_start 5 = .ok (.aload_n 0, 1) := by decide +kernel
theorem dX5_start_6 : decode cX5_start 6 = .ok (.iconst 0, 1) := by decide +kernel
theorem dX5_start_7 : decode cX5_start 7 = .ok (.putfield 34, 3) := by decide +kernel
theorem dX5_start_10 : decode cX5_start 10 = .ok (.iconst 0, 1) := by decide +kernel
theorem dX5_start_11 : decode cX5_start 11 = .ok (.istore_n 2, 1) := by decide +kernel
theorem dX5_start_12 : decode cX5_start 12 = .ok (.iload_n 2, 1) := by decide +kernel
theorem dX5_start_13 : decode cX5_start 13 = .ok (.bipush 9, 2) := by decide +kernel
theorem dX5_start_15 : decode cX5_start 15 = .ok (.if_icmp .ge 63, 3) := by decide +kernel
theorem dX5_start_18 : decode cX5_start 18 = .ok (.aload_n 0, 1) := by decide +kernel
theorem dX5_start_19 : decode cX5_start 19 = .ok (.getfield 9, 3) := by decide +kernel
theorem dX5_start_22 : decode cX5_start 22 = .ok (.iload_n 2, 1) := by decide +kernel
theorem dX5_start_23 : decode cX5_start 23 = .ok (.iconst 0, 1) := by decide +kernel
theorem dX5_start_24 : decode cX5_start 24 = .ok (.iastore, 1) := by decide +kernel
theorem dX5_start_25 : decode cX5_start 25 = .ok (.aload_n 0, 1) := by decide +kernel
theorem dX5_start_26 : decode cX5_start 26 = .ok (.getfield 15, 3) := by decide +kernel
theorem dX5_start_29 : decode cX5_start 29 = .ok (.iload_n 2, 1) := by decide +kernel
theorem dX5_start_30 : decode cX5_start 30 = .ok (.iconst 0, 1) := by decide +kernel
theorem dX5_start_31 : decode cX5_start 31 = .ok (.iastore, 1) := by decide +kernel
theorem dX5_start_32 : decode cX5_start 32 = .ok (.bipush (-9), 2) := by decide +kernel
theorem dX5_start_34 : decode cX5_start 34 = .ok (.istore_n 3, 1) := by decide +kernel
theorem dX5_start_35 : decode cX5_start 35 = .ok (.iload_n 3, 1) := by decide +kernel
theorem dX5_start_36 : decode cX5_start 36 = .ok (.ifCond .ge 36, 3) := by decide +kernel
theorem dX5_start_39 : decode cX5_start 39 = .ok (.aload_n 0, 1) := by decide +kernel
theorem dX5_start_40 : decode cX5_start 40 = .ok (.getfield 18, 3) := by decide +kernel
theorem dX5_start_43 : decode cX5_start 43 = .ok (.iload_n 2, 1) := by decide +kernel
theorem dX5_start_44 : decode cX5_start 44 = .ok (.iload_n 3, 1) := by decide +kernel
theorem dX5_start_45 : decode cX5_start 45 = .ok (.invokestatic 37, 3) := by decide +kernel
theorem dX5_start_48 : decode cX5_start 48 = .ok (.aload_n 1, 1) := by decide +kernel
theorem dX5_start_49 : decode cX5_start 49 = .ok (.getfield 41, 3) := by decide +kernel
theorem dX5_start_52 : decode cX5_start 52 = .ok (.iload_n 2, 1) := by decide +kernel
theorem dX5_start_53 : decode cX5_start 53 = .ok (.iaload, 1) := by decide +kernel
theorem dX5_start_54 : decode cX5_start 54 = .ok (.iastore, 1) := by decide +kernel
theorem dX5_start_55 : decode cX5_start 55 = .ok (.aload_n 0, 1) := by decide +kernel
theorem dX5_start_56 : decode cX5_start 56 = .ok (.getfield 21, 3) := by decide +kernel
theorem dX5_start_59 : decode cX5_start 59 = .ok (.iload_n 2, 1) := by decide +kernel
theorem dX5_start_60 : decode cX5_start 60 = .ok (.iload_n 3, 1) := by decide +kernel
theorem dX5_start_61 : decode cX5_start 61 = .ok (.invokestatic 37, 3) := by decide +kernel
theorem dX5_start_64 : decode cX5_start 64 = .ok (.iconst 0, 1) := by decide +kernel
theorem dX5_start_65 : decode cX5_start 65 = .ok (.iastore, 1) := by decide +kernel
theorem dX5_start_66 : decode cX5_start 66 = .ok (.iinc 3 1, 3) := by decide +kernel
theorem dX5_start_69 : decode cX5_start 69 = .ok (.goto (-34), 3) := by decide +kernel
theorem dX5_start_72 : decode cX5_start 72 = .ok (.iinc 2 1, 3) := by decide +kernel
theorem dX5_start_75 : decode cX5_start 75 = .ok (.goto (-63), 3) := by decide +kernel
theorem dX5_start_78 : decode cX5_start 78 = .ok (.iconst 0, 1) := by decide +kernel
theorem dX5_start_79 : decode cX5_start 79 = .ok (.istore_n 2, 1) := by decide +kernel
theorem dX5_start_80 : decode cX5_start 80 = .ok (.iload_n 2, 1) := by decide +kernel
theorem dX5_start_81 : decode cX5_start 81 = .ok (.iconst 5, 1) := by decide +kernel
theorem dX5_start_82 : decode cX5_start 82 = .ok (.if_icmp .ge 33, 3) := by decide +kernel
theorem dX5_start_85 : decode cX5_start 85 = .ok (.aload_n 0, 1) := by decide +kernel
theorem dX5_start_86 : decode cX5_start 86 = .ok (.getfield 24, 3) := by decide +kernel
theorem dX5_start_89 : decode cX5_start 89 = .ok (.iload_n 2, 1) := by decide +kernel
theorem dX5_start_90 : decode cX5_start 90 = .ok (.aload_n 1, 1) := by decide +kernel
theorem dX5_start_91 : decode cX5_start 91 = .ok (.getfield 46, 3) := by decide +kernel
theorem dX5_start_94 : decode cX5_start 94 = .ok (.iload_n 2, 1) := by decide +kernel
theorem dX5_start_95 : decode cX5_start 95 = .ok (.iaload, 1) := by decide +kernel
theorem dX5_start_96 : decode cX5_start 96 = .ok (.iastore, 1) := by decide +kernel
theorem dX5_start_97 : decode cX5_start 97 = .ok (.aload_n 0, 1) := by decide +kernel
theorem dX5_start_98 : decode cX5_start 98 = .ok (.getfield 27, 3) := by decide +kernel
theorem dX5_start_101 : decode cX5_start 101 = .ok (.iload_n 2, 1) := by decide +kernel
theorem dX5_start_102 : decode cX5_start 102 = .ok (.aload_n 1, 1) := by decide +kernel
theorem dX5_start_103 : decode cX5_start 103 = .ok (.getfield 49, 3) := by decide +kernel
theorem dX5_start_106 : decode cX5_start 106 = .ok (.iload_n 2, 1) := by decide +kernel
theorem dX5_start_107 : decode cX5_start 107 = .ok (.iaload, 1) := by decide +kernel
theorem dX5_start_108 : decode cX5_start 108 = .ok (.iastore, 1) := by decide +kernel
theorem dX5_start_109 : decode cX5_start 109 = .ok (.iinc 2 1, 3) := by decide +kernel
theorem dX5_start_112 : decode cX5_start 112 = .ok (.goto (-32), 3) := by decide +kernel
theorem dX5_start_115 : decode cX5_start 115 = .ok (.return_, 1) := by decide +kernel
theorem dX5_copy_0 : decode cX5_copy 0 = .ok (.aload_n 0, 1) := by decide +kernel
theorem dX5_copy_1 : decode cX5_copy 1 = .ok (.aload_n 1, 1) := by decide +kernel
theorem dX5_copy_2 : decode cX5_copy 2 = .ok (.getfield 30, 3) := by decide +kernel
theorem dX5_copy_5 : decode cX5_copy 5 = .ok (.putfield 30, 3) := by decide +kernel
theorem dX5_copy_8 : decode cX5_copy 8 = .ok (.aload_n 0, 1) := by decide +kernel
theorem dX5_copy_9 : decode cX5_copy 9 = .ok (.aload_n 1, 1) := by decide +kernel
theorem dX5_copy_10 : decode cX5_copy 10 = .ok (.getfield 34, 3) := by decide +kernel
theorem dX5_copy_13 : decode cX5_copy 13 = .ok (.putfield 34, 3) := by decide +kernel
theorem dX5_copy_16 : decode cX5_copy 16 = .ok (.aload_n 1, 1) := by decide +kernel
theorem dX5_copy_17 : decode cX5_copy 17 = .ok (.getfield 9, 3) := by decide +kernel
theorem dX5_copy_20 : decode cX5_copy 20 = .ok (.iconst 0, 1) := by decide +kernel
theorem dX5_copy_21 : decode cX5_copy 21 = .ok (.aload_n 0, 1) := by decide +kernel
theorem dX5_copy_22 : decode cX5_copy 22 = .ok (.getfield 9, 3) := by decide +kernel
theorem dX5_copy_25 : decode cX5_copy 25 = .ok (.iconst 0, 1) := by decide +kernel
theorem dX5_copy_26 : decode cX5_copy 26 = .ok (.aload_n 0, 1) := by decide +kernel
theorem dX5_copy_27 : decode cX5_copy 27 = .ok (.getfield 9, 3) := by decide +kernel
theorem dX5_copy_30 : decode cX5_copy 30 = .ok (.arraylength, 1) := by decide +kernel
theorem dX5_copy_31 : decode cX5_copy 31 = .ok (.invokestatic 52, 3) := by decide +kernel
theorem dX5_copy_34 : decode cX5_copy 34 = .ok (.aload_n 1, 1) := by decide +kernel
theorem dX5_copy_35 : decode cX5_copy 35 = .ok (.getfield 15, 3) := by decide +kernel
theorem dX5_copy_38 : decode cX5_copy 38 = .ok (.iconst 0, 1) := by decide +kernel
theorem dX5_copy_39 : decode cX5_copy 39 = .ok (.aload_n 0, 1) := by decide +kernel
theorem dX5_copy_40 : decode cX5_copy 40 = .ok (.getfield 15, 3) := by decide +kernel
theorem dX5_copy_43 : decode cX5_copy 43 = .ok (.iconst 0, 1) := by decide +kernel
theorem dX5_copy_44 : decode cX5_copy 44 = .ok (.aload_n 0, 1) := by decide +kernel
theorem dX5_copy_45 : decode cX5_copy 45 = .ok (.getfield 15, 3) := by decide +kernel
theorem dX5_copy_48 : decode cX5_copy 48 = .ok (.arraylength, 1) := by decide +kernel
theorem dX5_copy_49 : decode cX5_copy 49 = .ok (.invokestatic 52, 3) := by decide +kernel
theorem dX5_copy_52 : decode cX5_copy 52 = .ok (.aload_n 1, 1) := by decide +kernel
theorem dX5_copy_53 : decode cX5_copy 53 = .ok (.getfield 18, 3) := by decide +kernel
theorem dX5_copy_56 : decode cX5_copy 56 = .ok (.iconst 0, 1) := by decide +kernel
theorem dX5_copy_57 : decode cX5_copy 57 = .ok (.aload_n 0, 1) := by decide +kernel
theorem dX5_copy_58 : decode cX5_copy 58 = .ok (.getfield 18, 3) := by decide +kernel
theorem dX5_copy_61 : decode cX5_copy 61 = .ok (.iconst 0, 1) := by decide +kernel
theorem dX5_copy_62 : decode cX5_copy 62 = .ok (.aload_n 0, 1) := by decide +kernel
theorem dX5_copy_63 : decode cX5_copy 63 = .ok (.getfield 18, 3) := by decide +kernel
theorem dX5_copy_66 : decode cX5_copy 66 = .ok (.arraylength, 1) := by decide +kernel
theorem dX5_copy_67 : decode cX5_copy 67 = .ok (.invokestatic 52, 3) := by decide +kernel
theorem dX5_copy_70 : decode cX5_copy 70 = .ok (.aload_n 1, 1) := by decide +kernel
theorem dX5_copy_71 : decode cX5_copy 71 = .ok (.getfield 21, 3) := by decide +kernel
theorem dX5_copy_74 : decode cX5_copy 74 = .ok (.iconst 0, 1) := by decide +kernel
theorem dX5_copy_75 : decode cX5_copy 75 = .ok (.aload_n 0, 1) := by decide +kernel
theorem dX5_copy_76 : decode cX5_copy 76 = .ok (.getfield 21, 3) := by decide +kernel
theorem dX5_copy_79 : decode cX5_copy 79 = .ok (.iconst 0, 1) := by decide +kernel
theorem dX5_copy_80 : decode cX5_copy 80 = .ok (.aload_n 0, 1) := by decide +kernel
theorem dX5_copy_81 : decode cX5_copy 81 = .ok (.getfield 21, 3) := by decide +kernel
theorem dX5_copy_84 : decode cX5_copy 84 = .ok (.arraylength, 1) := by decide +kernel
theorem dX5_copy_85 : decode cX5_copy 85 = .ok (.invokestatic 52, 3) := by decide +kernel
theorem dX5_copy_88 : decode cX5_copy 88 = .ok (.aload_n 1, 1) := by decide +kernel
theorem dX5_copy_89 : decode cX5_copy 89 = .ok (.getfield 24, 3) := by decide +kernel
theorem dX5_copy_92 : decode cX5_copy 92 = .ok (.iconst 0, 1) := by decide +kernel
theorem dX5_copy_93 : decode cX5_copy 93 = .ok (.aload_n 0, 1) := by decide +kernel
theorem dX5_copy_94 : decode cX5_copy 94 = .ok (.getfield 24, 3) := by decide +kernel
theorem dX5_copy_97 : decode cX5_copy 97 = .ok (.iconst 0, 1) := by decide +kernel
theorem dX5_copy_98 : decode cX5_copy 98 = .ok (.aload_n 0, 1) := by decide +kernel
theorem dX5_copy_99 : decode cX5_copy 99 = .ok (.getfield 24, 3) := by decide +kernel
theorem dX5_copy_102 : decode cX5_copy 102 = .ok (.arraylength, 1) := by decide +kernel
theorem dX5_copy_103 : decode cX5_copy 103 = .ok (.invokestatic 52, 3) := by decide +kernel
theorem dX5_copy_106 : decode cX5_copy 106 = .ok (.aload_n 1, 1) := by decide +kernel
theorem dX5_copy_107 : decode cX5_copy 107 = .ok (.getfield 27, 3) := by decide +kernel
theorem dX5_copy_110 : decode cX5_copy 110 = .ok (.iconst 0, 1) := by decide +kernel
theorem dX5_copy_111 : decode cX5_copy 111 = .ok (.aload_n 0, 1) := by decide +kernel
theorem dX5_copy_112 : decode cX5_copy 112 = .ok (.getfield 27, 3) := by decide +kernel
theorem dX5_copy_115 : decode cX5_copy 115 = .ok (.iconst 0, 1) := by decide +kernel
theorem dX5_copy_116 : decode cX5_copy 116 = .ok (.aload_n 0, 1) := by decide +kernel
theorem dX5_copy_117 : decode cX5_copy 117 = .ok (.getfield 27, 3) := by decide +kernel
theorem dX5_copy_120 : decode cX5_copy 120 = .ok (.arraylength, 1) := by decide +kernel
theorem dX5_copy_121 : decode cX5_copy 121 = .ok (.invokestatic 52, 3) := by decide +kernel
theorem dX5_copy_124 : decode cX5_copy 124 = .ok (.return_, 1) := by decide +kernel
theorem dX5_endDay_0 : decode cX5_endDay 0 = .ok (.iconst 0, 1) := by decide +kernel
theorem dX5_endDay_1 : decode cX5_endDay 1 = .ok (.istore_n 1, 1) := by decide +kernel
theorem dX5_endDay_2 : decode cX5_endDay 2 = .ok (.iload_n 1, 1) := by decide +kernel
theorem dX5_endDay_3 : decode cX5_endDay 3 = .ok (.bipush 9, 2) := by decide +kernel
theorem dX5_endDay_5 : decode cX5_endDay 5 = .ok (.if_icmp .ge 61, 3) := by decide +kernel
theorem dX5_endDay_8 : decode cX5_endDay 8 = .ok (.aload_n 0, 1) := by decide +kernel
theorem dX5_endDay_9 : decode cX5_endDay 9 = .ok (.getfield 18, 3) := by decide +kernel
theorem dX5_endDay_12 : decode cX5_endDay 12 = .ok (.iload_n 1, 1) := by decide +kernel
theorem dX5_endDay_13 : decode cX5_endDay 13 = .ok (.aload_n 0, 1) := by decide +kernel
theorem dX5_endDay_14 : decode cX5_endDay 14 = .ok (.getfield 30, 3) := by decide +kernel
theorem dX5_endDay_17 : decode cX5_endDay 17 = .ok (.invokestatic 37, 3) := by decide +kernel
theorem dX5_endDay_20 : decode cX5_endDay 20 = .ok (.aload_n 0, 1) := by decide +kernel
theorem dX5_endDay_21 : decode cX5_endDay 21 = .ok (.getfield 9, 3) := by decide +kernel
theorem dX5_endDay_24 : decode cX5_endDay 24 = .ok (.iload_n 1, 1) := by decide +kernel
theorem dX5_endDay_25 : decode cX5_endDay 25 = .ok (.iaload, 1) := by decide +kernel
theorem dX5_endDay_26 : decode cX5_endDay 26 = .ok (.iastore, 1) := by decide +kernel
theorem dX5_endDay_27 : decode cX5_endDay 27 = .ok (.aload_n 0, 1) := by decide +kernel
theorem dX5_endDay_28 : decode cX5_endDay 28 = .ok (.getfield 21, 3) := by decide +kernel
theorem dX5_endDay_31 : decode cX5_endDay 31 = .ok (.iload_n 1, 1) := by decide +kernel
theorem dX5_endDay_32 : decode cX5_endDay 32 = .ok (.aload_n 0, 1) := by decide +kernel
theorem dX5_endDay_33 : decode cX5_endDay 33 = .ok (.getfield 30, 3) := by decide +kernel
theorem dX5_endDay_36 : decode cX5_endDay 36 = .ok (.invokestatic 37, 3) := by decide +kernel
theorem dX5_endDay_39 : decode cX5_endDay 39 = .ok (.aload_n 0, 1) := by decide +kernel
theorem dX5_endDay_40 : decode cX5_endDay 40 = .ok (.getfield 15, 3) := by decide +kernel
theorem dX5_endDay_43 : decode cX5_endDay 43 = .ok (.iload_n 1, 1) := by decide +kernel
theorem dX5_endDay_44 : decode cX5_endDay 44 = .ok (.iaload, 1) := by decide +kernel
theorem dX5_endDay_45 : decode cX5_endDay 45 = .ok (.iastore, 1) := by decide +kernel
theorem dX5_endDay_46 : decode cX5_endDay 46 = .ok (.aload_n 0, 1) := by decide +kernel
theorem dX5_endDay_47 : decode cX5_endDay 47 = .ok (.getfield 9, 3) := by decide +kernel
theorem dX5_endDay_50 : decode cX5_endDay 50 = .ok (.iload_n 1, 1) := by decide +kernel
theorem dX5_endDay_51 : decode cX5_endDay 51 = .ok (.iconst 0, 1) := by decide +kernel
theorem dX5_endDay_52 : decode cX5_endDay 52 = .ok (.iastore, 1) := by decide +kernel
theorem dX5_endDay_53 : decode cX5_endDay 53 = .ok (.aload_n 0, 1) := by decide +kernel
theorem dX5_endDay_54 : decode cX5_endDay 54 = .ok (.getfield 15, 3) := by decide +kernel
theorem dX5_endDay_57 : decode cX5_endDay 57 = .ok (.iload_n 1, 1) := by decide +kernel
theorem dX5_endDay_58 : decode cX5_endDay 58 = .ok (.iconst 0, 1) := by decide +kernel
theorem dX5_endDay_59 : decode cX5_endDay 59 = .ok (.iastore, 1) := by decide +kernel
theorem dX5_endDay_60 : decode cX5_endDay 60 = .ok (.iinc 1 1, 3) := by decide +kernel
theorem dX5_endDay_63 : decode cX5_endDay 63 = .ok (.goto (-61), 3) := by decide +kernel
theorem dX5_endDay_66 : decode cX5_endDay 66 = .ok (.aload_n 0, 1) := by decide +kernel
theorem dX5_endDay_67 : decode cX5_endDay 67 = .ok (.dup, 1) := by decide +kernel
theorem dX5_endDay_68 : decode cX5_endDay 68 = .ok (.getfield 30, 3) := by decide +kernel
theorem dX5_endDay_71 : decode cX5_endDay 71 = .ok (.iconst 1, 1) := by decide +kernel
theorem dX5_endDay_72 : decode cX5_endDay 72 = .ok (.iadd, 1) := by decide +kernel
theorem dX5_endDay_73 : decode cX5_endDay 73 = .ok (.putfield 30, 3) := by decide +kernel
theorem dX5_endDay_76 : decode cX5_endDay 76 = .ok (.return_, 1) := by decide +kernel
theorem dX5_fallen_0 : decode cX5_fallen 0 = .ok (.iconst 0, 1) := by decide +kernel
theorem dX5_fallen_1 : decode cX5_fallen 1 = .ok (.istore_n 2, 1) := by decide +kernel
theorem dX5_fallen_2 : decode cX5_fallen 2 = .ok (.iconst 0, 1) := by decide +kernel
theorem dX5_fallen_3 : decode cX5_fallen 3 = .ok (.istore_n 3, 1) := by decide +kernel
theorem dX5_fallen_4 : decode cX5_fallen 4 = .ok (.iload_n 3, 1) := by decide +kernel
theorem dX5_fallen_5 : decode cX5_fallen 5 = .ok (.iload_n 1, 1) := by decide +kernel
theorem dX5_fallen_6 : decode cX5_fallen 6 = .ok (.if_icmp .ge 28, 3) := by decide +kernel
theorem dX5_fallen_9 : decode cX5_fallen 9 = .ok (.iload_n 3, 1) := by decide +kernel
theorem dX5_fallen_10 : decode cX5_fallen 10 = .ok (.iconst 5, 1) := by decide +kernel
theorem dX5_fallen_11 : decode cX5_fallen 11 = .ok (.if_icmp .ge 23, 3) := by decide +kernel
theorem dX5_fallen_14 : decode cX5_fallen 14 = .ok (.aload_n 0, 1) := by decide +kernel
theorem dX5_fallen_15 : decode cX5_fallen 15 = .ok (.getfield 24, 3) := by decide +kernel
theorem dX5_fallen_18 : decode cX5_fallen 18 = .ok (.iload_n 3, 1) := by decide +kernel
theorem dX5_fallen_19 : decode cX5_fallen 19 = .ok (.iaload, 1) := by decide +kernel
theorem dX5_fallen_20 : decode cX5_fallen 20 = .ok (.bipush (-4), 2) := by decide +kernel
theorem dX5_fallen_22 : decode cX5_fallen 22 = .ok (.if_icmp .ne 6, 3) := by decide +kernel
theorem dX5_fallen_25 : decode cX5_fallen 25 = .ok (.iinc 2 1, 3) := by decide +kernel
theorem dX5_fallen_28 : decode cX5_fallen 28 = .ok (.iinc 3 1, 3) := by decide +kernel
theorem dX5_fallen_31 : decode cX5_fallen 31 = .ok (.goto (-27), 3) := by decide +kernel
theorem dX5_fallen_34 : decode cX5_fallen 34 = .ok (.iload_n 2, 1) := by decide +kernel
theorem dX5_fallen_35 : decode cX5_fallen 35 = .ok (.ireturn, 1) := by decide +kernel
theorem dX5_slot_0 : decode cX5_slot 0 = .ok (.iload_n 0, 1) := by decide +kernel
theorem dX5_slot_1 : decode cX5_slot 1 = .ok (.bipush 9, 2) := by decide +kernel
theorem dX5_slot_3 : decode cX5_slot 3 = .ok (.imul, 1) := by decide +kernel
theorem dX5_slot_4 : decode cX5_slot 4 = .ok (.iload_n 1, 1) := by decide +kernel
theorem dX5_slot_5 : decode cX5_slot 5 = .ok (.bipush 9, 2) := by decide +kernel
theorem dX5_slot_7 : decode cX5_slot 7 = .ok (.invokestatic 58, 3) := by decide +kernel
theorem dX5_slot_10 : decode cX5_slot 10 = .ok (.iadd, 1) := by decide +kernel
theorem dX5_slot_11 : decode cX5_slot 11 = .ok (.ireturn, 1) := by decide +kernel
theorem dX6_init_0 : decode cX6_init 0 = .ok (.aload_n 0, 1) := by decide +kernel
theorem dX6_init_1 : decode cX6_init 1 = .ok (.invokespecial 3, 3) := by decide +kernel
theorem dX6_init_4 : decode cX6_init 4 = .ok (.aload_n 0, 1) := by decide +kernel
theorem dX6_init_5 : decode cX6_init 5 = .ok (.bipush 8, 2) := by decide +kernel
theorem dX6_init_7 : decode cX6_init 7 = .ok (.newarray .int, 2) := by decide +kernel
theorem dX6_init_9 : decode cX6_init 9 = .ok (.putfield 9, 3) := by decide +kernel
theorem dX6_init_12 : decode cX6_init 12 = .ok (.aload_n 0, 1) := by decide +kernel
theorem dX6_init_13 : decode cX6_init 13 = .ok (.bipush 8, 2) := by decide +kernel
theorem dX6_init_15 : decode cX6_init 15 = .ok (.newarray .int, 2) := by decide +kernel
theorem dX6_init_17 : decode cX6_init 17 = .ok (.putfield 15, 3) := by decide +kernel
theorem dX6_init_20 : decode cX6_init 20 = .ok (.return_, 1) := by decide +kernel
theorem dX6_seek_0 : decode cX6_seek 0 = .ok (.aload_n 0, 1) := by decide +kernel
theorem dX6_seek_1 : decode cX6_seek 1 = .ok (.bipush (-4), 2) := by decide +kernel
theorem dX6_seek_3 : decode cX6_seek 3 = .ok (.putfield 18, 3) := by decide +kernel
theorem dX6_seek_6 : decode cX6_seek 6 = .ok (.aload_n 0, 1) := by decide +kernel
theorem dX6_seek_7 : decode cX6_seek 7 = .ok (.bipush (-4), 2) := by decide +kernel
theorem dX6_seek_9 : decode cX6_seek 9 = .ok (.putfield 22, 3) := by decide +kernel
theorem dX6_seek_12 : decode cX6_seek 12 = .ok (.iconst 0, 1) := by decide +kernel
theorem dX6_seek_13 : decode cX6_seek 13 = .ok (.istore 5, 2) := by decide +kernel
theorem dX6_seek_15 : decode cX6_seek 15 = .ok (.iload 5, 2) := by decide +kernel
theorem dX6_seek_17 : decode cX6_seek 17 = .ok (.bipush 8, 2) := by decide +kernel
theorem dX6_seek_19 : decode cX6_seek 19 = .ok (.if_icmp .ge 28, 3) := by decide +kernel
theorem dX6_seek_22 : decode cX6_seek 22 = .ok (.aload_n 0, 1) := by decide +kernel
theorem dX6_seek_23 : decode cX6_seek 23 = .ok (.getfield 9, 3) := by decide +kernel
theorem dX6_seek_26 : decode cX6_seek 26 = .ok (.iload 5, 2) := by decide +kernel
theorem dX6_seek_28 : decode cX6_seek 28 = .ok (.iload 5, 2) := by decide +kernel
theorem dX6_seek_30 : decode cX6_seek 30 = .ok (.iload_n 2, 1) := by decide +kernel
theorem dX6_seek_31 : decode cX6_seek 31 = .ok (.if_icmp .ne 7, 3) := by decide +kernel
theorem dX6_seek_34 : decode cX6_seek 34 = .ok (.iconst 0, 1) := by decide +kernel
theorem dX6_seek_35 : decode cX6_seek 35 = .ok (.goto 5, 3) := by decide +kernel
theorem dX6_seek_38 : decode cX6_seek 38 = .ok (.ldc 25, 2) := by decide +kernel
theorem dX6_seek_40 : decode cX6_seek 40 = .ok (.iastore, 1) := by decide +kernel
theorem dX6_seek_41 : decode cX6_seek 41 = .ok (.iinc 5 1, 3) := by decide +kernel
theorem dX6_seek_44 : decode cX6_seek 44 = .ok (.goto (-29), 3) := by decide +kernel
theorem dX6_seek_47 : decode cX6_seek 47 = .ok (.iconst 1, 1) := by decide +kernel
theorem dX6_seek_48 : decode cX6_seek 48 = .ok (.istore 5, 2) := by decide +kernel
theorem dX6_seek_50 : decode cX6_seek 50 = .ok (.iload 5, 2) := by decide +kernel
theorem dX6_seek_52 : decode cX6_seek 52 = .ok (.bipush 8, 2) := by decide +kernel
theorem dX6_seek_54 : decode cX6_seek 54 = .ok (.if_icmp .gt 87, 3) := by decide +kernel
theorem dX6_seek_57 : decode cX6_seek 57 = .ok (.aload_n 1, 1) := by decide +kernel
theorem dX6_seek_58 : decode cX6_seek 58 = .ok (.invokevirtual 26, 3) := by decide +kernel
theorem dX6_seek_61 : decode cX6_seek 61 = .ok (.aload_n 1, 1) := by decide +kernel
theorem dX6_seek_62 : decode cX6_seek 62 = .ok (.aload_n 1, 1) := by decide +kernel
theorem dX6_seek_63 : decode cX6_seek 63 = .ok (.getfield 31, 3) := by decide +kernel
theorem dX6_seek_66 : decode cX6_seek 66 = .ok (.getfield 35, 3) := by decide +kernel
theorem dX6_seek_69 : decode cX6_seek 69 = .ok (.iconst 1, 1) := by decide +kernel
theorem dX6_seek_70 : decode cX6_seek 70 = .ok (.isub, 1) := by decide +kernel
theorem dX6_seek_71 : decode cX6_seek 71 = .ok (.aload_n 1, 1) := by decide +kernel
theorem dX6_seek_72 : decode cX6_seek 72 = .ok (.getfield 40, 3) := by decide +kernel
theorem dX6_seek_75 : decode cX6_seek 75 = .ok (.iadd, 1) := by decide +kernel
theorem dX6_seek_76 : decode cX6_seek 76 = .ok (.invokevirtual 43, 3) := by decide +kernel
theorem dX6_seek_79 : decode cX6_seek 79 = .ok (.aload_n 0, 1) := by decide +kernel
theorem dX6_seek_80 : decode cX6_seek 80 = .ok (.aload_n 1, 1) := by decide +kernel
theorem dX6_seek_81 : decode cX6_seek 81 = .ok (.iload 4, 2) := by decide +kernel
theorem dX6_seek_83 : decode cX6_seek 83 = .ok (.invokevirtual 47, 3) := by decide +kernel
theorem dX6_seek_86 : decode cX6_seek 86 = .ok (.aload_n 0, 1) := by decide +kernel
theorem dX6_seek_87 : decode cX6_seek 87 = .ok (.getfield 9, 3) := by decide +kernel
theorem dX6_seek_90 : decode cX6_seek 90 = .ok (.iload_n 3, 1) := by decide +kernel
theorem dX6_seek_91 : decode cX6_seek 91 = .ok (.iaload, 1) := by decide +kernel
theorem dX6_seek_92 : decode cX6_seek 92 = .ok (.ldc 25, 2) := by decide +kernel
theorem dX6_seek_94 : decode cX6_seek 94 = .ok (.if_icmp .ge 41, 3) := by decide +kernel
theorem dX6_seek_97 : decode cX6_seek 97 = .ok (.aload_n 0, 1) := by decide +kernel
theorem dX6_seek_98 : decode cX6_seek 98 = .ok (.getfield 18, 3) := by decide +kernel
theorem dX6_seek_101 : decode cX6_seek 101 = .ok (.bipush (-4), 2) := by decide +kernel
theorem dX6_seek_103 : decode cX6_seek 103 = .ok (.if_icmp .eq 16, 3) := by decide +kernel
theorem dX6_seek_106 : decode cX6_seek 106 = .ok (.aload_n 0, 1) := by decide +kernel
theorem dX6_seek_107 : decode cX6_seek 107 = .ok (.getfield 9, 3) := by decide +kernel
theorem dX6_seek_110 : decode cX6_seek 110 = .ok (.iload_n 3, 1) := by decide +kernel
theorem dX6_seek_111 : decode cX6_seek 111 = .ok (.iaload, 1) := by decide +kernel
theorem dX6_seek_112 : decode cX6_seek 112 = .ok (.aload_n 0, 1) := by decide +kernel
theorem dX6_seek_113 : decode cX6_seek 113 = .ok (.getfield 18, 3) := by decide +kernel
theorem dX6_seek_116 : decode cX6_seek 116 = .ok (.if_icmp .ge 19, 3) := by decide +kernel
theorem dX6_seek_119 : decode cX6_seek 119 = .ok (.aload_n 0, 1) := by decide +kernel
theorem dX6_seek_120 : decode cX6_seek 120 = .ok (.aload_n 0, 1) := by decide +kernel
theorem dX6_seek_121 : decode cX6_seek 121 = .ok (.getfield 9, 3) := by decide +kernel
theorem dX6_seek_124 : decode cX6_seek 124 = .ok (.iload_n 3, 1) := by decide +kernel
theorem dX6_seek_125 : decode cX6_seek 125 = .ok (.iaload, 1) := by decide +kernel
theorem dX6_seek_126 : decode cX6_seek 126 = .ok (.putfield 18, 3) := by decide +kernel
theorem dX6_seek_129 : decode cX6_seek 129 = .ok (.aload_n 0, 1) := by decide +kernel
theorem dX6_seek_130 : decode cX6_seek 130 = .ok (.iload 5, 2) := by decide +kernel
theorem dX6_seek_132 : decode cX6_seek 132 = .ok (.putfield 22, 3) := by decide +kernel
theorem dX6_seek_135 : decode cX6_seek 135 = .ok (.iinc 5 1, 3) := by decide +kernel
theorem dX6_seek_138 : decode cX6_seek 138 = .ok (.goto (-88), 3) := by decide +kernel
theorem dX6_seek_141 : decode cX6_seek 141 = .ok (.return_, 1) := by decide +kernel
theorem dX6_goOn_0 : decode cX6_goOn 0 = .ok (.iconst 0, 1) := by decide +kernel
theorem dX6_goOn_1 : decode cX6_goOn 1 = .ok (.istore_n 3, 1) := by decide +kernel
theorem dX6_goOn_2 : decode cX6_goOn 2 = .ok (.iload_n 3, 1) := by decide +kernel
theorem dX6_goOn_3 : decode cX6_goOn 3 = .ok (.bipush 8, 2) := by decide +kernel
theorem dX6_goOn_5 : decode cX6_goOn 5 = .ok (.if_icmp .ge 17, 3) := by decide +kernel
theorem dX6_goOn_8 : decode cX6_goOn 8 = .ok (.aload_n 0, 1) := by decide +kernel
theorem dX6_goOn_9 : decode cX6_goOn 9 = .ok (.getfield 15, 3) := by decide +kernel
theorem dX6_goOn_12 : decode cX6_goOn 12 = .ok (.iload_n 3, 1) := by decide +kernel
theorem dX6_goOn_13 : decode cX6_goOn 13 = .ok (.ldc 25, 2) := by decide +kernel
theorem dX6_goOn_15 : decode cX6_goOn 15 = .ok (.iastore, 1) := by decide +kernel
theorem dX6_goOn_16 : decode cX6_goOn 16 = .ok (.iinc 3 1, 3) := by decide +kernel
theorem dX6_goOn_19 : decode cX6_goOn 19 = .ok (.goto (-17), 3) := by decide +kernel
theorem dX6_goOn_22 : decode cX6_goOn 22 = .ok (.aload_n 1, 1) := by decide +kernel
theorem dX6_goOn_23 : decode cX6_goOn 23 = .ok (.getfield 51, 3) := by decide +kernel
theorem dX6_goOn_26 : decode cX6_goOn 26 = .ok (.astore_n 3, 1) := by decide +kernel
theorem dX6_goOn_27 : decode cX6_goOn 27 = .ok (.iconst 0, 1) := by decide +kernel
theorem dX6_goOn_28 : decode cX6_goOn 28 = .ok (.istore 4, 2) := by decide +kernel
theorem dX6_goOn_30 : decode cX6_goOn 30 = .ok (.iload 4, 2) := by decide +kernel
theorem dX6_goOn_32 : decode cX6_goOn 32 = .ok (.aload_n 3, 1) := by decide +kernel
theorem dX6_goOn_33 : decode cX6_goOn 33 = .ok (.getfield 55, 3) := by decide +kernel
theorem dX6_goOn_36 : decode cX6_goOn 36 = .ok (.if_icmp .ge 75, 3) := by decide +kernel
theorem dX6_goOn_39 : decode cX6_goOn 39 = .ok (.aload_n 1, 1) := by decide +kernel
theorem dX6_goOn_40 : decode cX6_goOn 40 = .ok (.getfield 60, 3) := by decide +kernel
theorem dX6_goOn_43 : decode cX6_goOn 43 = .ok (.iload 4, 2) := by decide +kernel
theorem dX6_goOn_45 : decode cX6_goOn 45 = .ok (.iaload, 1) := by decide +kernel
theorem dX6_goOn_46 : decode cX6_goOn 46 = .ok (.iload_n 2, 1) := by decide +kernel
theorem dX6_goOn_47 : decode cX6_goOn 47 = .ok (.if_icmp .ge 15, 3) := by decide +kernel
theorem dX6_goOn_50 : decode cX6_goOn 50 = .ok (.iload_n 2, 1) := by decide +kernel
theorem dX6_goOn_51 : decode cX6_goOn 51 = .ok (.aload_n 1, 1) := by decide +kernel
theorem dX6_goOn_52 : decode cX6_goOn 52 = .ok (.getfield 60, 3) := by decide +kernel
theorem dX6_goOn_55 : decode cX6_goOn 55 = .ok (.iload 4, 2) := by decide +kernel
theorem dX6_goOn_57 : decode cX6_goOn 57 = .ok (.iaload, 1) := by decide +kernel
theorem dX6_goOn_58 : decode cX6_goOn 58 = .ok (.isub, 1) := by decide +kernel
theorem dX6_goOn_59 : decode cX6_goOn 59 = .ok (.goto 4, 3) := by decide +kernel
theorem dX6_goOn_62 : decode cX6_goOn 62 = .ok (.iconst 0, 1) := by decide +kernel
theorem dX6_goOn_63 : decode cX6_goOn 63 = .ok (.istore 5, 2) := by decide +kernel
theorem dX6_goOn_65 : decode cX6_goOn 65 = .ok (.aload_n 0, 1) := by decide +kernel
theorem dX6_goOn_66 : decode cX6_goOn 66 = .ok (.aload_n 3, 1) := by decide +kernel
theorem dX6_goOn_67 : decode cX6_goOn 67 = .ok (.getfield 63, 3) := by decide +kernel
theorem dX6_goOn_70 : decode cX6_goOn 70 = .ok (.iload 4, 2) := by decide +kernel
theorem dX6_goOn_72 : decode cX6_goOn 72 = .ok (.iaload, 1) := by decide +kernel
theorem dX6_goOn_73 : decode cX6_goOn 73 = .ok (.aload_n 3, 1) := by decide +kernel
theorem dX6_goOn_74 : decode cX6_goOn 74 = .ok (.getfield 66, 3) := by decide +kernel
theorem dX6_goOn_77 : decode cX6_goOn 77 = .ok (.iload 4, 2) := by decide +kernel
theorem dX6_goOn_79 : decode cX6_goOn 79 = .ok (.iaload, 1) := by decide +kernel
theorem dX6_goOn_80 : decode cX6_goOn 80 = .ok (.iload 5, 2) := by decide +kernel
theorem dX6_goOn_82 : decode cX6_goOn 82 = .ok (.invokevirtual 69, 3) := by decide +kernel
theorem dX6_goOn_85 : decode cX6_goOn 85 = .ok (.aload_n 0, 1) := by decide +kernel
theorem dX6_goOn_86 : decode cX6_goOn 86 = .ok (.aload_n 3, 1) := by decide +kernel
theorem dX6_goOn_87 : decode cX6_goOn 87 = .ok (.getfield 66, 3) := by decide +kernel
theorem dX6_goOn_90 : decode cX6_goOn 90 = .ok (.iload 4, 2) := by decide +kernel
theorem dX6_goOn_92 : decode cX6_goOn 92 = .ok (.iaload, 1) := by decide +kernel
theorem dX6_goOn_93 : decode cX6_goOn 93 = .ok (.aload_n 3, 1) := by decide +kernel
theorem dX6_goOn_94 : decode cX6_goOn 94 = .ok (.getfield 63, 3) := by decide +kernel
theorem dX6_goOn_97 : decode cX6_goOn 97 = .ok (.iload 4, 2) := by decide +kernel
theorem dX6_goOn_99 : decode cX6_goOn 99 = .ok (.iaload, 1) := by decide +kernel
theorem dX6_goOn_100 : decode cX6_goOn 100 = .ok (.iload 5, 2) := by decide +kernel
theorem dX6_goOn_102 : decode cX6_goOn 102 = .ok (.invokevirtual 69, 3) := by decide +kernel
theorem dX6_goOn_105 : decode cX6_goOn 105 = .ok (.iinc 4 1, 3) := by decide +kernel
theorem dX6_goOn_108 : decode cX6_goOn 108 = .ok (.goto (-78), 3) := by decide +kernel
theorem dX6_goOn_111 : decode cX6_goOn 111 = .ok (.aload_n 0, 1) := by decide +kernel
theorem dX6_goOn_112 : decode cX6_goOn 112 = .ok (.getfield 9, 3) := by decide +kernel
theorem dX6_goOn_115 : decode cX6_goOn 115 = .ok (.astore 4, 2) := by decide +kernel
theorem dX6_goOn_117 : decode cX6_goOn 117 = .ok (.aload_n 0, 1) := by decide +kernel
theorem dX6_goOn_118 : decode cX6_goOn 118 = .ok (.aload_n 0, 1) := by decide +kernel
theorem dX6_goOn_119 : decode cX6_goOn 119 = .ok (.getfield 15, 3) := by decide +kernel
theorem dX6_goOn_122 : decode cX6_goOn 122 = .ok (.putfield 9, 3) := by decide +kernel
theorem dX6_goOn_125 : decode cX6_goOn 125 = .ok (.aload_n 0, 1) := by decide +kernel
theorem dX6_goOn_126 : decode cX6_goOn 126 = .ok (.aload 4, 2) := by decide +kernel
theorem dX6_goOn_128 : decode cX6_goOn 128 = .ok (.putfield 15, 3) := by decide +kernel
theorem dX6_goOn_131 : decode cX6_goOn 131 = .ok (.return_, 1) := by decide +kernel
theorem dX6_improve_0 : decode cX6_improve 0 = .ok (.aload_n 0, 1) := by decide +kernel
theorem dX6_improve_1 : decode cX6_improve 1 = .ok (.getfield 9, 3) := by decide +kernel
theorem dX6_improve_4 : decode cX6_improve 4 = .ok (.iload_n 1, 1) := by decide +kernel
theorem dX6_improve_5 : decode cX6_improve 5 = .ok (.iaload, 1) := by decide +kernel
theorem dX6_improve_6 : decode cX6_improve 6 = .ok (.ldc 25, 2) := by decide +kernel
theorem dX6_improve_8 : decode cX6_improve 8 = .ok (.if_icmp .ge 34, 3) := by decide +kernel
theorem dX6_improve_11 : decode cX6_improve 11 = .ok (.aload_n 0, 1) := by decide +kernel
theorem dX6_improve_12 : decode cX6_improve 12 = .ok (.getfield 9, 3) := by decide +kernel
theorem dX6_improve_15 : decode cX6_improve 15 = .ok (.iload_n 1, 1) := by decide +kernel
theorem dX6_improve_16 : decode cX6_improve 16 = .ok (.iaload, 1) := by decide +kernel
theorem dX6_improve_17 : decode cX6_improve 17 = .ok (.iload_n 3, 1) := by decide +kernel
theorem dX6_improve_18 : decode cX6_improve 18 = .ok (.iadd, 1) := by decide +kernel
theorem dX6_improve_19 : decode cX6_improve 19 = .ok (.aload_n 0, 1) := by decide +kernel
theorem dX6_improve_20 : decode cX6_improve 20 = .ok (.getfield 15, 3) := by decide +kernel
theorem dX6_improve_23 : decode cX6_improve 23 = .ok (.iload_n 2, 1) := by decide +kernel
theorem dX6_improve_24 : decode cX6_improve 24 = .ok (.iaload, 1) := by decide +kernel
theorem dX6_improve_25 : decode cX6_improve 25 = .ok (.if_icmp .ge 17, 3) := by decide +kernel
theorem dX6_improve_28 : decode cX6_improve 28 = .ok (.aload_n 0, 1) := by decide +kernel
theorem dX6_improve_29 : decode cX6_improve 29 = .ok (.getfield 15, 3) := by decide +kernel
theorem dX6_improve_32 : decode cX6_improve 32 = .ok (.iload_n 2, 1) := by decide +kernel
theorem dX6_improve_33 : decode cX6_improve 33 = .ok (.aload_n 0, 1) := by decide +kernel
theorem dX6_improve_34 : decode cX6_improve 34 = .ok (.getfield 9, 3) := by decide +kernel
theorem dX6_improve_37 : decode cX6_improve 37 = .ok (.iload_n 1, 1) := by decide +kernel
theorem dX6_improve_38 : decode cX6_improve 38 = .ok (.iaload, 1) := by decide +kernel
theorem dX6_improve_39 : decode cX6_improve 39 = .ok (.iload_n 3, 1) := by decide +kernel
theorem dX6_improve_40 : decode cX6_improve 40 = .ok (.iadd, 1) := by decide +kernel
theorem dX6_improve_41 : decode cX6_improve 41 = .ok (.iastore, 1) := by decide +kernel
theorem dX6_improve_42 : decode cX6_improve 42 = .ok (.return_, 1) := by decide +kernel
theorem dJ9_floorMod_7cf53_0 : decode cJ9_floorMod_7cf53 0 = .ok (.iload_n 0, 1) := by decide +kernel
theorem dJ9_floorMod_7cf53_1 : decode cJ9_floorMod_7cf53 1 = .ok (.iload_n 1, 1) := by decide +kernel
theorem dJ9_floorMod_7cf53_2 : decode cJ9_floorMod_7cf53 2 = .ok (.irem, 1) := by decide +kernel
theorem dJ9_floorMod_7cf53_3 : decode cJ9_floorMod_7cf53 3 = .ok (.istore_n 2, 1) := by decide +kernel
theorem dJ9_floorMod_7cf53_4 : decode cJ9_floorMod_7cf53 4 = .ok (.iload_n 0, 1) := by decide +kernel
theorem dJ9_floorMod_7cf53_5 : decode cJ9_floorMod_7cf53 5 = .ok (.iload_n 1, 1) := by decide +kernel
theorem dJ9_floorMod_7cf53_6 : decode cJ9_floorMod_7cf53 6 = .ok (.ixor, 1) := by decide +kernel
theorem dJ9_floorMod_7cf53_7 : decode cJ9_floorMod_7cf53 7 = .ok (.ifCond .ge 11, 3) := by decide +kernel
theorem dJ9_floorMod_7cf53_10 : decode cJ9_floorMod_7cf53 10 = .ok (.iload_n 2, 1) := by decide +kernel
theorem dJ9_floorMod_7cf53_11 : decode cJ9_floorMod_7cf53 11 = .ok (.ifCond .eq 7, 3) := by decide +kernel
theorem dJ9_floorMod_7cf53_14 : decode cJ9_floorMod_7cf53 14 = .ok (.iload_n 2, 1) := by decide +kernel
theorem dJ9_floorMod_7cf53_15 : decode cJ9_floorMod_7cf53 15 = .ok (.iload_n 1, 1) := by decide +kernel
theorem dJ9_floorMod_7cf53_16 : decode cJ9_floorMod_7cf53 16 = .ok (.iadd, 1) := by decide +kernel
theorem dJ9_floorMod_7cf53_17 : decode cJ9_floorMod_7cf53 17 = .ok (.ireturn, 1) := by decide +kernel
theorem dJ9_floorMod_7cf53_18 : decode cJ9_floorMod_7cf53 18 = .ok (.iload_n 2, 1) := by decide +kernel
theorem dJ9_floorMod_7cf53_19 : decode cJ9_floorMod_7cf53 19 = .ok (.ireturn, 1) := by decide +kernel
theorem dJ6_bitCount_0f7a4_0 : decode cJ6_bitCount_0f7a4 0 = .ok (.iload_n 0, 1) := by decide +kernel
theorem dJ6_bitCount_0f7a4_1 : decode cJ6_bitCount_0f7a4 1 = .ok (.iload_n 0, 1) := by decide +kernel
theorem dJ6_bitCount_0f7a4_2 : decode cJ6_bitCount_0f7a4 2 = .ok (.iconst 1, 1) := by decide +kernel
theorem dJ6_bitCount_0f7a4_3 : decode cJ6_bitCount_0f7a4 3 = .ok (.iushr, 1) := by decide +kernel
theorem dJ6_bitCount_0f7a4_4 : decode cJ6_bitCount_0f7a4 4 = .ok (.ldc_w 265, 3) := by decide +kernel
theorem dJ6_bitCount_0f7a4_7 : decode cJ6_bitCount_0f7a4 7 = .ok (.iand, 1) := by decide +kernel
theorem dJ6_bitCount_0f7a4_8 : decode cJ6_bitCount_0f7a4 8 = .ok (.isub, 1) := by decide +kernel
theorem dJ6_bitCount_0f7a4_9 : decode cJ6_bitCount_0f7a4 9 = .ok (.istore_n 0, 1) := by decide +kernel
theorem dJ6_bitCount_0f7a4_10 : decode cJ6_bitCount_0f7a4 10 = .ok (.iload_n 0, 1) := by decide +kernel
theorem dJ6_bitCount_0f7a4_11 : decode cJ6_bitCount_0f7a4 11 = .ok (.ldc_w 266, 3) := by decide +kernel
theorem dJ6_bitCount_0f7a4_14 : decode cJ6_bitCount_0f7a4 14 = .ok (.iand, 1) := by decide +kernel
theorem dJ6_bitCount_0f7a4_15 : decode cJ6_bitCount_0f7a4 15 = .ok (.iload_n 0, 1) := by decide +kernel
theorem dJ6_bitCount_0f7a4_16 : decode cJ6_bitCount_0f7a4 16 = .ok (.iconst 2, 1) := by decide +kernel
theorem dJ6_bitCount_0f7a4_17 : decode cJ6_bitCount_0f7a4 17 = .ok (.iushr, 1) := by decide +kernel
theorem dJ6_bitCount_0f7a4_18 : decode cJ6_bitCount_0f7a4 18 = .ok (.ldc_w 266, 3) := by decide +kernel
theorem dJ6_bitCount_0f7a4_21 : decode cJ6_bitCount_0f7a4 21 = .ok (.iand, 1) := by decide +kernel
theorem dJ6_bitCount_0f7a4_22 : decode cJ6_bitCount_0f7a4 22 = .ok (.iadd, 1) := by decide +kernel
theorem dJ6_bitCount_0f7a4_23 : decode cJ6_bitCount_0f7a4 23 = .ok (.istore_n 0, 1) := by decide +kernel
theorem dJ6_bitCount_0f7a4_24 : decode cJ6_bitCount_0f7a4 24 = .ok (.iload_n 0, 1) := by decide +kernel
theorem dJ6_bitCount_0f7a4_25 : decode cJ6_bitCount_0f7a4 25 = .ok (.iload_n 0, 1) := by decide +kernel
theorem dJ6_bitCount_0f7a4_26 : decode cJ6_bitCount_0f7a4 26 = .ok (.iconst 4, 1) := by decide +kernel
theorem dJ6_bitCount_0f7a4_27 : decode cJ6_bitCount_0f7a4 27 = .ok (.iushr, 1) := by decide +kernel
theorem dJ6_bitCount_0f7a4_28 : decode cJ6_bitCount_0f7a4 28 = .ok (.iadd, 1) := by decide +kernel
theorem dJ6_bitCount_0f7a4_29 : decode cJ6_bitCount_0f7a4 29 = .ok (.ldc_w 267, 3) := by decide +kernel
theorem dJ6_bitCount_0f7a4_32 : decode cJ6_bitCount_0f7a4 32 = .ok (.iand, 1) := by decide +kernel
theorem dJ6_bitCount_0f7a4_33 : decode cJ6_bitCount_0f7a4 33 = .ok (.istore_n 0, 1) := by decide +kernel
theorem dJ6_bitCount_0f7a4_34 : decode cJ6_bitCount_0f7a4 34 = .ok (.iload_n 0, 1) := by decide +kernel
theorem dJ6_bitCount_0f7a4_35 : decode cJ6_bitCount_0f7a4 35 = .ok (.iload_n 0, 1) := by decide +kernel
theorem dJ6_bitCount_0f7a4_36 : decode cJ6_bitCount_0f7a4 36 = .ok (.bipush 8, 2) := by decide +kernel
theorem dJ6_bitCount_0f7a4_38 : decode cJ6_bitCount_0f7a4 38 = .ok (.iushr, 1) := by decide +kernel
theorem dJ6_bitCount_0f7a4_39 : decode cJ6_bitCount_0f7a4 39 = .ok (.iadd, 1) := by decide +kernel
theorem dJ6_bitCount_0f7a4_40 : decode cJ6_bitCount_0f7a4 40 = .ok (.istore_n 0, 1) := by decide +kernel
theorem dJ6_bitCount_0f7a4_41 : decode cJ6_bitCount_0f7a4 41 = .ok (.iload_n 0, 1) := by decide +kernel
theorem dJ6_bitCount_0f7a4_42 : decode cJ6_bitCount_0f7a4 42 = .ok (.iload_n 0, 1) := by decide +kernel
theorem dJ6_bitCount_0f7a4_43 : decode cJ6_bitCount_0f7a4 43 = .ok (.bipush 16, 2) := by decide +kernel
theorem dJ6_bitCount_0f7a4_45 : decode cJ6_bitCount_0f7a4 45 = .ok (.iushr, 1) := by decide +kernel
theorem dJ6_bitCount_0f7a4_46 : decode cJ6_bitCount_0f7a4 46 = .ok (.iadd, 1) := by decide +kernel
theorem dJ6_bitCount_0f7a4_47 : decode cJ6_bitCount_0f7a4 47 = .ok (.istore_n 0, 1) := by decide +kernel
theorem dJ6_bitCount_0f7a4_48 : decode cJ6_bitCount_0f7a4 48 = .ok (.iload_n 0, 1) := by decide +kernel
theorem dJ6_bitCount_0f7a4_49 : decode cJ6_bitCount_0f7a4 49 = .ok (.bipush 63, 2) := by decide +kernel
theorem dJ6_bitCount_0f7a4_51 : decode cJ6_bitCount_0f7a4 51 = .ok (.iand, 1) := by decide +kernel
theorem dJ6_bitCount_0f7a4_52 : decode cJ6_bitCount_0f7a4 52 = .ok (.ireturn, 1) := by decide +kernel
